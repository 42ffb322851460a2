/-! each call: class and reference answer alike, and hold alike -/
theorem isP_iff {np : Nat} {p : Int32} (h : np ≤ 16) : isP np p = true ↔ cIsP np p := ⟨fun e => isP_t h e, fun ⟨q, h1, h2⟩ => by rw [h2]; exact isP_of h h1⟩
theorem isP_f {np : Nat} {p : Int32} (h : np ≤ 16) : isP np p = false ↔ ¬ cIsP np p := by
  rw [← isP_iff h]
  cases isP np p <;> simp
theorem countP_lt {p q : SP → Bool} : ∀ {E : List SP}, (∀ a, a ∈ E → p a = true → q a = true) → (∃ a, a ∈ E ∧ p a = false ∧ q a = true) → E.countP p < E.countP q := by
  intro E
  induction E with
  | nil => rintro _ ⟨a, ha, _⟩; cases ha
  | cons b E ih =>
    rintro h ⟨a, ha, h1, h2⟩
    rw [List.countP_cons, List.countP_cons]
    have hle : E.countP p ≤ E.countP q := List.countP_mono_left (fun a ha => h a (List.mem_cons_of_mem _ ha))
    rcases List.mem_cons.mp ha with rfl | ha
    · rw [h1, h2]; simp; omega
    · have := ih (fun a ha => h a (List.mem_cons_of_mem _ ha)) ⟨a, ha, h1, h2⟩
      have hb := h b (List.mem_cons_self ..)
      cases hp : p b with
      | false => simp; split <;> omega
      | true => rw [hb hp]; simp; omega
theorem sel_det {x : LX} (hok : lxOK x) {L : Nat} {d : Nat → Nat} (hL : L ≤ 8) {k : Int32} {o o' : Option SP} (h : selR x (mEn x d L) k o) (h' : selR x (mEn x d L) k o') : o = o' := by
  have hE := mEn_len hok (d := d) hL
  have hb : ∀ l, (mEn x d L).countP (fun l' => decide (mkl x l' < mkl x l)) ≤ 513 := fun l => Nat.le_trans List.countP_le_length hE
  have key : ∀ {l l' : SP}, l ∈ mEn x d L → nI ((mEn x d L).countP (fun l' => decide (mkl x l' < mkl x l))) = k → l' ∈ mEn x d L → nI ((mEn x d L).countP (fun l2 => decide (mkl x l2 < mkl x l'))) = k → ¬ mkl x l < mkl x l' := by
    intro l l' h1 h2 h3 h4 hlt
    have e := nI_inj (by have := hb l; omega) (by have := hb l'; omega) (h2.trans h4.symm)
    have := countP_lt (E := mEn x d L) (p := fun l2 => decide (mkl x l2 < mkl x l)) (q := fun l2 => decide (mkl x l2 < mkl x l')) (fun a _ ha => decide_eq_true (Nat.lt_trans (of_decide_eq_true ha) hlt)) ⟨l, h1, decide_eq_false (Nat.lt_irrefl _), decide_eq_true hlt⟩
    omega
  cases o with
  | none =>
    cases o' with
    | none => rfl
    | some l' => exact absurd h'.2 (h l' h'.1)
  | some l =>
    cases o' with
    | none => exact absurd h.2 (h' l h.1)
    | some l' =>
      have h1 := key h.1 h.2 h'.1 h'.2
      have h2 := key h'.1 h'.2 h.1 h.2
      congr 1
      exact (key_ord hL ((mem_mEn hL).mp h.1) ((mem_mEn hL).mp h'.1)).2 (by omega)
theorem ask_n {x : LX} (hok : lxOK x) {u k : Int32} {th1 : Nat} {P P' : Option SP → Prop} (hc : askK x u k 0 P) (hm : askK x u k th1 P') : th1 = 0 ∧ ∃ o, P o ∧ P' o := by
  rcases hc with ⟨_, h⟩ | ⟨w, o, c1, c2, c3, c4, c5, c6, c7⟩
  · omega
  · rcases hm with ⟨h1, _⟩ | ⟨w', o', m1, m2, m3, m4, m5, m6, m7⟩
    · rcases h1 with h1 | h1
      · omega
      · exact absurd h1 c4
    · have ew : w = w' := nI_inj (by omega) (by omega) (c1.symm.trans m1)
      subst ew
      have eo := sel_det hok (SZ_le u 8) c6 m6
      subst eo
      exact ⟨m5, o, c7, m7⟩
theorem ask_x {x : LX} {u k : Int32} {th1 : Nat} {P' : Option SP → Prop} (hc : SZ u 8 = 0 ∨ k < 0) (hm : askK x u k th1 P') : th1 = 1 := by
  rcases hm with ⟨_, h⟩ | ⟨w', o', m1, m2, m3, m4, m5, m6, m7⟩
  · exact h
  · rcases hc with h | h
    · omega
    · exact absurd h m4
theorem pat_eq {j r r' : Int32} {o : Option SP} (hl : ∀ l, o = some l → l.length ≤ 8) (h : patP j r o) (h' : patP j r' o) : r' = r := by
  cases o with
  | none => exact h'.trans h.symm
  | some l =>
    have h8 := hl l rfl
    rcases h with ⟨h1, h2⟩ | ⟨i, h1, h2, h3⟩
    · rcases h' with ⟨g1, g2⟩ | ⟨i', g1, g2, g3⟩
      · exact g2.trans h2.symm
      · rw [g2] at h1
        have := (nI_leI (a := l.length) (b := i') (by omega) (by omega)).mp h1
        omega
    · rcases h' with ⟨g1, g2⟩ | ⟨i', g1, g2, g3⟩
      · rw [h2] at g1
        have := (nI_leI (a := l.length) (b := i) (by omega) (by omega)).mp g1
        omega
      · have := nI_inj (by omega) (by omega) (h2.symm.trans g2)
        rw [h3, g3, this]
theorem mOK_setC {x : LX} {np nl : Nat} {T S C C1 F LT LS VE BA : Nat → Int32} (h : mOK x np nl T S C F LT LS VE BA) {c : Nat → Nat} (hc : ∀ i, i < np → C1 i = nI (c i)) : mOK (setC x c) np nl T S C1 F LT LS VE BA := by
  obtain ⟨h1, h2, h3, h4, h5, h6, h7, h8, h9, h10⟩ := h
  exact ⟨h1, h2, h3, h4, hc, h6, h7, h8, h9, h10⟩
theorem sumL_congr {n n' : Nat → Nat} {g g' : Nat → Nat → Nat} : ∀ k, (∀ i, i < k → n i = n' i ∧ g i = g' i) → ∀ p, sumL n g k p = sumL n' g' k p := by
  intro k
  induction k with
  | zero => intro _ p; rfl
  | succ k ih => intro h p; rw [sumL, sumL, ih (fun i hi => h i (by omega)), (h k (by omega)).1, (h k (by omega)).2]
theorem cntg_mono {g : Nat → Nat} {a b p : Nat} (h : a ≤ b) : cntg g a p ≤ cntg g b p := by
  induction b with
  | zero => rw [show a = 0 by omega]; exact Nat.le_refl _
  | succ b ih =>
    rcases Nat.lt_or_ge a (b + 1) with h1 | h1
    · rw [cntg]; have := ih (by omega); omega
    · rw [show a = b + 1 by omega]; exact Nat.le_refl _
theorem tkb_val {C : Nat → Int32} {c gv : Nat → Nat} {np : Nat} : ∀ n, (∀ p, p < np → C p = nI (c p)) → (∀ i, i < n → gv i < np) → (∀ p, p < np → cntg gv n p ≤ c p) → ∀ p, p < np → tkb C gv n p = nI (c p - cntg gv n p) := by
  intro n
  induction n with
  | zero => intro hC _ _ p hp; rw [tkb, cntg, Nat.sub_zero]; exact hC p hp
  | succ n ih =>
    intro hC hg hc p hp
    have hmono : ∀ q, cntg gv n q ≤ cntg gv (n + 1) q := fun q => cntg_mono (by omega)
    have ih2 := ih hC (fun i hi => hg i (by omega)) (fun q hq => Nat.le_trans (hmono q) (hc q hq))
    have hcp := hc p hp
    rw [tkb]
    rw [cntg] at hcp ⊢
    by_cases e : p = gv n
    · rw [if_pos e.symm] at hcp ⊢
      rw [e, upd_s, ih2 (gv n) (hg n (by omega)), nI_subN (by rw [← e]; omega)]
      congr 1
    · rw [if_neg (fun h => e h.symm), Nat.add_zero, upd_n _ _ e]
      exact ih2 p hp
section ST
variable {x : LX} {np nl lu tu : Nat} {T C F LT VV BB wd gr gs bl ie : Nat → Int32} {np2 nl2 ld : Nat} {T2 S2 C2 F2 LT2 LS2 VE BA wd2 mo : Nat → Int32}
theorem st_setFlags_x {part flags r : Int32} {E : String} {th1 : Nat} {F1 : Nat → Int32} (h : INV x np nl lu tu T C F LT VV BB wd gr gs bl ie np2 nl2 ld T2 S2 C2 F2 LT2 LS2 VE BA wd2 mo) (hx : (E = EIOB ∧ ¬ cIsP np part) ∨ (E = EIAE ∧ cIsP np part ∧ ¬ (nI 0 ≤ flags ∧ flags ≤ nI 7))) (hm : mSetFlags np2 F2 part flags r th1 F1) : ((E = EIOB ∧ th1 = 1) ∨ (E = EIAE ∧ th1 = 2)) ∧ F1 = F2 := by
  obtain ⟨e1, e2, e3, _⟩ := inv_np h
  subst e2
  rcases hm with ⟨m1, m2, m3⟩ | ⟨m1, m2, m3, m4⟩ | ⟨p, m1, m2, m3, m4, _⟩
  · rw [isP_f (by omega)] at m1
    rcases hx with ⟨rfl, _⟩ | ⟨rfl, g, _⟩
    · exact ⟨Or.inl ⟨rfl, m2⟩, m3⟩
    · exact absurd g m1
  · rw [isP_iff (by omega)] at m1
    rcases hx with ⟨rfl, g⟩ | ⟨rfl, _, _⟩
    · exact absurd m1 g
    · exact ⟨Or.inr ⟨rfl, m3⟩, m4⟩
  · rcases hx with ⟨rfl, g⟩ | ⟨rfl, _, g⟩
    · exact absurd ⟨p, m1, m2⟩ g
    · exact absurd m3 g
theorem st_setFlags_n {part flags r rc : Int32} {th1 : Nat} {F1 Fc : Nat → Int32} (h : INV x np nl lu tu T C F LT VV BB wd gr gs bl ie np2 nl2 ld T2 S2 C2 F2 LT2 LS2 VE BA wd2 mo) (hx : ∃ q, q < np ∧ part = nI q ∧ (nI 0 ≤ flags ∧ flags ≤ nI 7) ∧ rc = F q ∧ Fc = upd F q flags) (hm : mSetFlags np2 F2 part flags r th1 F1) : th1 = 0 ∧ r = rc ∧ ∃ y, INV y np nl lu tu T C Fc LT VV BB wd gr gs bl ie np2 nl2 ld T2 S2 C2 F1 LT2 LS2 VE BA wd2 mo := by
  obtain ⟨e1, e2, e3, _⟩ := inv_np h
  subst e2
  obtain ⟨h1, h2, h3, h4, h5, h6, h7⟩ := h
  obtain ⟨q, g1, g2, g3, g4, g5⟩ := hx
  rcases hm with ⟨m1, m2, m3⟩ | ⟨m1, m2, m3, m4⟩ | ⟨p, m1, m2, m3, m4, m5, m6⟩
  · exact absurd ⟨q, g1, g2⟩ ((isP_f (by omega)).mp m1)
  · exact absurd g3 m2
  · have ep : q = p := nI_inj (by omega) (by omega) (g2.symm.trans m2)
    subst ep
    obtain ⟨f, f1, f2, f3⟩ := i_range (by decide) g3.1 g3.2 (by decide)
    obtain ⟨l1, l2, l3, l4, l5, l6, l7, l8⟩ := h1
    obtain ⟨k1, k2, k3, k4, k5, k6, k7, k8⟩ := h2
    obtain ⟨c1, c2, c3, c4, c5, c6, c7, c8, c9, c10⟩ := h3
    refine ⟨m4, by rw [m5, g4, c6 q m1, k5 q (by omega)], (lNp x, lNl x, lT x, lC x, updN (lF x) q f, lU x, lV x, lB x), ⟨l1, l2, l3, l4, ?_, l6, l7, l8⟩, ⟨k1, k2, k3, k4, ?_, k6, k7, k8⟩, ⟨c1, c2, c3, c4, c5, ?_, c7, c8, c9, c10⟩, h4, h5, h6, h7⟩
    · intro i hi
      show updN (lF x) q f i ≤ 7
      by_cases e : i = q
      · rw [e, updN_s]; exact f3
      · rw [updN_n _ _ e]; exact l5 i hi
    · rw [g5, f1]; exact upd_up k5 (fun k hk => Or.inl hk)
    · rw [m6, f1]; exact upd_up c6 (fun k hk => Or.inl hk)
theorem st_addLink_x {text r : Int32} {E : String} {th1 nl1 : Nat} {LT1 LS1 : Nat → Int32} (h : INV x np nl lu tu T C F LT VV BB wd gr gs bl ie np2 nl2 ld T2 S2 C2 F2 LT2 LS2 VE BA wd2 mo) (hx : (E = EIAE ∧ ¬ (1 ≤ SZ text 8 ∧ SZ text 8 ≤ 2)) ∨ (E = EISE ∧ (1 ≤ SZ text 8 ∧ SZ text 8 ≤ 2) ∧ (nl = 6 ∨ ¬ oI (pwI LT text nl) = -1))) (hm : mAddLink nl2 LT2 LS2 text r th1 nl1 LT1 LS1) : ((E = EIAE ∧ th1 = 1) ∨ (E = EISE ∧ th1 = 2)) ∧ nl1 = nl2 ∧ LT1 = LT2 ∧ LS1 = LS2 := by
  obtain ⟨e1, e2, e3, e4, e5, e6, _⟩ := inv_np h
  obtain ⟨h1, h2, h3, h4, h5, h6, h7⟩ := h
  have hTT : isIn LT text nl = isIn LT2 text nl2 := by rw [e5]; exact isIn_congr (fun i hi => (h2.2.2.2.2.2.1 i hi).trans (h3.2.2.2.2.2.2.1 i (by omega)).symm)
  have hp := oI_pwI (T := LT) (x := text) (n := nl) (by omega)
  have hs2 := SZ_le text 2
  have hsz : SZ text 2 ≠ 0 ↔ (1 ≤ SZ text 8 ∧ SZ text 8 ≤ 2) := by
    constructor
    · intro g
      have := SZ_mm (x := text) (m := 2) (m' := 8) (by decide) (by decide) (by omega) (by omega)
      omega
    · intro g
      have := SZ_mm (x := text) (m := 8) (m' := 2) (by decide) (by decide) (by omega) (by omega)
      omega
  rcases hm with ⟨m1, m2, m3⟩ | ⟨m1, m2, m3, m4⟩ | ⟨m1, m2, m3, _⟩
  · rcases hx with ⟨rfl, _⟩ | ⟨rfl, g, _⟩
    · exact ⟨Or.inl ⟨rfl, m2⟩, m3⟩
    · exact absurd m1 (hsz.mpr g)
  · rcases hx with ⟨rfl, g⟩ | ⟨rfl, _, _⟩
    · exact absurd (hsz.mp m1) g
    · exact ⟨Or.inr ⟨rfl, m3⟩, m4⟩
  · rcases hx with ⟨rfl, g⟩ | ⟨rfl, _, g⟩
    · exact absurd (hsz.mp m1) g
    · rcases g with g | g
      · omega
      · rw [← hTT] at m3
        exact absurd (hp.mpr m3) g
theorem st_addLink_n {text r rc : Int32} {th1 nl1 : Nat} {LT1 LS1 : Nat → Int32} (h : INV x np nl lu tu T C F LT VV BB wd gr gs bl ie np2 nl2 ld T2 S2 C2 F2 LT2 LS2 VE BA wd2 mo) (hx : (1 ≤ SZ text 8 ∧ SZ text 8 ≤ 2) ∧ nl < 6 ∧ oI (pwI LT text nl) = -1 ∧ rc = nI nl) (hm : mAddLink nl2 LT2 LS2 text r th1 nl1 LT1 LS1) : th1 = 0 ∧ r = rc ∧ ∃ y, INV y np (nl + 1) lu tu T C F (upd LT nl text) VV BB wd gr gs bl ie np2 nl1 ld T2 S2 C2 F2 LT1 LS1 VE BA wd2 mo := by
  obtain ⟨e1, e2, e3, e4, e5, e6, _⟩ := inv_np h
  obtain ⟨h1, h2, h3, h4, h5, h6, h7⟩ := h
  have hTT : isIn LT text nl = isIn LT2 text nl2 := by rw [e5]; exact isIn_congr (fun i hi => (h2.2.2.2.2.2.1 i hi).trans (h3.2.2.2.2.2.2.1 i (by omega)).symm)
  have hp := oI_pwI (T := LT) (x := text) (n := nl) (by omega)
  obtain ⟨g1, g2, g3, g4⟩ := hx
  have hs28 := SZ_mm (x := text) (m := 8) (m' := 2) (by decide) (by decide) (by omega) (by omega)
  rcases hm with ⟨m1, m2, m3⟩ | ⟨m1, m2, m3, m4⟩ | ⟨m1, m2, m3, m4, m5, m6, m7, m8⟩
  · omega
  · rcases m2 with m2 | m2
    · omega
    · rw [hp, hTT] at g3
      rw [g3] at m2
      cases m2
  · obtain ⟨t, t1, t2, t3, t4, t5⟩ := SZ_szN (x := text) (m := 8) (by decide) (by omega)
    obtain ⟨l1, l2, l3, l4, l5, l6, l7, l8⟩ := h1
    obtain ⟨k1, k2, k3, k4, k5, k6, k7, k8⟩ := h2
    obtain ⟨c1, c2, c3, c4, c5, c6, c7, c8, c9, c10⟩ := h3
    have hnin : ∀ i, i < nl → lU x i ≠ t := by
      intro i hi e
      have hin : isIn LT text nl = false := hp.mp g3
      rw [isIn_pwI] at hin
      have ht4 : 10 ^ szN t ≤ 10 ^ 2 := p10_le (by omega)
      rw [t1, pwI_pw (t := lU x) (by omega) (fun i hi => ⟨k6 i hi, by have := l7 i (by omega); have : 10 ^ szN (lU x i) ≤ 10 ^ 2 := p10_le this.2.1; omega⟩)] at hin
      rw [pw_of (p := i) (fun i j hi hj => l8 i j (by omega) (by omega)) hi e] at hin
      cases hin
    subst m6 m7 m8
    subst e5
    refine ⟨m4, by rw [m5, g4], (lNp x, nl2 + 1, lT x, lC x, lF x, updN (lU x) nl2 t, lV x, lB x), ⟨l1, by show nl2 + 1 ≤ 6; omega, l3, l4, l5, l6, ?_, ?_⟩, ⟨k1, rfl, k3, k4, k5, ?_, k7, ?_⟩, ⟨c1, rfl, c3, c4, c5, c6, ?_, ?_, c9, ?_⟩, h4, h5, h6, h7⟩
    · intro i hi
      have hi2 : i < nl2 + 1 := hi
      show 1 ≤ szN (updN (lU x) nl2 t i) ∧ szN (updN (lU x) nl2 t i) ≤ 2 ∧ 10 ^ szN (updN (lU x) nl2 t i) ≤ updN (lU x) nl2 t i ∧ updN (lU x) nl2 t i < 2 * 10 ^ szN (updN (lU x) nl2 t i)
      by_cases e : i = nl2
      · rw [e, updN_s]; exact ⟨by omega, by omega, t3, t4⟩
      · rw [updN_n _ _ e]; exact l7 i (by omega)
    · intro i j hi hj e
      have hi2 : i < nl2 + 1 := hi
      have hj2 : j < nl2 + 1 := hj
      have e2 : updN (lU x) nl2 t i = updN (lU x) nl2 t j := e
      by_cases a : i = nl2
      · by_cases b : j = nl2
        · omega
        · rw [a, updN_s, updN_n _ _ b] at e2
          exact absurd e2.symm (hnin j (by omega))
      · by_cases b : j = nl2
        · rw [b, updN_s, updN_n _ _ a] at e2
          exact absurd e2 (hnin i (by omega))
        · rw [updN_n _ _ a, updN_n _ _ b] at e2
          exact l8 i j (by omega) (by omega) e2
    · rw [t1]; exact upd_up k6 (fun k hk => by omega)
    · intro i j hi hj; exact (h4.2.2.2 i j (by omega) (by omega)).1
    · rw [t1]; exact upd_up c7 (fun k hk => by omega)
    · intro i hi
      show upd LS2 nl2 (nI (SZ text 2)) i = nI (szN (updN (lU x) nl2 t i))
      by_cases e : i = nl2
      · rw [e, upd_s, updN_s, t2, hs28]
      · rw [upd_n _ _ e, updN_n _ _ e]; exact c8 i (by omega)
    · intro i j hi hj; exact (h4.2.2.2 i j (by omega) (by omega)).2
theorem st_mask_x {nq : Nat} {part next r : Int32} {b : Bool} {th1 : Nat} {VE1 VE0 : Nat → Int32} (hnp : np ≤ 16) (hnq : nq ≤ 16) (hx : ¬ (cIsP np part ∧ cIsP nq next)) (hm : mMask np nq VE0 part next b r th1 VE1) : th1 = 1 ∧ VE1 = VE0 := by
  rcases hm with ⟨_, m2, m3⟩ | ⟨p, q, m1, m2, m3, m4, _⟩
  · exact ⟨m2, m3⟩
  · exact absurd ⟨⟨p, m1, m3⟩, ⟨q, m2, m4⟩⟩ hx
theorem st_veto_n {part next r rc : Int32} {b : Bool} {th1 : Nat} {VE1 VVc : Nat → Int32} (h : INV x np nl lu tu T C F LT VV BB wd gr gs bl ie np2 nl2 ld T2 S2 C2 F2 LT2 LS2 VE BA wd2 mo) (hx : ∃ p q, p < np ∧ q < np ∧ part = nI p ∧ next = nI q ∧ rc = VV (p * 16 + q) ∧ VVc = upd VV (p * 16 + q) (bI b)) (hm : mMask np2 np2 VE part next b r th1 VE1) : th1 = 0 ∧ r = rc ∧ ∃ y, INV y np nl lu tu T C F LT VVc BB wd gr gs bl ie np2 nl2 ld T2 S2 C2 F2 LT2 LS2 VE1 BA wd2 mo := by
  obtain ⟨e1, e2, e3, _⟩ := inv_np h
  subst e2
  obtain ⟨h1, h2, h3, ⟨h41, h42, h43, h44⟩, h5, h6, h7⟩ := h
  obtain ⟨p, q, g1, g2, g3, g4, g5, g6⟩ := hx
  rcases hm with ⟨m1, _, _⟩ | ⟨p', q', m1, m2, m3, m4, m5, m6, m7⟩
  · rw [isP_f (by omega), isP_f (by omega)] at m1
    rcases m1 with m1 | m1
    · exact absurd ⟨p, g1, g3⟩ m1
    · exact absurd ⟨q, g2, g4⟩ m1
  · have ep : p = p' := nI_inj (by omega) (by omega) (g3.symm.trans m3)
    have eq : q = q' := nI_inj (by omega) (by omega) (g4.symm.trans m4)
    subst ep eq
    have hpq := h43 p q (by omega) (by omega)
    obtain ⟨k1, k2, k3, k4, k5, k6, k7, k8⟩ := h2
    obtain ⟨c1, c2, c3, c4, c5, c6, c7, c8, c9, c10⟩ := h3
    have hV : ∀ i j, i < 16 → j < 16 → upd VV (p * 16 + q) (bI b) (i * 16 + j) = bI (if i = p ∧ j = q then b else lV x i j) ∧ bitI (upd VE p (setI (VE p) q b) i) j = (if i = p ∧ j = q then b else lV x i j) := by
      intro i j hi hj
      by_cases e : i = p
      · subst e
        rw [upd_s, setI_get (by omega) (by omega)]
        by_cases e2 : j = q
        · subst e2
          rw [upd_s, if_pos rfl, if_pos ⟨rfl, rfl⟩]
          exact ⟨rfl, rfl⟩
        · rw [upd_n _ _ (by omega), if_neg e2, if_neg (fun c => e2 c.2)]
          exact h43 i j hi hj
      · rw [upd_n _ _ (by omega), upd_n _ _ e, if_neg (fun c => e c.1)]
        exact h43 i j hi hj
    subst g6 m7
    refine ⟨m5, by rw [m6, g5, hpq.1, hpq.2], (lNp x, lNl x, lT x, lC x, lF x, lU x, fun i j => if i = p ∧ j = q then b else lV x i j, lB x), h1, ⟨k1, k2, k3, k4, k5, k6, fun i j hi hj => (hV i j (by omega) (by omega)).1, k8⟩, ⟨c1, c2, c3, c4, c5, c6, c7, c8, fun i j hi hj => (hV i j (by omega) (by omega)).2, c10⟩, ⟨fun i => ?_, h42, hV, h44⟩, h5, h6, h7⟩
    by_cases e : i = p * 16 + q
    · rw [e, upd_s]; exact ⟨b, rfl⟩
    · rw [upd_n _ _ e]; exact h41 i
theorem st_bar_n {part next r rc : Int32} {b : Bool} {th1 : Nat} {VE1 VVc : Nat → Int32} (h : INV x np nl lu tu T C F LT VV BB wd gr gs bl ie np2 nl2 ld T2 S2 C2 F2 LT2 LS2 VE BA wd2 mo) (hx : ∃ p q, p < np ∧ q < nl ∧ part = nI p ∧ next = nI q ∧ rc = BB (p * 6 + q) ∧ VVc = upd BB (p * 6 + q) (bI b)) (hm : mMask np2 nl2 BA part next b r th1 VE1) : th1 = 0 ∧ r = rc ∧ ∃ y, INV y np nl lu tu T C F LT VV VVc wd gr gs bl ie np2 nl2 ld T2 S2 C2 F2 LT2 LS2 VE VE1 wd2 mo := by
  obtain ⟨e1, e2, e3, e4, e5, e6, _⟩ := inv_np h
  subst e2 e5
  obtain ⟨h1, h2, h3, ⟨h41, h42, h43, h44⟩, h5, h6, h7⟩ := h
  obtain ⟨p, q, g1, g2, g3, g4, g5, g6⟩ := hx
  rcases hm with ⟨m1, _, _⟩ | ⟨p', q', m1, m2, m3, m4, m5, m6, m7⟩
  · rw [isP_f (by omega), isP_f (by omega)] at m1
    rcases m1 with m1 | m1
    · exact absurd ⟨p, g1, g3⟩ m1
    · exact absurd ⟨q, g2, g4⟩ m1
  · have ep : p = p' := nI_inj (by omega) (by omega) (g3.symm.trans m3)
    have eq : q = q' := nI_inj (by omega) (by omega) (g4.symm.trans m4)
    subst ep eq
    have hpq := h44 p q (by omega) (by omega)
    obtain ⟨k1, k2, k3, k4, k5, k6, k7, k8⟩ := h2
    obtain ⟨c1, c2, c3, c4, c5, c6, c7, c8, c9, c10⟩ := h3
    have hV : ∀ i j, i < 16 → j < 6 → upd BB (p * 6 + q) (bI b) (i * 6 + j) = bI (if i = p ∧ j = q then b else lB x i j) ∧ bitI (upd BA p (setI (BA p) q b) i) j = (if i = p ∧ j = q then b else lB x i j) := by
      intro i j hi hj
      by_cases e : i = p
      · subst e
        rw [upd_s, setI_get (by omega) (by omega)]
        by_cases e2 : j = q
        · subst e2
          rw [upd_s, if_pos rfl, if_pos ⟨rfl, rfl⟩]
          exact ⟨rfl, rfl⟩
        · rw [upd_n _ _ (by omega), if_neg e2, if_neg (fun c => e2 c.2)]
          exact h44 i j hi hj
      · rw [upd_n _ _ (by omega), upd_n _ _ e, if_neg (fun c => e c.1)]
        exact h44 i j hi hj
    subst g6 m7
    refine ⟨m5, by rw [m6, g5, hpq.1, hpq.2], (lNp x, lNl x, lT x, lC x, lF x, lU x, lV x, fun i j => if i = p ∧ j = q then b else lB x i j), h1, ⟨k1, k2, k3, k4, k5, k6, k7, fun i j hi hj => (hV i j (by omega) (by omega)).1⟩, ⟨c1, c2, c3, c4, c5, c6, c7, c8, c9, fun i j hi hj => (hV i j (by omega) (by omega)).2⟩, ⟨h41, fun i => ?_, h43, hV⟩, h5, h6, h7⟩
    by_cases e : i = p * 6 + q
    · rw [e, upd_s]; exact ⟨b, rfl⟩
    · rw [upd_n _ _ e]; exact h42 i
end ST
