/-! class and reference hold the same lexicon and the same lessons -/
def sumL (n : Nat → Nat) (gv : Nat → Nat → Nat) : Nat → Nat → Nat
  | 0, _ => 0
  | k + 1, p => sumL n gv k p + cntg (gv k) (n k) p
def LES (x : LX) (lu : Nat) (wd gr gs wd2 mo : Nat → Int32) : Prop := lu ≤ 50 ∧ ∃ (n : Nat → Nat) (gv : Nat → Nat → Nat), (∀ k, k < lu → gs k = nI (n k) ∧ n k ≤ 8 ∧ (∀ i, i < n k → gr (k * 8 + i) = nI (gv k i) ∧ gv k i < lNp x) ∧ (∀ p, p < 16 → mo (16 * k + p) = nI (cntg (gv k) (n k) p)) ∧ wd k = wd2 k) ∧ ∀ p, p < lNp x → 1 + sumL n gv lu p ≤ lC x p
def MSK (x : LX) (VV BB VE BA : Nat → Int32) : Prop := (∀ i, ∃ b : Bool, VV i = bI b) ∧ (∀ i, ∃ b : Bool, BB i = bI b) ∧ (∀ i j, i < 16 → j < 16 → VV (i * 16 + j) = bI (lV x i j) ∧ bitI (VE i) j = lV x i j) ∧ (∀ i l, i < 16 → l < 6 → BB (i * 6 + l) = bI (lB x i l) ∧ bitI (BA i) l = lB x i l)
def TRE (x : LX) (np tu : Nat) (bl ie : Nat → Int32) : Prop := (∃ ch nd, TR ch nd bl ie tu (Wd (lT x) (lNp x)) (Wd (lT x) (lNp x))) ∧ tu ≤ 1 + 4 * np
def INV (x : LX) (np nl lu tu : Nat) (T C F LT VV BB wd gr gs bl ie : Nat → Int32) (np2 nl2 ld : Nat) (T2 S2 C2 F2 LT2 LS2 VE BA wd2 mo : Nat → Int32) : Prop :=
  lxOK x ∧ cOK x np nl T C F LT VV BB ∧ mOK x np2 nl2 T2 S2 C2 F2 LT2 LS2 VE BA ∧ MSK x VV BB VE BA ∧ TRE x np tu bl ie ∧ lu = ld ∧ LES x lu wd gr gs wd2 mo
def updN (f : Nat → Nat) (i v : Nat) : Nat → Nat := fun k => if k = i then v else f k
theorem updN_s (f : Nat → Nat) (i v : Nat) : updN f i v i = v := if_pos rfl
theorem updN_n (f : Nat → Nat) {i k : Nat} (v : Nat) (h : k ≠ i) : updN f i v k = f k := if_neg h
theorem upd_up {f : Nat → Int32} {g : Nat → Nat} {n m a i : Nat} (h : ∀ k, k < n → f k = nI (g k)) (hm : ∀ k, k < m → k < n ∨ k = i) : ∀ k, k < m → upd f i (nI a) k = nI (updN g i a k) := fun k hk => by
  by_cases e : k = i
  · rw [e, upd_s, updN_s]
  · rw [upd_n _ _ e, updN_n _ _ e]
    rcases hm k hk with h1 | h1
    · exact h k h1
    · exact absurd h1 e
theorem SZ_mm {x : Int32} {m m' : Nat} (hm : m ≤ 8) (hm' : m' ≤ 8) (h : 0 < SZ x m) (h2 : SZ x m ≤ m') : SZ x m' = SZ x m := by
  obtain ⟨w, e, h3, h4⟩ := SZ_nat x m hm h
  rw [e] at h h2 h3 h4 ⊢
  exact SZ_eq h h2 hm' h3 h4
theorem i_range {v : Int32} {a b : Nat} (hb : b < 2147483648) (h1 : nI a ≤ v) (h2 : v ≤ nI b) (hab : a ≤ b) : ∃ c, v = nI c ∧ a ≤ c ∧ c ≤ b := by
  have h0 : ¬ v < 0 := fun h => nI_pos (show a < 2 ^ 31 by omega) (Int32.lt_of_le_of_lt h1 h)
  obtain ⟨c, hc, e⟩ := nI_of h0
  rw [e] at h1 h2
  exact ⟨c, e, (nI_leI (by omega) hc).mp h1, (nI_leI hc (by omega)).mp h2⟩
theorem isIn_pwI {T : Nat → Int32} {x : Int32} : ∀ n, isIn T x n = (pwI T x n).isSome := by
  intro n
  induction n with
  | zero => rfl
  | succ n ih =>
    rw [isIn, ih, pwI]
    cases pwI T x n with
    | some p => rfl
    | none =>
      by_cases h : T n = x
      · rw [if_pos h, decide_eq_true h]; rfl
      · rw [if_neg h, decide_eq_false h]; rfl
theorem pwI_lt {T : Nat → Int32} {x : Int32} : ∀ {n p : Nat}, pwI T x n = some p → p < n := by
  intro n
  induction n with
  | zero => intro p h; cases h
  | succ n ih =>
    intro p h
    rw [pwI] at h
    cases hc : pwI T x n with
    | some q =>
      rw [hc] at h
      simp only [Option.some.injEq] at h
      have := ih hc
      omega
    | none =>
      rw [hc] at h
      by_cases e : T n = x
      · rw [if_pos e] at h; simp only [Option.some.injEq] at h; omega
      · rw [if_neg e] at h; cases h
theorem oI_pwI {T : Nat → Int32} {x : Int32} {n : Nat} (hn : n ≤ 16) : oI (pwI T x n) = -1 ↔ isIn T x n = false := by
  rw [isIn_pwI]
  constructor
  · intro h
    rw [oI_m1 (fun p hp => by have := pwI_lt hp; omega) h]
    rfl
  · intro h
    cases hc : pwI T x n with
    | none => rfl
    | some p => rw [hc] at h; cases h
theorem isIn_congr {T T' : Nat → Int32} {x : Int32} : ∀ {n}, (∀ i, i < n → T i = T' i) → isIn T x n = isIn T' x n := by
  intro n
  induction n with
  | zero => intro _; rfl
  | succ n ih => intro h; rw [isIn, isIn, ih (fun i hi => h i (by omega)), h n (by omega)]
theorem lastW_isIn {T : Nat → Int32} {t : Nat → Nat} {x : Int32} {n : Nat} (hn : n ≤ 16) (hT : ∀ i, i < n → T i = nI (t i)) : lastW T x n = -1 ↔ isIn T x n = false := by
  induction n with
  | zero => exact ⟨fun _ => rfl, fun _ => rfl⟩
  | succ n ih =>
    rw [lastW, isIn]
    by_cases h : T n = x
    · rw [if_pos h, decide_eq_true h, Bool.or_true]
      exact ⟨fun e => absurd e (nI_nem1 (by omega)), fun e => absurd e (by decide)⟩
    · rw [if_neg h, decide_eq_false h, Bool.or_false]
      exact ih (by omega) (fun i hi => hT i (by omega))
section ST
variable {x : LX} {np nl lu tu : Nat} {T C F LT VV BB wd gr gs bl ie : Nat → Int32} {np2 nl2 ld : Nat} {T2 S2 C2 F2 LT2 LS2 VE BA wd2 mo : Nat → Int32}
theorem inv_np (h : INV x np nl lu tu T C F LT VV BB wd gr gs bl ie np2 nl2 ld T2 S2 C2 F2 LT2 LS2 VE BA wd2 mo) : np = lNp x ∧ np2 = np ∧ np ≤ 16 ∧ nl = lNl x ∧ nl2 = nl ∧ nl ≤ 6 ∧ lu = ld ∧ lu ≤ 50 := by
  obtain ⟨h1, h2, h3, h4, h5, h6, h7⟩ := h
  have a := h2.1
  have b := h3.1
  have c := h2.2.1
  have d := h3.2.1
  have e := h1.1
  have f := h1.2.1
  have g := h7.1
  omega
theorem goodPC {text count flags : Int32} : goodP text count flags ↔ goodC text count flags := by
  unfold goodP goodC
  have h4 := SZ_le text 4
  constructor
  · rintro ⟨h1, h2⟩
    have := SZ_mm (m := 4) (m' := 8) (by decide) (by decide) h1 (by omega)
    exact ⟨by omega, h2⟩
  · rintro ⟨h1, h2⟩
    have := SZ_mm (m := 8) (m' := 4) (by decide) (by decide) (by omega) h1.2
    exact ⟨by omega, h2⟩
theorem TRE.grow {t c f : Nat} {tu1 : Nat} {bl1 ie1 : Nat → Int32} (hnp : np = lNp x) (h : ∃ ch nd, TR ch nd bl1 ie1 tu1 (wAdd (Wd (lT x) (lNp x)) t) (wAdd (Wd (lT x) (lNp x)) t)) (htu : tu1 ≤ 1 + 4 * (np + 1)) {y : LX} (hy : lNp y = np + 1 ∧ lT y = updN (lT x) np t) : TRE y (np + 1) tu1 bl1 ie1 := by
  have e : wAdd (Wd (lT x) (lNp x)) t = Wd (lT y) (lNp y) := by
    funext s
    rw [hy.1, hy.2, ← hnp]
    refine propext ⟨?_, ?_⟩
    · rintro (⟨k, h1, h2⟩ | h1)
      · exact ⟨k, by omega, by rw [updN_n _ _ (by omega)]; exact h2⟩
      · exact ⟨np, by omega, by rw [updN_s]; exact h1.symm⟩
    · rintro ⟨k, h1, h2⟩
      by_cases e : k = np
      · rw [e, updN_s] at h2; exact Or.inr h2.symm
      · rw [updN_n _ _ e] at h2; exact Or.inl ⟨k, by omega, h2⟩
  rw [e] at h
  exact ⟨h, htu⟩
theorem st_addPart_x {text count flags r : Int32} {E : String} {th1 np1 : Nat} {T1 S1 C1 F1 : Nat → Int32} (h : INV x np nl lu tu T C F LT VV BB wd gr gs bl ie np2 nl2 ld T2 S2 C2 F2 LT2 LS2 VE BA wd2 mo) (hx : xAddPart np T text count flags E) (hm : mAddPart np2 T2 S2 C2 F2 text count flags r th1 np1 T1 S1 C1 F1) : ((E = EIAE ∧ th1 = 1) ∨ (E = EISE ∧ th1 = 2)) ∧ np1 = np2 ∧ T1 = T2 ∧ S1 = S2 ∧ C1 = C2 ∧ F1 = F2 := by
  obtain ⟨e1, e2, e3, _⟩ := inv_np h
  obtain ⟨h1, h2, h3, h4, h5, h6, h7⟩ := h
  have hTT : isIn T text np = isIn T2 text np2 := by rw [e2]; exact isIn_congr (fun i hi => (h2.2.2.1 i hi).trans (h3.2.2.1 i (by omega)).symm)
  have hl := lastW_isIn (x := text) (n := np2) (by omega) h3.2.2.1
  have hp := oI_pwI (T := T) (x := text) (n := np) e3
  rcases hx with ⟨rfl, g⟩ | ⟨rfl, g1, g2⟩
  · rcases hm with ⟨m1, m2, m3⟩ | ⟨m1, _⟩ | ⟨m1, _⟩
    · exact ⟨Or.inl ⟨rfl, m2⟩, m3⟩
    · exact absurd (goodPC.mp m1) g
    · exact absurd (goodPC.mp m1) g
  · rcases hm with ⟨m1, _⟩ | ⟨m1, m2, m3, m4⟩ | ⟨m1, m2, m3, _⟩
    · exact absurd (goodPC.mpr g1) m1
    · exact ⟨Or.inr ⟨rfl, m3⟩, m4⟩
    · rcases g2 with g2 | g2
      · omega
      · rw [hl, ← hTT, ← hp] at m3
        exact absurd m3 g2
theorem st_addPart_n {text count flags r rc : Int32} {th1 np1 tu1 : Nat} {T1 S1 C1 F1 bl1 ie1 : Nat → Int32} (h : INV x np nl lu tu T C F LT VV BB wd gr gs bl ie np2 nl2 ld T2 S2 C2 F2 LT2 LS2 VE BA wd2 mo) (hx : cAddPart np T (Wd (lT x) (lNp x)) text count flags rc tu tu1 bl1 ie1) (hm : mAddPart np2 T2 S2 C2 F2 text count flags r th1 np1 T1 S1 C1 F1) : th1 = 0 ∧ r = rc ∧ ∃ y, INV y (np + 1) nl lu tu1 (upd T np text) (upd C np count) (upd F np flags) LT VV BB wd gr gs bl1 ie1 np1 nl2 ld T1 S1 C1 F1 LT2 LS2 VE BA wd2 mo := by
  obtain ⟨e1, e2, e3, e4, e5, e6, e7, e8⟩ := inv_np h
  obtain ⟨h1, h2, h3, h4, h5, h6, h7⟩ := h
  have hTT : isIn T text np = isIn T2 text np2 := by rw [e2]; exact isIn_congr (fun i hi => (h2.2.2.1 i hi).trans (h3.2.2.1 i (by omega)).symm)
  have hl := lastW_isIn (x := text) (n := np2) (by omega) h3.2.2.1
  have hp := oI_pwI (T := T) (x := text) (n := np) e3
  obtain ⟨g1, g2, g3, g4, t, g5, g6, g7, g8, g9, g10⟩ := hx
  rcases hm with ⟨m1, _⟩ | ⟨m1, m2, _⟩ | ⟨m1, m2, m3, m4, m5, m6, m7, m8, m9, m10⟩
  · exact absurd (goodPC.mpr g1) m1
  · rcases m2 with m2 | m2
    · omega
    · rw [hp, hTT, ← hl] at g3
      exact absurd g3 m2
  · have hs14 : 1 ≤ SZ text 8 ∧ SZ text 8 ≤ 4 := g1.1
    obtain ⟨c, c1, c2, c3⟩ := i_range (by decide) g1.2.1.1 g1.2.1.2 (by decide)
    obtain ⟨f, f1, f2, f3⟩ := i_range (by decide) g1.2.2.1 g1.2.2.2 (by decide)
    have hS4 : SZ text 4 = szN t := by rw [g6]; exact SZ_mm (by decide) (by decide) (by omega) (by omega)
    refine ⟨m4, by rw [m5, g4, e2], (np + 1, nl, updN (lT x) np t, updN (lC x) np c, updN (lF x) np f, lU x, lV x, lB x), ?_, ?_, ?_, h4, ?_, h6, ?_⟩
    · obtain ⟨l1, l2, l3, l4, l5, l6, l7, l8⟩ := h1
      have hnin : ∀ i, i < np → lT x i ≠ t := by
        intro i hi e
        have hin : isIn T text np = false := hp.mp g3
        rw [isIn_pwI] at hin
        have ht4 : 10 ^ szN t ≤ 10 ^ 4 := p10_le (by omega)
        rw [g5, pwI_pw (t := lT x) (by omega) (fun i hi => ⟨h2.2.2.1 i hi, by have := l3 i (by omega); have : 10 ^ szN (lT x i) ≤ 10 ^ 4 := p10_le this.2.1; omega⟩)] at hin
        rw [pw_of (p := i) (fun i j hi hj => l6 i j (by omega) (by omega)) hi e] at hin
        cases hin
      refine ⟨by show np + 1 ≤ 16; omega, by show nl ≤ 6; omega, ?_, ?_, ?_, ?_, ?_, ?_⟩
      · intro i hi
        show 1 ≤ szN (updN (lT x) np t i) ∧ szN (updN (lT x) np t i) ≤ 4 ∧ 10 ^ szN (updN (lT x) np t i) ≤ updN (lT x) np t i ∧ updN (lT x) np t i < 2 * 10 ^ szN (updN (lT x) np t i)
        by_cases e : i = np
        · rw [e, updN_s]; exact ⟨by omega, by omega, g7, g8⟩
        · rw [updN_n _ _ e]; exact l3 i (by have : i < np + 1 := hi; omega)
      · intro i hi
        show 1 ≤ updN (lC x) np c i ∧ updN (lC x) np c i ≤ 9999
        by_cases e : i = np
        · rw [e, updN_s]; exact ⟨c2, c3⟩
        · rw [updN_n _ _ e]; exact l4 i (by have : i < np + 1 := hi; omega)
      · intro i hi
        show updN (lF x) np f i ≤ 7
        by_cases e : i = np
        · rw [e, updN_s]; exact f3
        · rw [updN_n _ _ e]; exact l5 i (by have : i < np + 1 := hi; omega)
      · intro i j hi hj e
        have hi2 : i < np + 1 := hi
        have hj2 : j < np + 1 := hj
        have e2 : updN (lT x) np t i = updN (lT x) np t j := e
        by_cases a : i = np
        · by_cases b : j = np
          · omega
          · rw [a, updN_s, updN_n _ _ b] at e2
            exact absurd e2.symm (hnin j (by omega))
        · by_cases b : j = np
          · rw [b, updN_s, updN_n _ _ a] at e2
            exact absurd e2 (hnin i (by omega))
          · rw [updN_n _ _ a, updN_n _ _ b] at e2
            exact l6 i j (by omega) (by omega) e2
      · intro l hl
        exact l7 l (by have : l < nl := hl; omega)
      · intro i j hi hj
        exact l8 i j (by have : i < nl := hi; omega) (by have : j < nl := hj; omega)
    · obtain ⟨k1, k2, k3, k4, k5, k6, k7, k8⟩ := h2
      refine ⟨rfl, rfl, ?_, ?_, ?_, k6, ?_, ?_⟩
      · rw [g5]; exact upd_up k3 (fun k hk => by omega)
      · rw [c1]; exact upd_up k4 (fun k hk => by omega)
      · rw [f1]; exact upd_up k5 (fun k hk => by omega)
      · intro i j hi hj; exact (h4.2.2.1 i j (by omega) (by omega)).1
      · intro i j hi hj; exact (h4.2.2.2 i j (by omega) (by omega)).1
    · obtain ⟨k1, k2, k3, k4, k5, k6, k7, k8, k9, k10⟩ := h3
      subst m6 m7 m8 m9 m10
      subst e2
      refine ⟨rfl, by show nl2 = nl; exact e5, ?_, ?_, ?_, ?_, k7, k8, ?_, ?_⟩
      · rw [g5]; exact upd_up k3 (fun k hk => by omega)
      · rw [hS4]
        intro i hi
        show upd S2 _ (nI (szN t)) i = nI (szN (updN (lT x) _ t i))
        by_cases e : i = np2
        · rw [e, upd_s, updN_s]
        · rw [upd_n _ _ e, updN_n _ _ e]; exact k4 i (by omega)
      · rw [c1]; exact upd_up k5 (fun k hk => by omega)
      · rw [f1]; exact upd_up k6 (fun k hk => by omega)
      · intro i j hi hj; exact (h4.2.2.1 i j (by omega) (by omega)).2
      · intro i j hi hj; exact (h4.2.2.2 i j (by omega) (by omega)).2
    · exact TRE.grow (c := c) (f := f) e1 g9 (by have := h5.2; omega) ⟨rfl, rfl⟩
    · obtain ⟨q1, n, gv, q2, q3⟩ := h7
      refine ⟨q1, n, gv, ?_, ?_⟩
      · intro k hk
        obtain ⟨a1, a2, a3, a4, a5⟩ := q2 k hk
        exact ⟨a1, a2, fun i hi => ⟨(a3 i hi).1, by show gv k i < np + 1; have := (a3 i hi).2; omega⟩, a4, a5⟩
      · intro p hp2
        have hp3 : p < np + 1 := hp2
        show 1 + sumL n gv lu p ≤ updN (lC x) np c p
        by_cases e : p = np
        · rw [e, updN_s]
          have : ∀ k, k ≤ lu → sumL n gv k np = 0 := by
            intro k
            induction k with
            | zero => intro _; rfl
            | succ k ih =>
              intro hk
              rw [sumL, ih (by omega), Nat.zero_add]
              have hb := (q2 k (by omega)).2.2.1
              have hz : ∀ m, m ≤ n k → cntg (gv k) m np = 0 := by
                intro m
                induction m with
                | zero => intro _; rfl
                | succ m ihm =>
                  intro hm
                  rw [cntg, ihm (by omega), if_neg (by have := (hb m (by omega)).2; omega)]
              exact hz _ (Nat.le_refl _)
          rw [this lu (Nat.le_refl lu)]
          omega
        · rw [updN_n _ _ e]; exact q3 p (by omega)
end ST
