theorem trees9_val {n : Nat} (h1 : 1 ≤ n) (h2 : n < 9) : trees9 n = .int (nI (trN (n - 1))) := by
  have : ∀ k, k < 9 → 1 ≤ k → trees9 k = .int (nI (trN (k - 1))) := by decide
  exact this n h2 h1
def oL : Option Nat → Int64
  | none => -1
  | some k => lN k
def sureN (f : Nat) : Option Nat → Bool
  | none => true
  | some k => decide (f / 17592186044416 + 20 ≤ k / 17592186044416)
def setC (x : LX) (c : Nat → Nat) : LX := (lNp x, lNl x, lT x, c, lF x, lU x, lV x, lB x)
theorem stp_setC (x : LX) (c : Nat → Nat) : stp (setC x c) = stp x := rfl
theorem valS_setC {x : LX} (c : Nat → Nat) {L : Nat} {d : Nat → Nat} : ∀ (l : SP) (a : Nat) (pv : Option Nat), valS (setC x c) L d l a pv ↔ valS x L d l a pv
  | [], _, _ => Iff.rfl
  | (o, p) :: l, a, pv => by
    unfold valS
    rw [stp_setC]
    constructor
    · rintro ⟨h1, e, h2, h3⟩
      exact ⟨h1, e, h2, h3.imp (fun h => h) (fun h => ⟨h.1, (valS_setC c l e (some p)).mp h.2⟩)⟩
    · rintro ⟨h1, e, h2, h3⟩
      exact ⟨h1, e, h2, h3.imp (fun h => h) (fun h => ⟨h.1, (valS_setC c l e (some p)).mpr h.2⟩)⟩
theorem lxOK_setC {x : LX} (h : lxOK x) {c : Nat → Nat} (hc : ∀ i, i < lNp x → 1 ≤ c i ∧ c i ≤ 9999) : lxOK (setC x c) := by
  obtain ⟨h1, h2, h3, h4, h5, h6, h7, h8⟩ := h
  exact ⟨h1, h2, h3, hc, h5, h6, h7, h8⟩
theorem cOK_setC {x : LX} {np nl : Nat} {T C C1 F LT VV BB : Nat → Int32} (h : cOK x np nl T C F LT VV BB) {c : Nat → Nat} (hc : ∀ i, i < np → C1 i = nI (c i)) : cOK (setC x c) np nl T C1 F LT VV BB := by
  obtain ⟨h1, h2, h3, h4, h5, h6, h7, h8⟩ := h
  exact ⟨h1, h2, h3, hc, h5, h6, h7, h8⟩
theorem phOK_setC {x : LX} {c : Nat → Nat} {L : Nat} {d : Nat → Nat} {ph lh : Nat → Int32} {a : Nat} (h : phOK x L d ph lh a) : phOK (setC x c) L d ph lh a := h
theorem sel_len {x : LX} (hR : rkOK x) {L : Nat} {d : Nat → Nat} (hL : L ≤ 8) {k : Nat} (h : selR x (mEn x d L) (nI k) none) : (mEn x d L).length ≤ k := by
  rcases Nat.lt_or_ge k (mEn x d L).length with h1 | h1
  · obtain ⟨l, h2, h3⟩ := (hR d L hL).2 k h1
    exact absurd (by rw [h3]) (h l h2)
  · exact h1
theorem sel_le {x : LX} {E : List SP} (hE : E.length ≤ 640) {a b : SP} (ha : selR x E (nI 0) (some a)) (hb : b ∈ E) : mkl x a ≤ mkl x b := by
  rcases Nat.lt_or_ge (mkl x b) (mkl x a) with h | h
  · exfalso
    have h1 := List.countP_le_length (p := fun l' => decide (mkl x l' < mkl x a)) (l := E)
    have h2 := nI_inj (by omega) (by decide) ha.2
    exact List.countP_eq_zero.mp h2 b hb (decide_eq_true h)
  · exact h
theorem sel_pos {x : LX} {E : List SP} {k : Int32} {a : SP} (ha : selR x E k (some a)) : 0 < E.length := List.length_pos_of_mem ha.1
def cntg (gv : Nat → Nat) : Nat → Nat → Nat
  | 0, _ => 0
  | n + 1, p => cntg gv n p + (if gv n = p then 1 else 0)
theorem cntg_congr {g g' : Nat → Nat} : ∀ n, (∀ i, i < n → g i = g' i) → ∀ p, cntg g n p = cntg g' n p := by
  intro n
  induction n with
  | zero => intro _ p; rfl
  | succ n ih => intro h p; rw [cntg, cntg, ih (fun i hi => h i (by omega)), h n (by omega)]
/-- what the class holds behind k places of a lesson -/
def cLes (x : LX) (np lu : Nat) (sl : SP) (k : Nat) (C1 gr1 gs1 gr gs : Nat → Int32) : Prop := (∀ p, p < np → C1 p = nI ((lrn (lC x) sl k).1 p)) ∧ (∃ n gv, gs1 lu = nI n ∧ n ≤ k ∧ (∀ i, i < n → gr1 (lu * 8 + i) = nI (gv i) ∧ gv i < np) ∧ ∀ p, (lrn (lC x) sl k).2 p = cntg gv n p) ∧ (∀ j, j < lu * 8 → gr1 j = gr j) ∧ (∀ j, j < lu → gs1 j = gs j)
theorem cLes_step {x : LX} {np lu : Nat} {sl : SP} {k n : Nat} {gv : Nat → Nat} {C1 gr1 gs1 C2 gr2 gs2 gr gs : Nat → Int32} (hk8 : k < 8) (hp : spP sl k < np) (hC : ∀ p, p < np → C1 p = nI ((lrn (lC x) sl k).1 p)) (h1 : gs1 lu = nI n) (h2 : n ≤ k) (h3 : ∀ i, i < n → gr1 (lu * 8 + i) = nI (gv i) ∧ gv i < np) (h4 : ∀ p, (lrn (lC x) sl k).2 p = cntg gv n p) (h5 : ∀ j, j < lu * 8 → gr1 j = gr j) (h6 : ∀ j, j < lu → gs1 j = gs j)
    (h : ((lrn (lC x) sl k).1 (spP sl k) < 9999 ∧ C2 = upd C1 (spP sl k) (nI ((lrn (lC x) sl k).1 (spP sl k) + 1)) ∧ gr2 = upd gr1 ((lu + 1 - 1) * 8 + n) (nI (spP sl k)) ∧ gs2 = upd gs1 (lu + 1 - 1) (nI (n + 1))) ∨ ((lrn (lC x) sl k).1 (spP sl k) = 9999 ∧ C2 = C1 ∧ gr2 = gr1 ∧ gs2 = gs1)) : cLes x np lu sl (k + 1) C2 gr2 gs2 gr gs := by
  rw [Nat.add_sub_cancel] at h
  rcases h with ⟨g1, rfl, rfl, rfl⟩ | ⟨g1, rfl, rfl, rfl⟩
  · refine ⟨fun p hp2 => ?_, ⟨n + 1, fun i => if i = n then spP sl k else gv i, upd_s _ _ _, by omega, fun i hi => ?_, fun p => ?_⟩, fun j hj => ?_, fun j hj => ?_⟩
    · rw [lrn, if_pos g1]
      dsimp only
      by_cases e : p = spP sl k
      · rw [if_pos e, e, upd_s]
      · rw [if_neg e, upd_n _ _ e]; exact hC p hp2
    · by_cases e : i = n
      · dsimp only
        rw [if_pos e, e]; exact ⟨upd_s _ _ _, hp⟩
      · dsimp only
        rw [if_neg e, upd_n _ _ (by omega)]; exact h3 i (by omega)
    · rw [lrn, if_pos g1, cntg]
      dsimp only
      rw [if_pos rfl, cntg_congr (g := fun i => if i = n then spP sl k else gv i) (g' := gv) n (fun i hi => if_neg (by omega)), ← h4 p]
      by_cases e : p = spP sl k
      · rw [if_pos e, if_pos e.symm]
      · rw [if_neg e, if_neg (fun c => e c.symm), Nat.add_zero]
    · rw [upd_n _ _ (by omega)]; exact h5 j hj
    · rw [upd_n _ _ (by omega)]; exact h6 j hj
  · have e : lrn (lC x) sl (k + 1) = lrn (lC x) sl k := by rw [lrn, if_neg (by omega)]
    unfold cLes
    rw [e]
    exact ⟨hC, ⟨n, gv, h1, by omega, h3, h4⟩, h5, h6⟩
def cLearn (x : LX) (np : Nat) (u r : Int32) (lu : Nat) (C gr gs wd : Nat → Int32) (lu1 : Nat) (C1 gr1 gs1 wd1 : Nat → Int32) : Prop := ∃ w, u = nI w ∧ w < 200000000 ∧ 0 < SZ u 8 ∧ lu < 50 ∧ ((∃ sl, selR x (mEn x (dgt w (SZ u 8)) (SZ u 8)) (nI 0) (some sl) ∧ ((mEn x (dgt w (SZ u 8)) (SZ u 8)).length = 1 ∨ (1 < (mEn x (dgt w (SZ u 8)) (SZ u 8)).length ∧ ∃ s2, selR x (mEn x (dgt w (SZ u 8)) (SZ u 8)) (nI 1) (some s2) ∧ costL x sl + 20 ≤ costL x s2)) ∧ r = bI true ∧ lu1 = lu + 1 ∧ wd1 = upd wd lu u ∧ sl.length ≤ 8 ∧ cLes x np lu sl sl.length C1 gr1 gs1 gr gs) ∨ (r = bI false ∧ lu1 = lu ∧ C1 = C ∧ gr1 = gr ∧ gs1 = gs ∧ wd1 = wd ∧ ((mEn x (dgt w (SZ u 8)) (SZ u 8)).length = 0 ∨ ∃ sl s2, selR x (mEn x (dgt w (SZ u 8)) (SZ u 8)) (nI 0) (some sl) ∧ selR x (mEn x (dgt w (SZ u 8)) (SZ u 8)) (nI 1) (some s2) ∧ costL x s2 < costL x sl + 20)))
theorem cLes_init (x : LX) {np lu : Nat} {sl : SP} {C gr gs : Nat → Int32} (hC : ∀ p, p < np → C p = nI (lC x p)) : cLes x np lu sl 0 C gr (upd gs lu (nI 0)) gr gs := ⟨hC, ⟨0, fun _ => 0, upd_s _ _ _, Nat.le_refl _, fun i hi => absurd hi (Nat.not_lt_zero i), fun _ => rfl⟩, fun j _ => rfl, fun j hj => upd_n _ _ (by omega)⟩
theorem sel_one {x : LX} {E : List SP} {k : Int32} {a : SP} (hE : E.length ≤ 640) (h : ¬ 1 < E.length) (ha : selR x E k (some a)) : k = nI 0 := by
  rw [← ha.2]
  congr 1
  rw [List.countP_eq_zero]
  intro l hl
  match E, ha.1, hl, h with
  | [b], h1, h2, _ => rw [List.mem_singleton.mp h1, List.mem_singleton.mp h2]; simp
  | _ :: _ :: _, _, _, h3 => exact absurd (by simp) h3
theorem sure_t {x : LX} (hR : rkOK x) {L : Nat} {d : Nat → Nat} (hL : L ≤ 8) {sl : SP} {o2 : Option SP} (hs0 : selR x (mEn x d L) (nI 0) (some sl)) (hs1 : selR x (mEn x d L) (nI 1) o2) (h : sureN (ckl x sl) (o2.map (ckl x)) = true) : (mEn x d L).length = 1 ∨ (1 < (mEn x d L).length ∧ ∃ s2, selR x (mEn x d L) (nI 1) (some s2) ∧ costL x sl + 20 ≤ costL x s2) := by
  cases o2 with
  | none =>
    have h1 := sel_len hR hL hs1
    have h2 := sel_pos hs0
    left; omega
  | some s2 =>
    have h4 := of_decide_eq_true h
    rw [(ckl_cos hL ((mem_mEn hL).mp hs0.1)).1, (ckl_cos hL ((mem_mEn hL).mp hs1.1)).1] at h4
    refine Or.inr ⟨?_, s2, hs1, h4⟩
    rcases Nat.lt_or_ge 1 (mEn x d L).length with h1 | h1
    · exact h1
    · have h3 := sel_one (hR d L hL).1 (by omega) hs1
      exact absurd h3 (by decide)
theorem sure_f {x : LX} {L : Nat} {d : Nat → Nat} (hL : L ≤ 8) {sl : SP} {o2 : Option SP} (hs0 : selR x (mEn x d L) (nI 0) (some sl)) (hs1 : selR x (mEn x d L) (nI 1) o2) (h : sureN (ckl x sl) (o2.map (ckl x)) = false) : ∃ sl s2, selR x (mEn x d L) (nI 0) (some sl) ∧ selR x (mEn x d L) (nI 1) (some s2) ∧ costL x s2 < costL x sl + 20 := by
  cases o2 with
  | none => cases h
  | some s2 =>
    have h4 := of_decide_eq_false h
    rw [(ckl_cos hL ((mem_mEn hL).mp hs0.1)).1, (ckl_cos hL ((mem_mEn hL).mp hs1.1)).1] at h4
    exact ⟨sl, s2, hs0, hs1, by omega⟩
set_option maxHeartbeats 4000000 in
set_option maxRecDepth 100000 in
theorem kX4_isSure (l : Launch) (lo : Nat) (G : vG) (rs : va_W) (f : Nat) (s : Int64) (so : Option Nat) (hf : f < 9223372036854775808) (hs : s = oL so) (hs2 : ∀ k, so = some k → f ≤ k ∧ k < 9223372036854775808) : Mi l yX4_isSure (.code yX4_isSure prog_1_method_24_code 4 (some .boolean)) 10 0 0 lo G [.long (lN f), .long s] (rs) (fun (r : Int32) (_ : Unit) => r = bI (sureN f so)) (fun (_ : Unit) => rs) := by
  refine Mi_of (lc := [(0, .long (lN f)), (2, .long s)]) (by decide +kernel) (Nat.le_of_ble_eq_true rfl) rfl ?_
  intro X cx hXR hXl hr hin
  subst hXl
  have hX := RmX.of hXR
  subst hs
  cases so with
  | none =>
    refine V_lload_n cx 1 rfl dX4_isSure_0 1 rfl ?_
    refine V_tol (-1) (rfl) ?_
    refine V_ldc2 cx 4 rfl dX4_isSure_1 cl_X4_125 ?_
    refine V_lcmp cx 5 rfl dX4_isSure_4 ?_
    refine V_if_eq cx 8 22 rfl dX4_isSure_5 (by decide) (fun c_5 => ?_) (fun c_5 => ?_)
    · skip
      refine V_iconst (v := nI 1) cx 23 rfl dX4_isSure_22 (by decide) ?_
      refine V_goto cx 27 dX4_isSure_23 (by decide) ?_
      exact V_zreturn cx hr (by first | rfl | exact bI_z _) () (rfl) rfl (by omega) (by omega) dX4_isSure_27
    · skip
      exact absurd (by decide) c_5
  | some k =>
    obtain ⟨hfk, hKb⟩ := hs2 k rfl
    have hdd := Nat.div_le_div_right (c := 17592186044416) hfk
    have hb1 : k / 17592186044416 < 524288 := by omega
    refine V_lload_n cx 1 rfl dX4_isSure_0 1 rfl ?_
    refine V_tol (lN k) (rfl) ?_
    refine V_ldc2 cx 4 rfl dX4_isSure_1 cl_X4_125 ?_
    refine V_lcmp cx 5 rfl dX4_isSure_4 ?_
    refine V_if_eq cx 8 22 rfl dX4_isSure_5 (by decide) (fun c_5 => ?_) (fun c_5 => ?_)
    · skip
      exact absurd (lg_eq0 c_5) (lN_nem1 hKb)
    · skip
      refine V_lload_n cx 9 rfl dX4_isSure_8 1 rfl ?_
      refine V_tol (lN k) (rfl) ?_
      refine KX4_127 (As := [.long (lN k)]) (rest := []) cx (kX2_costIn (xl X) lo G _ k hKb) hX (by omega) rfl rfl (Nat.le_of_ble_eq_true rfl) 12 0 0 rfl rfl rfl (by omega) (by omega) dX4_isSure_9 (fun r_1 u_2 hw_3 => ?_)
      try dsimp only at hw_3
      subst hw_3
      refine V_lload_n cx 13 rfl dX4_isSure_12 0 rfl ?_
      refine KX4_127 (As := [.long (lN f)]) (rest := [.int (nI (k / 17592186044416))]) cx (kX2_costIn (xl X) lo G _ f hf) hX (by omega) rfl rfl (Nat.le_of_ble_eq_true rfl) 16 0 0 rfl rfl rfl (by omega) (by omega) dX4_isSure_13 (fun r_4 u_5 hw_6 => ?_)
      try dsimp only at hw_6
      subst hw_6
      refine V_isub cx 17 rfl dX4_isSure_16 ?_
      refine V_toi (nI ((k / 17592186044416) - (f / 17592186044416))) (nI_subN (by omega)) ?_
      refine V_bipush (v := nI 20) cx 19 rfl dX4_isSure_17 (by decide) ?_
      refine V_icmp_lt cx 22 26 rfl dX4_isSure_19 (by decide) (fun c_19 => ?_) (fun c_19 => ?_)
      · skip
        have n_19 : (k / 17592186044416) - (f / 17592186044416) < 20 := N_lt_t (by omega) (by omega) c_19
        refine V_iconst (v := nI 0) cx 27 rfl dX4_isSure_26 (by decide) ?_
        exact V_zreturn cx hr (by first | rfl | exact bI_z _) () (by unfold sureN; first | exact bI_t (show f / 17592186044416 + 20 ≤ k / 17592186044416 by omega) | exact bI_f (show ¬ f / 17592186044416 + 20 ≤ k / 17592186044416 by omega)) rfl (by omega) (by omega) dX4_isSure_27
      · skip
        have n_19 : (k / 17592186044416) - (f / 17592186044416) ≥ 20 := N_lt_f (by omega) (by omega) c_19
        refine V_iconst (v := nI 1) cx 23 rfl dX4_isSure_22 (by decide) ?_
        refine V_goto cx 27 dX4_isSure_23 (by decide) ?_
        exact V_zreturn cx hr (by first | rfl | exact bI_z _) () (by unfold sureN; first | exact bI_t (show f / 17592186044416 + 20 ≤ k / 17592186044416 by omega) | exact bI_f (show ¬ f / 17592186044416 + 20 ≤ k / 17592186044416 by omega)) rfl (by omega) (by omega) dX4_isSure_27
set_option maxHeartbeats 4000000 in
set_option maxRecDepth 100000 in
theorem kX4_readings (l : Launch) (lo : Nat) (G : vG) (rs : va_W) (h : Nat → Nat) (np : Nat) (nl : Nat) (len : Nat) (fd : Nat) (lu : Nat) (tu : Nat) (T : Nat → Int32) (C : Nat → Int32) (F : Nat → Int32) (LT : Nat → Int32) (VV : Nat → Int32) (BB : Nat → Int32) (lt : Nat → Int32) (ph : Nat → Int32) (lh : Nat → Int32) (ks : Nat → Int64) (wd : Nat → Int32) (gr : Nat → Int32) (gs : Nat → Int32) (bl : Nat → Int32) (ie : Nat → Int32) (tw : Nat → Int32) (u : Int32) (x : LX) (hst : l.stackTraces = false) (hok : lxOK x) (hck : cOK x np nl T C F LT VV BB) : Xi l yX4_readings (.code yX4_readings prog_1_method_17_code 5 (some .int)) 23 1 6 lo G [.ref (h 0), .int u] (cW G h np nl len fd lu tu T C F LT VV BB lt ph lh ks wd gr gs bl ie tw ++ rs) (fun E => E = EIAE ∧ SZ u 8 = 0) (fun (r : Int32) ((fd1, lt1, ph1, lh1, ks1) : (Nat) × (Nat → Int32) × (Nat → Int32) × (Nat → Int32) × (Nat → Int64)) => ∃ w, u = nI w ∧ w < 200000000 ∧ 0 < SZ u 8 ∧ r = nI (rdN (mEn x (dgt w (SZ u 8)) (SZ u 8)) (mEn x (dgt w (SZ u 8)) (SZ u 8)).length)) (fun ((fd1, lt1, ph1, lh1, ks1) : (Nat) × (Nat → Int32) × (Nat → Int32) × (Nat → Int32) × (Nat → Int64)) => cW G h np nl (SZ u 8) fd1 lu tu T C F LT VV BB lt1 ph1 lh1 ks1 wd gr gs bl ie tw ++ rs) := by
  refine Xi_of (lc := [(0, .ref (h 0)), (1, .int u)]) (by decide +kernel) (Nat.le_of_ble_eq_true rfl) rfl ?_
  intro X cx hXR hXl hr hout
  subst hXl
  have hX := RmX.of hXR
  refine V_iload_n cx 1 rfl dX4_readings_0 1 rfl ?_
  refine V_bipush (v := nI 8) cx 3 rfl dX4_readings_1 (by decide) ?_
  refine KXX4_32 (As := [.int u, .int (nI 8)]) (rest := []) cx (kX4_needText (xl X) lo G _ u 8 hst (by omega)) hX (by omega) rfl rfl (Nat.le_of_ble_eq_true rfl) 6 1 6 rfl rfl rfl (by omega) (by omega) dX4_readings_3 (vx_leave cx hout (fun E h => ⟨h.1, by have := SZ_le u 8; omega⟩) (by omega) (by omega)) (fun u_2 hw_3 => ?_)
  try dsimp only at hw_3
  have hsz := hw_3
  refine V_aload_n cx 7 rfl dX4_readings_6 0 rfl ?_
  refine GX4_21 cx 0 rfl rfl 10 rfl dX4_readings_7 ?_
  refine V_iload_n cx 11 rfl dX4_readings_10 1 rfl ?_
  refine KX4_115 (As := [.int u]) (rest := []) cx (kX2_gather (xl X) lo G _ h np nl len fd lu tu T C F LT VV BB lt ph lh ks wd gr gs bl ie tw u x hok hck (ecOK_of x) (by omega)) hX (by omega) 2 rfl rfl rfl (Nat.le_of_ble_eq_true rfl) 14 1 6 rfl rfl rfl (by omega) (by omega) dX4_readings_11 (fun u_5 hw_6 => ?_)
  obtain ⟨fd1_7, lt1_8, ph1_9, lh1_10, ks1_11⟩ := u_5
  try dsimp only at hw_6
  obtain ⟨w, hg⟩ := hw_6
  obtain ⟨hck1, hfd5⟩ := gath_ck hg
  obtain ⟨g1, g2, g3, g4, g5, g6, g7, g8⟩ := hg
  have hpm := cEn_perm hok (fun k => dgt_lt w (SZ u 8) k) g4
  refine V_iconst (v := nI 0) cx 15 rfl dX4_readings_14 (by decide) ?_
  refine V_istore_n (lc1 := [(2, .int (nI 0)), (0, .ref (h 0)), (1, .int u)]) cx 16 rfl dX4_readings_15 (by decide) rfl ?_
  refine V_iconst (v := nI 0) cx 17 rfl dX4_readings_16 (by decide) ?_
  refine V_istore_n (lc1 := [(3, .int (nI 0)), (2, .int (nI 0)), (0, .ref (h 0)), (1, .int u)]) cx 18 rfl dX4_readings_17 (by decide) rfl ?_
  have loop_18 : ∀ (fuel : Nat) (s : Nat) (v : Nat), (s ≤ fd1_7) → (v = rdN (cEn x (dgt w (SZ u 8)) (SZ u 8)) s) → fd1_7 - s < fuel → V X lo 5 G (QXi X lo G (fun E => E = EIAE ∧ SZ u 8 = 0) (cW G h np nl len fd lu tu T C F LT VV BB lt ph lh ks wd gr gs bl ie tw ++ rs) (fun (r : Int32) ((fd1, lt1, ph1, lh1, ks1) : (Nat) × (Nat → Int32) × (Nat → Int32) × (Nat → Int32) × (Nat → Int64)) => ∃ w, u = nI w ∧ w < 200000000 ∧ 0 < SZ u 8 ∧ r = nI (rdN (mEn x (dgt w (SZ u 8)) (SZ u 8)) (mEn x (dgt w (SZ u 8)) (SZ u 8)).length)) (fun ((fd1, lt1, ph1, lh1, ks1) : (Nat) × (Nat → Int32) × (Nat → Int32) × (Nat → Int32) × (Nat → Int64)) => cW G h np nl (SZ u 8) fd1 lu tu T C F LT VV BB lt1 ph1 lh1 ks1 wd gr gs bl ie tw ++ rs) 1 6) 1 6 (cW G h np nl (SZ u 8) fd1_7 lu tu T C F LT VV BB lt1_8 ph1_9 lh1_10 ks1_11 wd gr gs bl ie tw ++ rs) [(3, .int (nI s)), (2, .int (nI v)), (0, .ref (h 0))] [] 18 := by
    intro fuel
    induction fuel with
    | zero => intro s v hs hv hmz; exact absurd hmz (Nat.not_lt_zero _)
    | succ fuel ih_18 =>
      intro s v hs hv hmz_18
      refine V_iload_n cx 19 rfl dX4_readings_18 0 rfl ?_
      refine V_aload_n cx 20 rfl dX4_readings_19 2 rfl ?_
      refine GX4_21 cx 0 rfl rfl 23 rfl dX4_readings_20 ?_
      refine GX4_118 cx 2 rfl rfl 26 rfl dX4_readings_23 ?_
      refine V_icmp_ge cx 29 79 rfl dX4_readings_26 (by decide) (fun c_26 => ?_) (fun c_26 => ?_)
      · skip
        have n_26 : s ≥ fd1_7 := N_ge_t (by omega) (by omega) c_26
        refine V_iload_n cx 80 rfl dX4_readings_79 1 rfl ?_
        exact V_ireturnX cx hr (fd1_7, lt1_8, ph1_9, lh1_10, ks1_11) (⟨w, g1, g2, by omega, by rw [hv, show s = fd1_7 by omega, g7, rdN_perm hpm]⟩) rfl (by omega) (by omega) dX4_readings_80
      · skip
        have n_26 : s < fd1_7 := N_ge_f (by omega) (by omega) c_26
        refine V_iload_n cx 30 rfl dX4_readings_29 0 rfl ?_
        refine V_aload_n cx 31 rfl dX4_readings_30 2 rfl ?_
        refine GX4_21 cx 0 rfl rfl 34 rfl dX4_readings_31 ?_
        refine GX4_143 cx 2 rfl rfl 37 rfl dX4_readings_34 ?_
        refine V_alenJ cx 14 rfl 38 rfl dX4_readings_37 ?_
        refine V_icmp_ge cx 41 79 rfl dX4_readings_38 (by decide) (fun c_38 => ?_) (fun c_38 => ?_)
        · skip
          have n_38 : s ≥ 513 := N_ge_t (by omega) (by omega) c_38
          refine V_iload_n cx 80 rfl dX4_readings_79 1 rfl ?_
          exact V_ireturnX cx hr (fd1_7, lt1_8, ph1_9, lh1_10, ks1_11) (⟨w, g1, g2, by omega, by rw [hv, show s = fd1_7 by omega, g7, rdN_perm hpm]⟩) rfl (by omega) (by omega) dX4_readings_80
        · skip
          have n_38 : s < 513 := N_ge_f (by omega) (by omega) c_38
          have hsl : s < (cEn x (dgt w (SZ u 8)) (SZ u 8)).length := by omega
          obtain ⟨sl, hse⟩ : ∃ l, (cEn x (dgt w (SZ u 8)) (SZ u 8))[s]? = some l := ⟨_, List.getElem?_eq_getElem hsl⟩
          have hgd : (cEn x (dgt w (SZ u 8)) (SZ u 8)).getD s [] = sl := by rw [List.getD_eq_getElem?_getD, hse]; rfl
          have hvs := (mem_mEn g4).mp (hpm.mem_iff.mp (List.mem_of_getElem? hse))
          obtain ⟨hcs, hcz, hKb⟩ := ckl_cos g4 hvs
          have hln := valS_len sl 0 none hvs
          have hks := g8 s sl hse
          rw [Nat.zero_add, List.nil_append] at hks
          refine V_aload_n cx 42 rfl dX4_readings_41 2 rfl ?_
          refine GX4_21 cx 0 rfl rfl 45 rfl dX4_readings_42 ?_
          refine GX4_143 cx 2 rfl rfl 48 rfl dX4_readings_45 ?_
          refine V_iload_n cx 49 rfl dX4_readings_48 0 rfl ?_
          refine V_laldN cx s (rfl) (by omega) (by decide) 14 rfl 50 rfl dX4_readings_49 ?_
          refine V_tol (lN (ckl x sl)) (hks) ?_
          refine KX4_131 (As := [.long (lN (ckl x sl))]) (rest := []) cx (kX2_placesIn (xl X) lo G _ (ckl x sl) hKb) hX (by omega) rfl rfl (Nat.le_of_ble_eq_true rfl) 53 1 6 rfl rfl rfl (by omega) (by omega) dX4_readings_50 (fun r_12 u_13 hw_14 => ?_)
          try dsimp only at hw_14
          subst hw_14
          refine V_toi (nI sl.length) (by rw [hcz]) ?_
          refine V_istore (lc1 := [(4, .int (nI sl.length)), (3, .int (nI s)), (2, .int (nI v)), (0, .ref (h 0))]) cx 55 rfl dX4_readings_53 (by decide) rfl ?_
          refine V_iload cx 57 rfl dX4_readings_55 0 rfl ?_
          refine V_trees cx 60 rfl dX4_readings_57 (fun t_57 hT_57 => ?_)
          refine V_tlen cx hT_57 61 rfl dX4_readings_60 ?_
          refine V_icmp_ge cx 64 73 rfl dX4_readings_61 (by decide) (fun c_61 => ?_) (fun c_61 => ?_)
          · skip
            have n_61 : sl.length ≥ 9 := N_ge_t (by omega) (by omega) c_61
            omega
          · skip
            have n_61 : sl.length < 9 := N_ge_f (by omega) (by omega) c_61
            refine V_iload_n cx 65 rfl dX4_readings_64 2 rfl ?_
            refine V_trees cx 68 rfl dX4_readings_65 (fun t_65 hT_65 => ?_)
            refine V_iload cx 70 rfl dX4_readings_68 0 rfl ?_
            refine V_tald cx hT_65 sl.length rfl (by omega) 71 rfl dX4_readings_70 ?_
            rw [trees9_val (n := sl.length) (by omega) (by omega)]
            refine V_iadd cx 72 rfl dX4_readings_71 ?_
            refine V_toi (nI (v + (trN (sl.length - 1)))) (nI_add _ _) ?_
            refine V_istore_n (lc1 := [(2, .int (nI (v + (trN (sl.length - 1))))), (4, .int (nI sl.length)), (3, .int (nI s)), (0, .ref (h 0))]) cx 73 rfl dX4_readings_72 (by decide) rfl ?_
            refine V_iinc (v := nI (s + 1)) (lc1 := [(3, .int (nI (s + 1))), (2, .int (nI (v + (trN (sl.length - 1))))), (4, .int (nI sl.length)), (0, .ref (h 0))]) cx 76 rfl dX4_readings_73 2 rfl (nI_inc s 1) (by decide) rfl ?_
            refine V_goto cx 18 dX4_readings_76 (by decide) ?_
            refine V.locs [0, 1, 3] rfl ?_
            exact ih_18 (s + 1) (v + (trN (sl.length - 1))) (by omega) (by rw [rdN, ← hv, hgd]) (by omega)
  refine V.locs [0, 1, 2] rfl ?_
  exact loop_18 _ 0 0 (by omega) (by rfl) (Nat.lt_succ_self _)
set_option maxHeartbeats 4000000 in
set_option maxRecDepth 100000 in
theorem kX4_forget (l : Launch) (lo : Nat) (G : vG) (rs : va_W) (h : Nat → Nat) (np : Nat) (nl : Nat) (len : Nat) (fd : Nat) (lu : Nat) (tu : Nat) (T : Nat → Int32) (C : Nat → Int32) (F : Nat → Int32) (LT : Nat → Int32) (VV : Nat → Int32) (BB : Nat → Int32) (lt : Nat → Int32) (ph : Nat → Int32) (lh : Nat → Int32) (ks : Nat → Int64) (wd : Nat → Int32) (gr : Nat → Int32) (gs : Nat → Int32) (bl : Nat → Int32) (ie : Nat → Int32) (tw : Nat → Int32) (n : Nat) (gv : Nat → Nat) (hst : l.stackTraces = false) (hlu : lu ≤ 50) (hg : 0 < lu → gs (lu - 1) = nI n ∧ n ≤ 8) (hgr : 0 < lu → ∀ i, i < n → gr ((lu - 1) * 8 + i) = nI (gv i) ∧ gv i < 16) : Xi l yX4_forget (.code yX4_forget prog_1_method_19_code 1 (some .int)) 9 1 6 lo G [.ref (h 0)] (cW G h np nl len fd lu tu T C F LT VV BB lt ph lh ks wd gr gs bl ie tw ++ rs) (fun E => E = EISE ∧ lu = 0) (fun (r : Int32) (_ : Unit) => 0 < lu ∧ r = wd (lu - 1)) (fun (_ : Unit) => cW G h np nl len fd (lu - 1) tu T (tkb C gv n) F LT VV BB lt ph lh ks wd gr gs bl ie tw ++ rs) := by
  refine Xi_of (lc := [(0, .ref (h 0))]) (by decide +kernel) (Nat.le_of_ble_eq_true rfl) rfl ?_
  intro X cx hXR hXl hr hout
  subst hXl
  have hX := RmX.of hXR
  refine V_aload_n cx 1 rfl dX4_forget_0 0 rfl ?_
  refine GX4_28 cx 0 rfl rfl 4 rfl dX4_forget_1 ?_
  refine GX4_150 cx 3 rfl rfl 7 rfl dX4_forget_4 ?_
  refine V_if_gt cx 10 20 rfl dX4_forget_7 (by decide) (fun c_7 => ?_) (fun c_7 => ?_)
  · skip
    have n_7 : lu > 0 := Z_gt_t (by omega) c_7
    refine V_aload_n cx 21 rfl dX4_forget_20 0 rfl ?_
    refine GX4_28 cx 0 rfl rfl 24 rfl dX4_forget_21 ?_
    refine KX4_171 (As := []) (rest := []) cx (kX0_takeBack (xl X) lo G _ h np nl len fd lu tu T C F LT VV BB lt ph lh ks wd gr gs bl ie tw n gv (by omega) (hg n_7) (hgr n_7)) hX (by omega) 3 rfl rfl rfl (Nat.le_of_ble_eq_true rfl) 27 0 0 rfl rfl rfl (by omega) (by omega) dX4_forget_24 (fun r_1 u_2 hw_3 => ?_)
    try dsimp only at hw_3
    subst hw_3
    exact V_ireturnX cx hr () (⟨n_7, rfl⟩) rfl (by omega) (by omega) dX4_forget_27
  · skip
    have n_7 : lu ≤ 0 := Z_gt_f (by omega) c_7
    exact V_throwS (text := "no word is learned") cx hst kl_X4_49 ini_ISE (by decide +kernel) (by decide +kernel) hat2_ISE hatN_ISE hgd_ISE hout hX (by decide) (by omega) (by omega) (⟨rfl, by omega⟩) rfl dX4_forget_10 dX4_forget_13 dX4_forget_14 dX4_forget_16 dX4_forget_19
set_option maxHeartbeats 4000000 in
set_option maxRecDepth 100000 in
theorem kX4_learn (l : Launch) (lo : Nat) (G : vG) (rs : va_W) (h : Nat → Nat) (np : Nat) (nl : Nat) (len : Nat) (fd : Nat) (lu : Nat) (tu : Nat) (T : Nat → Int32) (C : Nat → Int32) (F : Nat → Int32) (LT : Nat → Int32) (VV : Nat → Int32) (BB : Nat → Int32) (lt : Nat → Int32) (ph : Nat → Int32) (lh : Nat → Int32) (ks : Nat → Int64) (wd : Nat → Int32) (gr : Nat → Int32) (gs : Nat → Int32) (bl : Nat → Int32) (ie : Nat → Int32) (tw : Nat → Int32) (u : Int32) (x : LX) (hst : l.stackTraces = false) (hok : lxOK x) (hck : cOK x np nl T C F LT VV BB) (hlu : lu ≤ 50) : Xi l yX4_learn (.code yX4_learn prog_1_method_18_code 6 (some .boolean)) 23 2 12 lo G [.ref (h 0), .int u] (cW G h np nl len fd lu tu T C F LT VV BB lt ph lh ks wd gr gs bl ie tw ++ rs) (fun E => (E = EIAE ∧ SZ u 8 = 0) ∨ (E = EISE ∧ 0 < SZ u 8 ∧ lu = 50)) (fun (r : Int32) ((lu1, C1, gr1, gs1, wd1, fd1, lt1, ph1, lh1, ks1) : (Nat) × (Nat → Int32) × (Nat → Int32) × (Nat → Int32) × (Nat → Int32) × (Nat) × (Nat → Int32) × (Nat → Int32) × (Nat → Int32) × (Nat → Int64)) => cLearn x np u r lu C gr gs wd lu1 C1 gr1 gs1 wd1) (fun ((lu1, C1, gr1, gs1, wd1, fd1, lt1, ph1, lh1, ks1) : (Nat) × (Nat → Int32) × (Nat → Int32) × (Nat → Int32) × (Nat → Int32) × (Nat) × (Nat → Int32) × (Nat → Int32) × (Nat → Int32) × (Nat → Int64)) => cW G h np nl (SZ u 8) fd1 lu1 tu T C1 F LT VV BB lt1 ph1 lh1 ks1 wd1 gr1 gs1 bl ie tw ++ rs) := by
  refine Xi_of (lc := [(0, .ref (h 0)), (1, .int u)]) (by decide +kernel) (Nat.le_of_ble_eq_true rfl) rfl ?_
  intro X cx hXR hXl hr hout
  subst hXl
  have hX := RmX.of hXR
  refine V_iload_n cx 1 rfl dX4_learn_0 1 rfl ?_
  refine V_bipush (v := nI 8) cx 3 rfl dX4_learn_1 (by decide) ?_
  refine KXX4_32 (As := [.int u, .int (nI 8)]) (rest := []) cx (kX4_needText (xl X) lo G _ u 8 hst (by omega)) hX (by omega) rfl rfl (Nat.le_of_ble_eq_true rfl) 6 1 6 rfl rfl rfl (by omega) (by omega) dX4_learn_3 (vx_leave cx hout (fun E h => Or.inl ⟨h.1, by have := SZ_le u 8; omega⟩) (by omega) (by omega)) (fun u_2 hw_3 => ?_)
  try dsimp only at hw_3
  have hsz := hw_3
  refine V_aload_n cx 7 rfl dX4_learn_6 0 rfl ?_
  refine GX4_28 cx 0 rfl rfl 10 rfl dX4_learn_7 ?_
  refine GX4_150 cx 3 rfl rfl 13 rfl dX4_learn_10 ?_
  refine V_bipush (v := nI 50) cx 15 rfl dX4_learn_13 (by decide) ?_
  refine V_icmp_lt cx 18 28 rfl dX4_learn_15 (by decide) (fun c_15 => ?_) (fun c_15 => ?_)
  · skip
    have n_15 : lu < 50 := N_lt_t (by omega) (by omega) c_15
    refine V_aload_n cx 29 rfl dX4_learn_28 0 rfl ?_
    refine GX4_21 cx 0 rfl rfl 32 rfl dX4_learn_29 ?_
    refine V_iload_n cx 33 rfl dX4_learn_32 1 rfl ?_
    refine KX4_115 (As := [.int u]) (rest := []) cx (kX2_gather (xl X) lo G _ h np nl len fd lu tu T C F LT VV BB lt ph lh ks wd gr gs bl ie tw u x hok hck (ecOK_of x) (by omega)) hX (by omega) 2 rfl rfl rfl (Nat.le_of_ble_eq_true rfl) 36 1 6 rfl rfl rfl (by omega) (by omega) dX4_learn_33 (fun u_5 hw_6 => ?_)
    obtain ⟨fd1_7, lt1_8, ph1_9, lh1_10, ks1_11⟩ := u_5
    try dsimp only at hw_6
    obtain ⟨w, hg⟩ := hw_6
    obtain ⟨hck1, hfd5⟩ := gath_ck hg
    obtain ⟨g1, g2, g3, g4, g5, g6, g7, g8⟩ := hg
    have hR := rkOK_of hok
    have hE6 := (hR (dgt w (SZ u 8)) (SZ u 8) g4).1
    refine V_aload_n cx 37 rfl dX4_learn_36 0 rfl ?_
    refine GX4_21 cx 0 rfl rfl 40 rfl dX4_learn_37 ?_
    refine V_iconst (v := nI 0) cx 41 rfl dX4_learn_40 (by decide) ?_
    refine KX4_155 (As := [.int (nI 0)]) (rest := []) cx (kX2_keyAt (xl X) lo G _ h np nl (SZ u 8) fd1_7 lu tu T C F LT VV BB lt1_8 ph1_9 lh1_10 ks1_11 wd gr gs bl ie tw (nI 0) (by omega)) hX (by omega) 2 rfl rfl rfl (Nat.le_of_ble_eq_true rfl) 44 1 6 rfl rfl rfl (by omega) (by omega) dX4_learn_41 (fun r_12 u_13 hw_14 => ?_)
    obtain ⟨ks1_15, rfl⟩ : ∃ z, z = u_13 := ⟨_, rfl⟩
    try dsimp only at hw_14
    obtain ⟨⟨o, hs0, hr0⟩, hck2⟩ := key_sel hok g4 (fun k => dgt_lt w _ k) hck1 hw_14
    subst hr0
    cases o with
    | none =>
      refine V_tol (-1) (rfl) ?_
      refine V_lstore_n (lc1 := [(2, .long (-1)), (0, .ref (h 0)), (1, .int u)]) cx 45 rfl dX4_learn_44 (by decide) rfl ?_
      refine V_lload_n cx 46 rfl dX4_learn_45 0 rfl ?_
      refine V_ldc2 cx 49 rfl dX4_learn_46 cl_X4_125 ?_
      refine V_lcmp cx 50 rfl dX4_learn_49 ?_
      refine V_if_eq cx 53 68 rfl dX4_learn_50 (by decide) (fun c_50 => ?_) (fun c_50 => ?_)
      · skip
        refine V_iconst (v := nI 0) cx 69 rfl dX4_learn_68 (by decide) ?_
        exact V_zreturnX cx hr (by first | rfl | exact bI_z _) (lu, C, gr, gs, wd, fd1_7, lt1_8, ph1_9, lh1_10, ks1_15) (⟨w, g1, g2, by omega, by omega, Or.inr ⟨rfl, rfl, rfl, rfl, rfl, rfl, Or.inl (Nat.le_zero.mp (sel_len hR g4 hs0))⟩⟩) rfl (by omega) (by omega) dX4_learn_69
      · skip
        exact absurd (by decide) c_50
    | some sl =>
      have hvs := (mem_mEn g4).mp hs0.1
      obtain ⟨hcs, hcz, hKb⟩ := ckl_cos g4 hvs
      have hbd := valS_bd sl 0 none hvs
      have hln := valS_len sl 0 none hvs
      refine V_tol (lN (ckl x sl)) (rfl) ?_
      refine V_lstore_n (lc1 := [(2, .long (lN (ckl x sl))), (0, .ref (h 0)), (1, .int u)]) cx 45 rfl dX4_learn_44 (by decide) rfl ?_
      refine V_lload_n cx 46 rfl dX4_learn_45 0 rfl ?_
      refine V_ldc2 cx 49 rfl dX4_learn_46 cl_X4_125 ?_
      refine V_lcmp cx 50 rfl dX4_learn_49 ?_
      refine V_if_eq cx 53 68 rfl dX4_learn_50 (by decide) (fun c_50 => ?_) (fun c_50 => ?_)
      · skip
        exact absurd (lg_eq0 c_50) (lN_nem1 hKb)
      · skip
        refine V_lload_n cx 54 rfl dX4_learn_53 0 rfl ?_
        refine V_aload_n cx 55 rfl dX4_learn_54 1 rfl ?_
        refine GX4_21 cx 0 rfl rfl 58 rfl dX4_learn_55 ?_
        refine V_iconst (v := nI 1) cx 59 rfl dX4_learn_58 (by decide) ?_
        refine KX4_155 (As := [.int (nI 1)]) (rest := [.long (lN (ckl x sl))]) cx (kX2_keyAt (xl X) lo G _ h np nl (SZ u 8) fd1_7 lu tu T C F LT VV BB lt1_8 ph1_9 lh1_10 ks1_15 wd gr gs bl ie tw (nI 1) (by omega)) hX (by omega) 2 rfl rfl rfl (Nat.le_of_ble_eq_true rfl) 62 1 6 rfl rfl rfl (by omega) (by omega) dX4_learn_59 (fun r_16 u_17 hw_18 => ?_)
        obtain ⟨ks1_19, rfl⟩ : ∃ z, z = u_17 := ⟨_, rfl⟩
        try dsimp only at hw_18
        obtain ⟨⟨o2, hs1, hr1⟩, hck3⟩ := key_sel hok g4 (fun k => dgt_lt w _ k) hck2 hw_18
        subst hr1
        have hs2 : ∀ k, o2.map (ckl x) = some k → ckl x sl ≤ k ∧ k < 9223372036854775808 := by
          intro k hk
          cases o2 with
          | none => cases hk
          | some s2 =>
            have hk2 : ckl x s2 = k := Option.some.inj hk
            have hv2 := (mem_mEn g4).mp hs1.1
            have h1 := sel_le hE6 hs0 hs1.1
            have h2 := (key_ord g4 hv2 hvs).1
            rw [← hk2]
            exact ⟨by omega, (ckl_cos g4 hv2).2.2⟩
        refine KX4_159 (As := [.long (lN (ckl x sl)), .long (cselV x o2)]) (rest := []) cx (kX4_isSure (xl X) lo G _ (ckl x sl) (cselV x o2) (o2.map (ckl x)) hKb (by cases o2 <;> rfl) hs2) hX (by omega) rfl rfl (Nat.le_of_ble_eq_true rfl) 65 1 6 rfl rfl rfl (by omega) (by omega) dX4_learn_62 (fun r_20 u_21 hw_22 => ?_)
        try dsimp only at hw_22
        subst hw_22
        refine V_if_ne cx 68 70 rfl dX4_learn_65 (by decide) (fun c_65 => ?_) (fun c_65 => ?_)
        · skip
          have n_65 := B_ne_t c_65
          refine V_aload_n cx 71 rfl dX4_learn_70 1 rfl ?_
          refine GX4_28 cx 0 rfl rfl 74 rfl dX4_learn_71 ?_
          refine V_iload_n cx 75 rfl dX4_learn_74 2 rfl ?_
          refine KX4_163 (As := [.int u]) (rest := []) cx (kX0_begin (xl X) lo G _ h np nl (SZ u 8) fd1_7 lu tu T C F LT VV BB lt1_8 ph1_9 lh1_10 ks1_19 wd gr gs bl ie tw u (by omega)) hX (by omega) 3 rfl rfl rfl (Nat.le_of_ble_eq_true rfl) 78 1 6 rfl rfl rfl (by omega) (by omega) dX4_learn_75 (fun u_24 hw_25 => ?_)
          try dsimp only at hw_25
          refine V_lload_n cx 79 rfl dX4_learn_78 0 rfl ?_
          refine KX4_131 (As := [.long (lN (ckl x sl))]) (rest := []) cx (kX2_placesIn (xl X) lo G _ (ckl x sl) hKb) hX (by omega) rfl rfl (Nat.le_of_ble_eq_true rfl) 82 1 6 rfl rfl rfl (by omega) (by omega) dX4_learn_79 (fun r_26 u_27 hw_28 => ?_)
          try dsimp only at hw_28
          subst hw_28
          refine V_toi (nI sl.length) (by rw [hcz]) ?_
          refine V_istore (lc1 := [(4, .int (nI sl.length)), (2, .long (lN (ckl x sl))), (0, .ref (h 0)), (1, .int u)]) cx 84 rfl dX4_learn_82 (by decide) rfl ?_
          refine V_iconst (v := nI 0) cx 85 rfl dX4_learn_84 (by decide) ?_
          refine V_istore (lc1 := [(5, .int (nI 0)), (4, .int (nI sl.length)), (2, .long (lN (ckl x sl))), (0, .ref (h 0)), (1, .int u)]) cx 87 rfl dX4_learn_85 (by decide) rfl ?_
          have loop_87 : ∀ (fuel : Nat) (k : Nat) (C2 : Nat → Int32) (gr2 : Nat → Int32) (gs2 : Nat → Int32), (k ≤ sl.length) → (cLes x np lu sl k C2 gr2 gs2 gr gs) → sl.length - k < fuel → V X lo 6 G (QXi X lo G (fun E => (E = EIAE ∧ SZ u 8 = 0) ∨ (E = EISE ∧ 0 < SZ u 8 ∧ lu = 50)) (cW G h np nl len fd lu tu T C F LT VV BB lt ph lh ks wd gr gs bl ie tw ++ rs) (fun (r : Int32) ((lu1, C1, gr1, gs1, wd1, fd1, lt1, ph1, lh1, ks1) : (Nat) × (Nat → Int32) × (Nat → Int32) × (Nat → Int32) × (Nat → Int32) × (Nat) × (Nat → Int32) × (Nat → Int32) × (Nat → Int32) × (Nat → Int64)) => cLearn x np u r lu C gr gs wd lu1 C1 gr1 gs1 wd1) (fun ((lu1, C1, gr1, gs1, wd1, fd1, lt1, ph1, lh1, ks1) : (Nat) × (Nat → Int32) × (Nat → Int32) × (Nat → Int32) × (Nat → Int32) × (Nat) × (Nat → Int32) × (Nat → Int32) × (Nat → Int32) × (Nat → Int64)) => cW G h np nl (SZ u 8) fd1 lu1 tu T C1 F LT VV BB lt1 ph1 lh1 ks1 wd1 gr1 gs1 bl ie tw ++ rs) 2 12) 1 6 (cW G h np nl (SZ u 8) fd1_7 (lu + 1) tu T C2 F LT VV BB lt1_8 ph1_9 lh1_10 ks1_19 (upd wd lu u) gr2 gs2 bl ie tw ++ rs) [(5, .int (nI k)), (4, .int (nI sl.length)), (2, .long (lN (ckl x sl))), (0, .ref (h 0)), (1, .int u)] [] 87 := by
            intro fuel
            induction fuel with
            | zero => intro k C2 gr2 gs2 hk hL2 hmz; exact absurd hmz (Nat.not_lt_zero _)
            | succ fuel ih_87 =>
              intro k C2 gr2 gs2 hk hL2 hmz_87
              refine V_iload cx 89 rfl dX4_learn_87 0 rfl ?_
              refine V_iload cx 91 rfl dX4_learn_89 1 rfl ?_
              refine V_icmp_ge cx 94 117 rfl dX4_learn_91 (by decide) (fun c_91 => ?_) (fun c_91 => ?_)
              · skip
                have n_91 : k ≥ sl.length := N_ge_t (by omega) (by omega) c_91
                refine V_iconst (v := nI 1) cx 118 rfl dX4_learn_117 (by decide) ?_
                exact V_zreturnX cx hr (by first | rfl | exact bI_z _) (lu + 1, C2, gr2, gs2, upd wd lu u, fd1_7, lt1_8, ph1_9, lh1_10, ks1_19) (⟨w, g1, g2, by omega, by omega, Or.inl ⟨sl, hs0, sure_t hR g4 hs0 hs1 n_65, rfl, rfl, rfl, by omega, by rw [show k = sl.length by omega] at hL2; exact hL2⟩⟩) rfl (by omega) (by omega) dX4_learn_118
              · skip
                have n_91 : k < sl.length := N_ge_f (by omega) (by omega) c_91
                obtain ⟨q1, ⟨nn, gv, q2, q3, q4, q5⟩, q6, q7⟩ := id hL2
                have hpk := (hbd k (by omega)).2
                have hnpx := hck.1
                have hnp16 := hok.1
                have hcc := hok.2.2.2.1 (spP sl k) hpk
                have hlb := lrn_bd (sl := sl) k (spP sl k) hcc.2
                have hall : ∀ i, i < lNp x → 1 ≤ (lrn (lC x) sl k).1 i ∧ (lrn (lC x) sl k).1 i ≤ 9999 := fun i hi => by have h1 := hok.2.2.2.1 i hi; have h2 := lrn_bd (sl := sl) k i h1.2; omega
                refine V_aload_n cx 95 rfl dX4_learn_94 3 rfl ?_
                refine GX4_28 cx 0 rfl rfl 98 rfl dX4_learn_95 ?_
                refine V_aload_n cx 99 rfl dX4_learn_98 3 rfl ?_
                refine GX4_21 cx 0 rfl rfl 102 rfl dX4_learn_99 ?_
                refine V_lload_n cx 103 rfl dX4_learn_102 2 rfl ?_
                refine V_iload cx 105 rfl dX4_learn_103 0 rfl ?_
                refine KX4_136 (As := [.long (lN (ckl x sl)), .int (nI k)]) (rest := [.ref (h 3)]) cx (kX2_partIn (xl X) lo G _ h np nl (SZ u 8) fd1_7 (lu + 1) tu T C2 F LT VV BB lt1_8 ph1_9 lh1_10 ks1_19 (upd wd lu u) gr2 gs2 bl ie tw (ckl x sl) k (setC x (lrn (lC x) sl k).1) (dgt w (SZ u 8)) x sl (lxOK_setC hok hall) (cOK_setC hck q1) g4 (fun b hb => phOK_setC (g6 b hb)) (fun k => dgt_lt w _ k) rfl ((valS_setC _ sl 0 none).mpr hvs) (by omega)) hX (by omega) 2 rfl rfl rfl (Nat.le_of_ble_eq_true rfl) 108 1 6 rfl rfl rfl (by omega) (by omega) dX4_learn_105 (fun r_29 u_30 hw_31 => ?_)
                try dsimp only at hw_31
                subst hw_31
                refine KX4_166 (As := [.int (nI (spP sl k))]) (rest := []) cx (kX0_grow (xl X) lo G _ h np nl (SZ u 8) fd1_7 (lu + 1) tu T C2 F LT VV BB lt1_8 ph1_9 lh1_10 ks1_19 (upd wd lu u) gr2 gs2 bl ie tw (spP sl k) ((lrn (lC x) sl k).1 (spP sl k)) nn ⟨by omega, by omega⟩ (by omega) ⟨q1 _ (by omega), hlb.2.1⟩ (by rw [Nat.add_sub_cancel]; exact ⟨q2, by omega⟩)) hX (by omega) 3 rfl rfl rfl (Nat.le_of_ble_eq_true rfl) 111 1 6 rfl rfl rfl (by omega) (by omega) dX4_learn_108 (fun u_33 hw_34 => ?_)
                obtain ⟨C1_35, gr1_36, gs1_37⟩ := u_33
                try dsimp only at hw_34
                refine V_iinc (v := nI (k + 1)) (lc1 := [(5, .int (nI (k + 1))), (4, .int (nI sl.length)), (2, .long (lN (ckl x sl))), (0, .ref (h 0)), (1, .int u)]) cx 114 rfl dX4_learn_111 0 rfl (nI_inc k 1) (by decide) rfl ?_
                refine V_goto cx 87 dX4_learn_114 (by decide) ?_
                refine V.locs [0, 1, 2, 3, 4] rfl ?_
                exact ih_87 (k + 1) C1_35 gr1_36 gs1_37 (by omega) (by exact cLes_step (by omega) (by omega) q1 q2 q3 q4 q5 q6 q7 hw_34) (by omega)
          refine V.locs [0, 1, 2, 3, 4] rfl ?_
          exact loop_87 _ 0 C gr (upd gs lu (nI 0)) (by omega) (by exact cLes_init x hck.2.2.2.1) (Nat.lt_succ_self _)
        · skip
          have n_65 := B_ne_f c_65
          refine V_iconst (v := nI 0) cx 69 rfl dX4_learn_68 (by decide) ?_
          exact V_zreturnX cx hr (by first | rfl | exact bI_z _) (lu, C, gr, gs, wd, fd1_7, lt1_8, ph1_9, lh1_10, ks1_19) (⟨w, g1, g2, by omega, by omega, Or.inr ⟨rfl, rfl, rfl, rfl, rfl, rfl, Or.inr (sure_f g4 hs0 hs1 n_65)⟩⟩) rfl (by omega) (by omega) dX4_learn_69
  · skip
    have n_15 : lu ≥ 50 := N_lt_f (by omega) (by omega) c_15
    exact V_throwS (text := "50 words are learned") cx hst kl_X4_49 ini_ISE (by decide +kernel) (by decide +kernel) hat2_ISE hatN_ISE hgd_ISE hout hX (by decide) (by omega) (by omega) (Or.inr ⟨rfl, by omega, by omega⟩) rfl dX4_learn_18 dX4_learn_21 dX4_learn_22 dX4_learn_24 dX4_learn_27
