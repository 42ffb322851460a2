def trN : Nat → Nat
  | 0 => 1
  | k + 1 => trN k * 2 * (2 * (k + 1) - 1) / (k + 2)
theorem trN_le : ∀ k, k ≤ 7 → trN k ≤ 429 := by decide
def rdN (E : List SP) : Nat → Nat
  | 0 => 0
  | n + 1 => rdN E n + trN ((E.getD n []).length - 1)
/-- what the counts, and the notes of a lesson, are behind some places of a split -/
def lrn (c : Nat → Nat) (sl : SP) : Nat → (Nat → Nat) × (Nat → Nat)
  | 0 => (c, fun _ => 0)
  | k + 1 => if (lrn c sl k).1 (spP sl k) < 9999 then (fun p => if p = spP sl k then (lrn c sl k).1 p + 1 else (lrn c sl k).1 p, fun p => if p = spP sl k then (lrn c sl k).2 p + 1 else (lrn c sl k).2 p) else lrn c sl k
theorem lrn_bd {c : Nat → Nat} {sl : SP} (k p : Nat) (h : c p ≤ 9999) : c p ≤ (lrn c sl k).1 p ∧ (lrn c sl k).1 p ≤ 9999 ∧ (lrn c sl k).2 p ≤ k ∧ (lrn c sl k).1 p = c p + (lrn c sl k).2 p := by
  induction k with
  | zero => exact ⟨Nat.le_refl _, h, Nat.le_refl _, rfl⟩
  | succ k ih =>
    unfold lrn
    split
    · rename_i h1
      dsimp only
      by_cases e : p = spP sl k
      · rw [if_pos e, if_pos e]
        rw [← e] at h1
        omega
      · rw [if_neg e, if_neg e]
        omega
    · omega
def costL (x : LX) (l : SP) : Nat := mkl x l / 377801998336 / 16
/-- a lesson: what the reference has behind it -/
def lesson (x : LX) (np ld : Nat) (mo : Nat → Int32) (sl : SP) (C1 mo1 : Nat → Int32) : Prop := (∀ p, p < np → C1 p = nI ((lrn (lC x) sl sl.length).1 p)) ∧ (∀ p, p < 16 → mo1 (16 * ld + p) = nI ((lrn (lC x) sl sl.length).2 p)) ∧ (∀ j, j < 16 * ld → mo1 j = mo j)
def mLearn (x : LX) (np : Nat) (u r : Int32) (ld : Nat) (C mo wd : Nat → Int32) (th1 ld1 : Nat) (C1 mo1 wd1 : Nat → Int32) : Prop :=
  (SZ u 8 = 0 ∧ th1 = 1 ∧ ld1 = ld ∧ C1 = C ∧ mo1 = mo ∧ wd1 = wd) ∨ (0 < SZ u 8 ∧ ld = 50 ∧ th1 = 2 ∧ ld1 = ld ∧ C1 = C ∧ mo1 = mo ∧ wd1 = wd) ∨
  (∃ w, u = nI w ∧ w < 200000000 ∧ 0 < SZ u 8 ∧ ld < 50 ∧ th1 = 0 ∧
    ((∃ sl, selR x (mEn x (dgt w (SZ u 8)) (SZ u 8)) (nI 0) (some sl) ∧ ((mEn x (dgt w (SZ u 8)) (SZ u 8)).length = 1 ∨ (1 < (mEn x (dgt w (SZ u 8)) (SZ u 8)).length ∧ ∃ s2, selR x (mEn x (dgt w (SZ u 8)) (SZ u 8)) (nI 1) (some s2) ∧ costL x sl + 20 ≤ costL x s2)) ∧ r = bI true ∧ ld1 = ld + 1 ∧ lesson x np ld mo sl C1 mo1 ∧ wd1 = upd wd ld u) ∨
     (r = bI false ∧ ld1 = ld ∧ C1 = C ∧ mo1 = mo ∧ wd1 = wd ∧ ((mEn x (dgt w (SZ u 8)) (SZ u 8)).length = 0 ∨ ∃ sl s2, selR x (mEn x (dgt w (SZ u 8)) (SZ u 8)) (nI 0) (some sl) ∧ selR x (mEn x (dgt w (SZ u 8)) (SZ u 8)) (nI 1) (some s2) ∧ costL x s2 < costL x sl + 20))))
theorem costL_lt {x : LX} {L : Nat} {d : Nat → Nat} {l : SP} (h : valS x L d l 0 none) (hL : L ≤ 8) : costL x l < 2000 := by
  have h1 := (mkey_div (fun k => ko (lC x (spP l k))) (spO l) l.length (fun k hk => (valS_bd l 0 none h k hk).1)).1
  have h2 := valS_len l 0 none h
  have h3 := kS_le (fun k => ko (lC x (spP l k))) (spO l) (fun _ => ko_le _) l.length
  unfold costL mkl
  rw [h1]
  omega
theorem sel0_eq {x : LX} {E : List SP} {a b : SP} (hE : E.length ≤ 640) (ha : selR x E (nI 0) (some a)) (hb : selR x E (nI 0) (some b)) : mkl x a = mkl x b := by
  have key : ∀ a b : SP, selR x E (nI 0) (some a) → selR x E (nI 0) (some b) → ¬ mkl x b < mkl x a := by
    intro a b ha hb h
    have h1 := List.countP_le_length (p := fun l' => decide (mkl x l' < mkl x a)) (l := E)
    have h2 := nI_inj (by omega) (by decide) ha.2
    have h3 := List.countP_eq_zero.mp h2 b hb.1
    exact h3 (decide_eq_true h)
  have := key a b ha hb
  have := key b a hb ha
  omega
theorem asked.vs {x : LX} {u : Int32} {w ll1 sp1 : Nat} {lt1 : Nat → Int32} {ks1 : Nat → Int64} (h : asked x u w ll1 sp1 lt1 ks1) {l : SP} (hl : l ∈ mEn x (dgt w ll1) ll1) : valS x ll1 (dgt w ll1) l 0 none := (mem_mEn h.2.2.2.1).mp hl
set_option maxHeartbeats 4000000 in
set_option maxRecDepth 100000 in
theorem kX5_trees (l : Launch) (lo : Nat) (G : vG) (rs : va_W) (n : Nat) (hn : 1 ≤ n ∧ n ≤ 8) : Mi l yX5_trees (.code yX5_trees prog_7_method_39_code 4 (some .int)) 1 0 0 lo G [.int (nI n)] (rs) (fun (r : Int32) (_ : Unit) => r = nI (trN (n - 1))) (fun (_ : Unit) => rs) := by
  refine Mi_of (lc := [(0, .int (nI n))]) (by decide +kernel) (Nat.le_of_ble_eq_true rfl) rfl ?_
  intro X cx hXR hXl hr hin
  subst hXl
  have hX := RmX.of hXR
  refine V_lconst (v := lN 1) cx 1 rfl dX5_trees_0 (by decide) ?_
  refine V_lstore_n (lc1 := [(1, .long (lN 1)), (0, .int (nI n))]) cx 2 rfl dX5_trees_1 (by decide) rfl ?_
  refine V_iconst (v := nI 1) cx 3 rfl dX5_trees_2 (by decide) ?_
  refine V_istore_n (lc1 := [(3, .int (nI 1)), (1, .long (lN 1)), (0, .int (nI n))]) cx 4 rfl dX5_trees_3 (by decide) rfl ?_
  have loop_4 : ∀ (fuel : Nat) (k : Nat) (v : Nat), (1 ≤ k ∧ k ≤ n) → (v = trN (k - 1)) → n - k < fuel → V X lo 4 G (Qi X lo G (fun (r : Int32) (_ : Unit) => r = nI (trN (n - 1))) (fun (_ : Unit) => rs) 0 0) 0 0 (rs) [(3, .int (nI k)), (1, .long (lN v)), (0, .int (nI n))] [] 4 := by
    intro fuel
    induction fuel with
    | zero => intro k v hk hv hmz; exact absurd hmz (Nat.not_lt_zero _)
    | succ fuel ih_4 =>
      intro k v hk hv hmz_4
      refine V_iload_n cx 5 rfl dX5_trees_4 0 rfl ?_
      refine V_iload_n cx 6 rfl dX5_trees_5 2 rfl ?_
      refine V_icmp_ge cx 9 35 rfl dX5_trees_6 (by decide) (fun c_6 => ?_) (fun c_6 => ?_)
      · skip
        have n_6 : k ≥ n := N_ge_t (by omega) (by omega) c_6
        refine V_lload_n cx 36 rfl dX5_trees_35 1 rfl ?_
        refine V_l2i cx 37 rfl dX5_trees_36 ?_
        refine V_toi (nI v) (lN_i _) ?_
        exact V_ireturn cx hr () (by rw [hv, show k = n by omega]) rfl (by omega) (by omega) dX5_trees_37
      · skip
        have n_6 : k < n := N_ge_f (by omega) (by omega) c_6
        have hvb := trN_le (k - 1) (by omega)
        refine V_lload_n cx 10 rfl dX5_trees_9 1 rfl ?_
        refine V_ldc2 cx 13 rfl dX5_trees_10 cl_X5_158 ?_
        refine V_tol (lN 2) (by decide) ?_
        refine V_lmul cx 14 rfl dX5_trees_13 ?_
        refine V_tol (lN (v * 2)) (lN_mul _ _) ?_
        refine V_ldc2 cx 17 rfl dX5_trees_14 cl_X5_158 ?_
        refine V_tol (lN 2) (by decide) ?_
        refine V_iload_n cx 18 rfl dX5_trees_17 0 rfl ?_
        refine V_i2l cx 19 rfl dX5_trees_18 ?_
        refine V_tol (lN k) (nI_l (by omega)) ?_
        refine V_lmul cx 20 rfl dX5_trees_19 ?_
        refine V_tol (lN (2 * k)) (lN_mul _ _) ?_
        refine V_lconst (v := lN 1) cx 21 rfl dX5_trees_20 (by decide) ?_
        refine V_lsub cx 22 rfl dX5_trees_21 ?_
        refine V_tol (lN (2 * k - 1)) (lN_sub (by omega)) ?_
        refine V_lmul cx 23 rfl dX5_trees_22 ?_
        refine V_tol (lN ((v * 2) * (2 * k - 1))) (lN_mul _ _) ?_
        refine V_iload_n cx 24 rfl dX5_trees_23 0 rfl ?_
        refine V_i2l cx 25 rfl dX5_trees_24 ?_
        refine V_tol (lN k) (nI_l (by omega)) ?_
        refine V_lconst (v := lN 1) cx 26 rfl dX5_trees_25 (by decide) ?_
        refine V_ladd cx 27 rfl dX5_trees_26 ?_
        refine V_tol (lN (k + 1)) (lN_add _ _) ?_
        refine V_ldiv cx 28 rfl dX5_trees_27 (by intro e; have := lN_inj (by omega) (by decide) (show lN (k + 1) = lN 0 from e); omega) ?_
        refine V_tol (lN (v * 2 * (2 * k - 1) / (k + 1))) (lN_div (by have h1 : v * 2 * (2 * k - 1) ≤ 858 * 15 := Nat.mul_le_mul (by omega) (by omega); omega) (by omega)) ?_
        refine V_lstore_n (lc1 := [(1, .long (lN (v * 2 * (2 * k - 1) / (k + 1)))), (3, .int (nI k)), (0, .int (nI n))]) cx 29 rfl dX5_trees_28 (by decide) rfl ?_
        refine V_iinc (v := nI (k + 1)) (lc1 := [(3, .int (nI (k + 1))), (1, .long (lN (v * 2 * (2 * k - 1) / (k + 1)))), (0, .int (nI n))]) cx 32 rfl dX5_trees_29 1 rfl (nI_inc k 1) (by decide) rfl ?_
        refine V_goto cx 4 dX5_trees_32 (by decide) ?_
        refine V.locs [0, 1, 2] rfl ?_
        exact ih_4 (k + 1) (v * 2 * (2 * k - 1) / (k + 1)) (by omega) (by rw [show k + 1 - 1 = (k - 1) + 1 by omega, trN, ← hv, show k - 1 + 1 = k by omega, show k - 1 + 2 = k + 1 by omega]) (by omega)
  refine V.locs [0, 1, 2] rfl ?_
  exact loop_4 _ 1 1 (by omega) (by rfl) (Nat.lt_succ_self _)
set_option maxHeartbeats 4000000 in
set_option maxRecDepth 100000 in
theorem kX5_readings (l : Launch) (lo : Nat) (G : vG) (rs : va_W) (g : Nat → Nat) (th : Nat) (np : Nat) (nl : Nat) (ld : Nat) (ll : Nat) (mn : Int32) (sp : Nat) (T : Nat → Int32) (S : Nat → Int32) (C : Nat → Int32) (F : Nat → Int32) (LT : Nat → Int32) (LS : Nat → Int32) (VE : Nat → Int32) (BA : Nat → Int32) (wd : Nat → Int32) (mo : Nat → Int32) (lt : Nat → Int32) (op : Nat → Int32) (pl : Nat → Int32) (pt : Nat → Int32) (ks : Nat → Int64) (u : Int32) (x : LX) (hok : lxOK x) (hmk : mOK x np nl T S C F LT LS VE BA) (hR : rkOK x) : Mi l yX5_readings (.code yX5_readings prog_7_method_40_code 4 (some .int)) 6 0 0 lo G [.ref (g 0), .int u] (mW G g th np nl ld ll mn sp T S C F LT LS VE BA wd mo lt op pl pt ks ++ rs) (fun (r : Int32) ((th1, ll1, mn1, sp1, lt1, op1, pl1, pt1, ks1) : (Nat) × (Nat) × (Int32) × (Nat) × (Nat → Int32) × (Nat → Int32) × (Nat → Int32) × (Nat → Int32) × (Nat → Int64)) => (SZ u 8 = 0 ∧ th1 = 1) ∨ (∃ w, u = nI w ∧ w < 200000000 ∧ 0 < SZ u 8 ∧ th1 = 0 ∧ r = nI (rdN (mEn x (dgt w (SZ u 8)) (SZ u 8)) (mEn x (dgt w (SZ u 8)) (SZ u 8)).length))) (fun ((th1, ll1, mn1, sp1, lt1, op1, pl1, pt1, ks1) : (Nat) × (Nat) × (Int32) × (Nat) × (Nat → Int32) × (Nat → Int32) × (Nat → Int32) × (Nat → Int32) × (Nat → Int64)) => mW G g th1 np nl ld ll1 mn1 sp1 T S C F LT LS VE BA wd mo lt1 op1 pl1 pt1 ks1 ++ rs) := by
  refine Mi_of (lc := [(0, .ref (g 0)), (1, .int u)]) (by decide +kernel) (Nat.le_of_ble_eq_true rfl) rfl ?_
  intro X cx hXR hXl hr hin
  subst hXl
  have hX := RmX.of hXR
  refine V_aload_n cx 1 rfl dX5_readings_0 0 rfl ?_
  refine V_iload_n cx 2 rfl dX5_readings_1 1 rfl ?_
  refine KX5_140 (As := [.int u]) (rest := []) cx (kX5_asks (xl X) lo G _ g th np nl ld ll mn sp T S C F LT LS VE BA wd mo lt op pl pt ks u x hok hmk (fun d L hL => (hR d L hL).1)) hX (by omega) 0 rfl rfl rfl (Nat.le_of_ble_eq_true rfl) 5 0 0 rfl rfl rfl (by omega) (by omega) dX5_readings_2 (fun r_1 u_2 hw_3 => ?_)
  obtain ⟨th1_4, ll1_5, mn1_6, sp1_7, lt1_8, op1_9, pl1_10, pt1_11, ks1_12⟩ := u_2
  try dsimp only at hw_3
  rcases hw_3 with ⟨hz, hr0, ht⟩ | ⟨w, hr0, ht, ha⟩
  · subst hr0; subst ht
    refine V_if_ne cx 8 10 rfl dX5_readings_5 (by decide) (fun c_5 => ?_) (fun c_5 => ?_)
    · skip
      exact absurd (B_ne_t c_5) (by decide)
    · skip
      refine V_iconst (v := nI 0) cx 9 rfl dX5_readings_8 (by decide) ?_
      exact V_ireturn cx hr (1, ll1_5, mn1_6, sp1_7, lt1_8, op1_9, pl1_10, pt1_11, ks1_12) (Or.inl ⟨hz, rfl⟩) rfl (by omega) (by omega) dX5_readings_9
  · subst hr0; subst ht
    obtain ⟨a1, a2, a3, a4, a5, a6, a7, a8⟩ := id ha
    have hR2 := hR (dgt w ll1_5) ll1_5 a4
    refine V_if_ne cx 8 10 rfl dX5_readings_5 (by decide) (fun c_5 => ?_) (fun c_5 => ?_)
    · skip
      refine V_iconst (v := nI 0) cx 11 rfl dX5_readings_10 (by decide) ?_
      refine V_istore_n (lc1 := [(2, .int (nI 0)), (0, .ref (g 0)), (1, .int u)]) cx 12 rfl dX5_readings_11 (by decide) rfl ?_
      refine V_iconst (v := nI 0) cx 13 rfl dX5_readings_12 (by decide) ?_
      refine V_istore_n (lc1 := [(3, .int (nI 0)), (2, .int (nI 0)), (0, .ref (g 0)), (1, .int u)]) cx 14 rfl dX5_readings_13 (by decide) rfl ?_
      have loop_14 : ∀ (fuel : Nat) (s : Nat) (v : Nat), (s ≤ sp1_7) → (v = rdN (mEn x (dgt w ll1_5) ll1_5) s) → sp1_7 - s < fuel → V X lo 4 G (Qi X lo G (fun (r : Int32) ((th1, ll1, mn1, sp1, lt1, op1, pl1, pt1, ks1) : (Nat) × (Nat) × (Int32) × (Nat) × (Nat → Int32) × (Nat → Int32) × (Nat → Int32) × (Nat → Int32) × (Nat → Int64)) => (SZ u 8 = 0 ∧ th1 = 1) ∨ (∃ w, u = nI w ∧ w < 200000000 ∧ 0 < SZ u 8 ∧ th1 = 0 ∧ r = nI (rdN (mEn x (dgt w (SZ u 8)) (SZ u 8)) (mEn x (dgt w (SZ u 8)) (SZ u 8)).length))) (fun ((th1, ll1, mn1, sp1, lt1, op1, pl1, pt1, ks1) : (Nat) × (Nat) × (Int32) × (Nat) × (Nat → Int32) × (Nat → Int32) × (Nat → Int32) × (Nat → Int32) × (Nat → Int64)) => mW G g th1 np nl ld ll1 mn1 sp1 T S C F LT LS VE BA wd mo lt1 op1 pl1 pt1 ks1 ++ rs) 0 0) 0 0 (mW G g 0 np nl ld ll1_5 mn1_6 sp1_7 T S C F LT LS VE BA wd mo lt1_8 op1_9 pl1_10 pt1_11 ks1_12 ++ rs) [(3, .int (nI s)), (2, .int (nI v)), (0, .ref (g 0))] [] 14 := by
        intro fuel
        induction fuel with
        | zero => intro s v hs hv hmz; exact absurd hmz (Nat.not_lt_zero _)
        | succ fuel ih_14 =>
          intro s v hs hv hmz_14
          refine V_iload_n cx 15 rfl dX5_readings_14 0 rfl ?_
          refine V_aload_n cx 16 rfl dX5_readings_15 2 rfl ?_
          refine GX5_118 cx 0 rfl rfl 19 rfl dX5_readings_16 ?_
          refine V_icmp_ge cx 22 43 rfl dX5_readings_19 (by decide) (fun c_19 => ?_) (fun c_19 => ?_)
          · skip
            have n_19 : s ≥ sp1_7 := N_ge_t (by have := hR2.1; omega) (by have := hR2.1; omega) c_19
            refine V_iload_n cx 44 rfl dX5_readings_43 1 rfl ?_
            exact V_ireturn cx hr (0, ll1_5, mn1_6, sp1_7, lt1_8, op1_9, pl1_10, pt1_11, ks1_12) (Or.inr ⟨w, a1, a2, by omega, rfl, by rw [hv, show s = sp1_7 by omega, a7, ← a5]⟩) rfl (by omega) (by omega) dX5_readings_44
          · skip
            have n_19 : s < sp1_7 := N_ge_f (by have := hR2.1; omega) (by have := hR2.1; omega) c_19
            have hsl : s < (mEn x (dgt w ll1_5) ll1_5).length := by omega
            obtain ⟨sl, hse⟩ : ∃ l, (mEn x (dgt w ll1_5) ll1_5)[s]? = some l := ⟨_, List.getElem?_eq_getElem hsl⟩
            have hgd : (mEn x (dgt w ll1_5) ll1_5).getD s [] = sl := by rw [List.getD_eq_getElem?_getD, hse]; rfl
            have hmem := List.mem_of_getElem? hse
            have hKb := ha.bd sl hmem
            have hvs := (mem_mEn a4).mp hmem
            have hln := valS_len sl 0 none hvs
            have hks := a8 s sl hse
            rw [Nat.zero_add, List.nil_append] at hks
            refine V_iload_n cx 23 rfl dX5_readings_22 1 rfl ?_
            refine V_aload_n cx 24 rfl dX5_readings_23 2 rfl ?_
            refine GX5_52 cx 0 rfl rfl 27 rfl dX5_readings_24 ?_
            refine V_iload_n cx 28 rfl dX5_readings_27 0 rfl ?_
            refine V_laldN cx s (rfl) (by have := hR2.1; omega) (by decide) 15 rfl 29 rfl dX5_readings_28 ?_
            refine V_tol (lN (mkl x sl)) (hks) ?_
            refine KX5_136 (As := [.long (lN (mkl x sl))]) (rest := [.int (nI v)]) cx (kX5_sizeOfKey (xl X) lo G _ (mkl x sl) hKb) hX (by omega) rfl rfl (Nat.le_of_ble_eq_true rfl) 32 0 0 rfl rfl rfl (by omega) (by omega) dX5_readings_29 (fun r_13 u_14 hw_15 => ?_)
            try dsimp only at hw_15
            subst hw_15
            refine V_toi (nI sl.length) (by rw [mkl_size a4 hvs]) ?_
            refine KX5_160 (As := [.int (nI sl.length)]) (rest := [.int (nI v)]) cx (kX5_trees (xl X) lo G _ sl.length (by omega)) hX (by omega) rfl rfl (Nat.le_of_ble_eq_true rfl) 35 0 0 rfl rfl rfl (by omega) (by omega) dX5_readings_32 (fun r_16 u_17 hw_18 => ?_)
            try dsimp only at hw_18
            subst hw_18
            refine V_iadd cx 36 rfl dX5_readings_35 ?_
            refine V_toi (nI (v + (trN (sl.length - 1)))) (nI_add _ _) ?_
            refine V_istore_n (lc1 := [(2, .int (nI (v + (trN (sl.length - 1))))), (3, .int (nI s)), (0, .ref (g 0))]) cx 37 rfl dX5_readings_36 (by decide) rfl ?_
            refine V_iinc (v := nI (s + 1)) (lc1 := [(3, .int (nI (s + 1))), (2, .int (nI (v + (trN (sl.length - 1))))), (0, .ref (g 0))]) cx 40 rfl dX5_readings_37 1 rfl (nI_inc s 1) (by decide) rfl ?_
            refine V_goto cx 14 dX5_readings_40 (by decide) ?_
            refine V.locs [0, 1, 2] rfl ?_
            exact ih_14 (s + 1) (v + (trN (sl.length - 1))) (by omega) (by rw [rdN, ← hv, hgd]) (by omega)
      refine V.locs [0, 1, 2] rfl ?_
      exact loop_14 _ 0 0 (by omega) (by rfl) (Nat.lt_succ_self _)
    · skip
      exact absurd (B_ne_f c_5) (by decide)
set_option maxHeartbeats 4000000 in
set_option maxRecDepth 100000 in
theorem kX5_learns (l : Launch) (lo : Nat) (G : vG) (rs : va_W) (g : Nat → Nat) (th : Nat) (np : Nat) (nl : Nat) (ld : Nat) (ll : Nat) (mn : Int32) (sp : Nat) (T : Nat → Int32) (S : Nat → Int32) (C : Nat → Int32) (F : Nat → Int32) (LT : Nat → Int32) (LS : Nat → Int32) (VE : Nat → Int32) (BA : Nat → Int32) (wd : Nat → Int32) (mo : Nat → Int32) (lt : Nat → Int32) (op : Nat → Int32) (pl : Nat → Int32) (pt : Nat → Int32) (ks : Nat → Int64) (u : Int32) (x : LX) (w : Nat) (hok : lxOK x) (hmk : mOK x np nl T S C F LT LS VE BA) (hR : rkOK x) (ha : asked x u w ll sp lt ks) (hsp0 : 0 < sp) (hld : ld < 50) : Mv l yX5_learns (.code yX5_learns prog_7_method_41_code 4 none) 5 0 0 lo G [.ref (g 0), .int u] (mW G g th np nl ld ll mn sp T S C F LT LS VE BA wd mo lt op pl pt ks ++ rs) (fun ((mn1, C1, mo1, op1, pl1, pt1) : (Int32) × (Nat → Int32) × (Nat → Int32) × (Nat → Int32) × (Nat → Int32) × (Nat → Int32)) => ∃ sl, selR x (mEn x (dgt w ll) ll) (nI 0) (some sl) ∧ lesson x np ld mo sl C1 mo1) (fun ((mn1, C1, mo1, op1, pl1, pt1) : (Int32) × (Nat → Int32) × (Nat → Int32) × (Nat → Int32) × (Nat → Int32) × (Nat → Int32)) => mW G g th np nl (ld + 1) ll mn1 sp T S C1 F LT LS VE BA (upd wd ld u) mo1 lt op1 pl1 pt1 ks ++ rs) := by
  refine Mv_of (lc := [(0, .ref (g 0)), (1, .int u)]) (by decide +kernel) (Nat.le_of_ble_eq_true rfl) rfl ?_
  intro X cx hXR hXl hr hin
  subst hXl
  have hX := RmX.of hXR
  obtain ⟨a1, a2, a3, a4, a5, a6, a7, a8⟩ := id ha
  have hR2 := hR (dgt w ll) ll a4
  have hmk2 := hmk
  obtain ⟨hnp, hnl, hT, hS, hC, hF, hLT, hLS, hVE, hBA⟩ := hmk
  have hnp16 : np ≤ 16 := by rw [hnp]; exact hok.1
  refine V_aload_n cx 1 rfl dX5_learns_0 0 rfl ?_
  refine V_aload_n cx 2 rfl dX5_learns_1 0 rfl ?_
  refine V_iconst (v := nI 0) cx 3 rfl dX5_learns_2 (by decide) ?_
  refine KX5_143 (As := [.int (nI 0)]) (rest := [.ref (g 0)]) cx (kX5_keyAt (xl X) lo G _ g th np nl ld ll mn sp T S C F LT LS VE BA wd mo lt op pl pt ks (nI 0) (by rw [a7]; exact hR2.1)) hX (by omega) 0 rfl rfl rfl (Nat.le_of_ble_eq_true rfl) 6 0 0 rfl rfl rfl (by omega) (by omega) dX5_learns_3 (fun r_1 u_2 hw_3 => ?_)
  try dsimp only at hw_3
  subst hw_3
  obtain ⟨o, ho1, hsel⟩ := selK_sel (k := nI 0) ha.bd a8
  obtain ⟨sl, rfl⟩ := sel_some (hR2.2 0 (by omega)) hsel
  have hKb := ha.bd sl hsel.1
  have hvs := (mem_mEn a4).mp hsel.1
  have hln := valS_len sl 0 none hvs
  have hsb := valS_bd sl 0 none hvs
  rw [← a7] at ho1
  refine V_tol (lN (mkl x sl)) (ho1) ?_
  refine KX5_154 (As := [.long (lN (mkl x sl))]) (rest := []) cx (kX5_unfolds (xl X) lo G _ g th np nl ld ll mn sp T S C F LT LS VE BA wd mo lt op pl pt ks (mkl x sl) x (dgt w ll) sl hok hmk2 (by omega) a6 (fun k => dgt_lt w _ k) rfl hvs) hX (by omega) 0 rfl rfl rfl (Nat.le_of_ble_eq_true rfl) 9 0 0 rfl rfl rfl (by omega) (by omega) dX5_learns_6 (fun u_5 hw_6 => ?_)
  obtain ⟨op1_7, pl1_8, pt1_9⟩ := u_5
  try dsimp only at hw_6
  have hun := hw_6
  refine V_iconst (v := nI 0) cx 10 rfl dX5_learns_9 (by decide) ?_
  refine V_istore_n (lc1 := [(2, .int (nI 0)), (0, .ref (g 0)), (1, .int u)]) cx 11 rfl dX5_learns_10 (by decide) rfl ?_
  have loop_11 : ∀ (fuel : Nat) (p : Nat) (mo2 : Nat → Int32), (p ≤ 16) → (∀ q, q < p → mo2 (16 * ld + q) = nI 0) → (∀ j, j < 16 * ld → mo2 j = mo j) → 16 - p < fuel → V X lo 4 G (Qv X lo G (fun ((mn1, C1, mo1, op1, pl1, pt1) : (Int32) × (Nat → Int32) × (Nat → Int32) × (Nat → Int32) × (Nat → Int32) × (Nat → Int32)) => ∃ sl, selR x (mEn x (dgt w ll) ll) (nI 0) (some sl) ∧ lesson x np ld mo sl C1 mo1) (fun ((mn1, C1, mo1, op1, pl1, pt1) : (Int32) × (Nat → Int32) × (Nat → Int32) × (Nat → Int32) × (Nat → Int32) × (Nat → Int32)) => mW G g th np nl (ld + 1) ll mn1 sp T S C1 F LT LS VE BA (upd wd ld u) mo1 lt op1 pl1 pt1 ks ++ rs) 0 0) 0 0 (mW G g th np nl ld ll (nI sl.length) sp T S C F LT LS VE BA wd mo2 lt op1_7 pl1_8 pt1_9 ks ++ rs) [(2, .int (nI p)), (0, .ref (g 0)), (1, .int u)] [] 11 := by
    intro fuel
    induction fuel with
    | zero => intro p mo2 hp hm1 hm2 hmz; exact absurd hmz (Nat.not_lt_zero _)
    | succ fuel ih_11 =>
      intro p mo2 hp hm1 hm2 hmz_11
      refine V_iload_n cx 12 rfl dX5_learns_11 0 rfl ?_
      refine V_bipush (v := nI 16) cx 14 rfl dX5_learns_12 (by decide) ?_
      refine V_icmp_ge cx 17 38 rfl dX5_learns_14 (by decide) (fun c_14 => ?_) (fun c_14 => ?_)
      · skip
        have n_14 : p ≥ 16 := N_ge_t (by omega) (by omega) c_14
        refine V_iconst (v := nI 0) cx 39 rfl dX5_learns_38 (by decide) ?_
        refine V_istore_n (lc1 := [(2, .int (nI 0)), (0, .ref (g 0)), (1, .int u)]) cx 40 rfl dX5_learns_39 (by decide) rfl ?_
        have loop_40 : ∀ (fuel : Nat) (k : Nat) (C2 : Nat → Int32) (mo3 : Nat → Int32), (k ≤ sl.length) → (∀ p, p < np → C2 p = nI ((lrn (lC x) sl k).1 p)) → (∀ p, p < 16 → mo3 (16 * ld + p) = nI ((lrn (lC x) sl k).2 p)) → (∀ j, j < 16 * ld → mo3 j = mo j) → sl.length - k < fuel → V X lo 4 G (Qv X lo G (fun ((mn1, C1, mo1, op1, pl1, pt1) : (Int32) × (Nat → Int32) × (Nat → Int32) × (Nat → Int32) × (Nat → Int32) × (Nat → Int32)) => ∃ sl, selR x (mEn x (dgt w ll) ll) (nI 0) (some sl) ∧ lesson x np ld mo sl C1 mo1) (fun ((mn1, C1, mo1, op1, pl1, pt1) : (Int32) × (Nat → Int32) × (Nat → Int32) × (Nat → Int32) × (Nat → Int32) × (Nat → Int32)) => mW G g th np nl (ld + 1) ll mn1 sp T S C1 F LT LS VE BA (upd wd ld u) mo1 lt op1 pl1 pt1 ks ++ rs) 0 0) 0 0 (mW G g th np nl ld ll (nI sl.length) sp T S C2 F LT LS VE BA wd mo3 lt op1_7 pl1_8 pt1_9 ks ++ rs) [(2, .int (nI k)), (0, .ref (g 0)), (1, .int u)] [] 40 := by
          intro fuel
          induction fuel with
          | zero => intro k C2 mo3 hk hc1 hc2 hc3 hmz; exact absurd hmz (Nat.not_lt_zero _)
          | succ fuel ih_40 =>
            intro k C2 mo3 hk hc1 hc2 hc3 hmz_40
            refine V_iload_n cx 41 rfl dX5_learns_40 0 rfl ?_
            refine V_aload_n cx 42 rfl dX5_learns_41 1 rfl ?_
            refine GX5_104 cx 0 rfl rfl 45 rfl dX5_learns_42 ?_
            refine V_icmp_ge cx 48 115 rfl dX5_learns_45 (by decide) (fun c_45 => ?_) (fun c_45 => ?_)
            · skip
              have n_45 : k ≥ sl.length := N_ge_t (by omega) (by omega) c_45
              refine V_aload_n cx 116 rfl dX5_learns_115 1 rfl ?_
              refine GX5_34 cx 0 rfl rfl 119 rfl dX5_learns_116 ?_
              refine V_aload_n cx 120 rfl dX5_learns_119 1 rfl ?_
              refine GX5_163 cx 0 rfl rfl 123 rfl dX5_learns_120 ?_
              refine V_iload_n cx 124 rfl dX5_learns_123 2 rfl ?_
              refine V_iastN cx ld (rfl) (by omega) (by decide) 9 rfl (mW G g th np nl ld ll (nI sl.length) sp T S C2 F LT LS VE BA (upd wd ld u) mo3 lt op1_7 pl1_8 pt1_9 ks ++ rs) rfl 125 rfl dX5_learns_124 ?_
              refine V_aload_n cx 126 rfl dX5_learns_125 1 rfl ?_
              refine V_dup cx 127 rfl dX5_learns_126 rfl ?_
              refine GX5_163 cx 0 rfl rfl 130 rfl dX5_learns_127 ?_
              refine V_iconst (v := nI 1) cx 131 rfl dX5_learns_130 (by decide) ?_
              refine V_iadd cx 132 rfl dX5_learns_131 ?_
              refine V_toi (nI (ld + 1)) (nI_add _ _) ?_
              refine PX5_163 cx 0 rfl (Nat.le_of_ble_eq_true rfl) (mW G g th np nl (ld + 1) ll (nI sl.length) sp T S C2 F LT LS VE BA (upd wd ld u) mo3 lt op1_7 pl1_8 pt1_9 ks ++ rs) rfl 135 rfl dX5_learns_132 ?_
              exact V_vreturn cx hr (nI sl.length, C2, mo3, op1_7, pl1_8, pt1_9) (⟨sl, hsel, fun p hp => by rw [hc1 p hp, show k = sl.length by omega], fun p hp => by rw [hc2 p hp, show k = sl.length by omega], hc3⟩) rfl (by omega) (by omega) dX5_learns_135
            · skip
              have n_45 : k < sl.length := N_ge_f (by omega) (by omega) c_45
              have hu1 := hun k (by omega)
              have hq := (hsb k (by omega)).2
              have hqn : spP sl k < np := by omega
              have hcc := hok.2.2.2.1 (spP sl k) (by omega)
              have hlb := lrn_bd (sl := sl) k (spP sl k) hcc.2
              refine V_aload_n cx 49 rfl dX5_learns_48 1 rfl ?_
              refine GX5_16 cx 0 rfl rfl 52 rfl dX5_learns_49 ?_
              refine V_aload_n cx 53 rfl dX5_learns_52 1 rfl ?_
              refine GX5_49 cx 0 rfl rfl 56 rfl dX5_learns_53 ?_
              refine V_iload_n cx 57 rfl dX5_learns_56 0 rfl ?_
              refine V_ialdN cx k (rfl) (by omega) (by decide) 14 rfl 58 rfl dX5_learns_57 ?_
              refine V_toi (nI (spP sl k)) (hu1.2) ?_
              refine V_ialdN cx (spP sl k) (rfl) (by omega) (by decide) 3 rfl 59 rfl dX5_learns_58 ?_
              refine V_toi (nI ((lrn (lC x) sl k).1 (spP sl k))) (hc1 _ hqn) ?_
              refine V_sipush (v := nI 9999) cx 62 rfl dX5_learns_59 (by decide) ?_
              refine V_icmp_ge cx 65 69 rfl dX5_learns_62 (by decide) (fun c_62 => ?_) (fun c_62 => ?_)
              · skip
                have n_62 : (lrn (lC x) sl k).1 (spP sl k) ≥ 9999 := N_ge_t (by omega) (by omega) c_62
                refine V_iconst (v := nI 0) cx 70 rfl dX5_learns_69 (by decide) ?_
                refine V_istore_n (lc1 := [(3, .int (nI 0)), (2, .int (nI k)), (0, .ref (g 0)), (1, .int u)]) cx 71 rfl dX5_learns_70 (by decide) rfl ?_
                refine V_aload_n cx 72 rfl dX5_learns_71 2 rfl ?_
                refine GX5_16 cx 0 rfl rfl 75 rfl dX5_learns_72 ?_
                refine V_aload_n cx 76 rfl dX5_learns_75 2 rfl ?_
                refine GX5_49 cx 0 rfl rfl 79 rfl dX5_learns_76 ?_
                refine V_iload_n cx 80 rfl dX5_learns_79 1 rfl ?_
                refine V_ialdN cx k (rfl) (by omega) (by decide) 14 rfl 81 rfl dX5_learns_80 ?_
                refine V_toi (nI (spP sl k)) (hu1.2) ?_
                refine V_dup2 cx 82 rfl dX5_learns_81 rfl rfl ?_
                refine V_ialdN cx (spP sl k) (rfl) (by omega) (by decide) 3 rfl 83 rfl dX5_learns_82 ?_
                refine V_toi (nI ((lrn (lC x) sl k).1 (spP sl k))) (hc1 _ hqn) ?_
                refine V_iload_n cx 84 rfl dX5_learns_83 0 rfl ?_
                refine V_iadd cx 85 rfl dX5_learns_84 ?_
                refine V_toi (nI ((lrn (lC x) sl k).1 (spP sl k))) (nI_add _ _) ?_
                refine V_iastN cx (spP sl k) (rfl) (by omega) (by decide) 3 rfl (mW G g th np nl ld ll (nI sl.length) sp T S (upd C2 (spP sl k) (nI ((lrn (lC x) sl k).1 (spP sl k)))) F LT LS VE BA wd mo3 lt op1_7 pl1_8 pt1_9 ks ++ rs) rfl 86 rfl dX5_learns_85 ?_
                refine V_aload_n cx 87 rfl dX5_learns_86 2 rfl ?_
                refine GX5_37 cx 0 rfl rfl 90 rfl dX5_learns_87 ?_
                refine V_bipush (v := nI 16) cx 92 rfl dX5_learns_90 (by decide) ?_
                refine V_aload_n cx 93 rfl dX5_learns_92 2 rfl ?_
                refine GX5_163 cx 0 rfl rfl 96 rfl dX5_learns_93 ?_
                refine V_imul cx 97 rfl dX5_learns_96 ?_
                refine V_toi (nI (16 * ld)) (nI_mulN _ _) ?_
                refine V_aload_n cx 98 rfl dX5_learns_97 2 rfl ?_
                refine GX5_49 cx 0 rfl rfl 101 rfl dX5_learns_98 ?_
                refine V_iload_n cx 102 rfl dX5_learns_101 1 rfl ?_
                refine V_ialdN cx k (rfl) (by omega) (by decide) 14 rfl 103 rfl dX5_learns_102 ?_
                refine V_toi (nI (spP sl k)) (hu1.2) ?_
                refine V_iadd cx 104 rfl dX5_learns_103 ?_
                refine V_toi (nI ((16 * ld) + (spP sl k))) (nI_add _ _) ?_
                refine V_dup2 cx 105 rfl dX5_learns_104 rfl rfl ?_
                refine V_ialdN cx ((16 * ld) + (spP sl k)) (rfl) (by omega) (by decide) 10 rfl 106 rfl dX5_learns_105 ?_
                refine V_toi (nI ((lrn (lC x) sl k).2 (spP sl k))) (hc2 _ (by omega)) ?_
                refine V_iload_n cx 107 rfl dX5_learns_106 0 rfl ?_
                refine V_iadd cx 108 rfl dX5_learns_107 ?_
                refine V_toi (nI ((lrn (lC x) sl k).2 (spP sl k))) (nI_add _ _) ?_
                refine V_iastN cx ((16 * ld) + (spP sl k)) (rfl) (by omega) (by decide) 10 rfl (mW G g th np nl ld ll (nI sl.length) sp T S (upd C2 (spP sl k) (nI ((lrn (lC x) sl k).1 (spP sl k)))) F LT LS VE BA wd (upd mo3 ((16 * ld) + (spP sl k)) (nI ((lrn (lC x) sl k).2 (spP sl k)))) lt op1_7 pl1_8 pt1_9 ks ++ rs) rfl 109 rfl dX5_learns_108 ?_
                refine V_iinc (v := nI (k + 1)) (lc1 := [(2, .int (nI (k + 1))), (3, .int (nI 0)), (0, .ref (g 0)), (1, .int u)]) cx 112 rfl dX5_learns_109 1 rfl (nI_inc k 1) (by decide) rfl ?_
                refine V_goto cx 40 dX5_learns_112 (by decide) ?_
                refine V.locs [0, 2, 3] rfl ?_
                exact ih_40 (k + 1) (upd C2 (spP sl k) (nI ((lrn (lC x) sl k).1 (spP sl k)))) (upd mo3 ((16 * ld) + (spP sl k)) (nI ((lrn (lC x) sl k).2 (spP sl k)))) (by omega) (by intro p hp; rw [lrn]; first | (rw [if_pos n_62]; dsimp only; by_cases h : p = spP sl k; (rw [if_pos h, h]; exact upd_s _ _ _); (rw [if_neg h, upd_n _ _ h]; exact hc1 p hp)) | (rw [if_neg (by omega)]; unfold upd; split; (rename_i h; rw [h]); exact hc1 p hp)) (by intro p hp; rw [lrn]; first | (rw [if_pos n_62]; dsimp only; by_cases h : p = spP sl k; (rw [if_pos h, h]; exact upd_s _ _ _); (rw [if_neg h, upd_n _ _ (by omega)]; exact hc2 p hp)) | (rw [if_neg (by omega)]; by_cases h : p = spP sl k; (rw [h]; exact upd_s _ _ _); (rw [upd_n _ _ (by omega)]; exact hc2 p hp))) (by intro j hj; rw [upd_n _ _ (by omega)]; exact hc3 j hj) (by omega)
              · skip
                have n_62 : (lrn (lC x) sl k).1 (spP sl k) < 9999 := N_ge_f (by omega) (by omega) c_62
                refine V_iconst (v := nI 1) cx 66 rfl dX5_learns_65 (by decide) ?_
                refine V_goto cx 70 dX5_learns_66 (by decide) ?_
                refine V_istore_n (lc1 := [(3, .int (nI 1)), (2, .int (nI k)), (0, .ref (g 0)), (1, .int u)]) cx 71 rfl dX5_learns_70 (by decide) rfl ?_
                refine V_aload_n cx 72 rfl dX5_learns_71 2 rfl ?_
                refine GX5_16 cx 0 rfl rfl 75 rfl dX5_learns_72 ?_
                refine V_aload_n cx 76 rfl dX5_learns_75 2 rfl ?_
                refine GX5_49 cx 0 rfl rfl 79 rfl dX5_learns_76 ?_
                refine V_iload_n cx 80 rfl dX5_learns_79 1 rfl ?_
                refine V_ialdN cx k (rfl) (by omega) (by decide) 14 rfl 81 rfl dX5_learns_80 ?_
                refine V_toi (nI (spP sl k)) (hu1.2) ?_
                refine V_dup2 cx 82 rfl dX5_learns_81 rfl rfl ?_
                refine V_ialdN cx (spP sl k) (rfl) (by omega) (by decide) 3 rfl 83 rfl dX5_learns_82 ?_
                refine V_toi (nI ((lrn (lC x) sl k).1 (spP sl k))) (hc1 _ hqn) ?_
                refine V_iload_n cx 84 rfl dX5_learns_83 0 rfl ?_
                refine V_iadd cx 85 rfl dX5_learns_84 ?_
                refine V_toi (nI (((lrn (lC x) sl k).1 (spP sl k)) + 1)) (nI_add _ _) ?_
                refine V_iastN cx (spP sl k) (rfl) (by omega) (by decide) 3 rfl (mW G g th np nl ld ll (nI sl.length) sp T S (upd C2 (spP sl k) (nI (((lrn (lC x) sl k).1 (spP sl k)) + 1))) F LT LS VE BA wd mo3 lt op1_7 pl1_8 pt1_9 ks ++ rs) rfl 86 rfl dX5_learns_85 ?_
                refine V_aload_n cx 87 rfl dX5_learns_86 2 rfl ?_
                refine GX5_37 cx 0 rfl rfl 90 rfl dX5_learns_87 ?_
                refine V_bipush (v := nI 16) cx 92 rfl dX5_learns_90 (by decide) ?_
                refine V_aload_n cx 93 rfl dX5_learns_92 2 rfl ?_
                refine GX5_163 cx 0 rfl rfl 96 rfl dX5_learns_93 ?_
                refine V_imul cx 97 rfl dX5_learns_96 ?_
                refine V_toi (nI (16 * ld)) (nI_mulN _ _) ?_
                refine V_aload_n cx 98 rfl dX5_learns_97 2 rfl ?_
                refine GX5_49 cx 0 rfl rfl 101 rfl dX5_learns_98 ?_
                refine V_iload_n cx 102 rfl dX5_learns_101 1 rfl ?_
                refine V_ialdN cx k (rfl) (by omega) (by decide) 14 rfl 103 rfl dX5_learns_102 ?_
                refine V_toi (nI (spP sl k)) (hu1.2) ?_
                refine V_iadd cx 104 rfl dX5_learns_103 ?_
                refine V_toi (nI ((16 * ld) + (spP sl k))) (nI_add _ _) ?_
                refine V_dup2 cx 105 rfl dX5_learns_104 rfl rfl ?_
                refine V_ialdN cx ((16 * ld) + (spP sl k)) (rfl) (by omega) (by decide) 10 rfl 106 rfl dX5_learns_105 ?_
                refine V_toi (nI ((lrn (lC x) sl k).2 (spP sl k))) (hc2 _ (by omega)) ?_
                refine V_iload_n cx 107 rfl dX5_learns_106 0 rfl ?_
                refine V_iadd cx 108 rfl dX5_learns_107 ?_
                refine V_toi (nI (((lrn (lC x) sl k).2 (spP sl k)) + 1)) (nI_add _ _) ?_
                refine V_iastN cx ((16 * ld) + (spP sl k)) (rfl) (by omega) (by decide) 10 rfl (mW G g th np nl ld ll (nI sl.length) sp T S (upd C2 (spP sl k) (nI (((lrn (lC x) sl k).1 (spP sl k)) + 1))) F LT LS VE BA wd (upd mo3 ((16 * ld) + (spP sl k)) (nI (((lrn (lC x) sl k).2 (spP sl k)) + 1))) lt op1_7 pl1_8 pt1_9 ks ++ rs) rfl 109 rfl dX5_learns_108 ?_
                refine V_iinc (v := nI (k + 1)) (lc1 := [(2, .int (nI (k + 1))), (3, .int (nI 1)), (0, .ref (g 0)), (1, .int u)]) cx 112 rfl dX5_learns_109 1 rfl (nI_inc k 1) (by decide) rfl ?_
                refine V_goto cx 40 dX5_learns_112 (by decide) ?_
                refine V.locs [0, 2, 3] rfl ?_
                exact ih_40 (k + 1) (upd C2 (spP sl k) (nI (((lrn (lC x) sl k).1 (spP sl k)) + 1))) (upd mo3 ((16 * ld) + (spP sl k)) (nI (((lrn (lC x) sl k).2 (spP sl k)) + 1))) (by omega) (by intro p hp; rw [lrn]; first | (rw [if_pos n_62]; dsimp only; by_cases h : p = spP sl k; (rw [if_pos h, h]; exact upd_s _ _ _); (rw [if_neg h, upd_n _ _ h]; exact hc1 p hp)) | (rw [if_neg (by omega)]; unfold upd; split; (rename_i h; rw [h]); exact hc1 p hp)) (by intro p hp; rw [lrn]; first | (rw [if_pos n_62]; dsimp only; by_cases h : p = spP sl k; (rw [if_pos h, h]; exact upd_s _ _ _); (rw [if_neg h, upd_n _ _ (by omega)]; exact hc2 p hp)) | (rw [if_neg (by omega)]; by_cases h : p = spP sl k; (rw [h]; exact upd_s _ _ _); (rw [upd_n _ _ (by omega)]; exact hc2 p hp))) (by intro j hj; rw [upd_n _ _ (by omega)]; exact hc3 j hj) (by omega)
        refine V.locs [0, 1, 2] rfl ?_
        exact loop_40 _ 0 C mo2 (by omega) (by exact hC) (by intro q hq; exact hm1 q (by omega)) (by exact hm2) (Nat.lt_succ_self _)
      · skip
        have n_14 : p < 16 := N_ge_f (by omega) (by omega) c_14
        refine V_aload_n cx 18 rfl dX5_learns_17 1 rfl ?_
        refine GX5_37 cx 0 rfl rfl 21 rfl dX5_learns_18 ?_
        refine V_bipush (v := nI 16) cx 23 rfl dX5_learns_21 (by decide) ?_
        refine V_aload_n cx 24 rfl dX5_learns_23 1 rfl ?_
        refine GX5_163 cx 0 rfl rfl 27 rfl dX5_learns_24 ?_
        refine V_imul cx 28 rfl dX5_learns_27 ?_
        refine V_toi (nI (16 * ld)) (nI_mulN _ _) ?_
        refine V_iload_n cx 29 rfl dX5_learns_28 0 rfl ?_
        refine V_iadd cx 30 rfl dX5_learns_29 ?_
        refine V_toi (nI ((16 * ld) + p)) (nI_add _ _) ?_
        refine V_iconst (v := nI 0) cx 31 rfl dX5_learns_30 (by decide) ?_
        refine V_iastN cx ((16 * ld) + p) (rfl) (by omega) (by decide) 10 rfl (mW G g th np nl ld ll (nI sl.length) sp T S C F LT LS VE BA wd (upd mo2 ((16 * ld) + p) (nI 0)) lt op1_7 pl1_8 pt1_9 ks ++ rs) rfl 32 rfl dX5_learns_31 ?_
        refine V_iinc (v := nI (p + 1)) (lc1 := [(2, .int (nI (p + 1))), (0, .ref (g 0)), (1, .int u)]) cx 35 rfl dX5_learns_32 0 rfl (nI_inc p 1) (by decide) rfl ?_
        refine V_goto cx 11 dX5_learns_35 (by decide) ?_
        refine V.locs [0, 1, 2] rfl ?_
        exact ih_11 (p + 1) (upd mo2 ((16 * ld) + p) (nI 0)) (by omega) (by intro q hq; unfold upd; split; rfl; exact hm1 q (by omega)) (by intro j hj; rw [upd_n _ _ (by omega)]; exact hm2 j hj) (by omega)
  refine V.locs [0, 1, 2] rfl ?_
  exact loop_11 _ 0 mo (by omega) (by intro q hq; exact absurd hq (Nat.not_lt_zero q)) (by intro j hj; rfl) (Nat.lt_succ_self _)
set_option maxHeartbeats 4000000 in
set_option maxRecDepth 100000 in
theorem kX5_learn (l : Launch) (lo : Nat) (G : vG) (rs : va_W) (g : Nat → Nat) (th : Nat) (np : Nat) (nl : Nat) (ld : Nat) (ll : Nat) (mn : Int32) (sp : Nat) (T : Nat → Int32) (S : Nat → Int32) (C : Nat → Int32) (F : Nat → Int32) (LT : Nat → Int32) (LS : Nat → Int32) (VE : Nat → Int32) (BA : Nat → Int32) (wd : Nat → Int32) (mo : Nat → Int32) (lt : Nat → Int32) (op : Nat → Int32) (pl : Nat → Int32) (pt : Nat → Int32) (ks : Nat → Int64) (u : Int32) (x : LX) (hok : lxOK x) (hmk : mOK x np nl T S C F LT LS VE BA) (hR : rkOK x) (hld : ld ≤ 50) : Mi l yX5_learn (.code yX5_learn prog_7_method_42_code 3 (some .boolean)) 6 0 0 lo G [.ref (g 0), .int u] (mW G g th np nl ld ll mn sp T S C F LT LS VE BA wd mo lt op pl pt ks ++ rs) (fun (r : Int32) ((th1, ld1, C1, mo1, wd1, ll1, mn1, sp1, lt1, op1, pl1, pt1, ks1) : (Nat) × (Nat) × (Nat → Int32) × (Nat → Int32) × (Nat → Int32) × (Nat) × (Int32) × (Nat) × (Nat → Int32) × (Nat → Int32) × (Nat → Int32) × (Nat → Int32) × (Nat → Int64)) => mLearn x np u r ld C mo wd th1 ld1 C1 mo1 wd1) (fun ((th1, ld1, C1, mo1, wd1, ll1, mn1, sp1, lt1, op1, pl1, pt1, ks1) : (Nat) × (Nat) × (Nat → Int32) × (Nat → Int32) × (Nat → Int32) × (Nat) × (Int32) × (Nat) × (Nat → Int32) × (Nat → Int32) × (Nat → Int32) × (Nat → Int32) × (Nat → Int64)) => mW G g th1 np nl ld1 ll1 mn1 sp1 T S C1 F LT LS VE BA wd1 mo1 lt1 op1 pl1 pt1 ks1 ++ rs) := by
  refine Mi_of (lc := [(0, .ref (g 0)), (1, .int u)]) (by decide +kernel) (Nat.le_of_ble_eq_true rfl) rfl ?_
  intro X cx hXR hXl hr hin
  subst hXl
  have hX := RmX.of hXR
  obtain ⟨w, hw0⟩ : ∃ w, 0 < SZ u 8 → u = nI w ∧ w < 200000000 := by rcases Nat.eq_zero_or_pos (SZ u 8) with h | h; (exact ⟨0, fun h2 => by omega⟩); (obtain ⟨w, h1, _, _, _, h5⟩ := SZ_szN (by decide) h; exact ⟨w, fun _ => ⟨h1, h5⟩⟩)
  have hL8 := SZ_le u 8
  have hR2 := hR (dgt w (SZ u 8)) (SZ u 8) hL8
  refine V_aload_n cx 1 rfl dX5_learn_0 0 rfl ?_
  refine V_aload_n cx 2 rfl dX5_learn_1 0 rfl ?_
  refine V_iload_n cx 3 rfl dX5_learn_2 1 rfl ?_
  refine KX5_128 (As := [.int u]) (rest := [.ref (g 0)]) cx (kX5_takes (xl X) lo G _ g th np nl ld ll mn sp T S C F LT LS VE BA wd mo lt op pl pt ks u w (fun h => ⟨(hw0 h).1, by have := (hw0 h).2; omega⟩)) hX (by omega) 0 rfl rfl rfl (Nat.le_of_ble_eq_true rfl) 6 0 0 rfl rfl rfl (by omega) (by omega) dX5_learn_3 (fun r_1 u_2 hw_3 => ?_)
  obtain ⟨lt1_4, rfl⟩ : ∃ z, z = u_2 := ⟨_, rfl⟩
  try dsimp only at hw_3
  obtain ⟨hw_3, hp_5⟩ := hw_3
  subst hw_3
  have hltw := hp_5
  refine V_if_ne cx 9 13 rfl dX5_learn_6 (by decide) (fun c_6 => ?_) (fun c_6 => ?_)
  · skip
    have n_6 := B_ne_t c_6
    try simp only [decide_eq_true_eq, decide_eq_false_iff_not] at n_6
    refine V_aload_n cx 14 rfl dX5_learn_13 0 rfl ?_
    refine GX5_163 cx 0 rfl rfl 17 rfl dX5_learn_14 ?_
    refine V_bipush (v := nI 50) cx 19 rfl dX5_learn_17 (by decide) ?_
    refine V_icmp_ne cx 22 26 rfl dX5_learn_19 (by decide) (fun c_19 => ?_) (fun c_19 => ?_)
    · skip
      have n_19 : ld ≠ 50 := N_ne_t (by omega) (by omega) c_19
      refine V_iconst (v := nI 0) cx 27 rfl dX5_learn_26 (by decide) ?_
      refine PX5_56 cx 0 rfl (Nat.le_of_ble_eq_true rfl) (mW G g 0 np nl ld (SZ u 8) mn sp T S C F LT LS VE BA wd mo lt1_4 op pl pt ks ++ rs) rfl 30 rfl dX5_learn_27 ?_
      refine V_aload_n cx 31 rfl dX5_learn_30 0 rfl ?_
      refine GX5_56 cx 0 rfl rfl 34 rfl dX5_learn_31 ?_
      refine V_if_le cx 37 39 rfl dX5_learn_34 (by decide) (fun c_34 => ?_) (fun c_34 => ?_)
      · skip
        refine V_aload_n cx 40 rfl dX5_learn_39 0 rfl ?_
        refine KX5_131 (As := []) (rest := []) cx (kX5_laysSplits (xl X) lo G _ g 0 np nl ld (SZ u 8) mn sp T S C F LT LS VE BA wd mo lt1_4 op pl pt ks x (dgt w (SZ u 8)) hok hmk (by omega) hltw (fun k => dgt_lt w _ k) (by omega) hR2.1) hX (by omega) 0 rfl rfl rfl (Nat.le_of_ble_eq_true rfl) 43 0 0 rfl rfl rfl (by omega) (by omega) dX5_learn_40 (fun u_7 hw_8 => ?_)
        obtain ⟨op1_9, pl1_10, pt1_11, ks1_12⟩ := u_7
        try dsimp only at hw_8
        have hKS := hw_8
        have hasked : asked x u w (SZ u 8) (mEn x (dgt w (SZ u 8)) (SZ u 8)).length _ _ := ⟨(hw0 n_6).1, (hw0 n_6).2, by omega, hL8, rfl, hltw, rfl, hKS⟩
        refine V_aload_n cx 44 rfl dX5_learn_43 0 rfl ?_
        refine GX5_118 cx 0 rfl rfl 47 rfl dX5_learn_44 ?_
        refine V_iconst (v := nI 1) cx 48 rfl dX5_learn_47 (by decide) ?_
        refine V_icmp_eq cx 51 81 rfl dX5_learn_48 (by decide) (fun c_48 => ?_) (fun c_48 => ?_)
        · skip
          have n_48 : (mEn x (dgt w (SZ u 8)) (SZ u 8)).length = 1 := N_eq_t (by have := hR2.1; omega) (by omega) c_48
          refine V_iconst (v := nI 1) cx 82 rfl dX5_learn_81 (by decide) ?_
          refine V_goto cx 86 dX5_learn_82 (by decide) ?_
          refine V_istore_n (lc1 := [(2, .int (nI 1)), (0, .ref (g 0)), (1, .int u)]) cx 87 rfl dX5_learn_86 (by decide) rfl ?_
          refine V_iload_n cx 88 rfl dX5_learn_87 0 rfl ?_
          refine V_if_eq cx 91 96 rfl dX5_learn_88 (by decide) (fun c_88 => ?_) (fun c_88 => ?_)
          · skip
            exact absurd c_88 (by decide)
          · skip
            refine V_aload_n cx 92 rfl dX5_learn_91 1 rfl ?_
            refine V_iload_n cx 93 rfl dX5_learn_92 2 rfl ?_
            refine KX5_166 (As := [.int u]) (rest := []) cx (kX5_learns (xl X) lo G _ g 0 np nl ld (SZ u 8) (nI 0 - nI 1) ((mEn x (dgt w (SZ u 8)) (SZ u 8)).length) T S C F LT LS VE BA wd mo lt1_4 op1_9 pl1_10 pt1_11 ks1_12 u x w hok hmk hR hasked (by omega) (by omega)) hX (by omega) 0 rfl rfl rfl (Nat.le_of_ble_eq_true rfl) 96 0 0 rfl rfl rfl (by omega) (by omega) dX5_learn_93 (fun u_14 hw_15 => ?_)
            obtain ⟨mn1_16, C1_17, mo1_18, op1_19, pl1_20, pt1_21⟩ := u_14
            try dsimp only at hw_15
            refine V_iload_n cx 97 rfl dX5_learn_96 0 rfl ?_
            exact V_zreturn cx hr (by first | rfl | exact bI_z _) (0, ld + 1, C1_17, mo1_18, upd wd ld u, SZ u 8, mn1_16, (mEn x (dgt w (SZ u 8)) (SZ u 8)).length, lt1_4, op1_19, pl1_20, pt1_21, ks1_12) (Or.inr (Or.inr ⟨w, (hw0 n_6).1, (hw0 n_6).2, n_6, by omega, rfl, Or.inl (by obtain ⟨sl, g1, g2⟩ := hw_15; exact ⟨sl, g1, by first | exact Or.inl n_48 | (refine Or.inr ⟨n_56, s2, hsel2, ?_⟩; have e : costL x sl = costL x s1 := (by unfold costL; rw [sel0_eq hR2.1 g1 hsel1]); omega), rfl, rfl, g2, rfl⟩)⟩)) rfl (by omega) (by omega) dX5_learn_97
        · skip
          have n_48 : (mEn x (dgt w (SZ u 8)) (SZ u 8)).length ≠ 1 := N_eq_f (by have := hR2.1; omega) (by omega) c_48
          refine V_aload_n cx 52 rfl dX5_learn_51 0 rfl ?_
          refine GX5_118 cx 0 rfl rfl 55 rfl dX5_learn_52 ?_
          refine V_iconst (v := nI 1) cx 56 rfl dX5_learn_55 (by decide) ?_
          refine V_icmp_le cx 59 85 rfl dX5_learn_56 (by decide) (fun c_56 => ?_) (fun c_56 => ?_)
          · skip
            have n_56 : (mEn x (dgt w (SZ u 8)) (SZ u 8)).length ≤ 1 := N_le_t (by have := hR2.1; omega) (by omega) c_56
            refine V_iconst (v := nI 0) cx 86 rfl dX5_learn_85 (by decide) ?_
            refine V_istore_n (lc1 := [(2, .int (nI 0)), (0, .ref (g 0)), (1, .int u)]) cx 87 rfl dX5_learn_86 (by decide) rfl ?_
            refine V_iload_n cx 88 rfl dX5_learn_87 0 rfl ?_
            refine V_if_eq cx 91 96 rfl dX5_learn_88 (by decide) (fun c_88 => ?_) (fun c_88 => ?_)
            · skip
              refine V_iload_n cx 97 rfl dX5_learn_96 0 rfl ?_
              exact V_zreturn cx hr (by first | rfl | exact bI_z _) (0, ld, C, mo, wd, SZ u 8, nI 0 - nI 1, (mEn x (dgt w (SZ u 8)) (SZ u 8)).length, lt1_4, op1_9, pl1_10, pt1_11, ks1_12) (Or.inr (Or.inr ⟨w, (hw0 n_6).1, (hw0 n_6).2, n_6, by omega, rfl, Or.inr ⟨rfl, rfl, rfl, rfl, rfl, by first | (left; omega) | exact Or.inr ⟨s1, s2, hsel1, hsel2, n_78⟩⟩⟩)) rfl (by omega) (by omega) dX5_learn_97
            · skip
              exact absurd c_88 (by decide)
          · skip
            have n_56 : (mEn x (dgt w (SZ u 8)) (SZ u 8)).length > 1 := N_le_f (by have := hR2.1; omega) (by omega) c_56
            refine V_aload_n cx 60 rfl dX5_learn_59 0 rfl ?_
            refine V_iconst (v := nI 1) cx 61 rfl dX5_learn_60 (by decide) ?_
            refine KX5_143 (As := [.int (nI 1)]) (rest := []) cx (kX5_keyAt (xl X) lo G _ g 0 np nl ld (SZ u 8) (nI 0 - nI 1) ((mEn x (dgt w (SZ u 8)) (SZ u 8)).length) T S C F LT LS VE BA wd mo lt1_4 op1_9 pl1_10 pt1_11 ks1_12 (nI 1) hR2.1) hX (by omega) 0 rfl rfl rfl (Nat.le_of_ble_eq_true rfl) 64 0 0 rfl rfl rfl (by omega) (by omega) dX5_learn_61 (fun r_22 u_23 hw_24 => ?_)
            try dsimp only at hw_24
            subst hw_24
            obtain ⟨o2, ho2, hsel2⟩ := selK_sel (k := nI 1) hasked.bd hKS
            obtain ⟨s2, rfl⟩ := sel_some (hR2.2 1 (by omega)) hsel2
            have hKb2 := hasked.bd s2 hsel2.1
            refine V_tol (lN (mkl x s2)) (ho2) ?_
            refine KX5_151 (As := [.long (lN (mkl x s2))]) (rest := []) cx (kX5_costOfKey (xl X) lo G _ (mkl x s2) hKb2) hX (by omega) rfl rfl (Nat.le_of_ble_eq_true rfl) 67 0 0 rfl rfl rfl (by omega) (by omega) dX5_learn_64 (fun r_25 u_26 hw_27 => ?_)
            try dsimp only at hw_27
            subst hw_27
            refine V_toi (nI (costL x s2)) (rfl) ?_
            refine V_aload_n cx 68 rfl dX5_learn_67 0 rfl ?_
            refine V_iconst (v := nI 0) cx 69 rfl dX5_learn_68 (by decide) ?_
            refine KX5_143 (As := [.int (nI 0)]) (rest := [.int (nI (costL x s2))]) cx (kX5_keyAt (xl X) lo G _ g 0 np nl ld (SZ u 8) (nI 0 - nI 1) ((mEn x (dgt w (SZ u 8)) (SZ u 8)).length) T S C F LT LS VE BA wd mo lt1_4 op1_9 pl1_10 pt1_11 ks1_12 (nI 0) hR2.1) hX (by omega) 0 rfl rfl rfl (Nat.le_of_ble_eq_true rfl) 72 0 0 rfl rfl rfl (by omega) (by omega) dX5_learn_69 (fun r_28 u_29 hw_30 => ?_)
            try dsimp only at hw_30
            subst hw_30
            obtain ⟨o1, ho1, hsel1⟩ := selK_sel (k := nI 0) hasked.bd hKS
            obtain ⟨s1, rfl⟩ := sel_some (hR2.2 0 (by omega)) hsel1
            have hKb1 := hasked.bd s1 hsel1.1
            refine V_tol (lN (mkl x s1)) (ho1) ?_
            refine KX5_151 (As := [.long (lN (mkl x s1))]) (rest := [.int (nI (costL x s2))]) cx (kX5_costOfKey (xl X) lo G _ (mkl x s1) hKb1) hX (by omega) rfl rfl (Nat.le_of_ble_eq_true rfl) 75 0 0 rfl rfl rfl (by omega) (by omega) dX5_learn_72 (fun r_31 u_32 hw_33 => ?_)
            try dsimp only at hw_33
            subst hw_33
            refine V_toi (nI (costL x s1)) (rfl) ?_
            refine V_bipush (v := nI 20) cx 77 rfl dX5_learn_75 (by decide) ?_
            refine V_iadd cx 78 rfl dX5_learn_77 ?_
            refine V_toi (nI ((costL x s1) + 20)) (nI_add _ _) ?_
            refine V_icmp_lt cx 81 85 rfl dX5_learn_78 (by decide) (fun c_78 => ?_) (fun c_78 => ?_)
            · skip
              have hq1 := costL_lt (hasked.vs hsel1.1) hL8
              have hq2 := costL_lt (hasked.vs hsel2.1) hL8
              have n_78 : costL x s2 < costL x s1 + 20 := N_lt_t (by omega) (by omega) c_78
              refine V_iconst (v := nI 0) cx 86 rfl dX5_learn_85 (by decide) ?_
              refine V_istore_n (lc1 := [(2, .int (nI 0)), (0, .ref (g 0)), (1, .int u)]) cx 87 rfl dX5_learn_86 (by decide) rfl ?_
              refine V_iload_n cx 88 rfl dX5_learn_87 0 rfl ?_
              refine V_if_eq cx 91 96 rfl dX5_learn_88 (by decide) (fun c_88 => ?_) (fun c_88 => ?_)
              · skip
                refine V_iload_n cx 97 rfl dX5_learn_96 0 rfl ?_
                exact V_zreturn cx hr (by first | rfl | exact bI_z _) (0, ld, C, mo, wd, SZ u 8, nI 0 - nI 1, (mEn x (dgt w (SZ u 8)) (SZ u 8)).length, lt1_4, op1_9, pl1_10, pt1_11, ks1_12) (Or.inr (Or.inr ⟨w, (hw0 n_6).1, (hw0 n_6).2, n_6, by omega, rfl, Or.inr ⟨rfl, rfl, rfl, rfl, rfl, by first | (left; omega) | exact Or.inr ⟨s1, s2, hsel1, hsel2, n_78⟩⟩⟩)) rfl (by omega) (by omega) dX5_learn_97
              · skip
                exact absurd c_88 (by decide)
            · skip
              have hq1 := costL_lt (hasked.vs hsel1.1) hL8
              have hq2 := costL_lt (hasked.vs hsel2.1) hL8
              have n_78 : costL x s2 ≥ costL x s1 + 20 := N_lt_f (by omega) (by omega) c_78
              refine V_iconst (v := nI 1) cx 82 rfl dX5_learn_81 (by decide) ?_
              refine V_goto cx 86 dX5_learn_82 (by decide) ?_
              refine V_istore_n (lc1 := [(2, .int (nI 1)), (0, .ref (g 0)), (1, .int u)]) cx 87 rfl dX5_learn_86 (by decide) rfl ?_
              refine V_iload_n cx 88 rfl dX5_learn_87 0 rfl ?_
              refine V_if_eq cx 91 96 rfl dX5_learn_88 (by decide) (fun c_88 => ?_) (fun c_88 => ?_)
              · skip
                exact absurd c_88 (by decide)
              · skip
                refine V_aload_n cx 92 rfl dX5_learn_91 1 rfl ?_
                refine V_iload_n cx 93 rfl dX5_learn_92 2 rfl ?_
                refine KX5_166 (As := [.int u]) (rest := []) cx (kX5_learns (xl X) lo G _ g 0 np nl ld (SZ u 8) (nI 0 - nI 1) ((mEn x (dgt w (SZ u 8)) (SZ u 8)).length) T S C F LT LS VE BA wd mo lt1_4 op1_9 pl1_10 pt1_11 ks1_12 u x w hok hmk hR hasked (by omega) (by omega)) hX (by omega) 0 rfl rfl rfl (Nat.le_of_ble_eq_true rfl) 96 0 0 rfl rfl rfl (by omega) (by omega) dX5_learn_93 (fun u_35 hw_36 => ?_)
                obtain ⟨mn1_37, C1_38, mo1_39, op1_40, pl1_41, pt1_42⟩ := u_35
                try dsimp only at hw_36
                refine V_iload_n cx 97 rfl dX5_learn_96 0 rfl ?_
                exact V_zreturn cx hr (by first | rfl | exact bI_z _) (0, ld + 1, C1_38, mo1_39, upd wd ld u, SZ u 8, mn1_37, (mEn x (dgt w (SZ u 8)) (SZ u 8)).length, lt1_4, op1_40, pl1_41, pt1_42, ks1_12) (Or.inr (Or.inr ⟨w, (hw0 n_6).1, (hw0 n_6).2, n_6, by omega, rfl, Or.inl (by obtain ⟨sl, g1, g2⟩ := hw_36; exact ⟨sl, g1, by first | exact Or.inl n_48 | (refine Or.inr ⟨n_56, s2, hsel2, ?_⟩; have e : costL x sl = costL x s1 := (by unfold costL; rw [sel0_eq hR2.1 g1 hsel1]); omega), rfl, rfl, g2, rfl⟩)⟩)) rfl (by omega) (by omega) dX5_learn_97
      · skip
        exact absurd c_34 (by decide)
    · skip
      have n_19 : ld = 50 := N_ne_f (by omega) (by omega) c_19
      refine V_iconst (v := nI 2) cx 23 rfl dX5_learn_22 (by decide) ?_
      refine V_goto cx 27 dX5_learn_23 (by decide) ?_
      refine PX5_56 cx 0 rfl (Nat.le_of_ble_eq_true rfl) (mW G g 2 np nl ld (SZ u 8) mn sp T S C F LT LS VE BA wd mo lt1_4 op pl pt ks ++ rs) rfl 30 rfl dX5_learn_27 ?_
      refine V_aload_n cx 31 rfl dX5_learn_30 0 rfl ?_
      refine GX5_56 cx 0 rfl rfl 34 rfl dX5_learn_31 ?_
      refine V_if_le cx 37 39 rfl dX5_learn_34 (by decide) (fun c_34 => ?_) (fun c_34 => ?_)
      · skip
        exact absurd c_34 (by decide)
      · skip
        refine V_iconst (v := nI 0) cx 38 rfl dX5_learn_37 (by decide) ?_
        exact V_zreturn cx hr (by first | rfl | exact bI_z _) (2, ld, C, mo, wd, SZ u 8, mn, sp, lt1_4, op, pl, pt, ks) (Or.inr (Or.inl ⟨n_6, n_19, rfl, rfl, rfl, rfl, rfl⟩)) rfl (by omega) (by omega) dX5_learn_38
  · skip
    have n_6 := B_ne_f c_6
    try simp only [decide_eq_true_eq, decide_eq_false_iff_not] at n_6
    refine V_iconst (v := nI 1) cx 10 rfl dX5_learn_9 (by decide) ?_
    refine V_goto cx 27 dX5_learn_10 (by decide) ?_
    refine PX5_56 cx 0 rfl (Nat.le_of_ble_eq_true rfl) (mW G g 1 np nl ld (SZ u 8) mn sp T S C F LT LS VE BA wd mo lt1_4 op pl pt ks ++ rs) rfl 30 rfl dX5_learn_27 ?_
    refine V_aload_n cx 31 rfl dX5_learn_30 0 rfl ?_
    refine GX5_56 cx 0 rfl rfl 34 rfl dX5_learn_31 ?_
    refine V_if_le cx 37 39 rfl dX5_learn_34 (by decide) (fun c_34 => ?_) (fun c_34 => ?_)
    · skip
      exact absurd c_34 (by decide)
    · skip
      refine V_iconst (v := nI 0) cx 38 rfl dX5_learn_37 (by decide) ?_
      exact V_zreturn cx hr (by first | rfl | exact bI_z _) (1, ld, C, mo, wd, SZ u 8, mn, sp, lt1_4, op, pl, pt, ks) (Or.inl ⟨by omega, rfl, rfl, rfl, rfl, rfl⟩) rfl (by omega) (by omega) dX5_learn_38
set_option maxHeartbeats 4000000 in
set_option maxRecDepth 100000 in
theorem kX5_forget (l : Launch) (lo : Nat) (G : vG) (rs : va_W) (g : Nat → Nat) (th : Nat) (np : Nat) (nl : Nat) (ld : Nat) (ll : Nat) (mn : Int32) (sp : Nat) (T : Nat → Int32) (S : Nat → Int32) (C : Nat → Int32) (F : Nat → Int32) (LT : Nat → Int32) (LS : Nat → Int32) (VE : Nat → Int32) (BA : Nat → Int32) (wd : Nat → Int32) (mo : Nat → Int32) (lt : Nat → Int32) (op : Nat → Int32) (pl : Nat → Int32) (pt : Nat → Int32) (ks : Nat → Int64) (hnp : np ≤ 16) (hld : ld ≤ 50) : Mi l yX5_forget (.code yX5_forget prog_7_method_43_code 2 (some .int)) 3 0 0 lo G [.ref (g 0)] (mW G g th np nl ld ll mn sp T S C F LT LS VE BA wd mo lt op pl pt ks ++ rs) (fun (r : Int32) ((th1, ld1, C1) : (Nat) × (Nat) × (Nat → Int32)) => (ld = 0 ∧ th1 = 1 ∧ ld1 = ld ∧ C1 = C) ∨ (0 < ld ∧ th1 = 0 ∧ ld1 = ld - 1 ∧ r = wd (ld - 1) ∧ ∀ p, p < np → C1 p = C p - mo (16 * (ld - 1) + p))) (fun ((th1, ld1, C1) : (Nat) × (Nat) × (Nat → Int32)) => mW G g th1 np nl ld1 ll mn sp T S C1 F LT LS VE BA wd mo lt op pl pt ks ++ rs) := by
  refine Mi_of (lc := [(0, .ref (g 0))]) (by decide +kernel) (Nat.le_of_ble_eq_true rfl) rfl ?_
  intro X cx hXR hXl hr hin
  subst hXl
  have hX := RmX.of hXR
  refine V_aload_n cx 1 rfl dX5_forget_0 0 rfl ?_
  refine V_aload_n cx 2 rfl dX5_forget_1 0 rfl ?_
  refine GX5_163 cx 0 rfl rfl 5 rfl dX5_forget_2 ?_
  refine V_if_ne cx 8 12 rfl dX5_forget_5 (by decide) (fun c_5 => ?_) (fun c_5 => ?_)
  · skip
    have n_5 : ld ≠ 0 := Z_ne_t (by omega) c_5
    refine V_iconst (v := nI 0) cx 13 rfl dX5_forget_12 (by decide) ?_
    refine PX5_56 cx 0 rfl (Nat.le_of_ble_eq_true rfl) (mW G g 0 np nl ld ll mn sp T S C F LT LS VE BA wd mo lt op pl pt ks ++ rs) rfl 16 rfl dX5_forget_13 ?_
    refine V_aload_n cx 17 rfl dX5_forget_16 0 rfl ?_
    refine GX5_56 cx 0 rfl rfl 20 rfl dX5_forget_17 ?_
    refine V_if_le cx 23 25 rfl dX5_forget_20 (by decide) (fun c_20 => ?_) (fun c_20 => ?_)
    · skip
      refine V_aload_n cx 26 rfl dX5_forget_25 0 rfl ?_
      refine V_dup cx 27 rfl dX5_forget_26 rfl ?_
      refine GX5_163 cx 0 rfl rfl 30 rfl dX5_forget_27 ?_
      refine V_iconst (v := nI 1) cx 31 rfl dX5_forget_30 (by decide) ?_
      refine V_isub cx 32 rfl dX5_forget_31 ?_
      refine V_toi (nI (ld - 1)) (nI_subN (by omega)) ?_
      refine PX5_163 cx 0 rfl (Nat.le_of_ble_eq_true rfl) (mW G g 0 np nl (ld - 1) ll mn sp T S C F LT LS VE BA wd mo lt op pl pt ks ++ rs) rfl 35 rfl dX5_forget_32 ?_
      refine V_iconst (v := nI 0) cx 36 rfl dX5_forget_35 (by decide) ?_
      refine V_istore_n (lc1 := [(1, .int (nI 0)), (0, .ref (g 0))]) cx 37 rfl dX5_forget_36 (by decide) rfl ?_
      have loop_37 : ∀ (fuel : Nat) (p : Nat) (C2 : Nat → Int32), (p ≤ np) → (∀ q, q < p → C2 q = C q - mo (16 * (ld - 1) + q)) → (∀ q, p ≤ q → C2 q = C q) → np - p < fuel → V X lo 2 G (Qi X lo G (fun (r : Int32) ((th1, ld1, C1) : (Nat) × (Nat) × (Nat → Int32)) => (ld = 0 ∧ th1 = 1 ∧ ld1 = ld ∧ C1 = C) ∨ (0 < ld ∧ th1 = 0 ∧ ld1 = ld - 1 ∧ r = wd (ld - 1) ∧ ∀ p, p < np → C1 p = C p - mo (16 * (ld - 1) + p))) (fun ((th1, ld1, C1) : (Nat) × (Nat) × (Nat → Int32)) => mW G g th1 np nl ld1 ll mn sp T S C1 F LT LS VE BA wd mo lt op pl pt ks ++ rs) 0 0) 0 0 (mW G g 0 np nl (ld - 1) ll mn sp T S C2 F LT LS VE BA wd mo lt op pl pt ks ++ rs) [(1, .int (nI p)), (0, .ref (g 0))] [] 37 := by
        intro fuel
        induction fuel with
        | zero => intro p C2 hp h1 h2 hmz; exact absurd hmz (Nat.not_lt_zero _)
        | succ fuel ih_37 =>
          intro p C2 hp h1 h2 hmz_37
          refine V_iload_n cx 38 rfl dX5_forget_37 0 rfl ?_
          refine V_aload_n cx 39 rfl dX5_forget_38 1 rfl ?_
          refine GX5_68 cx 0 rfl rfl 42 rfl dX5_forget_39 ?_
          refine V_icmp_ge cx 45 74 rfl dX5_forget_42 (by decide) (fun c_42 => ?_) (fun c_42 => ?_)
          · skip
            have n_42 : p ≥ np := N_ge_t (by omega) (by omega) c_42
            refine V_aload_n cx 75 rfl dX5_forget_74 1 rfl ?_
            refine GX5_34 cx 0 rfl rfl 78 rfl dX5_forget_75 ?_
            refine V_aload_n cx 79 rfl dX5_forget_78 1 rfl ?_
            refine GX5_163 cx 0 rfl rfl 82 rfl dX5_forget_79 ?_
            refine V_ialdN cx (ld - 1) (rfl) (by omega) (by decide) 9 rfl 83 rfl dX5_forget_82 ?_
            exact V_ireturn cx hr (0, ld - 1, C2) (Or.inr ⟨by omega, rfl, rfl, rfl, fun q hq => h1 q (by omega)⟩) rfl (by omega) (by omega) dX5_forget_83
          · skip
            have n_42 : p < np := N_ge_f (by omega) (by omega) c_42
            refine V_aload_n cx 46 rfl dX5_forget_45 1 rfl ?_
            refine GX5_16 cx 0 rfl rfl 49 rfl dX5_forget_46 ?_
            refine V_iload_n cx 50 rfl dX5_forget_49 0 rfl ?_
            refine V_dup2 cx 51 rfl dX5_forget_50 rfl rfl ?_
            refine V_ialdN cx p (rfl) (by omega) (by decide) 3 rfl 52 rfl dX5_forget_51 ?_
            refine V_aload_n cx 53 rfl dX5_forget_52 1 rfl ?_
            refine GX5_37 cx 0 rfl rfl 56 rfl dX5_forget_53 ?_
            refine V_bipush (v := nI 16) cx 58 rfl dX5_forget_56 (by decide) ?_
            refine V_aload_n cx 59 rfl dX5_forget_58 1 rfl ?_
            refine GX5_163 cx 0 rfl rfl 62 rfl dX5_forget_59 ?_
            refine V_imul cx 63 rfl dX5_forget_62 ?_
            refine V_toi (nI (16 * (ld - 1))) (nI_mulN _ _) ?_
            refine V_iload_n cx 64 rfl dX5_forget_63 0 rfl ?_
            refine V_iadd cx 65 rfl dX5_forget_64 ?_
            refine V_toi (nI ((16 * (ld - 1)) + p)) (nI_add _ _) ?_
            refine V_ialdN cx ((16 * (ld - 1)) + p) (rfl) (by omega) (by decide) 10 rfl 66 rfl dX5_forget_65 ?_
            refine V_isub cx 67 rfl dX5_forget_66 ?_
            refine V_iastN cx p (rfl) (by omega) (by decide) 3 rfl (mW G g 0 np nl (ld - 1) ll mn sp T S (upd C2 p ((C2 p) - (mo ((16 * (ld - 1)) + p)))) F LT LS VE BA wd mo lt op pl pt ks ++ rs) rfl 68 rfl dX5_forget_67 ?_
            refine V_iinc (v := nI (p + 1)) (lc1 := [(1, .int (nI (p + 1))), (0, .ref (g 0))]) cx 71 rfl dX5_forget_68 0 rfl (nI_inc p 1) (by decide) rfl ?_
            refine V_goto cx 37 dX5_forget_71 (by decide) ?_
            refine V.locs [0, 1] rfl ?_
            exact ih_37 (p + 1) (upd C2 p ((C2 p) - (mo ((16 * (ld - 1)) + p)))) (by omega) (by intro q hq; unfold upd; split; (rename_i h; subst h; rw [h2 q (Nat.le_refl q)]); exact h1 q (by omega)) (by intro q hq; rw [upd_n _ _ (by omega)]; exact h2 q (by omega)) (by omega)
      refine V.locs [0, 1] rfl ?_
      exact loop_37 _ 0 C (by omega) (by intro q hq; exact absurd hq (Nat.not_lt_zero q)) (by intro q _; rfl) (Nat.lt_succ_self _)
    · skip
      exact absurd c_20 (by decide)
  · skip
    have n_5 : ld = 0 := Z_ne_f (by omega) c_5
    refine V_iconst (v := nI 1) cx 9 rfl dX5_forget_8 (by decide) ?_
    refine V_goto cx 13 dX5_forget_9 (by decide) ?_
    refine PX5_56 cx 0 rfl (Nat.le_of_ble_eq_true rfl) (mW G g 1 np nl ld ll mn sp T S C F LT LS VE BA wd mo lt op pl pt ks ++ rs) rfl 16 rfl dX5_forget_13 ?_
    refine V_aload_n cx 17 rfl dX5_forget_16 0 rfl ?_
    refine GX5_56 cx 0 rfl rfl 20 rfl dX5_forget_17 ?_
    refine V_if_le cx 23 25 rfl dX5_forget_20 (by decide) (fun c_20 => ?_) (fun c_20 => ?_)
    · skip
      exact absurd c_20 (by decide)
    · skip
      refine V_iconst (v := nI 0) cx 24 rfl dX5_forget_23 (by decide) ?_
      exact V_ireturn cx hr (1, ld, C) (Or.inl ⟨n_5, rfl, rfl, rfl⟩) rfl (by omega) (by omega) dX5_forget_24
