set_option maxHeartbeats 4000000 in
set_option maxRecDepth 100000 in
theorem kX5_in (l : Launch) (lo : Nat) (G : vG) (rs : va_W) (v : Int32) (lo_ : Int32) (hi_ : Int32) : Mi l yX5_in (.code yX5_in prog_7_method_3_code 3 (some .boolean)) 1 0 0 lo G [.int v, .int lo_, .int hi_] (rs) (fun (r : Int32) (_ : Unit) => r = bI (decide (lo_ ≤ v ∧ v ≤ hi_))) (fun (_ : Unit) => rs) := by
  refine Mi_of (lc := [(0, .int v), (1, .int lo_), (2, .int hi_)]) (by decide +kernel) (Nat.le_of_ble_eq_true rfl) rfl ?_
  intro X cx hXR hXl hr hin
  subst hXl
  have hX := RmX.of hXR
  refine V_iload_n cx 1 rfl dX5_in_0 0 rfl ?_
  refine V_iload_n cx 2 rfl dX5_in_1 1 rfl ?_
  refine V_icmp_lt cx 5 14 rfl dX5_in_2 (by decide) (fun c_2 => ?_) (fun c_2 => ?_)
  · skip
    refine V_iconst (v := nI 0) cx 15 rfl dX5_in_14 (by decide) ?_
    exact V_zreturn cx hr (by first | rfl | exact bI_z _) () (bI_f (fun h => absurd c_2 (Int32.not_lt.mpr h.1))) rfl (by omega) (by omega) dX5_in_15
  · skip
    refine V_iload_n cx 6 rfl dX5_in_5 0 rfl ?_
    refine V_iload_n cx 7 rfl dX5_in_6 2 rfl ?_
    refine V_icmp_gt cx 10 14 rfl dX5_in_7 (by decide) (fun c_7 => ?_) (fun c_7 => ?_)
    · skip
      refine V_iconst (v := nI 0) cx 15 rfl dX5_in_14 (by decide) ?_
      exact V_zreturn cx hr (by first | rfl | exact bI_z _) () (bI_f (fun h => absurd c_7 (Int32.not_lt.mpr h.2))) rfl (by omega) (by omega) dX5_in_15
    · skip
      refine V_iconst (v := nI 1) cx 11 rfl dX5_in_10 (by decide) ?_
      refine V_goto cx 15 dX5_in_11 (by decide) ?_
      exact V_zreturn cx hr (by first | rfl | exact bI_z _) () (bI_t ⟨Int32.not_lt.mp c_2, Int32.not_lt.mp c_7⟩) rfl (by omega) (by omega) dX5_in_15
set_option maxHeartbeats 4000000 in
set_option maxRecDepth 100000 in
theorem kX5_power (l : Launch) (lo : Nat) (G : vG) (rs : va_W) (n : Nat) (hn : n ≤ 9) : Mi l yX5_power (.code yX5_power prog_7_method_4_code 3 (some .int)) 1 0 0 lo G [.int (nI n)] (rs) (fun (r : Int32) (_ : Unit) => r = nI (10 ^ n)) (fun (_ : Unit) => rs) := by
  refine Mi_of (lc := [(0, .int (nI n))]) (by decide +kernel) (Nat.le_of_ble_eq_true rfl) rfl ?_
  intro X cx hXR hXl hr hin
  subst hXl
  have hX := RmX.of hXR
  refine V_iconst (v := nI 1) cx 1 rfl dX5_power_0 (by decide) ?_
  refine V_istore_n (lc1 := [(1, .int (nI 1)), (0, .int (nI n))]) cx 2 rfl dX5_power_1 (by decide) rfl ?_
  refine V_iconst (v := nI 0) cx 3 rfl dX5_power_2 (by decide) ?_
  refine V_istore_n (lc1 := [(2, .int (nI 0)), (1, .int (nI 1)), (0, .int (nI n))]) cx 4 rfl dX5_power_3 (by decide) rfl ?_
  have loop_4 : ∀ (fuel : Nat) (i : Nat), (i ≤ n) → n - i < fuel → V X lo 3 G (Qi X lo G (fun (r : Int32) (_ : Unit) => r = nI (10 ^ n)) (fun (_ : Unit) => rs) 0 0) 0 0 (rs) [(2, .int (nI i)), (1, .int (nI (10 ^ i))), (0, .int (nI n))] [] 4 := by
    intro fuel
    induction fuel with
    | zero => intro i hi hmz; exact absurd hmz (Nat.not_lt_zero _)
    | succ fuel ih_4 =>
      intro i hi hmz_4
      refine V_iload_n cx 5 rfl dX5_power_4 0 rfl ?_
      refine V_iload_n cx 6 rfl dX5_power_5 2 rfl ?_
      refine V_icmp_ge cx 9 20 rfl dX5_power_6 (by decide) (fun c_6 => ?_) (fun c_6 => ?_)
      · skip
        have n_6 : i ≥ n := N_ge_t (by omega) (by omega) c_6
        refine V_iload_n cx 21 rfl dX5_power_20 1 rfl ?_
        exact V_ireturn cx hr () (by rw [show i = n by omega]) rfl (by omega) (by omega) dX5_power_21
      · skip
        have n_6 : i < n := N_ge_f (by omega) (by omega) c_6
        refine V_iload_n cx 10 rfl dX5_power_9 1 rfl ?_
        refine V_bipush (v := nI 10) cx 12 rfl dX5_power_10 (by decide) ?_
        refine V_imul cx 13 rfl dX5_power_12 ?_
        refine V_toi (nI ((10 ^ i) * 10)) (nI_mulN _ _) ?_
        refine V_istore_n (lc1 := [(1, .int (nI ((10 ^ i) * 10))), (2, .int (nI i)), (0, .int (nI n))]) cx 14 rfl dX5_power_13 (by decide) rfl ?_
        refine V_iinc (v := nI (i + 1)) (lc1 := [(2, .int (nI (i + 1))), (1, .int (nI ((10 ^ i) * 10))), (0, .int (nI n))]) cx 17 rfl dX5_power_14 1 rfl (nI_inc i 1) (by decide) rfl ?_
        refine V_goto cx 4 dX5_power_17 (by decide) ?_
        refine V.locs [0, 1, 2] rfl ?_
        have e10 : 10 ^ i * 10 = 10 ^ (i + 1) := (Nat.pow_succ ..).symm
        exact ih_4 (i + 1) (by omega) (by omega)
  refine V.locs [0, 1, 2] rfl ?_
  exact loop_4 _ 0 (by omega) (Nat.lt_succ_self _)
set_option maxHeartbeats 4000000 in
set_option maxRecDepth 100000 in
theorem kX5_sizeOf (l : Launch) (lo : Nat) (G : vG) (rs : va_W) (x : Int32) (m : Nat) (hm : m ≤ 8) : Mi l yX5_sizeOf (.code yX5_sizeOf prog_7_method_5_code 4 (some .int)) 2 0 0 lo G [.int x, .int (nI m)] (rs) (fun (r : Int32) (_ : Unit) => r = nI (SZ x m)) (fun (_ : Unit) => rs) := by
  refine Mi_of (lc := [(0, .int x), (1, .int (nI m))]) (by decide +kernel) (Nat.le_of_ble_eq_true rfl) rfl ?_
  intro X cx hXR hXl hr hin
  subst hXl
  have hX := RmX.of hXR
  refine V_iconst (v := nI 0) cx 1 rfl dX5_sizeOf_0 (by decide) ?_
  refine V_istore_n (lc1 := [(2, .int (nI 0)), (0, .int x), (1, .int (nI m))]) cx 2 rfl dX5_sizeOf_1 (by decide) rfl ?_
  refine V_iconst (v := nI 1) cx 3 rfl dX5_sizeOf_2 (by decide) ?_
  refine V_istore_n (lc1 := [(3, .int (nI 1)), (2, .int (nI 0)), (0, .int x), (1, .int (nI m))]) cx 4 rfl dX5_sizeOf_3 (by decide) rfl ?_
  have loop_4 : ∀ (fuel : Nat) (i : Nat) (f : Nat), (1 ≤ i ∧ i ≤ m + 1) → (f = SZ x (i - 1)) → m + 1 - i < fuel → V X lo 4 G (Qi X lo G (fun (r : Int32) (_ : Unit) => r = nI (SZ x m)) (fun (_ : Unit) => rs) 0 0) 0 0 (rs) [(3, .int (nI i)), (2, .int (nI f)), (0, .int x), (1, .int (nI m))] [] 4 := by
    intro fuel
    induction fuel with
    | zero => intro i f hi hf hmz; exact absurd hmz (Nat.not_lt_zero _)
    | succ fuel ih_4 =>
      intro i f hi hf hmz_4
      refine V_iload_n cx 5 rfl dX5_sizeOf_4 0 rfl ?_
      refine V_iload_n cx 6 rfl dX5_sizeOf_5 3 rfl ?_
      refine V_icmp_gt cx 9 40 rfl dX5_sizeOf_6 (by decide) (fun c_6 => ?_) (fun c_6 => ?_)
      · skip
        have n_6 : i > m := N_gt_t (by omega) (by omega) c_6
        refine V_iload_n cx 41 rfl dX5_sizeOf_40 1 rfl ?_
        exact V_ireturn cx hr () (by rw [hf, show i - 1 = m by omega]) rfl (by omega) (by omega) dX5_sizeOf_41
      · skip
        have n_6 : i ≤ m := N_gt_f (by omega) (by omega) c_6
        refine V_iload_n cx 10 rfl dX5_sizeOf_9 2 rfl ?_
        refine V_iload_n cx 11 rfl dX5_sizeOf_10 0 rfl ?_
        refine KX5_60 (As := [.int (nI i)]) (rest := [.int x]) cx (kX5_power (xl X) lo G _ i (by omega)) hX (by omega) rfl rfl (Nat.le_of_ble_eq_true rfl) 14 0 0 rfl rfl rfl (by omega) (by omega) dX5_sizeOf_11 (fun r_1 u_2 hw_3 => ?_)
        try dsimp only at hw_3
        subst hw_3
        have fk_4 := p10_pos i
        have fk_5 := p10_bd (show i ≤ 9 by omega)
        refine V_iconst (v := nI 2) cx 15 rfl dX5_sizeOf_14 (by decide) ?_
        refine V_iload_n cx 16 rfl dX5_sizeOf_15 0 rfl ?_
        refine KX5_60 (As := [.int (nI i)]) (rest := [.int (nI 2), .int (nI (10 ^ i)), .int x]) cx (kX5_power (xl X) lo G _ i (by omega)) hX (by omega) rfl rfl (Nat.le_of_ble_eq_true rfl) 19 0 0 rfl rfl rfl (by omega) (by omega) dX5_sizeOf_16 (fun r_6 u_7 hw_8 => ?_)
        try dsimp only at hw_8
        subst hw_8
        have fk_9 := p10_pos i
        have fk_10 := p10_bd (show i ≤ 9 by omega)
        refine V_imul cx 20 rfl dX5_sizeOf_19 ?_
        refine V_toi (nI (2 * (10 ^ i))) (nI_mulN _ _) ?_
        refine V_iconst (v := nI 1) cx 21 rfl dX5_sizeOf_20 (by decide) ?_
        refine V_isub cx 22 rfl dX5_sizeOf_21 ?_
        refine V_toi (nI ((2 * (10 ^ i)) - 1)) (nI_subN (by have := p10_pos i; omega)) ?_
        refine KX5_64 (As := [.int x, .int (nI (10 ^ i)), .int (nI ((2 * (10 ^ i)) - 1))]) (rest := []) cx (kX5_in (xl X) lo G _ x (nI (10 ^ i)) (nI ((2 * (10 ^ i)) - 1))) hX (by omega) rfl rfl (Nat.le_of_ble_eq_true rfl) 25 0 0 rfl rfl rfl (by omega) (by omega) dX5_sizeOf_22 (fun r_11 u_12 hw_13 => ?_)
        try dsimp only at hw_13
        subst hw_13
        refine V_if_eq cx 28 32 rfl dX5_sizeOf_25 (by decide) (fun c_25 => ?_) (fun c_25 => ?_)
        · skip
          have n_25 := B_eq_t c_25
          try simp only [decide_eq_true_eq, decide_eq_false_iff_not] at n_25
          refine V_iload_n cx 33 rfl dX5_sizeOf_32 1 rfl ?_
          refine V_istore_n (lc1 := [(2, .int (nI f)), (3, .int (nI i)), (0, .int x), (1, .int (nI m))]) cx 34 rfl dX5_sizeOf_33 (by decide) rfl ?_
          refine V_iinc (v := nI (i + 1)) (lc1 := [(3, .int (nI (i + 1))), (2, .int (nI f)), (0, .int x), (1, .int (nI m))]) cx 37 rfl dX5_sizeOf_34 1 rfl (nI_inc i 1) (by decide) rfl ?_
          refine V_goto cx 4 dX5_sizeOf_37 (by decide) ?_
          refine V.locs [0, 1, 2, 3] rfl ?_
          exact ih_4 (i + 1) f (by omega) (by rw [show i + 1 - 1 = (i - 1) + 1 by omega]; simp only [SZ, show i - 1 + 1 = i by omega]; first | rw [if_pos n_25] | (rw [if_neg n_25]; exact hf)) (by omega)
        · skip
          have n_25 := B_eq_f c_25
          try simp only [decide_eq_true_eq, decide_eq_false_iff_not] at n_25
          refine V_iload_n cx 29 rfl dX5_sizeOf_28 0 rfl ?_
          refine V_goto cx 33 dX5_sizeOf_29 (by decide) ?_
          refine V_istore_n (lc1 := [(2, .int (nI i)), (3, .int (nI i)), (0, .int x), (1, .int (nI m))]) cx 34 rfl dX5_sizeOf_33 (by decide) rfl ?_
          refine V_iinc (v := nI (i + 1)) (lc1 := [(3, .int (nI (i + 1))), (2, .int (nI i)), (0, .int x), (1, .int (nI m))]) cx 37 rfl dX5_sizeOf_34 1 rfl (nI_inc i 1) (by decide) rfl ?_
          refine V_goto cx 4 dX5_sizeOf_37 (by decide) ?_
          refine V.locs [0, 1, 2, 3] rfl ?_
          exact ih_4 (i + 1) i (by omega) (by rw [show i + 1 - 1 = (i - 1) + 1 by omega]; simp only [SZ, show i - 1 + 1 = i by omega]; first | rw [if_pos n_25] | (rw [if_neg n_25]; exact hf)) (by omega)
  refine V.locs [0, 1, 2, 3] rfl ?_
  exact loop_4 _ 1 0 (by omega) (by rfl) (Nat.lt_succ_self _)
set_option maxHeartbeats 4000000 in
set_option maxRecDepth 100000 in
theorem kX5_isPart (l : Launch) (lo : Nat) (G : vG) (rs : va_W) (g : Nat → Nat) (th : Nat) (np : Nat) (nl : Nat) (ld : Nat) (ll : Nat) (mn : Int32) (sp : Nat) (T : Nat → Int32) (S : Nat → Int32) (C : Nat → Int32) (F : Nat → Int32) (LT : Nat → Int32) (LS : Nat → Int32) (VE : Nat → Int32) (BA : Nat → Int32) (wd : Nat → Int32) (mo : Nat → Int32) (lt : Nat → Int32) (op : Nat → Int32) (pl : Nat → Int32) (pt : Nat → Int32) (ks : Nat → Int64) (x : Int32) : Mi l yX5_isPart (.code yX5_isPart prog_7_method_6_code 2 (some .boolean)) 2 0 0 lo G [.ref (g 0), .int x] (mW G g th np nl ld ll mn sp T S C F LT LS VE BA wd mo lt op pl pt ks ++ rs) (fun (r : Int32) (_ : Unit) => r = bI (isP np x)) (fun (_ : Unit) => mW G g th np nl ld ll mn sp T S C F LT LS VE BA wd mo lt op pl pt ks ++ rs) := by
  refine Mi_of (lc := [(0, .ref (g 0)), (1, .int x)]) (by decide +kernel) (Nat.le_of_ble_eq_true rfl) rfl ?_
  intro X cx hXR hXl hr hin
  subst hXl
  have hX := RmX.of hXR
  refine V_iload_n cx 1 rfl dX5_isPart_0 1 rfl ?_
  refine V_iconst (v := nI 0) cx 2 rfl dX5_isPart_1 (by decide) ?_
  refine V_aload_n cx 3 rfl dX5_isPart_2 0 rfl ?_
  refine GX5_68 cx 0 rfl rfl 6 rfl dX5_isPart_3 ?_
  refine V_iconst (v := nI 1) cx 7 rfl dX5_isPart_6 (by decide) ?_
  refine V_isub cx 8 rfl dX5_isPart_7 ?_
  refine KX5_64 (As := [.int x, .int (nI 0), .int ((nI np) - (nI 1))]) (rest := []) cx (kX5_in (xl X) lo G _ x (nI 0) ((nI np) - (nI 1))) hX (by omega) rfl rfl (Nat.le_of_ble_eq_true rfl) 11 0 0 rfl rfl rfl (by omega) (by omega) dX5_isPart_8 (fun r_1 u_2 hw_3 => ?_)
  try dsimp only at hw_3
  subst hw_3
  exact V_zreturn cx hr (by first | rfl | exact bI_z _) () (by first | rfl | trivial) rfl (by omega) (by omega) dX5_isPart_11
set_option maxHeartbeats 4000000 in
set_option maxRecDepth 100000 in
theorem kX5_partWith (l : Launch) (lo : Nat) (G : vG) (rs : va_W) (g : Nat → Nat) (th : Nat) (np : Nat) (nl : Nat) (ld : Nat) (ll : Nat) (mn : Int32) (sp : Nat) (T : Nat → Int32) (S : Nat → Int32) (C : Nat → Int32) (F : Nat → Int32) (LT : Nat → Int32) (LS : Nat → Int32) (VE : Nat → Int32) (BA : Nat → Int32) (wd : Nat → Int32) (mo : Nat → Int32) (lt : Nat → Int32) (op : Nat → Int32) (pl : Nat → Int32) (pt : Nat → Int32) (ks : Nat → Int64) (x : Int32) (hnp : np ≤ 16) : Mi l yX5_partWith (.code yX5_partWith prog_7_method_7_code 4 (some .int)) 1 0 0 lo G [.ref (g 0), .int x] (mW G g th np nl ld ll mn sp T S C F LT LS VE BA wd mo lt op pl pt ks ++ rs) (fun (r : Int32) (_ : Unit) => r = lastW T x np) (fun (_ : Unit) => mW G g th np nl ld ll mn sp T S C F LT LS VE BA wd mo lt op pl pt ks ++ rs) := by
  refine Mi_of (lc := [(0, .ref (g 0)), (1, .int x)]) (by decide +kernel) (Nat.le_of_ble_eq_true rfl) rfl ?_
  intro X cx hXR hXl hr hin
  subst hXl
  have hX := RmX.of hXR
  refine V_iconst (v := (-1)) cx 1 rfl dX5_partWith_0 (by decide) ?_
  refine V_istore_n (lc1 := [(2, .int (-1)), (0, .ref (g 0)), (1, .int x)]) cx 2 rfl dX5_partWith_1 (by decide) rfl ?_
  refine V_iconst (v := nI 0) cx 3 rfl dX5_partWith_2 (by decide) ?_
  refine V_istore_n (lc1 := [(3, .int (nI 0)), (2, .int (-1)), (0, .ref (g 0)), (1, .int x)]) cx 4 rfl dX5_partWith_3 (by decide) rfl ?_
  have loop_4 : ∀ (fuel : Nat) (i : Nat) (f : Int32), (i ≤ np) → (f = lastW T x i) → np - i < fuel → V X lo 4 G (Qi X lo G (fun (r : Int32) (_ : Unit) => r = lastW T x np) (fun (_ : Unit) => mW G g th np nl ld ll mn sp T S C F LT LS VE BA wd mo lt op pl pt ks ++ rs) 0 0) 0 0 (mW G g th np nl ld ll mn sp T S C F LT LS VE BA wd mo lt op pl pt ks ++ rs) [(3, .int (nI i)), (2, .int f), (0, .ref (g 0)), (1, .int x)] [] 4 := by
    intro fuel
    induction fuel with
    | zero => intro i f hi hf hmz; exact absurd hmz (Nat.not_lt_zero _)
    | succ fuel ih_4 =>
      intro i f hi hf hmz_4
      refine V_iload_n cx 5 rfl dX5_partWith_4 0 rfl ?_
      refine V_aload_n cx 6 rfl dX5_partWith_5 2 rfl ?_
      refine GX5_68 cx 0 rfl rfl 9 rfl dX5_partWith_6 ?_
      refine V_icmp_ge cx 12 34 rfl dX5_partWith_9 (by decide) (fun c_9 => ?_) (fun c_9 => ?_)
      · skip
        have n_9 : i ≥ np := N_ge_t (by omega) (by omega) c_9
        refine V_iload_n cx 35 rfl dX5_partWith_34 1 rfl ?_
        exact V_ireturn cx hr () (by rw [hf, show i = np by omega]) rfl (by omega) (by omega) dX5_partWith_35
      · skip
        have n_9 : i < np := N_ge_f (by omega) (by omega) c_9
        refine V_aload_n cx 13 rfl dX5_partWith_12 2 rfl ?_
        refine GX5_7 cx 0 rfl rfl 16 rfl dX5_partWith_13 ?_
        refine V_iload_n cx 17 rfl dX5_partWith_16 0 rfl ?_
        refine V_ialdN cx i (rfl) (by omega) (by decide) 1 rfl 18 rfl dX5_partWith_17 ?_
        refine V_iload_n cx 19 rfl dX5_partWith_18 3 rfl ?_
        refine V_icmp_ne cx 22 26 rfl dX5_partWith_19 (by decide) (fun c_19 => ?_) (fun c_19 => ?_)
        · skip
          refine V_iload_n cx 27 rfl dX5_partWith_26 1 rfl ?_
          refine V_istore_n (lc1 := [(2, .int f), (3, .int (nI i)), (0, .ref (g 0)), (1, .int x)]) cx 28 rfl dX5_partWith_27 (by decide) rfl ?_
          refine V_iinc (v := nI (i + 1)) (lc1 := [(3, .int (nI (i + 1))), (2, .int f), (0, .ref (g 0)), (1, .int x)]) cx 31 rfl dX5_partWith_28 1 rfl (nI_inc i 1) (by decide) rfl ?_
          refine V_goto cx 4 dX5_partWith_31 (by decide) ?_
          refine V.locs [0, 1, 2, 3] rfl ?_
          exact ih_4 (i + 1) f (by omega) (by simp only [lastW]; first | rw [if_pos c_19] | (rw [if_neg c_19]; exact hf)) (by omega)
        · skip
          refine V_iload_n cx 23 rfl dX5_partWith_22 0 rfl ?_
          refine V_goto cx 27 dX5_partWith_23 (by decide) ?_
          refine V_istore_n (lc1 := [(2, .int (nI i)), (3, .int (nI i)), (0, .ref (g 0)), (1, .int x)]) cx 28 rfl dX5_partWith_27 (by decide) rfl ?_
          refine V_iinc (v := nI (i + 1)) (lc1 := [(3, .int (nI (i + 1))), (2, .int (nI i)), (0, .ref (g 0)), (1, .int x)]) cx 31 rfl dX5_partWith_28 1 rfl (nI_inc i 1) (by decide) rfl ?_
          refine V_goto cx 4 dX5_partWith_31 (by decide) ?_
          refine V.locs [0, 1, 2, 3] rfl ?_
          exact ih_4 (i + 1) (nI i) (by omega) (by simp only [lastW]; first | rw [if_pos c_19] | (rw [if_neg c_19]; exact hf)) (by omega)
  refine V.locs [0, 1, 2, 3] rfl ?_
  exact loop_4 _ 0 (-1) (by omega) (by rfl) (Nat.lt_succ_self _)
