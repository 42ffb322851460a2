set_option maxHeartbeats 4000000 in
set_option maxRecDepth 100000 in
theorem kL_low (l : Launch) (lo : Nat) (G : vG) (rs : va_W) (v : Int32) (m : Nat) (hm : 0 < m ∧ m < 2147483648) : Mi l yL_low (.code yL_low method_3_code 2 (some .int)) 1 0 0 lo G [.int v, .int (nI m)] (rs) (fun (r : Int32) (_ : Unit) => r = nI (lowN v m)) (fun (_ : Unit) => rs) := by
  refine Mi_of (lc := [(0, .int v), (1, .int (nI m))]) (by decide +kernel) (Nat.le_of_ble_eq_true rfl) rfl ?_
  intro X cx hXR hXl hr hin
  subst hXl
  have hX := RmX.of hXR
  refine V_iload_n cx 1 rfl dL_low_0 0 rfl ?_
  refine V_iconst (v := nI 1) cx 2 rfl dL_low_1 (by decide) ?_
  refine V_iushr cx 3 rfl dL_low_2 ?_
  refine V_toi (nI (v.toUInt32.toNat / 2)) (low_half v) ?_
  refine V_iload_n cx 4 rfl dL_low_3 1 rfl ?_
  refine V_irem cx 5 rfl dL_low_4 (by exact nI_ne0 (by omega) (by omega)) ?_
  refine V_toi (nI ((v.toUInt32.toNat / 2) % m)) (nI_mod (by exact half_lt _) (by omega)) ?_
  exact V_ireturn cx hr () (by first | rfl | trivial) rfl (by omega) (by omega) dL_low_5
set_option maxHeartbeats 4000000 in
set_option maxRecDepth 100000 in
theorem kL_size (l : Launch) (lo : Nat) (G : vG) (rs : va_W) (w : Nat) (m : Nat) (hw1 : 10 ^ m ≤ w) (hw2 : w < 10 ^ (m + 1)) (hm : m ≤ 8) : Mi l yL_size (.code yL_size method_16_code 3 (some .int)) 1 0 0 lo G [.int (nI w)] (rs) (fun (r : Int32) (_ : Unit) => r = nI m) (fun (_ : Unit) => rs) := by
  refine Mi_of (lc := [(0, .int (nI w))]) (by decide +kernel) (Nat.le_of_ble_eq_true rfl) rfl ?_
  intro X cx hXR hXl hr hin
  subst hXl
  have hX := RmX.of hXR
  have hwb := sx_bd hm hw2
  refine V_iconst (v := nI 0) cx 1 rfl dL_size_0 (by decide) ?_
  refine V_istore_n (lc1 := [(1, .int (nI 0)), (0, .int (nI w))]) cx 2 rfl dL_size_1 (by decide) rfl ?_
  refine V_iload_n cx 3 rfl dL_size_2 1 rfl ?_
  refine V_istore_n (lc1 := [(2, .int (nI w)), (1, .int (nI 0)), (0, .int (nI w))]) cx 4 rfl dL_size_3 (by decide) rfl ?_
  have loop_4 : ∀ (fuel : Nat) (j : Nat) (q : Nat), (j ≤ m) → (q = w / 10 ^ j) → m - j < fuel → V X lo 3 G (Qi X lo G (fun (r : Int32) (_ : Unit) => r = nI m) (fun (_ : Unit) => rs) 0 0) 0 0 (rs) [(2, .int (nI q)), (1, .int (nI j)), (0, .int (nI w))] [] 4 := by
    intro fuel
    induction fuel with
    | zero => intro j q hj hq hmz; exact absurd hmz (Nat.not_lt_zero _)
    | succ fuel ih_4 =>
      intro j q hj hq hmz_4
      refine V_iload_n cx 5 rfl dL_size_4 0 rfl ?_
      refine V_bipush (v := nI 9) cx 7 rfl dL_size_5 (by decide) ?_
      refine V_icmp_le cx 10 21 rfl dL_size_7 (by decide) (fun c_7 => ?_) (fun c_7 => ?_)
      · skip
        have hqb : q ≤ w := by rw [hq]; exact Nat.div_le_self _ _
        have n_7 : q ≤ 9 := N_le_t (by omega) (by omega) c_7
        refine V_iload_n cx 22 rfl dL_size_21 1 rfl ?_
        exact V_ireturn cx hr () (by rw [hq] at n_7; rw [sz_end hw1 hj n_7]) rfl (by omega) (by omega) dL_size_22
      · skip
        have hqb : q ≤ w := by rw [hq]; exact Nat.div_le_self _ _
        have n_7 : q > 9 := N_le_f (by omega) (by omega) c_7
        refine V_iinc (v := nI (j + 1)) (lc1 := [(1, .int (nI (j + 1))), (2, .int (nI q)), (0, .int (nI w))]) cx 13 rfl dL_size_10 1 rfl (nI_inc j 1) (by decide) rfl ?_
        refine V_iload_n cx 14 rfl dL_size_13 1 rfl ?_
        refine V_bipush (v := nI 10) cx 16 rfl dL_size_14 (by decide) ?_
        refine V_idiv cx 17 rfl dL_size_16 (by decide) ?_
        refine V_toi (nI (q / 10)) (nI_div (by omega) (by omega)) ?_
        refine V_istore_n (lc1 := [(2, .int (nI (q / 10))), (1, .int (nI (j + 1))), (0, .int (nI w))]) cx 18 rfl dL_size_17 (by decide) rfl ?_
        refine V_goto cx 4 dL_size_18 (by decide) ?_
        refine V.locs [0, 1, 2] rfl ?_
        rw [hq] at n_7
        have hg := sz_go hw2 hj (by omega)
        exact ih_4 (j + 1) (q / 10) (by omega) (by rw [hq, Nat.div_div_eq_div_mul, ← Nat.pow_succ]) (by omega)
  refine V.locs [0, 1, 2] rfl ?_
  exact loop_4 _ 0 w (by omega) (by rw [Nat.pow_zero, Nat.div_one]) (Nat.lt_succ_self _)
set_option maxHeartbeats 4000000 in
set_option maxRecDepth 100000 in
theorem kL_power (l : Launch) (lo : Nat) (G : vG) (rs : va_W) (n : Nat) (hn : n ≤ 5) : Mi l yL_power (.code yL_power method_17_code 1 (some .int)) 1 0 0 lo G [.int (nI n)] (rs) (fun (r : Int32) (_ : Unit) => r = nI (10 ^ n)) (fun (_ : Unit) => rs) := by
  refine Mi_of (lc := [(0, .int (nI n))]) (by decide +kernel) (Nat.le_of_ble_eq_true rfl) rfl ?_
  intro X cx hXR hXl hr hin
  subst hXl
  have hX := RmX.of hXR
  refine V_iload_n cx 1 rfl dL_power_0 0 rfl ?_
  refine V_if_ne cx 4 8 rfl dL_power_1 (by decide) (fun c_1 => ?_) (fun c_1 => ?_)
  · skip
    have n_1 : n ≠ 0 := Z_ne_t (by omega) c_1
    refine V_iload_n cx 9 rfl dL_power_8 0 rfl ?_
    refine V_iconst (v := nI 1) cx 10 rfl dL_power_9 (by decide) ?_
    refine V_icmp_ne cx 13 18 rfl dL_power_10 (by decide) (fun c_10 => ?_) (fun c_10 => ?_)
    · skip
      have n_10 : n ≠ 1 := N_ne_t (by omega) (by omega) c_10
      refine V_iload_n cx 19 rfl dL_power_18 0 rfl ?_
      refine V_iconst (v := nI 2) cx 20 rfl dL_power_19 (by decide) ?_
      refine V_icmp_ne cx 23 28 rfl dL_power_20 (by decide) (fun c_20 => ?_) (fun c_20 => ?_)
      · skip
        have n_20 : n ≠ 2 := N_ne_t (by omega) (by omega) c_20
        refine V_iload_n cx 29 rfl dL_power_28 0 rfl ?_
        refine V_iconst (v := nI 3) cx 30 rfl dL_power_29 (by decide) ?_
        refine V_icmp_ne cx 33 39 rfl dL_power_30 (by decide) (fun c_30 => ?_) (fun c_30 => ?_)
        · skip
          have n_30 : n ≠ 3 := N_ne_t (by omega) (by omega) c_30
          refine V_iload_n cx 40 rfl dL_power_39 0 rfl ?_
          refine V_iconst (v := nI 4) cx 41 rfl dL_power_40 (by decide) ?_
          refine V_icmp_ne cx 44 50 rfl dL_power_41 (by decide) (fun c_41 => ?_) (fun c_41 => ?_)
          · skip
            have n_41 : n ≠ 4 := N_ne_t (by omega) (by omega) c_41
            refine V_ldc (v := nI 100000) cx 52 rfl dL_power_50 ci_L_58 ?_
            exact V_ireturn cx hr () (by rw [show n = 5 by omega]) rfl (by omega) (by omega) dL_power_52
          · skip
            have n_41 : n = 4 := N_ne_f (by omega) (by omega) c_41
            refine V_sipush (v := nI 10000) cx 47 rfl dL_power_44 (by decide) ?_
            refine V_goto cx 52 dL_power_47 (by decide) ?_
            exact V_ireturn cx hr () (by rw [show n = 4 by omega]) rfl (by omega) (by omega) dL_power_52
        · skip
          have n_30 : n = 3 := N_ne_f (by omega) (by omega) c_30
          refine V_sipush (v := nI 1000) cx 36 rfl dL_power_33 (by decide) ?_
          refine V_goto cx 52 dL_power_36 (by decide) ?_
          exact V_ireturn cx hr () (by rw [show n = 3 by omega]) rfl (by omega) (by omega) dL_power_52
      · skip
        have n_20 : n = 2 := N_ne_f (by omega) (by omega) c_20
        refine V_bipush (v := nI 100) cx 25 rfl dL_power_23 (by decide) ?_
        refine V_goto cx 52 dL_power_25 (by decide) ?_
        exact V_ireturn cx hr () (by rw [show n = 2 by omega]) rfl (by omega) (by omega) dL_power_52
    · skip
      have n_10 : n = 1 := N_ne_f (by omega) (by omega) c_10
      refine V_bipush (v := nI 10) cx 15 rfl dL_power_13 (by decide) ?_
      refine V_goto cx 52 dL_power_15 (by decide) ?_
      exact V_ireturn cx hr () (by rw [show n = 1 by omega]) rfl (by omega) (by omega) dL_power_52
  · skip
    have n_1 : n = 0 := Z_ne_f (by omega) c_1
    refine V_iconst (v := nI 1) cx 5 rfl dL_power_4 (by decide) ?_
    refine V_goto cx 52 dL_power_5 (by decide) ?_
    exact V_ireturn cx hr () (by rw [show n = 0 by omega]) rfl (by omega) (by omega) dL_power_52
set_option maxHeartbeats 4000000 in
set_option maxRecDepth 100000 in
theorem kL_sub (l : Launch) (lo : Nat) (G : vG) (rs : va_W) (w : Nat) (a : Nat) (m : Nat) (n : Nat) (hw1 : 10 ^ n ≤ w) (hw2 : w < 10 ^ (n + 1)) (hn : n ≤ 5) (ha : a ≤ 1000 ∧ m ≤ 1000) : Mi l yL_sub (.code yL_sub method_18_code 4 (some .int)) 2 0 0 lo G [.int (nI w), .int (nI a), .int (nI m)] (rs) (fun (r : Int32) (_ : Unit) => r = (if a + m ≤ n then nI (TA (dgt w n) a m) else -1)) (fun (_ : Unit) => rs) := by
  refine Mi_of (lc := [(0, .int (nI w)), (1, .int (nI a)), (2, .int (nI m))]) (by decide +kernel) (Nat.le_of_ble_eq_true rfl) rfl ?_
  intro X cx hXR hXl hr hin
  subst hXl
  have hX := RmX.of hXR
  have hwb := sx_bd (show n ≤ 8 by omega) hw2
  refine V_iload_n cx 1 rfl dL_sub_0 0 rfl ?_
  refine KL_59 (As := [.int (nI w)]) (rest := []) cx (kL_size (xl X) lo G _ w n hw1 hw2 (by omega)) hX (by omega) rfl rfl (Nat.le_of_ble_eq_true rfl) 4 0 0 rfl rfl rfl (by omega) (by omega) dL_sub_1 (fun r_1 u_2 hw_3 => ?_)
  try dsimp only at hw_3
  subst hw_3
  refine V_istore_n (lc1 := [(3, .int (nI n)), (0, .int (nI w)), (1, .int (nI a)), (2, .int (nI m))]) cx 5 rfl dL_sub_4 (by decide) rfl ?_
  refine V_iload_n cx 6 rfl dL_sub_5 2 rfl ?_
  refine V_iload_n cx 7 rfl dL_sub_6 3 rfl ?_
  refine V_iadd cx 8 rfl dL_sub_7 ?_
  refine V_toi (nI (a + m)) (nI_add _ _) ?_
  refine V_iload_n cx 9 rfl dL_sub_8 0 rfl ?_
  refine V_icmp_le cx 12 16 rfl dL_sub_9 (by decide) (fun c_9 => ?_) (fun c_9 => ?_)
  · skip
    have n_9 : a + m ≤ n := N_le_t (by omega) (by omega) c_9
    have hp1 := p10_pos (n - a - m)
    have hp2 := p10_bd (show n - a - m ≤ 9 by omega)
    have hp3 := p10_pos m
    have hp4 := p10_bd (show m ≤ 9 by omega)
    have hq1 : w / 10 ^ (n - a - m) ≤ w := Nat.div_le_self _ _
    refine V_iload_n cx 17 rfl dL_sub_16 1 rfl ?_
    refine V_iload_n cx 18 rfl dL_sub_17 0 rfl ?_
    refine V_iload_n cx 19 rfl dL_sub_18 2 rfl ?_
    refine V_isub cx 20 rfl dL_sub_19 ?_
    refine V_toi (nI (n - a)) (nI_subN (by omega)) ?_
    refine V_iload_n cx 21 rfl dL_sub_20 3 rfl ?_
    refine V_isub cx 22 rfl dL_sub_21 ?_
    refine V_toi (nI ((n - a) - m)) (nI_subN (by omega)) ?_
    refine KL_64 (As := [.int (nI ((n - a) - m))]) (rest := [.int (nI w)]) cx (kL_power (xl X) lo G _ ((n - a) - m) (by omega)) hX (by omega) rfl rfl (Nat.le_of_ble_eq_true rfl) 25 0 0 rfl rfl rfl (by omega) (by omega) dL_sub_22 (fun r_4 u_5 hw_6 => ?_)
    try dsimp only at hw_6
    subst hw_6
    refine V_idiv cx 26 rfl dL_sub_25 (by exact nI_ne0 (by omega) (by omega)) ?_
    refine V_toi (nI (w / (10 ^ ((n - a) - m)))) (nI_div (by omega) (by omega)) ?_
    refine V_iload_n cx 27 rfl dL_sub_26 3 rfl ?_
    refine KL_64 (As := [.int (nI m)]) (rest := [.int (nI (w / (10 ^ ((n - a) - m))))]) cx (kL_power (xl X) lo G _ m (by omega)) hX (by omega) rfl rfl (Nat.le_of_ble_eq_true rfl) 30 0 0 rfl rfl rfl (by omega) (by omega) dL_sub_27 (fun r_7 u_8 hw_9 => ?_)
    try dsimp only at hw_9
    subst hw_9
    refine V_irem cx 31 rfl dL_sub_30 (by exact nI_ne0 (by omega) (by omega)) ?_
    refine V_toi (nI ((w / (10 ^ ((n - a) - m))) % (10 ^ m))) (nI_mod (by omega) (by omega)) ?_
    refine V_iload_n cx 32 rfl dL_sub_31 3 rfl ?_
    refine KL_64 (As := [.int (nI m)]) (rest := [.int (nI ((w / (10 ^ ((n - a) - m))) % (10 ^ m)))]) cx (kL_power (xl X) lo G _ m (by omega)) hX (by omega) rfl rfl (Nat.le_of_ble_eq_true rfl) 35 0 0 rfl rfl rfl (by omega) (by omega) dL_sub_32 (fun r_10 u_11 hw_12 => ?_)
    try dsimp only at hw_12
    subst hw_12
    refine V_iadd cx 36 rfl dL_sub_35 ?_
    refine V_toi (nI (((w / (10 ^ ((n - a) - m))) % (10 ^ m)) + (10 ^ m))) (nI_add _ _) ?_
    exact V_ireturn cx hr () (by rw [if_pos (by omega), sub_val a m (by omega)]) rfl (by omega) (by omega) dL_sub_36
  · skip
    have n_9 : a + m > n := N_le_f (by omega) (by omega) c_9
    refine V_iconst (v := (-1)) cx 13 rfl dL_sub_12 (by decide) ?_
    refine V_goto cx 36 dL_sub_13 (by decide) ?_
    exact V_ireturn cx hr () (by rw [if_neg (by omega)]) rfl (by omega) (by omega) dL_sub_36
set_option maxHeartbeats 4000000 in
set_option maxRecDepth 100000 in
theorem kL_parts (l : Launch) (lo : Nat) (G : vG) (rs : va_W) (K : Nat) (sp : SP) (hK : K = aK sp) (hs : bOK sp) (hl : sp.length ≤ 7) : Mi l yL_parts (.code yL_parts method_19_code 5 (some .int)) 1 0 0 lo G [.long (lN K)] (rs) (fun (r : Int32) (_ : Unit) => r = nI (List.length sp)) (fun (_ : Unit) => rs) := by
  refine Mi_of (lc := [(0, .long (lN K))]) (by decide +kernel) (Nat.le_of_ble_eq_true rfl) rfl ?_
  intro X cx hXR hXl hr hin
  subst hXl
  have hX := RmX.of hXR
  have hKb := aK_bd hs (Nat.le_refl _) hl
  rw [aK_all] at hKb
  refine V_iconst (v := nI 0) cx 1 rfl dL_parts_0 (by decide) ?_
  refine V_istore_n (lc1 := [(2, .int (nI 0)), (0, .long (lN K))]) cx 2 rfl dL_parts_1 (by decide) rfl ?_
  refine V_lload_n cx 3 rfl dL_parts_2 1 rfl ?_
  refine V_lstore_n (lc1 := [(3, .long (lN K)), (2, .int (nI 0)), (0, .long (lN K))]) cx 4 rfl dL_parts_3 (by decide) rfl ?_
  have loop_4 : ∀ (fuel : Nat) (j : Nat) (k : Nat) (q : Nat), (j + k = sp.length) → (q = aK (sp.take k)) → k < fuel → V X lo 5 G (Qi X lo G (fun (r : Int32) (_ : Unit) => r = nI (List.length sp)) (fun (_ : Unit) => rs) 0 0) 0 0 (rs) [(3, .long (lN q)), (2, .int (nI j)), (0, .long (lN K))] [] 4 := by
    intro fuel
    induction fuel with
    | zero => intro j k q hj hq hmz; exact absurd hmz (Nat.not_lt_zero _)
    | succ fuel ih_4 =>
      intro j k q hj hq hmz_4
      refine V_lload_n cx 5 rfl dL_parts_4 0 rfl ?_
      refine V_lconst (v := lN 0) cx 6 rfl dL_parts_5 (by decide) ?_
      refine V_lcmp cx 7 rfl dL_parts_6 ?_
      refine V_if_le cx 10 21 rfl dL_parts_7 (by decide) (fun c_7 => ?_) (fun c_7 => ?_)
      · skip
        have hqb := aK_bd hs (show k ≤ sp.length by omega) (by omega)
        rw [← hq] at hqb
        have n_7 : q ≤ 0 := lg_gt_t (by omega) (by decide) c_7
        refine V_iload_n cx 22 rfl dL_parts_21 1 rfl ?_
        exact V_ireturn cx hr () (by have hk0 : k = 0 := k_zero hs (by omega) hq (by omega); rw [show j = sp.length by omega]) rfl (by omega) (by omega) dL_parts_22
      · skip
        have hqb := aK_bd hs (show k ≤ sp.length by omega) (by omega)
        rw [← hq] at hqb
        have n_7 : q > 0 := lg_gt_f (by omega) (by decide) c_7
        refine V_iinc (v := nI (j + 1)) (lc1 := [(2, .int (nI (j + 1))), (3, .long (lN q)), (0, .long (lN K))]) cx 13 rfl dL_parts_10 1 rfl (nI_inc j 1) (by decide) rfl ?_
        refine V_lload_n cx 14 rfl dL_parts_13 1 rfl ?_
        refine V_bipush (v := nI 8) cx 16 rfl dL_parts_14 (by decide) ?_
        refine V_lshr cx 17 rfl dL_parts_16 ?_
        refine V_tol (lN (q / 2 ^ 8)) (l_shr (by omega) (by omega)) ?_
        refine V_lstore_n (lc1 := [(3, .long (lN (q / 2 ^ 8))), (2, .int (nI (j + 1))), (0, .long (lN K))]) cx 18 rfl dL_parts_17 (by decide) rfl ?_
        refine V_goto cx 4 dL_parts_18 (by decide) ?_
        refine V.locs [0, 1, 2] rfl ?_
        have hk0 : 0 < k := k_pos hq (by omega)
        exact ih_4 (j + 1) (k - 1) (q / 2 ^ 8) (by omega) (by rw [hq, show k = (k - 1) + 1 by omega]; exact (aK_take hs (by omega)).1) (by omega)
  refine V.locs [0, 1, 2] rfl ?_
  exact loop_4 _ 0 sp.length K (by omega) (by rw [aK_all]; exact hK) (Nat.lt_succ_self _)
set_option maxHeartbeats 4000000 in
set_option maxRecDepth 100000 in
theorem kL_at (l : Launch) (lo : Nat) (G : vG) (rs : va_W) (K : Nat) (j : Nat) (sp : SP) (hK : K = aK sp) (hs : bOK sp) (hl : sp.length ≤ 7) (hj : j ≤ 1000) : Mi l yL_at (.code yL_at method_20_code 4 (some .int)) 2 0 0 lo G [.long (lN K), .int (nI j)] (rs) (fun (r : Int32) (_ : Unit) => r = (if j < sp.length then nI (bt2 (sp.getD j (0, 0))) else -1)) (fun (_ : Unit) => rs) := by
  refine Mi_of (lc := [(0, .long (lN K)), (2, .int (nI j))]) (by decide +kernel) (Nat.le_of_ble_eq_true rfl) rfl ?_
  intro X cx hXR hXl hr hin
  subst hXl
  have hX := RmX.of hXR
  have hKb := aK_bd hs (Nat.le_refl _) hl
  rw [aK_all, ← hK] at hKb
  refine V_lload_n cx 1 rfl dL_at_0 0 rfl ?_
  refine KL_67 (As := [.long (lN K)]) (rest := []) cx (kL_parts (xl X) lo G _ K sp hK hs (by omega)) hX (by omega) rfl rfl (Nat.le_of_ble_eq_true rfl) 4 0 0 rfl rfl rfl (by omega) (by omega) dL_at_1 (fun r_1 u_2 hw_3 => ?_)
  try dsimp only at hw_3
  subst hw_3
  refine V_istore_n (lc1 := [(3, .int (nI (List.length sp))), (0, .long (lN K)), (2, .int (nI j))]) cx 5 rfl dL_at_4 (by decide) rfl ?_
  refine V_iload_n cx 6 rfl dL_at_5 2 rfl ?_
  refine V_iload_n cx 7 rfl dL_at_6 0 rfl ?_
  refine V_icmp_lt cx 10 14 rfl dL_at_7 (by decide) (fun c_7 => ?_) (fun c_7 => ?_)
  · skip
    have n_7 : j < List.length sp := N_lt_t (by omega) (by omega) c_7
    refine V_lload_n cx 15 rfl dL_at_14 1 rfl ?_
    refine V_bipush (v := nI 8) cx 17 rfl dL_at_15 (by decide) ?_
    refine V_iload_n cx 18 rfl dL_at_17 0 rfl ?_
    refine V_iconst (v := nI 1) cx 19 rfl dL_at_18 (by decide) ?_
    refine V_isub cx 20 rfl dL_at_19 ?_
    refine V_toi (nI ((List.length sp) - 1)) (nI_subN (by omega)) ?_
    refine V_iload_n cx 21 rfl dL_at_20 2 rfl ?_
    refine V_isub cx 22 rfl dL_at_21 ?_
    refine V_toi (nI (((List.length sp) - 1) - j)) (nI_subN (by omega)) ?_
    refine V_imul cx 23 rfl dL_at_22 ?_
    refine V_toi (nI (8 * (((List.length sp) - 1) - j))) (nI_mulN _ _) ?_
    refine V_lshr cx 24 rfl dL_at_23 ?_
    refine V_tol (lN (K / 2 ^ (8 * (sp.length - 1 - j)))) (l_shr (by omega) (by omega)) ?_
    refine V_ldc2 cx 27 rfl dL_at_24 cl_L_71 ?_
    refine V_tol (lN 255) (by decide) ?_
    refine V_land cx 28 rfl dL_at_27 ?_
    refine V_tol (lN (K / 2 ^ (8 * (sp.length - 1 - j)) % 256)) (l_land 8 256 (by decide) (by decide) (Nat.lt_of_le_of_lt (Nat.div_le_self _ _) (by omega))) ?_
    refine V_l2i cx 29 rfl dL_at_28 ?_
    refine V_toi (nI (K / 2 ^ (8 * (sp.length - 1 - j)) % 256)) (lN_i _) ?_
    exact V_ireturn cx hr () (by rw [if_pos (by omega), hK, aK_byte hs (by omega)]) rfl (by omega) (by omega) dL_at_29
  · skip
    have n_7 : j ≥ List.length sp := N_lt_f (by omega) (by omega) c_7
    refine V_iconst (v := (-1)) cx 11 rfl dL_at_10 (by decide) ?_
    refine V_goto cx 29 dL_at_11 (by decide) ?_
    exact V_ireturn cx hr () (by rw [if_neg (by omega)]) rfl (by omega) (by omega) dL_at_29
set_option maxHeartbeats 4000000 in
set_option maxRecDepth 100000 in
theorem kL_costOfPart (l : Launch) (lo : Nat) (G : vG) (rs : va_W) (c : Nat) (hc : 1 ≤ c ∧ c ≤ 9999) : Mi l yL_costOfPart (.code yL_costOfPart method_22_code 3 (some .int)) 1 0 0 lo G [.int (nI c)] (rs) (fun (r : Int32) (_ : Unit) => r = nI (ko c)) (fun (_ : Unit) => rs) := by
  refine Mi_of (lc := [(0, .int (nI c))]) (by decide +kernel) (Nat.le_of_ble_eq_true rfl) rfl ?_
  intro X cx hXR hXl hr hin
  subst hXl
  have hX := RmX.of hXR
  refine V_iconst (v := nI 0) cx 1 rfl dL_costOfPart_0 (by decide) ?_
  refine V_istore_n (lc1 := [(1, .int (nI 0)), (0, .int (nI c))]) cx 2 rfl dL_costOfPart_1 (by decide) rfl ?_
  refine V_iload_n cx 3 rfl dL_costOfPart_2 1 rfl ?_
  refine V_istore_n (lc1 := [(2, .int (nI c)), (1, .int (nI 0)), (0, .int (nI c))]) cx 4 rfl dL_costOfPart_3 (by decide) rfl ?_
  have loop_4 : ∀ (fuel : Nat) (k : Nat) (q : Nat) (f : Nat), (q ≤ 20000) → (k + 10 * dbl f q = ko c) → (10000 < 2 ^ f * q) → f < fuel → V X lo 3 G (Qi X lo G (fun (r : Int32) (_ : Unit) => r = nI (ko c)) (fun (_ : Unit) => rs) 0 0) 0 0 (rs) [(2, .int (nI q)), (1, .int (nI k)), (0, .int (nI c))] [] 4 := by
    intro fuel
    induction fuel with
    | zero => intro k q f hb hk hf hmz; exact absurd hmz (Nat.not_lt_zero _)
    | succ fuel ih_4 =>
      intro k q f hb hk hf hmz_4
      refine V_iload_n cx 5 rfl dL_costOfPart_4 0 rfl ?_
      refine V_sipush (v := nI 10000) cx 8 rfl dL_costOfPart_5 (by decide) ?_
      refine V_icmp_gt cx 11 21 rfl dL_costOfPart_8 (by decide) (fun c_8 => ?_) (fun c_8 => ?_)
      · skip
        have n_8 : q > 10000 := N_gt_t (by omega) (by omega) c_8
        refine V_iload_n cx 22 rfl dL_costOfPart_21 1 rfl ?_
        exact V_ireturn cx hr () (by rw [cst_end hk (by omega)]) rfl (by omega) (by omega) dL_costOfPart_22
      · skip
        have n_8 : q ≤ 10000 := N_gt_f (by omega) (by omega) c_8
        refine V_iinc (v := nI (k + 10)) (lc1 := [(1, .int (nI (k + 10))), (2, .int (nI q)), (0, .int (nI c))]) cx 14 rfl dL_costOfPart_11 1 rfl (nI_inc k 10) (by decide) rfl ?_
        refine V_iload_n cx 15 rfl dL_costOfPart_14 1 rfl ?_
        refine V_iload_n cx 16 rfl dL_costOfPart_15 1 rfl ?_
        refine V_iadd cx 17 rfl dL_costOfPart_16 ?_
        refine V_toi (nI (q + q)) (nI_add _ _) ?_
        refine V_istore_n (lc1 := [(2, .int (nI (q + q))), (1, .int (nI (k + 10))), (0, .int (nI c))]) cx 18 rfl dL_costOfPart_17 (by decide) rfl ?_
        refine V_goto cx 4 dL_costOfPart_18 (by decide) ?_
        refine V.locs [0, 1, 2] rfl ?_
        obtain ⟨f1, hf1, hk1, hf2⟩ := cst_step hk hf n_8
        exact ih_4 (k + 10) (q + q) f1 (by omega) (by exact hk1) (by exact hf2) (by omega)
  refine V.locs [0, 1, 2] rfl ?_
  exact loop_4 _ 0 c 14 (by omega) (by unfold ko; rw [show dbl 14 c = 1 + dbl 13 (c * 2) by show (if c ≤ 10000 then _ else _) = _; rw [if_pos (by omega)]]; rw [Nat.mul_comm c 2]; omega) (by rw [show (2 : Nat) ^ 14 = 16384 by decide]; omega) (Nat.lt_succ_self _)
set_option maxHeartbeats 4000000 in
set_option maxRecDepth 100000 in
theorem kL_length (l : Launch) (lo : Nat) (G : vG) (rs : va_W) (h : Nat → Nat) (qt : Nat → Int32) (qc : Nat → Int32) (qf : Nat → Int32) (qb : Nat → Int32) (ql : Nat → Int32) (qa : Nat → Int64) (qd : Nat → Int64) (qw : Nat → Int64) (qh : Nat → Int32) (qg : Nat → Int32) (K : Nat) (sp : SP) (x : LX) (hK : K = aK sp) (hok : lxOK x) (hs : spOK x sp) (hl : sp.length ≤ 7) (hq : LQ x qt qc qf qb ql) : Mi l yL_length (.code yL_length method_21_code 7 (some .int)) 2 0 0 lo G [.long (lN K), .ref (h 21), .ref (h 25)] (lW G h qt qc qf qb ql qa qd qw qh qg ++ rs) (fun (r : Int32) (_ : Unit) => r = nI (lnS x sp sp.length)) (fun (_ : Unit) => lW G h qt qc qf qb ql qa qd qw qh qg ++ rs) := by
  refine Mi_of (lc := [(0, .long (lN K)), (2, .ref (h 21)), (3, .ref (h 25))]) (by decide +kernel) (Nat.le_of_ble_eq_true rfl) rfl ?_
  intro X cx hXR hXl hr hin
  subst hXl
  have hX := RmX.of hXR
  have hsb := hs.b hok
  have hKb := aK_bd hsb (Nat.le_refl _) hl
  rw [aK_all] at hKb
  refine V_iconst (v := nI 0) cx 1 rfl dL_length_0 (by decide) ?_
  refine V_istore (lc1 := [(4, .int (nI 0)), (0, .long (lN K)), (2, .ref (h 21)), (3, .ref (h 25))]) cx 3 rfl dL_length_1 (by decide) rfl ?_
  refine V_lload_n cx 4 rfl dL_length_3 1 rfl ?_
  refine V_lstore (lc1 := [(5, .long (lN K)), (4, .int (nI 0)), (0, .long (lN K)), (2, .ref (h 21)), (3, .ref (h 25))]) cx 6 rfl dL_length_4 (by decide) rfl ?_
  have loop_6 : ∀ (fuel : Nat) (s : Nat) (k : Nat) (z : Nat), (k ≤ sp.length) → (s + lnS x sp k = lnS x sp sp.length) → (z = aK (sp.take k)) → k < fuel → V X lo 7 G (Qi X lo G (fun (r : Int32) (_ : Unit) => r = nI (lnS x sp sp.length)) (fun (_ : Unit) => lW G h qt qc qf qb ql qa qd qw qh qg ++ rs) 0 0) 0 0 (lW G h qt qc qf qb ql qa qd qw qh qg ++ rs) [(5, .long (lN z)), (4, .int (nI s)), (0, .long (lN K)), (2, .ref (h 21)), (3, .ref (h 25))] [] 6 := by
    intro fuel
    induction fuel with
    | zero => intro s k z hk hsum hz hmz; exact absurd hmz (Nat.not_lt_zero _)
    | succ fuel ih_6 =>
      intro s k z hk hsum hz hmz_6
      refine V_lload cx 8 rfl dL_length_6 0 rfl ?_
      refine V_lconst (v := lN 0) cx 9 rfl dL_length_8 (by decide) ?_
      refine V_lcmp cx 10 rfl dL_length_9 ?_
      refine V_if_le cx 13 74 rfl dL_length_10 (by decide) (fun c_10 => ?_) (fun c_10 => ?_)
      · skip
        have hqb := aK_bd hsb (show k ≤ sp.length by omega) (by omega)
        rw [← hz] at hqb
        have n_10 : z ≤ 0 := lg_gt_t (by omega) (by decide) c_10
        refine V_iload cx 76 rfl dL_length_74 1 rfl ?_
        exact V_ireturn cx hr () (by have hk0 : k = 0 := k_zero hsb (by omega) hz (by omega); subst hk0; rw [show s = lnS x sp sp.length from hsum]) rfl (by omega) (by omega) dL_length_76
      · skip
        have hqb := aK_bd hsb (show k ≤ sp.length by omega) (by omega)
        rw [← hz] at hqb
        have n_10 : z > 0 := lg_gt_f (by omega) (by decide) c_10
        have hk0 : 0 < k := k_pos hz (by omega)
        obtain ⟨a1, a2, a3⟩ := aK_take (k := k - 1) hsb (by omega)
        rw [show k - 1 + 1 = k by omega, ← hz] at a1 a2 a3
        obtain ⟨b1, b2⟩ := hs (k - 1) (by omega)
        obtain ⟨b3, b4⟩ := bt2_P a2 (show spP sp (k - 1) < 16 by have := hok.1; omega)
        change _ = spP sp (k - 1) + 1 at b3
        change _ = spO sp (k - 1) % 7 at b4
        have b5 := Nat.mod_lt (spO sp (k - 1)) (show 7 > 0 by decide)
        have b6 := hok.1
        have b7 := hok.2.1
        refine V_iload cx 15 rfl dL_length_13 1 rfl ?_
        refine V_aload_n cx 16 rfl dL_length_15 3 rfl ?_
        refine V_lload cx 18 rfl dL_length_16 0 rfl ?_
        refine V_iconst (v := nI 3) cx 19 rfl dL_length_18 (by decide) ?_
        refine V_lshr cx 20 rfl dL_length_19 ?_
        refine V_tol (lN (z / 2 ^ 3)) (l_shr (by omega) (by omega)) ?_
        refine V_ldc2 cx 23 rfl dL_length_20 cl_L_73 ?_
        refine V_tol (lN 31) (by decide) ?_
        refine V_land cx 24 rfl dL_length_23 ?_
        refine V_tol (lN (z / 2 ^ 3 % 32)) (l_land 5 32 (by decide) (by decide) (Nat.lt_of_le_of_lt (Nat.div_le_self _ _) (by omega))) ?_
        refine V_l2i cx 25 rfl dL_length_24 ?_
        refine V_toi (nI (z / 2 ^ 3 % 32)) (lN_i _) ?_
        refine V_iconst (v := nI 1) cx 26 rfl dL_length_25 (by decide) ?_
        refine V_isub cx 27 rfl dL_length_26 ?_
        refine V_toi (nI (spP sp (k - 1))) (by rw [nI_subN (by omega)]; congr 1; omega) ?_
        obtain ⟨t1, t2, t3, t4⟩ := hok.2.2.1 (spP sp (k - 1)) b1
        have t5 := ld_bd (Nat.le_refl _) t4
        refine V_ialdN cx (spP sp (k - 1)) (rfl) (by omega) (by decide) 0 rfl 28 rfl dL_length_27 ?_
        refine V_toi (nI (lT x (spP sp (k - 1)))) (hq.1 _ (by omega)) ?_
        refine KL_59 (As := [.int (nI (lT x (spP sp (k - 1))))]) (rest := [.int (nI s)]) cx (kL_size (xl X) lo G _ (lT x (spP sp (k - 1))) (szN (lT x (spP sp (k - 1)))) t3 t5 (by omega)) hX (by omega) rfl rfl (Nat.le_of_ble_eq_true rfl) 31 0 0 rfl rfl rfl (by omega) (by omega) dL_length_28 (fun r_1 u_2 hw_3 => ?_)
        try dsimp only at hw_3
        subst hw_3
        refine V_lload cx 33 rfl dL_length_31 0 rfl ?_
        refine V_ldc2 cx 36 rfl dL_length_33 cl_L_75 ?_
        refine V_tol (lN 7) (by decide) ?_
        refine V_land cx 37 rfl dL_length_36 ?_
        refine V_tol (lN (z % 8)) (l_land 3 8 (by decide) (by decide) (by omega)) ?_
        refine V_lconst (v := lN 0) cx 38 rfl dL_length_37 (by decide) ?_
        refine V_lcmp cx 39 rfl dL_length_38 ?_
        refine V_if_le cx 42 59 rfl dL_length_39 (by decide) (fun c_39 => ?_) (fun c_39 => ?_)
        · skip
          have n_39 : z % 8 ≤ 0 := lg_gt_t (by omega) (by decide) c_39
          refine V_iconst (v := nI 0) cx 60 rfl dL_length_59 (by decide) ?_
          refine V_iadd cx 61 rfl dL_length_60 ?_
          refine V_toi (nI (szN (lT x (spP sp (k - 1))))) (nI_add _ _) ?_
          refine V_iadd cx 62 rfl dL_length_61 ?_
          refine V_toi (nI (s + (szN (lT x (spP sp (k - 1)))))) (nI_add _ _) ?_
          refine V_istore (lc1 := [(4, .int (nI (s + (szN (lT x (spP sp (k - 1))))))), (5, .long (lN z)), (0, .long (lN K)), (2, .ref (h 21)), (3, .ref (h 25))]) cx 64 rfl dL_length_62 (by decide) rfl ?_
          refine V_lload cx 66 rfl dL_length_64 1 rfl ?_
          refine V_bipush (v := nI 8) cx 68 rfl dL_length_66 (by decide) ?_
          refine V_lshr cx 69 rfl dL_length_68 ?_
          refine V_tol (lN (z / 2 ^ 8)) (l_shr (by omega) (by omega)) ?_
          refine V_lstore (lc1 := [(5, .long (lN (z / 2 ^ 8))), (4, .int (nI (s + (szN (lT x (spP sp (k - 1))))))), (0, .long (lN K)), (2, .ref (h 21)), (3, .ref (h 25))]) cx 71 rfl dL_length_69 (by decide) rfl ?_
          refine V_goto cx 6 dL_length_71 (by decide) ?_
          refine V.locs [0, 1, 2, 3, 4] rfl ?_
          have hst1 : lnS x sp k = lnS x sp (k - 1) + (szN (lT x (spP sp (k - 1))) + (if spO sp (k - 1) % 7 = 0 then 0 else szN (lU x (spO sp (k - 1) % 7 - 1)))) := by
            obtain ⟨m, rfl⟩ : ∃ m, k = m + 1 := ⟨k - 1, by omega⟩
            rfl
          exact ih_6 (s + (szN (lT x (spP sp (k - 1))))) (k - 1) (z / 2 ^ 8) (by omega) (by rw [hst1] at hsum; first | (rw [if_pos (by omega)] at hsum; omega) | (rw [if_neg (by omega)] at hsum; omega)) (by exact a1.symm ▸ rfl) (by omega)
        · skip
          have n_39 : z % 8 > 0 := lg_gt_f (by omega) (by decide) c_39
          refine V_aload_n cx 43 rfl dL_length_42 4 rfl ?_
          refine V_lload cx 45 rfl dL_length_43 0 rfl ?_
          refine V_ldc2 cx 48 rfl dL_length_45 cl_L_75 ?_
          refine V_tol (lN 7) (by decide) ?_
          refine V_land cx 49 rfl dL_length_48 ?_
          refine V_tol (lN (z % 8)) (l_land 3 8 (by decide) (by decide) (by omega)) ?_
          refine V_l2i cx 50 rfl dL_length_49 ?_
          refine V_toi (nI (z % 8)) (lN_i _) ?_
          refine V_iconst (v := nI 1) cx 51 rfl dL_length_50 (by decide) ?_
          refine V_isub cx 52 rfl dL_length_51 ?_
          refine V_toi (nI (spO sp (k - 1) % 7 - 1)) (by rw [nI_subN (by omega)]; congr 1; omega) ?_
          obtain ⟨u1, u2, u3, u4⟩ := hok.2.2.2.2.2.2.1 (spO sp (k - 1) % 7 - 1) (by omega)
          have u5 := ld_bd (Nat.le_refl _) u4
          refine V_ialdN cx (spO sp (k - 1) % 7 - 1) (rfl) (by omega) (by decide) 4 rfl 53 rfl dL_length_52 ?_
          refine V_toi (nI (lU x (spO sp (k - 1) % 7 - 1))) (hq.2.2.2.2 _ (by omega)) ?_
          refine KL_59 (As := [.int (nI (lU x (spO sp (k - 1) % 7 - 1)))]) (rest := [.int (nI (szN (lT x (spP sp (k - 1))))), .int (nI s)]) cx (kL_size (xl X) lo G _ (lU x (spO sp (k - 1) % 7 - 1)) (szN (lU x (spO sp (k - 1) % 7 - 1))) u3 u5 (by omega)) hX (by omega) rfl rfl (Nat.le_of_ble_eq_true rfl) 56 0 0 rfl rfl rfl (by omega) (by omega) dL_length_53 (fun r_4 u_5 hw_6 => ?_)
          try dsimp only at hw_6
          subst hw_6
          refine V_goto cx 60 dL_length_56 (by decide) ?_
          refine V_iadd cx 61 rfl dL_length_60 ?_
          refine V_toi (nI ((szN (lT x (spP sp (k - 1)))) + (szN (lU x (spO sp (k - 1) % 7 - 1))))) (nI_add _ _) ?_
          refine V_iadd cx 62 rfl dL_length_61 ?_
          refine V_toi (nI (s + ((szN (lT x (spP sp (k - 1)))) + (szN (lU x (spO sp (k - 1) % 7 - 1)))))) (nI_add _ _) ?_
          refine V_istore (lc1 := [(4, .int (nI (s + ((szN (lT x (spP sp (k - 1)))) + (szN (lU x (spO sp (k - 1) % 7 - 1))))))), (5, .long (lN z)), (0, .long (lN K)), (2, .ref (h 21)), (3, .ref (h 25))]) cx 64 rfl dL_length_62 (by decide) rfl ?_
          refine V_lload cx 66 rfl dL_length_64 1 rfl ?_
          refine V_bipush (v := nI 8) cx 68 rfl dL_length_66 (by decide) ?_
          refine V_lshr cx 69 rfl dL_length_68 ?_
          refine V_tol (lN (z / 2 ^ 8)) (l_shr (by omega) (by omega)) ?_
          refine V_lstore (lc1 := [(5, .long (lN (z / 2 ^ 8))), (4, .int (nI (s + ((szN (lT x (spP sp (k - 1)))) + (szN (lU x (spO sp (k - 1) % 7 - 1))))))), (0, .long (lN K)), (2, .ref (h 21)), (3, .ref (h 25))]) cx 71 rfl dL_length_69 (by decide) rfl ?_
          refine V_goto cx 6 dL_length_71 (by decide) ?_
          refine V.locs [0, 1, 2, 3, 4] rfl ?_
          have hst1 : lnS x sp k = lnS x sp (k - 1) + (szN (lT x (spP sp (k - 1))) + (if spO sp (k - 1) % 7 = 0 then 0 else szN (lU x (spO sp (k - 1) % 7 - 1)))) := by
            obtain ⟨m, rfl⟩ : ∃ m, k = m + 1 := ⟨k - 1, by omega⟩
            rfl
          exact ih_6 (s + ((szN (lT x (spP sp (k - 1)))) + (szN (lU x (spO sp (k - 1) % 7 - 1))))) (k - 1) (z / 2 ^ 8) (by omega) (by rw [hst1] at hsum; first | (rw [if_pos (by omega)] at hsum; omega) | (rw [if_neg (by omega)] at hsum; omega)) (by exact a1.symm ▸ rfl) (by omega)
  refine V.locs [0, 1, 2, 3, 4] rfl ?_
  exact loop_6 _ 0 sp.length K (by omega) (by exact Nat.zero_add _) (by rw [aK_all]; exact hK) (Nat.lt_succ_self _)
set_option maxHeartbeats 4000000 in
set_option maxRecDepth 100000 in
theorem kL_costOf (l : Launch) (lo : Nat) (G : vG) (rs : va_W) (h : Nat → Nat) (qt : Nat → Int32) (qc : Nat → Int32) (qf : Nat → Int32) (qb : Nat → Int32) (ql : Nat → Int32) (qa : Nat → Int64) (qd : Nat → Int64) (qw : Nat → Int64) (qh : Nat → Int32) (qg : Nat → Int32) (K : Nat) (sp : SP) (x : LX) (hK : K = aK sp) (hok : lxOK x) (hs : spOK x sp) (hl : sp.length ≤ 7) (hq : LQ x qt qc qf qb ql) (hl1 : 1 ≤ sp.length) : Mi l yL_costOf (.code yL_costOf method_23_code 6 (some .int)) 2 0 0 lo G [.long (lN K), .ref (h 22)] (lW G h qt qc qf qb ql qa qd qw qh qg ++ rs) (fun (r : Int32) (_ : Unit) => r = nI (cS x sp - 15)) (fun (_ : Unit) => lW G h qt qc qf qb ql qa qd qw qh qg ++ rs) := by
  refine Mi_of (lc := [(0, .long (lN K)), (2, .ref (h 22))]) (by decide +kernel) (Nat.le_of_ble_eq_true rfl) rfl ?_
  intro X cx hXR hXl hr hin
  subst hXl
  have hX := RmX.of hXR
  have hsb := hs.b hok
  have hKb := aK_bd hsb (Nat.le_refl _) hl
  rw [aK_all] at hKb
  refine V_bipush (v := (-15)) cx 2 rfl dL_costOf_0 (by decide) ?_
  refine V_toi (nI 0 - nI 15) (by decide) ?_
  refine V_istore_n (lc1 := [(3, .int (nI 0 - nI 15)), (0, .long (lN K)), (2, .ref (h 22))]) cx 3 rfl dL_costOf_2 (by decide) rfl ?_
  refine V_lload_n cx 4 rfl dL_costOf_3 1 rfl ?_
  refine V_lstore (lc1 := [(4, .long (lN K)), (3, .int (nI 0 - nI 15)), (0, .long (lN K)), (2, .ref (h 22))]) cx 6 rfl dL_costOf_4 (by decide) rfl ?_
  have loop_6 : ∀ (fuel : Nat) (s : Nat) (k : Nat) (z : Nat), (k ≤ sp.length) → (s + kS (fun k => ko (lC x (spP sp k))) (spO sp) k = cS x sp) → (z = aK (sp.take k)) → k < fuel → V X lo 6 G (Qi X lo G (fun (r : Int32) (_ : Unit) => r = nI (cS x sp - 15)) (fun (_ : Unit) => lW G h qt qc qf qb ql qa qd qw qh qg ++ rs) 0 0) 0 0 (lW G h qt qc qf qb ql qa qd qw qh qg ++ rs) [(4, .long (lN z)), (3, .int (nI s - nI 15)), (0, .long (lN K)), (2, .ref (h 22))] [] 6 := by
    intro fuel
    induction fuel with
    | zero => intro s k z hk hsum hz hmz; exact absurd hmz (Nat.not_lt_zero _)
    | succ fuel ih_6 =>
      intro s k z hk hsum hz hmz_6
      refine V_lload cx 8 rfl dL_costOf_6 0 rfl ?_
      refine V_lconst (v := lN 0) cx 9 rfl dL_costOf_8 (by decide) ?_
      refine V_lcmp cx 10 rfl dL_costOf_9 ?_
      refine V_if_le cx 13 62 rfl dL_costOf_10 (by decide) (fun c_10 => ?_) (fun c_10 => ?_)
      · skip
        have hqb := aK_bd hsb (show k ≤ sp.length by omega) (by omega)
        rw [← hz] at hqb
        have n_10 : z ≤ 0 := lg_gt_t (by omega) (by decide) c_10
        refine V_iload_n cx 63 rfl dL_costOf_62 1 rfl ?_
        have hk0 : k = 0 := k_zero hsb (by omega) hz (by omega)
        subst hk0
        exact V_ireturn cx hr () (by rw [show s = cS x sp from hsum]; exact nI_subN (show 15 ≤ cS x sp from kS_ge _ _ hl1)) rfl (by omega) (by omega) dL_costOf_63
      · skip
        have hqb := aK_bd hsb (show k ≤ sp.length by omega) (by omega)
        rw [← hz] at hqb
        have n_10 : z > 0 := lg_gt_f (by omega) (by decide) c_10
        have hk0 : 0 < k := k_pos hz (by omega)
        obtain ⟨a1, a2, a3⟩ := aK_take (k := k - 1) hsb (by omega)
        rw [show k - 1 + 1 = k by omega, ← hz] at a1 a2 a3
        obtain ⟨b1, b2⟩ := hs (k - 1) (by omega)
        obtain ⟨b3, b4⟩ := bt2_P a2 (show spP sp (k - 1) < 16 by have := hok.1; omega)
        change _ = spP sp (k - 1) + 1 at b3
        change _ = spO sp (k - 1) % 7 at b4
        have b5 := Nat.mod_lt (spO sp (k - 1)) (show 7 > 0 by decide)
        have b6 := hok.1
        have b7 := hok.2.1
        refine V_iload_n cx 14 rfl dL_costOf_13 1 rfl ?_
        refine V_aload_n cx 15 rfl dL_costOf_14 3 rfl ?_
        refine V_lload cx 17 rfl dL_costOf_15 0 rfl ?_
        refine V_iconst (v := nI 3) cx 18 rfl dL_costOf_17 (by decide) ?_
        refine V_lshr cx 19 rfl dL_costOf_18 ?_
        refine V_tol (lN (z / 2 ^ 3)) (l_shr (by omega) (by omega)) ?_
        refine V_ldc2 cx 22 rfl dL_costOf_19 cl_L_73 ?_
        refine V_tol (lN 31) (by decide) ?_
        refine V_land cx 23 rfl dL_costOf_22 ?_
        refine V_tol (lN (z / 2 ^ 3 % 32)) (l_land 5 32 (by decide) (by decide) (Nat.lt_of_le_of_lt (Nat.div_le_self _ _) (by omega))) ?_
        refine V_l2i cx 24 rfl dL_costOf_23 ?_
        refine V_toi (nI (z / 2 ^ 3 % 32)) (lN_i _) ?_
        refine V_iconst (v := nI 1) cx 25 rfl dL_costOf_24 (by decide) ?_
        refine V_isub cx 26 rfl dL_costOf_25 ?_
        refine V_toi (nI (spP sp (k - 1))) (by rw [nI_subN (by omega)]; congr 1; omega) ?_
        have t1 := hok.2.2.2.1 (spP sp (k - 1)) b1
        refine V_ialdN cx (spP sp (k - 1)) (rfl) (by omega) (by decide) 1 rfl 27 rfl dL_costOf_26 ?_
        refine V_toi (nI (lC x (spP sp (k - 1)))) (hq.2.1 _ (by omega)) ?_
        refine KL_77 (As := [.int (nI (lC x (spP sp (k - 1))))]) (rest := [.int (nI s - nI 15)]) cx (kL_costOfPart (xl X) lo G _ (lC x (spP sp (k - 1))) (by omega)) hX (by omega) rfl rfl (Nat.le_of_ble_eq_true rfl) 30 0 0 rfl rfl rfl (by omega) (by omega) dL_costOf_27 (fun r_1 u_2 hw_3 => ?_)
        try dsimp only at hw_3
        subst hw_3
        refine V_bipush (v := nI 15) cx 32 rfl dL_costOf_30 (by decide) ?_
        refine V_iadd cx 33 rfl dL_costOf_32 ?_
        refine V_toi (nI ((ko (lC x (spP sp (k - 1)))) + 15)) (nI_add _ _) ?_
        refine V_lload cx 35 rfl dL_costOf_33 0 rfl ?_
        refine V_ldc2 cx 38 rfl dL_costOf_35 cl_L_75 ?_
        refine V_tol (lN 7) (by decide) ?_
        refine V_land cx 39 rfl dL_costOf_38 ?_
        refine V_tol (lN (z % 8)) (l_land 3 8 (by decide) (by decide) (by omega)) ?_
        refine V_lconst (v := lN 0) cx 40 rfl dL_costOf_39 (by decide) ?_
        refine V_lcmp cx 41 rfl dL_costOf_40 ?_
        refine V_if_le cx 44 48 rfl dL_costOf_41 (by decide) (fun c_41 => ?_) (fun c_41 => ?_)
        · skip
          have n_41 : z % 8 ≤ 0 := lg_gt_t (by omega) (by decide) c_41
          refine V_iconst (v := nI 0) cx 49 rfl dL_costOf_48 (by decide) ?_
          refine V_iadd cx 50 rfl dL_costOf_49 ?_
          refine V_toi (nI ((ko (lC x (spP sp (k - 1)))) + 15)) (nI_add _ _) ?_
          refine V_iadd cx 51 rfl dL_costOf_50 ?_
          refine V_toi (nI (s + ((ko (lC x (spP sp (k - 1)))) + 15)) - nI 15) (nI_sadd _ _) ?_
          refine V_istore_n (lc1 := [(3, .int (nI (s + ((ko (lC x (spP sp (k - 1)))) + 15)) - nI 15)), (4, .long (lN z)), (0, .long (lN K)), (2, .ref (h 22))]) cx 52 rfl dL_costOf_51 (by decide) rfl ?_
          refine V_lload cx 54 rfl dL_costOf_52 1 rfl ?_
          refine V_bipush (v := nI 8) cx 56 rfl dL_costOf_54 (by decide) ?_
          refine V_lshr cx 57 rfl dL_costOf_56 ?_
          refine V_tol (lN (z / 2 ^ 8)) (l_shr (by omega) (by omega)) ?_
          refine V_lstore (lc1 := [(4, .long (lN (z / 2 ^ 8))), (3, .int (nI (s + ((ko (lC x (spP sp (k - 1)))) + 15)) - nI 15)), (0, .long (lN K)), (2, .ref (h 22))]) cx 59 rfl dL_costOf_57 (by decide) rfl ?_
          refine V_goto cx 6 dL_costOf_59 (by decide) ?_
          refine V.locs [0, 1, 2, 3] rfl ?_
          have hst1 : kS (fun k => ko (lC x (spP sp k))) (spO sp) k = kS (fun k => ko (lC x (spP sp k))) (spO sp) (k - 1) + (ko (lC x (spP sp (k - 1))) + 15 + (if spO sp (k - 1) % 7 > 0 then 3 else 0)) := by
            obtain ⟨m, rfl⟩ : ∃ m, k = m + 1 := ⟨k - 1, by omega⟩
            rfl
          exact ih_6 (s + ((ko (lC x (spP sp (k - 1)))) + 15)) (k - 1) (z / 2 ^ 8) (by omega) (by rw [hst1] at hsum; first | (rw [if_pos (by omega)] at hsum; omega) | (rw [if_neg (by omega)] at hsum; omega)) (by exact a1.symm ▸ rfl) (by omega)
        · skip
          have n_41 : z % 8 > 0 := lg_gt_f (by omega) (by decide) c_41
          refine V_iconst (v := nI 3) cx 45 rfl dL_costOf_44 (by decide) ?_
          refine V_goto cx 49 dL_costOf_45 (by decide) ?_
          refine V_iadd cx 50 rfl dL_costOf_49 ?_
          refine V_toi (nI ((ko (lC x (spP sp (k - 1)))) + 18)) (nI_add _ _) ?_
          refine V_iadd cx 51 rfl dL_costOf_50 ?_
          refine V_toi (nI (s + ((ko (lC x (spP sp (k - 1)))) + 18)) - nI 15) (nI_sadd _ _) ?_
          refine V_istore_n (lc1 := [(3, .int (nI (s + ((ko (lC x (spP sp (k - 1)))) + 18)) - nI 15)), (4, .long (lN z)), (0, .long (lN K)), (2, .ref (h 22))]) cx 52 rfl dL_costOf_51 (by decide) rfl ?_
          refine V_lload cx 54 rfl dL_costOf_52 1 rfl ?_
          refine V_bipush (v := nI 8) cx 56 rfl dL_costOf_54 (by decide) ?_
          refine V_lshr cx 57 rfl dL_costOf_56 ?_
          refine V_tol (lN (z / 2 ^ 8)) (l_shr (by omega) (by omega)) ?_
          refine V_lstore (lc1 := [(4, .long (lN (z / 2 ^ 8))), (3, .int (nI (s + ((ko (lC x (spP sp (k - 1)))) + 18)) - nI 15)), (0, .long (lN K)), (2, .ref (h 22))]) cx 59 rfl dL_costOf_57 (by decide) rfl ?_
          refine V_goto cx 6 dL_costOf_59 (by decide) ?_
          refine V.locs [0, 1, 2, 3] rfl ?_
          have hst1 : kS (fun k => ko (lC x (spP sp k))) (spO sp) k = kS (fun k => ko (lC x (spP sp k))) (spO sp) (k - 1) + (ko (lC x (spP sp (k - 1))) + 15 + (if spO sp (k - 1) % 7 > 0 then 3 else 0)) := by
            obtain ⟨m, rfl⟩ : ∃ m, k = m + 1 := ⟨k - 1, by omega⟩
            rfl
          exact ih_6 (s + ((ko (lC x (spP sp (k - 1)))) + 18)) (k - 1) (z / 2 ^ 8) (by omega) (by rw [hst1] at hsum; first | (rw [if_pos (by omega)] at hsum; omega) | (rw [if_neg (by omega)] at hsum; omega)) (by exact a1.symm ▸ rfl) (by omega)
  refine V.locs [0, 1, 2, 3] rfl ?_
  exact loop_6 _ 0 sp.length K (by omega) (by exact Nat.zero_add _) (by rw [aK_all]; exact hK) (Nat.lt_succ_self _)
