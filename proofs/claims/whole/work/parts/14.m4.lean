set_option maxHeartbeats 4000000 in
set_option maxRecDepth 100000 in
theorem kX5_takes (l : Launch) (lo : Nat) (G : vG) (rs : va_W) (g : Nat → Nat) (th : Nat) (np : Nat) (nl : Nat) (ld : Nat) (ll : Nat) (mn : Int32) (sp : Nat) (T : Nat → Int32) (S : Nat → Int32) (C : Nat → Int32) (F : Nat → Int32) (LT : Nat → Int32) (LS : Nat → Int32) (VE : Nat → Int32) (BA : Nat → Int32) (wd : Nat → Int32) (mo : Nat → Int32) (lt : Nat → Int32) (op : Nat → Int32) (pl : Nat → Int32) (pt : Nat → Int32) (ks : Nat → Int64) (x : Int32) (w : Nat) (hw : 0 < SZ x 8 → x = nI w ∧ w < 2147483648) : Mi l yX5_takes (.code yX5_takes prog_7_method_23_code 4 (some .boolean)) 3 0 0 lo G [.ref (g 0), .int x] (mW G g th np nl ld ll mn sp T S C F LT LS VE BA wd mo lt op pl pt ks ++ rs) (fun (r : Int32) (lt1 : (Nat → Int32)) => r = bI (decide (0 < SZ x 8)) ∧ ∀ k, k < SZ x 8 → lt1 k = nI (dgt w (SZ x 8) k)) (fun (lt1 : (Nat → Int32)) => mW G g th np nl ld (SZ x 8) mn sp T S C F LT LS VE BA wd mo lt1 op pl pt ks ++ rs) := by
  refine Mi_of (lc := [(0, .ref (g 0)), (1, .int x)]) (by decide +kernel) (Nat.le_of_ble_eq_true rfl) rfl ?_
  intro X cx hXR hXl hr hin
  subst hXl
  have hX := RmX.of hXR
  have hL := SZ_le x 8
  refine V_aload_n cx 1 rfl dX5_takes_0 0 rfl ?_
  refine V_iload_n cx 2 rfl dX5_takes_1 1 rfl ?_
  refine V_bipush (v := nI 8) cx 4 rfl dX5_takes_2 (by decide) ?_
  refine KX5_71 (As := [.int x, .int (nI 8)]) (rest := [.ref (g 0)]) cx (kX5_sizeOf (xl X) lo G _ x 8 (by omega)) hX (by omega) rfl rfl (Nat.le_of_ble_eq_true rfl) 7 0 0 rfl rfl rfl (by omega) (by omega) dX5_takes_4 (fun r_1 u_2 hw_3 => ?_)
  try dsimp only at hw_3
  subst hw_3
  have fk_4 := SZ_le x 8
  refine PX5_101 cx 0 rfl (Nat.le_of_ble_eq_true rfl) (mW G g th np nl ld (SZ x 8) mn sp T S C F LT LS VE BA wd mo lt op pl pt ks ++ rs) rfl 10 rfl dX5_takes_7 ?_
  refine V_iload_n cx 11 rfl dX5_takes_10 1 rfl ?_
  refine V_istore_n (lc1 := [(2, .int x), (0, .ref (g 0)), (1, .int x)]) cx 12 rfl dX5_takes_11 (by decide) rfl ?_
  refine V_aload_n cx 13 rfl dX5_takes_12 1 rfl ?_
  refine GX5_101 cx 0 rfl rfl 16 rfl dX5_takes_13 ?_
  refine V_iconst (v := nI 1) cx 17 rfl dX5_takes_16 (by decide) ?_
  refine V_isub cx 18 rfl dX5_takes_17 ?_
  refine V_istore_n (lc1 := [(3, .int ((nI (SZ x 8)) - (nI 1))), (2, .int x), (0, .ref (g 0)), (1, .int x)]) cx 19 rfl dX5_takes_18 (by decide) rfl ?_
  have loop_19 : ∀ (fuel : Nat) (j : Nat) (z : Int32) (lt2 : Nat → Int32), (j ≤ SZ x 8) → (0 < j → z = nI (w / 10 ^ (SZ x 8 - j))) → (∀ k, j ≤ k → k < SZ x 8 → lt2 k = nI (dgt w (SZ x 8) k)) → j < fuel → V X lo 4 G (Qi X lo G (fun (r : Int32) (lt1 : (Nat → Int32)) => r = bI (decide (0 < SZ x 8)) ∧ ∀ k, k < SZ x 8 → lt1 k = nI (dgt w (SZ x 8) k)) (fun (lt1 : (Nat → Int32)) => mW G g th np nl ld (SZ x 8) mn sp T S C F LT LS VE BA wd mo lt1 op pl pt ks ++ rs) 0 0) 0 0 (mW G g th np nl ld (SZ x 8) mn sp T S C F LT LS VE BA wd mo lt2 op pl pt ks ++ rs) [(3, .int (nI j - nI 1)), (2, .int z), (0, .ref (g 0)), (1, .int x)] [] 19 := by
    intro fuel
    induction fuel with
    | zero => intro j z lt2 hj hz hl hmz; exact absurd hmz (Nat.not_lt_zero _)
    | succ fuel ih_19 =>
      intro j z lt2 hj hz hl hmz_19
      refine V_iload_n cx 20 rfl dX5_takes_19 0 rfl ?_
      refine V_if_lt cx 23 44 rfl dX5_takes_20 (by decide) (fun c_20 => ?_) (fun c_20 => ?_)
      · skip
        have ej : j = 0 := nI_subz (by omega) c_20
        refine V_aload_n cx 45 rfl dX5_takes_44 2 rfl ?_
        refine GX5_101 cx 0 rfl rfl 48 rfl dX5_takes_45 ?_
        refine V_if_le cx 51 55 rfl dX5_takes_48 (by decide) (fun c_48 => ?_) (fun c_48 => ?_)
        · skip
          have n_48 : SZ x 8 ≤ 0 := Z_le_t (by omega) c_48
          refine V_iconst (v := nI 0) cx 56 rfl dX5_takes_55 (by decide) ?_
          exact V_zreturn cx hr (by first | rfl | exact bI_z _) (lt2) (⟨bI_f (by omega), fun k hk => hl k (by omega) hk⟩) rfl (by omega) (by omega) dX5_takes_56
        · skip
          have n_48 : SZ x 8 > 0 := Z_le_f (by omega) c_48
          refine V_iconst (v := nI 1) cx 52 rfl dX5_takes_51 (by decide) ?_
          refine V_goto cx 56 dX5_takes_52 (by decide) ?_
          exact V_zreturn cx hr (by first | rfl | exact bI_z _) (lt2) (⟨bI_t n_48, fun k hk => hl k (by omega) hk⟩) rfl (by omega) (by omega) dX5_takes_56
      · skip
        have ej : 0 < j := nI_subnz c_20
        have ez := hz ej
        have hwz := (hw (by omega)).2
        have hdl := Nat.div_le_self w (10 ^ (SZ x 8 - j))
        rw [nI_subN ej, ez]
        refine V_aload_n cx 24 rfl dX5_takes_23 2 rfl ?_
        refine GX5_40 cx 0 rfl rfl 27 rfl dX5_takes_24 ?_
        refine V_iload_n cx 28 rfl dX5_takes_27 0 rfl ?_
        refine V_iload_n cx 29 rfl dX5_takes_28 1 rfl ?_
        refine V_bipush (v := nI 10) cx 31 rfl dX5_takes_29 (by decide) ?_
        refine V_irem cx 32 rfl dX5_takes_31 (by decide) ?_
        refine V_toi (nI ((w / 10 ^ (SZ x 8 - j)) % 10)) (nI_mod (by omega) (by omega)) ?_
        refine V_iastN cx (j - 1) (rfl) (by omega) (by decide) 11 rfl (mW G g th np nl ld (SZ x 8) mn sp T S C F LT LS VE BA wd mo (upd lt2 (j - 1) (nI ((w / 10 ^ (SZ x 8 - j)) % 10))) op pl pt ks ++ rs) rfl 33 rfl dX5_takes_32 ?_
        refine V_iload_n cx 34 rfl dX5_takes_33 1 rfl ?_
        refine V_bipush (v := nI 10) cx 36 rfl dX5_takes_34 (by decide) ?_
        refine V_idiv cx 37 rfl dX5_takes_36 (by decide) ?_
        refine V_toi (nI ((w / 10 ^ (SZ x 8 - j)) / 10)) (nI_div (by omega) (by omega)) ?_
        refine V_istore_n (lc1 := [(2, .int (nI ((w / 10 ^ (SZ x 8 - j)) / 10))), (3, .int (nI (j - 1))), (0, .ref (g 0)), (1, .int x)]) cx 38 rfl dX5_takes_37 (by decide) rfl ?_
        refine V_iinc (v := nI (j - 1) - nI 1) (lc1 := [(3, .int (nI (j - 1) - nI 1)), (2, .int (nI ((w / 10 ^ (SZ x 8 - j)) / 10))), (0, .ref (g 0)), (1, .int x)]) cx 41 rfl dX5_takes_38 1 rfl (nI_decR (j - 1)) (by decide) rfl ?_
        refine V_goto cx 19 dX5_takes_41 (by decide) ?_
        refine V.locs [0, 1, 2, 3] rfl ?_
        exact ih_19 (j - 1) (nI ((w / 10 ^ (SZ x 8 - j)) / 10)) (upd lt2 (j - 1) (nI ((w / 10 ^ (SZ x 8 - j)) % 10))) (by omega) (by intro h; rw [Nat.div_div_eq_div_mul, ← Nat.pow_succ, show (SZ x 8 - j).succ = SZ x 8 - (j - 1) by omega]) (by intro k h1 h2; unfold upd; split; (rename_i hk; subst hk; rw [dgt, show SZ x 8 - 1 - (j - 1) = SZ x 8 - j by omega]); exact hl k (by omega) h2) (by omega)
  refine V.locs [0, 1, 2, 3] rfl ?_
  exact loop_19 _ (SZ x 8) x lt (by omega) (by intro h; rw [Nat.sub_self]; have := (hw h).1; simpa using this) (by intro k h1 h2; omega) (Nat.lt_succ_self _)
set_option maxHeartbeats 4000000 in
set_option maxRecDepth 100000 in
theorem kX5_textAt (l : Launch) (lo : Nat) (G : vG) (rs : va_W) (g : Nat → Nat) (th : Nat) (np : Nat) (nl : Nat) (ld : Nat) (ll : Nat) (mn : Int32) (sp : Nat) (T : Nat → Int32) (S : Nat → Int32) (C : Nat → Int32) (F : Nat → Int32) (LT : Nat → Int32) (LS : Nat → Int32) (VE : Nat → Int32) (BA : Nat → Int32) (wd : Nat → Int32) (mo : Nat → Int32) (lt : Nat → Int32) (op : Nat → Int32) (pl : Nat → Int32) (pt : Nat → Int32) (ks : Nat → Int64) (a : Nat) (n : Nat) (d : Nat → Nat) (hll : ll ≤ 8) (hlt : ∀ k, k < ll → lt k = nI (d k)) (hd : ∀ k, d k ≤ 9) (ha : a ≤ 8) (hn : 1 ≤ n ∧ n ≤ 4) : Mi l yX5_textAt (.code yX5_textAt prog_7_method_24_code 5 (some .int)) 1 0 0 lo G [.ref (g 0), .int (nI a), .int (nI n)] (mW G g th np nl ld ll mn sp T S C F LT LS VE BA wd mo lt op pl pt ks ++ rs) (fun (r : Int32) (_ : Unit) => r = (if a + n ≤ ll then nI (TA d a n) else -1)) (fun (_ : Unit) => mW G g th np nl ld ll mn sp T S C F LT LS VE BA wd mo lt op pl pt ks ++ rs) := by
  refine Mi_of (lc := [(0, .ref (g 0)), (1, .int (nI a)), (2, .int (nI n))]) (by decide +kernel) (Nat.le_of_ble_eq_true rfl) rfl ?_
  intro X cx hXR hXl hr hin
  subst hXl
  have hX := RmX.of hXR
  refine V_iload_n cx 1 rfl dX5_textAt_0 1 rfl ?_
  refine V_iload_n cx 2 rfl dX5_textAt_1 2 rfl ?_
  refine V_iadd cx 3 rfl dX5_textAt_2 ?_
  refine V_toi (nI (a + n)) (nI_add _ _) ?_
  refine V_aload_n cx 4 rfl dX5_textAt_3 0 rfl ?_
  refine GX5_101 cx 0 rfl rfl 7 rfl dX5_textAt_4 ?_
  refine V_icmp_le cx 10 14 rfl dX5_textAt_7 (by decide) (fun c_7 => ?_) (fun c_7 => ?_)
  · skip
    have n_7 : a + n ≤ ll := N_le_t (by omega) (by omega) c_7
    refine V_iconst (v := nI 1) cx 15 rfl dX5_textAt_14 (by decide) ?_
    refine V_istore_n (lc1 := [(3, .int (nI 1)), (0, .ref (g 0)), (1, .int (nI a)), (2, .int (nI n))]) cx 16 rfl dX5_textAt_15 (by decide) rfl ?_
    refine V_iload_n cx 17 rfl dX5_textAt_16 2 rfl ?_
    refine V_istore (lc1 := [(4, .int (nI a)), (3, .int (nI 1)), (0, .ref (g 0)), (1, .int (nI a)), (2, .int (nI n))]) cx 19 rfl dX5_textAt_17 (by decide) rfl ?_
    have loop_19 : ∀ (fuel : Nat) (i : Nat) (v : Nat), (a ≤ i ∧ i ≤ a + n) → (v = TA d a (i - a)) → (v < 200000000) → a + n - i < fuel → V X lo 5 G (Qi X lo G (fun (r : Int32) (_ : Unit) => r = (if a + n ≤ ll then nI (TA d a n) else -1)) (fun (_ : Unit) => mW G g th np nl ld ll mn sp T S C F LT LS VE BA wd mo lt op pl pt ks ++ rs) 0 0) 0 0 (mW G g th np nl ld ll mn sp T S C F LT LS VE BA wd mo lt op pl pt ks ++ rs) [(4, .int (nI i)), (3, .int (nI v)), (0, .ref (g 0)), (1, .int (nI a)), (2, .int (nI n))] [] 19 := by
      intro fuel
      induction fuel with
      | zero => intro i v hi hv hvb hmz; exact absurd hmz (Nat.not_lt_zero _)
      | succ fuel ih_19 =>
        intro i v hi hv hvb hmz_19
        refine V_iload cx 21 rfl dX5_textAt_19 0 rfl ?_
        refine V_iload_n cx 22 rfl dX5_textAt_21 3 rfl ?_
        refine V_iload_n cx 23 rfl dX5_textAt_22 4 rfl ?_
        refine V_iadd cx 24 rfl dX5_textAt_23 ?_
        refine V_toi (nI (a + n)) (nI_add _ _) ?_
        refine V_icmp_ge cx 27 51 rfl dX5_textAt_24 (by decide) (fun c_24 => ?_) (fun c_24 => ?_)
        · skip
          have n_24 : i ≥ a + n := N_ge_t (by omega) (by omega) c_24
          refine V_iload_n cx 52 rfl dX5_textAt_51 1 rfl ?_
          exact V_ireturn cx hr () (by rw [if_pos (by omega), hv, show i - a = n by omega]) rfl (by omega) (by omega) dX5_textAt_52
        · skip
          have n_24 : i < a + n := N_ge_f (by omega) (by omega) c_24
          refine V_iload_n cx 28 rfl dX5_textAt_27 1 rfl ?_
          refine V_iconst (v := (-1)) cx 29 rfl dX5_textAt_28 (by decide) ?_
          refine V_icmp_eq cx 32 51 rfl dX5_textAt_29 (by decide) (fun c_29 => ?_) (fun c_29 => ?_)
          · skip
            exact absurd c_29 (nI_nem1 (by omega))
          · skip
            refine V_bipush (v := nI 10) cx 34 rfl dX5_textAt_32 (by decide) ?_
            refine V_iload_n cx 35 rfl dX5_textAt_34 1 rfl ?_
            refine V_imul cx 36 rfl dX5_textAt_35 ?_
            refine V_toi (nI (10 * v)) (nI_mulN _ _) ?_
            refine V_aload_n cx 37 rfl dX5_textAt_36 2 rfl ?_
            refine GX5_40 cx 0 rfl rfl 40 rfl dX5_textAt_37 ?_
            refine V_iload cx 42 rfl dX5_textAt_40 0 rfl ?_
            refine V_ialdN cx i (rfl) (by omega) (by decide) 11 rfl 43 rfl dX5_textAt_42 ?_
            refine V_toi (nI (d i)) (hlt i (by omega)) ?_
            refine V_iadd cx 44 rfl dX5_textAt_43 ?_
            refine V_toi (nI ((10 * v) + (d i))) (nI_add _ _) ?_
            refine V_istore_n (lc1 := [(3, .int (nI ((10 * v) + (d i)))), (4, .int (nI i)), (0, .ref (g 0)), (1, .int (nI a)), (2, .int (nI n))]) cx 45 rfl dX5_textAt_44 (by decide) rfl ?_
            refine V_iinc (v := nI (i + 1)) (lc1 := [(4, .int (nI (i + 1))), (3, .int (nI ((10 * v) + (d i)))), (0, .ref (g 0)), (1, .int (nI a)), (2, .int (nI n))]) cx 48 rfl dX5_textAt_45 1 rfl (nI_inc i 1) (by decide) rfl ?_
            refine V_goto cx 19 dX5_textAt_48 (by decide) ?_
            refine V.locs [0, 1, 2, 3, 4] rfl ?_
            have hv2 : 10 * v + d i = TA d a (i + 1 - a) := by rw [show i + 1 - a = (i - a) + 1 by omega, TA, ← hv, show a + (i - a) = i by omega]
            exact ih_19 (i + 1) ((10 * v) + (d i)) (by omega) (by exact hv2) (by rw [hv2]; exact TA_bd d hd a (by omega)) (by omega)
    refine V.locs [0, 1, 2, 3, 4] rfl ?_
    exact loop_19 _ a 1 (by omega) (by rw [Nat.sub_self]; rfl) (by omega) (Nat.lt_succ_self _)
  · skip
    have n_7 : a + n > ll := N_le_f (by omega) (by omega) c_7
    refine V_iconst (v := (-1)) cx 11 rfl dX5_textAt_10 (by decide) ?_
    refine V_goto cx 15 dX5_textAt_11 (by decide) ?_
    refine V_istore_n (lc1 := [(3, .int (-1)), (0, .ref (g 0)), (1, .int (nI a)), (2, .int (nI n))]) cx 16 rfl dX5_textAt_15 (by decide) rfl ?_
    refine V_iload_n cx 17 rfl dX5_textAt_16 2 rfl ?_
    refine V_istore (lc1 := [(4, .int (nI a)), (3, .int (-1)), (0, .ref (g 0)), (1, .int (nI a)), (2, .int (nI n))]) cx 19 rfl dX5_textAt_17 (by decide) rfl ?_
    refine V_iload cx 21 rfl dX5_textAt_19 0 rfl ?_
    refine V_iload_n cx 22 rfl dX5_textAt_21 3 rfl ?_
    refine V_iload_n cx 23 rfl dX5_textAt_22 4 rfl ?_
    refine V_iadd cx 24 rfl dX5_textAt_23 ?_
    refine V_toi (nI (a + n)) (nI_add _ _) ?_
    refine V_icmp_ge cx 27 51 rfl dX5_textAt_24 (by decide) (fun c_24 => ?_) (fun c_24 => ?_)
    · skip
      have n_24 : a ≥ a + n := N_ge_t (by omega) (by omega) c_24
      refine V_iload_n cx 52 rfl dX5_textAt_51 1 rfl ?_
      exact V_ireturn cx hr () (by rw [if_neg (by omega)]) rfl (by omega) (by omega) dX5_textAt_52
    · skip
      have n_24 : a < a + n := N_ge_f (by omega) (by omega) c_24
      refine V_iload_n cx 28 rfl dX5_textAt_27 1 rfl ?_
      refine V_iconst (v := (-1)) cx 29 rfl dX5_textAt_28 (by decide) ?_
      refine V_icmp_eq cx 32 51 rfl dX5_textAt_29 (by decide) (fun c_29 => ?_) (fun c_29 => ?_)
      · skip
        refine V_iload_n cx 52 rfl dX5_textAt_51 1 rfl ?_
        exact V_ireturn cx hr () (by rw [if_neg (by omega)]) rfl (by omega) (by omega) dX5_textAt_52
      · skip
        exact absurd rfl c_29
