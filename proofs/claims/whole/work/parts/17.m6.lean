set_option maxHeartbeats 4000000 in
set_option maxRecDepth 100000 in
theorem kX5_key (l : Launch) (lo : Nat) (G : vG) (rs : va_W) (g : Nat → Nat) (th : Nat) (np : Nat) (nl : Nat) (ld : Nat) (ll : Nat) (m : Nat) (sp : Nat) (T : Nat → Int32) (S : Nat → Int32) (C : Nat → Int32) (F : Nat → Int32) (LT : Nat → Int32) (LS : Nat → Int32) (VE : Nat → Int32) (BA : Nat → Int32) (wd : Nat → Int32) (mo : Nat → Int32) (lt : Nat → Int32) (op : Nat → Int32) (pl : Nat → Int32) (pt : Nat → Int32) (ks : Nat → Int64) (x : LX) (sq : SP) (hok : lxOK x) (hmk : mOK x np nl T S C F LT LS VE BA) (hml : m = sq.length) (hm8 : 1 ≤ m ∧ m ≤ 8) (hho : holds sq op pt np) : Ml l yX5_key (.code yX5_key prog_7_method_26_code 7 (some .long)) 2 0 0 lo G [.ref (g 0)] (mW G g th np nl ld ll (nI m) sp T S C F LT LS VE BA wd mo lt op pl pt ks ++ rs) (fun (r : Int64) (_ : Unit) => r = lN (mkl x sq)) (fun (_ : Unit) => mW G g th np nl ld ll (nI m) sp T S C F LT LS VE BA wd mo lt op pl pt ks ++ rs) := by
  refine Ml_of (lc := [(0, .ref (g 0))]) (by decide +kernel) (Nat.le_of_ble_eq_true rfl) rfl ?_
  intro X cx hXR hXl hr hin
  subst hXl
  have hX := RmX.of hXR
  obtain ⟨hnp, hnl, hT, hS, hC, hF, hLT, hLS, hVE, hBA⟩ := hmk
  have hnp16 : np ≤ 16 := by rw [hnp]; exact hok.1
  obtain ⟨kc, hkc⟩ : ∃ f : Nat → Nat, f = fun k => ko (lC x (spP sq k)) := ⟨_, rfl⟩
  have hk140 : ∀ k, kc k ≤ 140 := fun k => by rw [hkc]; exact ko_le _
  refine V_ldc2 cx 3 rfl dX5_key_0 cl_X5_110 ?_
  refine V_lstore_n (lc1 := [(1, .long (-15)), (0, .ref (g 0))]) cx 4 rfl dX5_key_3 (by decide) rfl ?_
  refine V_lconst (v := lN 0) cx 5 rfl dX5_key_4 (by decide) ?_
  refine V_lstore_n (lc1 := [(3, .long (lN 0)), (1, .long (-15)), (0, .ref (g 0))]) cx 6 rfl dX5_key_5 (by decide) rfl ?_
  refine V_iconst (v := nI 0) cx 7 rfl dX5_key_6 (by decide) ?_
  refine V_istore (lc1 := [(5, .int (nI 0)), (3, .long (lN 0)), (1, .long (-15)), (0, .ref (g 0))]) cx 9 rfl dX5_key_7 (by decide) rfl ?_
  have loop_9 : ∀ (fuel : Nat) (i : Nat) (S1 : Nat) (cd : Nat), (i ≤ 8) → (S1 = kS kc (spO sq) (min i m)) → (cd = kCd (spO sq) m i) → 8 - i < fuel → V X lo 7 G (Ql X lo G (fun (r : Int64) (_ : Unit) => r = lN (mkl x sq)) (fun (_ : Unit) => mW G g th np nl ld ll (nI m) sp T S C F LT LS VE BA wd mo lt op pl pt ks ++ rs) 0 0) 0 0 (mW G g th np nl ld ll (nI m) sp T S C F LT LS VE BA wd mo lt op pl pt ks ++ rs) [(5, .int (nI i)), (3, .long (lN cd)), (1, .long (lN S1 - lN 15)), (0, .ref (g 0))] [] 9 := by
    intro fuel
    induction fuel with
    | zero => intro i S1 cd hi hS1 hcd hmz; exact absurd hmz (Nat.not_lt_zero _)
    | succ fuel ih_9 =>
      intro i S1 cd hi hS1 hcd hmz_9
      refine V_iload cx 11 rfl dX5_key_9 0 rfl ?_
      refine V_bipush (v := nI 8) cx 13 rfl dX5_key_11 (by decide) ?_
      refine V_icmp_ge cx 16 108 rfl dX5_key_13 (by decide) (fun c_13 => ?_) (fun c_13 => ?_)
      · skip
        have n_13 : i ≥ 8 := N_ge_t (by omega) (by omega) c_13
        rw [show min i m = m by omega] at hS1
        have h15 := kS_ge kc (spO sq) hm8.1
        refine V_ldc2 cx 111 rfl dX5_key_108 cl_X5_114 ?_
        refine V_tol (lN 16) (by decide) ?_
        refine V_lload_n cx 112 rfl dX5_key_111 2 rfl ?_
        refine V_lmul cx 113 rfl dX5_key_112 ?_
        refine V_tol (lN (16 * (S1 - 15))) (by rw [lN_sub (by omega), lN_mul]) ?_
        refine V_aload_n cx 114 rfl dX5_key_113 3 rfl ?_
        refine GX5_104 cx 0 rfl rfl 117 rfl dX5_key_114 ?_
        refine V_i2l cx 118 rfl dX5_key_117 ?_
        refine V_tol (lN m) (nI_l (by omega)) ?_
        refine V_ladd cx 119 rfl dX5_key_118 ?_
        refine V_tol (lN ((16 * (S1 - 15)) + m)) (lN_add _ _) ?_
        refine V_ldc2 cx 122 rfl dX5_key_119 cl_X5_116 ?_
        refine V_tol (lN 377801998336) (by decide) ?_
        refine V_lmul cx 123 rfl dX5_key_122 ?_
        refine V_tol (lN (((16 * (S1 - 15)) + m) * 377801998336)) (lN_mul _ _) ?_
        refine V_lload_n cx 124 rfl dX5_key_123 1 rfl ?_
        refine V_ladd cx 125 rfl dX5_key_124 ?_
        refine V_tol (lN ((((16 * (S1 - 15)) + m) * 377801998336) + cd)) (lN_add _ _) ?_
        exact V_lreturn cx hr () (by rw [mkl, mkey, ← hml, ← hkc, ← hS1, hcd, show i = 8 by omega]) rfl (by omega) (by omega) dX5_key_125
      · skip
        have n_13 : i < 8 := N_ge_f (by omega) (by omega) c_13
        refine V_iload cx 18 rfl dX5_key_16 0 rfl ?_
        refine V_aload_n cx 19 rfl dX5_key_18 3 rfl ?_
        refine GX5_104 cx 0 rfl rfl 22 rfl dX5_key_19 ?_
        refine V_icmp_ge cx 25 29 rfl dX5_key_22 (by decide) (fun c_22 => ?_) (fun c_22 => ?_)
        · skip
          have n_22 : i ≥ m := N_ge_t (by omega) (by omega) c_22
          refine V_iconst (v := nI 0) cx 30 rfl dX5_key_29 (by decide) ?_
          refine V_istore (lc1 := [(6, .int (nI 0)), (5, .int (nI i)), (3, .long (lN cd)), (1, .long (lN S1 - lN 15)), (0, .ref (g 0))]) cx 32 rfl dX5_key_30 (by decide) rfl ?_
          refine V_lload_n cx 33 rfl dX5_key_32 3 rfl ?_
          refine V_iload cx 35 rfl dX5_key_33 0 rfl ?_
          refine V_if_eq cx 38 75 rfl dX5_key_35 (by decide) (fun c_35 => ?_) (fun c_35 => ?_)
          · skip
            refine V_lconst (v := lN 0) cx 76 rfl dX5_key_75 (by decide) ?_
            refine V_ladd cx 77 rfl dX5_key_76 ?_
            refine V_tol (lN S1 - lN 15) (lN_sadd _ _) ?_
            refine V_lstore_n (lc1 := [(1, .long (lN S1 - lN 15)), (6, .int (nI 0)), (5, .int (nI i)), (3, .long (lN cd)), (0, .ref (g 0))]) cx 78 rfl dX5_key_77 (by decide) rfl ?_
            refine V_ldc2 cx 81 rfl dX5_key_78 cl_X5_112 ?_
            refine V_tol (lN 28) (by decide) ?_
            refine V_lload_n cx 82 rfl dX5_key_81 3 rfl ?_
            refine V_lmul cx 83 rfl dX5_key_82 ?_
            refine V_tol (lN (28 * cd)) (lN_mul _ _) ?_
            refine V_iload cx 85 rfl dX5_key_83 1 rfl ?_
            refine V_if_eq cx 88 98 rfl dX5_key_85 (by decide) (fun c_85 => ?_) (fun c_85 => ?_)
            · skip
              refine V_iconst (v := nI 0) cx 99 rfl dX5_key_98 (by decide) ?_
              refine V_i2l cx 100 rfl dX5_key_99 ?_
              refine V_tol (lN 0) (nI_l (by omega)) ?_
              refine V_ladd cx 101 rfl dX5_key_100 ?_
              refine V_tol (lN (28 * cd)) (lN_add _ _) ?_
              refine V_lstore_n (lc1 := [(3, .long (lN (28 * cd))), (1, .long (lN S1 - lN 15)), (6, .int (nI 0)), (5, .int (nI i)), (0, .ref (g 0))]) cx 102 rfl dX5_key_101 (by decide) rfl ?_
              refine V_iinc (v := nI (i + 1)) (lc1 := [(5, .int (nI (i + 1))), (3, .long (lN (28 * cd))), (1, .long (lN S1 - lN 15)), (6, .int (nI 0)), (0, .ref (g 0))]) cx 105 rfl dX5_key_102 3 rfl (nI_inc i 1) (by decide) rfl ?_
              refine V_goto cx 9 dX5_key_105 (by decide) ?_
              refine V.locs [0, 1, 2, 4] rfl ?_
              exact ih_9 (i + 1) S1 (28 * cd) (by omega) (by first | (rw [hS1, show min (i + 1) m = min i m + 1 by omega, show min i m = i by omega, kS, if_pos (by omega), hkc]; done) | (rw [hS1, show min (i + 1) m = min i m + 1 by omega, show min i m = i by omega, kS, if_neg (by omega), hkc]; done) | (rw [hS1, show min (i + 1) m = min i m by omega])) (by first | (rw [kCd, if_pos (by omega), hcd]; done) | (rw [kCd, if_neg (by omega), hcd]; omega)) (by omega)
            · skip
              exact absurd c_85 (by decide)
          · skip
            exact absurd c_35 (by decide)
        · skip
          have n_22 : i < m := N_ge_f (by omega) (by omega) c_22
          refine V_iconst (v := nI 1) cx 26 rfl dX5_key_25 (by decide) ?_
          refine V_goto cx 30 dX5_key_26 (by decide) ?_
          refine V_istore (lc1 := [(6, .int (nI 1)), (5, .int (nI i)), (3, .long (lN cd)), (1, .long (lN S1 - lN 15)), (0, .ref (g 0))]) cx 32 rfl dX5_key_30 (by decide) rfl ?_
          refine V_lload_n cx 33 rfl dX5_key_32 3 rfl ?_
          refine V_iload cx 35 rfl dX5_key_33 0 rfl ?_
          refine V_if_eq cx 38 75 rfl dX5_key_35 (by decide) (fun c_35 => ?_) (fun c_35 => ?_)
          · skip
            exact absurd c_35 (by decide)
          · skip
            obtain ⟨ho1, ho2, hp1, hp2⟩ := hho i (by omega)
            have hp16 : spP sq i < 16 := by omega
            have hcc := hok.2.2.2.1 (spP sq i) (by omega)
            have hkk := ko_le (lC x (spP sq i))
            refine V_aload_n cx 39 rfl dX5_key_38 4 rfl ?_
            refine V_aload_n cx 40 rfl dX5_key_39 4 rfl ?_
            refine GX5_49 cx 0 rfl rfl 43 rfl dX5_key_40 ?_
            refine V_iload cx 45 rfl dX5_key_43 1 rfl ?_
            refine V_ialdN cx i (rfl) (by omega) (by decide) 14 rfl 46 rfl dX5_key_45 ?_
            refine V_toi (nI (spP sq i)) (hp1) ?_
            refine KX5_85 (As := [.int (nI (spP sq i))]) (rest := [.long (lN S1 - lN 15)]) cx (kX5_costNow (xl X) lo G _ g th np nl ld ll (nI m) sp T S C F LT LS VE BA wd mo lt op pl pt ks (spP sq i) (lC x (spP sq i)) hp16 (hC (spP sq i) hp2) hcc) hX (by omega) 0 rfl rfl rfl (Nat.le_of_ble_eq_true rfl) 49 0 0 rfl rfl rfl (by omega) (by omega) dX5_key_46 (fun r_1 u_2 hw_3 => ?_)
            try dsimp only at hw_3
            subst hw_3
            refine V_bipush (v := nI 15) cx 51 rfl dX5_key_49 (by decide) ?_
            refine V_iadd cx 52 rfl dX5_key_51 ?_
            refine V_toi (nI ((ko (lC x (spP sq i))) + 15)) (nI_add _ _) ?_
            refine V_aload_n cx 53 rfl dX5_key_52 4 rfl ?_
            refine GX5_43 cx 0 rfl rfl 56 rfl dX5_key_53 ?_
            refine V_iload cx 58 rfl dX5_key_56 1 rfl ?_
            refine V_ialdN cx i (rfl) (by omega) (by decide) 12 rfl 59 rfl dX5_key_58 ?_
            refine V_toi (nI (spO sq i)) (ho1) ?_
            refine V_bipush (v := nI 7) cx 61 rfl dX5_key_59 (by decide) ?_
            refine V_irem cx 62 rfl dX5_key_61 (by decide) ?_
            refine V_toi (nI ((spO sq i) % 7)) (nI_mod (by omega) (by omega)) ?_
            refine V_if_le cx 65 69 rfl dX5_key_62 (by decide) (fun c_62 => ?_) (fun c_62 => ?_)
            · skip
              have n_62 : (spO sq i) % 7 ≤ 0 := Z_le_t (by omega) c_62
              refine V_iconst (v := nI 0) cx 70 rfl dX5_key_69 (by decide) ?_
              refine V_iadd cx 71 rfl dX5_key_70 ?_
              refine V_toi (nI ((ko (lC x (spP sq i))) + 15)) (nI_add _ _) ?_
              refine V_i2l cx 72 rfl dX5_key_71 ?_
              refine V_tol (lN ((ko (lC x (spP sq i))) + 15)) (nI_l (by omega)) ?_
              refine V_goto cx 76 dX5_key_72 (by decide) ?_
              refine V_ladd cx 77 rfl dX5_key_76 ?_
              refine V_tol (lN (S1 + ((ko (lC x (spP sq i))) + 15)) - lN 15) (lN_sadd _ _) ?_
              refine V_lstore_n (lc1 := [(1, .long (lN (S1 + ((ko (lC x (spP sq i))) + 15)) - lN 15)), (6, .int (nI 1)), (5, .int (nI i)), (3, .long (lN cd)), (0, .ref (g 0))]) cx 78 rfl dX5_key_77 (by decide) rfl ?_
              refine V_ldc2 cx 81 rfl dX5_key_78 cl_X5_112 ?_
              refine V_tol (lN 28) (by decide) ?_
              refine V_lload_n cx 82 rfl dX5_key_81 3 rfl ?_
              refine V_lmul cx 83 rfl dX5_key_82 ?_
              refine V_tol (lN (28 * cd)) (lN_mul _ _) ?_
              refine V_iload cx 85 rfl dX5_key_83 1 rfl ?_
              refine V_if_eq cx 88 98 rfl dX5_key_85 (by decide) (fun c_85 => ?_) (fun c_85 => ?_)
              · skip
                exact absurd c_85 (by decide)
              · skip
                refine V_aload_n cx 89 rfl dX5_key_88 4 rfl ?_
                refine GX5_43 cx 0 rfl rfl 92 rfl dX5_key_89 ?_
                refine V_iload cx 94 rfl dX5_key_92 2 rfl ?_
                refine V_ialdN cx i (rfl) (by omega) (by decide) 12 rfl 95 rfl dX5_key_94 ?_
                refine V_toi (nI (spO sq i)) (ho1) ?_
                refine V_goto cx 99 dX5_key_95 (by decide) ?_
                refine V_i2l cx 100 rfl dX5_key_99 ?_
                refine V_tol (lN (spO sq i)) (nI_l (by omega)) ?_
                refine V_ladd cx 101 rfl dX5_key_100 ?_
                refine V_tol (lN ((28 * cd) + (spO sq i))) (lN_add _ _) ?_
                refine V_lstore_n (lc1 := [(3, .long (lN ((28 * cd) + (spO sq i)))), (1, .long (lN (S1 + ((ko (lC x (spP sq i))) + 15)) - lN 15)), (6, .int (nI 1)), (5, .int (nI i)), (0, .ref (g 0))]) cx 102 rfl dX5_key_101 (by decide) rfl ?_
                refine V_iinc (v := nI (i + 1)) (lc1 := [(5, .int (nI (i + 1))), (3, .long (lN ((28 * cd) + (spO sq i)))), (1, .long (lN (S1 + ((ko (lC x (spP sq i))) + 15)) - lN 15)), (6, .int (nI 1)), (0, .ref (g 0))]) cx 105 rfl dX5_key_102 3 rfl (nI_inc i 1) (by decide) rfl ?_
                refine V_goto cx 9 dX5_key_105 (by decide) ?_
                refine V.locs [0, 1, 2, 4] rfl ?_
                exact ih_9 (i + 1) (S1 + ((ko (lC x (spP sq i))) + 15)) ((28 * cd) + (spO sq i)) (by omega) (by first | (rw [hS1, show min (i + 1) m = min i m + 1 by omega, show min i m = i by omega, kS, if_pos (by omega), hkc]; done) | (rw [hS1, show min (i + 1) m = min i m + 1 by omega, show min i m = i by omega, kS, if_neg (by omega), hkc]; done) | (rw [hS1, show min (i + 1) m = min i m by omega])) (by first | (rw [kCd, if_pos (by omega), hcd]; done) | (rw [kCd, if_neg (by omega), hcd]; omega)) (by omega)
            · skip
              have n_62 : (spO sq i) % 7 > 0 := Z_le_f (by omega) c_62
              refine V_iconst (v := nI 3) cx 66 rfl dX5_key_65 (by decide) ?_
              refine V_goto cx 70 dX5_key_66 (by decide) ?_
              refine V_iadd cx 71 rfl dX5_key_70 ?_
              refine V_toi (nI ((ko (lC x (spP sq i))) + 18)) (nI_add _ _) ?_
              refine V_i2l cx 72 rfl dX5_key_71 ?_
              refine V_tol (lN ((ko (lC x (spP sq i))) + 18)) (nI_l (by omega)) ?_
              refine V_goto cx 76 dX5_key_72 (by decide) ?_
              refine V_ladd cx 77 rfl dX5_key_76 ?_
              refine V_tol (lN (S1 + ((ko (lC x (spP sq i))) + 18)) - lN 15) (lN_sadd _ _) ?_
              refine V_lstore_n (lc1 := [(1, .long (lN (S1 + ((ko (lC x (spP sq i))) + 18)) - lN 15)), (6, .int (nI 1)), (5, .int (nI i)), (3, .long (lN cd)), (0, .ref (g 0))]) cx 78 rfl dX5_key_77 (by decide) rfl ?_
              refine V_ldc2 cx 81 rfl dX5_key_78 cl_X5_112 ?_
              refine V_tol (lN 28) (by decide) ?_
              refine V_lload_n cx 82 rfl dX5_key_81 3 rfl ?_
              refine V_lmul cx 83 rfl dX5_key_82 ?_
              refine V_tol (lN (28 * cd)) (lN_mul _ _) ?_
              refine V_iload cx 85 rfl dX5_key_83 1 rfl ?_
              refine V_if_eq cx 88 98 rfl dX5_key_85 (by decide) (fun c_85 => ?_) (fun c_85 => ?_)
              · skip
                exact absurd c_85 (by decide)
              · skip
                refine V_aload_n cx 89 rfl dX5_key_88 4 rfl ?_
                refine GX5_43 cx 0 rfl rfl 92 rfl dX5_key_89 ?_
                refine V_iload cx 94 rfl dX5_key_92 2 rfl ?_
                refine V_ialdN cx i (rfl) (by omega) (by decide) 12 rfl 95 rfl dX5_key_94 ?_
                refine V_toi (nI (spO sq i)) (ho1) ?_
                refine V_goto cx 99 dX5_key_95 (by decide) ?_
                refine V_i2l cx 100 rfl dX5_key_99 ?_
                refine V_tol (lN (spO sq i)) (nI_l (by omega)) ?_
                refine V_ladd cx 101 rfl dX5_key_100 ?_
                refine V_tol (lN ((28 * cd) + (spO sq i))) (lN_add _ _) ?_
                refine V_lstore_n (lc1 := [(3, .long (lN ((28 * cd) + (spO sq i)))), (1, .long (lN (S1 + ((ko (lC x (spP sq i))) + 18)) - lN 15)), (6, .int (nI 1)), (5, .int (nI i)), (0, .ref (g 0))]) cx 102 rfl dX5_key_101 (by decide) rfl ?_
                refine V_iinc (v := nI (i + 1)) (lc1 := [(5, .int (nI (i + 1))), (3, .long (lN ((28 * cd) + (spO sq i)))), (1, .long (lN (S1 + ((ko (lC x (spP sq i))) + 18)) - lN 15)), (6, .int (nI 1)), (0, .ref (g 0))]) cx 105 rfl dX5_key_102 3 rfl (nI_inc i 1) (by decide) rfl ?_
                refine V_goto cx 9 dX5_key_105 (by decide) ?_
                refine V.locs [0, 1, 2, 4] rfl ?_
                exact ih_9 (i + 1) (S1 + ((ko (lC x (spP sq i))) + 18)) ((28 * cd) + (spO sq i)) (by omega) (by first | (rw [hS1, show min (i + 1) m = min i m + 1 by omega, show min i m = i by omega, kS, if_pos (by omega), hkc]; done) | (rw [hS1, show min (i + 1) m = min i m + 1 by omega, show min i m = i by omega, kS, if_neg (by omega), hkc]; done) | (rw [hS1, show min (i + 1) m = min i m by omega])) (by first | (rw [kCd, if_pos (by omega), hcd]; done) | (rw [kCd, if_neg (by omega), hcd]; omega)) (by omega)
  refine V.locs [0, 1, 2, 3] rfl ?_
  exact loop_9 _ 0 0 0 (by omega) (by rw [Nat.zero_min]; rfl) (by rfl) (Nat.lt_succ_self _)
set_option maxHeartbeats 4000000 in
set_option maxRecDepth 100000 in
theorem kX5_costOfKey (l : Launch) (lo : Nat) (G : vG) (rs : va_W) (k : Nat) (hk : k < 9223372036854775808) : Mi l yX5_costOfKey (.code yX5_costOfKey prog_7_method_30_code 2 (some .int)) 1 0 0 lo G [.long (lN k)] (rs) (fun (r : Int32) (_ : Unit) => r = nI (k / 377801998336 / 16)) (fun (_ : Unit) => rs) := by
  refine Mi_of (lc := [(0, .long (lN k))]) (by decide +kernel) (Nat.le_of_ble_eq_true rfl) rfl ?_
  intro X cx hXR hXl hr hin
  subst hXl
  have hX := RmX.of hXR
  refine V_lload_n cx 1 rfl dX5_costOfKey_0 0 rfl ?_
  refine V_ldc2 cx 4 rfl dX5_costOfKey_1 cl_X5_116 ?_
  refine V_tol (lN 377801998336) (by decide) ?_
  refine V_ldiv cx 5 rfl dX5_costOfKey_4 (by decide) ?_
  refine V_tol (lN (k / 377801998336)) (lN_div (by omega) (by decide)) ?_
  refine V_ldc2 cx 8 rfl dX5_costOfKey_5 cl_X5_114 ?_
  refine V_tol (lN 16) (by decide) ?_
  refine V_ldiv cx 9 rfl dX5_costOfKey_8 (by decide) ?_
  refine V_tol (lN ((k / 377801998336) / 16)) (lN_div (by omega) (by decide)) ?_
  refine V_l2i cx 10 rfl dX5_costOfKey_9 ?_
  refine V_toi (nI ((k / 377801998336) / 16)) (lN_i _) ?_
  exact V_ireturn cx hr () (by first | rfl | trivial) rfl (by omega) (by omega) dX5_costOfKey_10
set_option maxHeartbeats 4000000 in
set_option maxRecDepth 100000 in
theorem kX5_sizeOfKey (l : Launch) (lo : Nat) (G : vG) (rs : va_W) (k : Nat) (hk : k < 9223372036854775808) : Mi l yX5_sizeOfKey (.code yX5_sizeOfKey prog_7_method_31_code 2 (some .int)) 1 0 0 lo G [.long (lN k)] (rs) (fun (r : Int32) (_ : Unit) => r = nI (k / 377801998336 % 16)) (fun (_ : Unit) => rs) := by
  refine Mi_of (lc := [(0, .long (lN k))]) (by decide +kernel) (Nat.le_of_ble_eq_true rfl) rfl ?_
  intro X cx hXR hXl hr hin
  subst hXl
  have hX := RmX.of hXR
  refine V_lload_n cx 1 rfl dX5_sizeOfKey_0 0 rfl ?_
  refine V_ldc2 cx 4 rfl dX5_sizeOfKey_1 cl_X5_116 ?_
  refine V_tol (lN 377801998336) (by decide) ?_
  refine V_ldiv cx 5 rfl dX5_sizeOfKey_4 (by decide) ?_
  refine V_tol (lN (k / 377801998336)) (lN_div (by omega) (by decide)) ?_
  refine V_ldc2 cx 8 rfl dX5_sizeOfKey_5 cl_X5_114 ?_
  refine V_tol (lN 16) (by decide) ?_
  refine V_lrem cx 9 rfl dX5_sizeOfKey_8 (by decide) ?_
  refine V_tol (lN ((k / 377801998336) % 16)) (lN_mod (by omega) (by decide)) ?_
  refine V_l2i cx 10 rfl dX5_sizeOfKey_9 ?_
  refine V_toi (nI ((k / 377801998336) % 16)) (lN_i _) ?_
  exact V_ireturn cx hr () (by first | rfl | trivial) rfl (by omega) (by omega) dX5_sizeOfKey_10
set_option maxHeartbeats 4000000 in
set_option maxRecDepth 100000 in
theorem kX5_keyAt (l : Launch) (lo : Nat) (G : vG) (rs : va_W) (g : Nat → Nat) (th : Nat) (np : Nat) (nl : Nat) (ld : Nat) (ll : Nat) (mn : Int32) (sp : Nat) (T : Nat → Int32) (S : Nat → Int32) (C : Nat → Int32) (F : Nat → Int32) (LT : Nat → Int32) (LS : Nat → Int32) (VE : Nat → Int32) (BA : Nat → Int32) (wd : Nat → Int32) (mo : Nat → Int32) (lt : Nat → Int32) (op : Nat → Int32) (pl : Nat → Int32) (pt : Nat → Int32) (ks : Nat → Int64) (k : Int32) (hsp : sp ≤ 640) : Ml l yX5_keyAt (.code yX5_keyAt prog_7_method_29_code 7 (some .long)) 1 0 0 lo G [.ref (g 0), .int k] (mW G g th np nl ld ll mn sp T S C F LT LS VE BA wd mo lt op pl pt ks ++ rs) (fun (r : Int64) (_ : Unit) => r = selK ks sp k sp) (fun (_ : Unit) => mW G g th np nl ld ll mn sp T S C F LT LS VE BA wd mo lt op pl pt ks ++ rs) := by
  refine Ml_of (lc := [(0, .ref (g 0)), (1, .int k)]) (by decide +kernel) (Nat.le_of_ble_eq_true rfl) rfl ?_
  intro X cx hXR hXl hr hin
  subst hXl
  have hX := RmX.of hXR
  refine V_ldc2 cx 3 rfl dX5_keyAt_0 cl_X5_134 ?_
  refine V_lstore_n (lc1 := [(2, .long (-1)), (0, .ref (g 0)), (1, .int k)]) cx 4 rfl dX5_keyAt_3 (by decide) rfl ?_
  refine V_iconst (v := nI 0) cx 5 rfl dX5_keyAt_4 (by decide) ?_
  refine V_istore (lc1 := [(4, .int (nI 0)), (2, .long (-1)), (0, .ref (g 0)), (1, .int k)]) cx 7 rfl dX5_keyAt_5 (by decide) rfl ?_
  have loop_7 : ∀ (fuel : Nat) (s : Nat) (f : Int64), (s ≤ sp) → (f = selK ks sp k s) → sp - s < fuel → V X lo 7 G (Ql X lo G (fun (r : Int64) (_ : Unit) => r = selK ks sp k sp) (fun (_ : Unit) => mW G g th np nl ld ll mn sp T S C F LT LS VE BA wd mo lt op pl pt ks ++ rs) 0 0) 0 0 (mW G g th np nl ld ll mn sp T S C F LT LS VE BA wd mo lt op pl pt ks ++ rs) [(4, .int (nI s)), (2, .long f), (0, .ref (g 0)), (1, .int k)] [] 7 := by
    intro fuel
    induction fuel with
    | zero => intro s f hs hf hmz; exact absurd hmz (Nat.not_lt_zero _)
    | succ fuel ih_7 =>
      intro s f hs hf hmz_7
      refine V_iload cx 9 rfl dX5_keyAt_7 0 rfl ?_
      refine V_aload_n cx 10 rfl dX5_keyAt_9 2 rfl ?_
      refine GX5_118 cx 0 rfl rfl 13 rfl dX5_keyAt_10 ?_
      refine V_icmp_ge cx 16 89 rfl dX5_keyAt_13 (by decide) (fun c_13 => ?_) (fun c_13 => ?_)
      · skip
        have n_13 : s ≥ sp := N_ge_t (by omega) (by omega) c_13
        refine V_lload_n cx 90 rfl dX5_keyAt_89 1 rfl ?_
        exact V_lreturn cx hr () (by rw [hf, show s = sp by omega]) rfl (by omega) (by omega) dX5_keyAt_90
      · skip
        have n_13 : s < sp := N_ge_f (by omega) (by omega) c_13
        refine V_iconst (v := nI 0) cx 17 rfl dX5_keyAt_16 (by decide) ?_
        refine V_istore (lc1 := [(5, .int (nI 0)), (4, .int (nI s)), (2, .long f), (0, .ref (g 0)), (1, .int k)]) cx 19 rfl dX5_keyAt_17 (by decide) rfl ?_
        refine V_iconst (v := nI 0) cx 20 rfl dX5_keyAt_19 (by decide) ?_
        refine V_istore (lc1 := [(6, .int (nI 0)), (5, .int (nI 0)), (4, .int (nI s)), (2, .long f), (0, .ref (g 0)), (1, .int k)]) cx 22 rfl dX5_keyAt_20 (by decide) rfl ?_
        have loop_22 : ∀ (fuel : Nat) (o : Nat) (h : Nat), (o ≤ sp) → (h = cntLt ks (ks s) o) → (h ≤ o) → sp - o < fuel → V X lo 7 G (Ql X lo G (fun (r : Int64) (_ : Unit) => r = selK ks sp k sp) (fun (_ : Unit) => mW G g th np nl ld ll mn sp T S C F LT LS VE BA wd mo lt op pl pt ks ++ rs) 0 0) 0 0 (mW G g th np nl ld ll mn sp T S C F LT LS VE BA wd mo lt op pl pt ks ++ rs) [(6, .int (nI o)), (5, .int (nI h)), (4, .int (nI s)), (2, .long f), (0, .ref (g 0)), (1, .int k)] [] 22 := by
          intro fuel
          induction fuel with
          | zero => intro o h ho hh hhb hmz; exact absurd hmz (Nat.not_lt_zero _)
          | succ fuel ih_22 =>
            intro o h ho hh hhb hmz_22
            refine V_iload cx 24 rfl dX5_keyAt_22 0 rfl ?_
            refine V_aload_n cx 25 rfl dX5_keyAt_24 4 rfl ?_
            refine GX5_118 cx 0 rfl rfl 28 rfl dX5_keyAt_25 ?_
            refine V_icmp_ge cx 31 65 rfl dX5_keyAt_28 (by decide) (fun c_28 => ?_) (fun c_28 => ?_)
            · skip
              have n_28 : o ≥ sp := N_ge_t (by omega) (by omega) c_28
              rw [show o = sp by omega] at hh
              refine V_iload cx 67 rfl dX5_keyAt_65 1 rfl ?_
              refine V_iload_n cx 68 rfl dX5_keyAt_67 5 rfl ?_
              refine V_icmp_ne cx 71 81 rfl dX5_keyAt_68 (by decide) (fun c_68 => ?_) (fun c_68 => ?_)
              · skip
                refine V_lload_n cx 82 rfl dX5_keyAt_81 3 rfl ?_
                refine V_lstore_n (lc1 := [(2, .long f), (6, .int (nI o)), (5, .int (nI h)), (4, .int (nI s)), (0, .ref (g 0)), (1, .int k)]) cx 83 rfl dX5_keyAt_82 (by decide) rfl ?_
                refine V_iinc (v := nI (s + 1)) (lc1 := [(4, .int (nI (s + 1))), (2, .long f), (6, .int (nI o)), (5, .int (nI h)), (0, .ref (g 0)), (1, .int k)]) cx 86 rfl dX5_keyAt_83 3 rfl (nI_inc s 1) (by decide) rfl ?_
                refine V_goto cx 7 dX5_keyAt_86 (by decide) ?_
                refine V.locs [0, 1, 4, 5] rfl ?_
                exact ih_7 (s + 1) f (by omega) (by rw [selK, ← hh]; first | (rw [if_pos c_68]; done) | (rw [if_neg c_68]; exact hf)) (by omega)
              · skip
                refine V_aload_n cx 72 rfl dX5_keyAt_71 4 rfl ?_
                refine GX5_52 cx 0 rfl rfl 75 rfl dX5_keyAt_72 ?_
                refine V_iload cx 77 rfl dX5_keyAt_75 2 rfl ?_
                refine V_laldN cx s (rfl) (by omega) (by decide) 15 rfl 78 rfl dX5_keyAt_77 ?_
                refine V_goto cx 82 dX5_keyAt_78 (by decide) ?_
                refine V_lstore_n (lc1 := [(2, .long (ks s)), (6, .int (nI o)), (5, .int (nI h)), (4, .int (nI s)), (0, .ref (g 0)), (1, .int k)]) cx 83 rfl dX5_keyAt_82 (by decide) rfl ?_
                refine V_iinc (v := nI (s + 1)) (lc1 := [(4, .int (nI (s + 1))), (2, .long (ks s)), (6, .int (nI o)), (5, .int (nI h)), (0, .ref (g 0)), (1, .int k)]) cx 86 rfl dX5_keyAt_83 3 rfl (nI_inc s 1) (by decide) rfl ?_
                refine V_goto cx 7 dX5_keyAt_86 (by decide) ?_
                refine V.locs [0, 1, 4, 5] rfl ?_
                exact ih_7 (s + 1) (ks s) (by omega) (by rw [selK, ← hh]; first | (rw [if_pos c_68]; done) | (rw [if_neg c_68]; exact hf)) (by omega)
            · skip
              have n_28 : o < sp := N_ge_f (by omega) (by omega) c_28
              refine V_iload cx 33 rfl dX5_keyAt_31 1 rfl ?_
              refine V_aload_n cx 34 rfl dX5_keyAt_33 4 rfl ?_
              refine GX5_52 cx 0 rfl rfl 37 rfl dX5_keyAt_34 ?_
              refine V_iload cx 39 rfl dX5_keyAt_37 0 rfl ?_
              refine V_laldN cx o (rfl) (by omega) (by decide) 15 rfl 40 rfl dX5_keyAt_39 ?_
              refine V_aload_n cx 41 rfl dX5_keyAt_40 4 rfl ?_
              refine GX5_52 cx 0 rfl rfl 44 rfl dX5_keyAt_41 ?_
              refine V_iload cx 46 rfl dX5_keyAt_44 2 rfl ?_
              refine V_laldN cx s (rfl) (by omega) (by decide) 15 rfl 47 rfl dX5_keyAt_46 ?_
              refine V_lcmp cx 48 rfl dX5_keyAt_47 ?_
              refine V_if_ge cx 51 55 rfl dX5_keyAt_48 (by decide) (fun c_48 => ?_) (fun c_48 => ?_)
              · skip
                have g_48 := lg_ge c_48
                refine V_iconst (v := nI 0) cx 56 rfl dX5_keyAt_55 (by decide) ?_
                refine V_iadd cx 57 rfl dX5_keyAt_56 ?_
                refine V_toi (nI h) (nI_add _ _) ?_
                refine V_istore (lc1 := [(5, .int (nI h)), (6, .int (nI o)), (4, .int (nI s)), (2, .long f), (0, .ref (g 0)), (1, .int k)]) cx 59 rfl dX5_keyAt_57 (by decide) rfl ?_
                refine V_iinc (v := nI (o + 1)) (lc1 := [(6, .int (nI (o + 1))), (5, .int (nI h)), (4, .int (nI s)), (2, .long f), (0, .ref (g 0)), (1, .int k)]) cx 62 rfl dX5_keyAt_59 1 rfl (nI_inc o 1) (by decide) rfl ?_
                refine V_goto cx 22 dX5_keyAt_62 (by decide) ?_
                refine V.locs [0, 1, 2, 3, 4, 5] rfl ?_
                exact ih_22 (o + 1) h (by omega) (by rw [cntLt, ← hh]; first | (rw [if_pos g_48]; done) | (rw [if_neg g_48]; rfl)) (by omega) (by omega)
              · skip
                have g_48 := lg_lt c_48
                refine V_iconst (v := nI 1) cx 52 rfl dX5_keyAt_51 (by decide) ?_
                refine V_goto cx 56 dX5_keyAt_52 (by decide) ?_
                refine V_iadd cx 57 rfl dX5_keyAt_56 ?_
                refine V_toi (nI (h + 1)) (nI_add _ _) ?_
                refine V_istore (lc1 := [(5, .int (nI (h + 1))), (6, .int (nI o)), (4, .int (nI s)), (2, .long f), (0, .ref (g 0)), (1, .int k)]) cx 59 rfl dX5_keyAt_57 (by decide) rfl ?_
                refine V_iinc (v := nI (o + 1)) (lc1 := [(6, .int (nI (o + 1))), (5, .int (nI (h + 1))), (4, .int (nI s)), (2, .long f), (0, .ref (g 0)), (1, .int k)]) cx 62 rfl dX5_keyAt_59 1 rfl (nI_inc o 1) (by decide) rfl ?_
                refine V_goto cx 22 dX5_keyAt_62 (by decide) ?_
                refine V.locs [0, 1, 2, 3, 4, 5] rfl ?_
                exact ih_22 (o + 1) (h + 1) (by omega) (by rw [cntLt, ← hh]; first | (rw [if_pos g_48]; done) | (rw [if_neg g_48]; rfl)) (by omega) (by omega)
        refine V.locs [0, 1, 2, 3, 4, 5] rfl ?_
        exact loop_22 _ 0 0 (by omega) (by rfl) (by omega) (Nat.lt_succ_self _)
  refine V.locs [0, 1, 2, 3] rfl ?_
  exact loop_7 _ 0 (-1) (by omega) (by rfl) (Nat.lt_succ_self _)
