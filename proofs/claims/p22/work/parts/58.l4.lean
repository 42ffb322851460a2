set_option maxHeartbeats 4000000 in
set_option maxRecDepth 100000 in
theorem kL_isWord (l : Launch) (lo : Nat) (G : vG) (rs : va_W) (h : Nat → Nat) (np : Nat) (nl : Nat) (len : Nat) (fd : Nat) (lu : Nat) (tu : Nat) (T : Nat → Int32) (C : Nat → Int32) (F : Nat → Int32) (LT : Nat → Int32) (VV : Nat → Int32) (BB : Nat → Int32) (lt : Nat → Int32) (ph : Nat → Int32) (lh : Nat → Int32) (ks : Nat → Int64) (wd : Nat → Int32) (gr : Nat → Int32) (gs : Nat → Int32) (bl : Nat → Int32) (ie : Nat → Int32) (tw : Nat → Int32) (qt : Nat → Int32) (qc : Nat → Int32) (qf : Nat → Int32) (qb : Nat → Int32) (ql : Nat → Int32) (qa : Nat → Int64) (qd : Nat → Int64) (qw : Nat → Int64) (qh : Nat → Int32) (qg : Nat → Int32) (w : Nat) (k : Nat) (x : LX) (L : Nat) (hst : l.stackTraces = false) (hok : lxOK x) (hck : cOK x np nl T C F LT VV BB) (hq : LQ x qt qc qf qb ql) (hw1 : 10 ^ L ≤ w) (hw2 : w < 2 * 10 ^ L) (hL : 1 ≤ L ∧ L ≤ 5) (hk7 : k ≤ 7) (hg0 : qg 0 = nI (lNp x)) (hg1 : qg 1 = nI (lNl x)) : Mi l yL_isWord (.code yL_isWord method_31_code 16 (some .boolean)) 25 32 192 lo G [.ref (h 0), .int (nI w), .int (nI k), .ref (h 21), .ref (h 22), .ref (h 23), .ref (h 24), .ref (h 25), .ref (h 26), .ref (h 27), .ref (h 30)] (cW G h np nl len fd lu tu T C F LT VV BB lt ph lh ks wd gr gs bl ie tw ++ (lW G h qt qc qf qb ql qa qd qw qh qg ++ rs)) (fun (r : Int32) ((len1, fd1, lt1, ph1, lh1, ks1, qa1, qd1, qg1) : (Nat) × (Nat) × (Nat → Int32) × (Nat → Int32) × (Nat → Int32) × (Nat → Int64) × (Nat → Int64) × (Nat → Int64) × (Nat → Int32)) => r = nI 1 ∧ (qg1 0 = qg 0 ∧ qg1 1 = qg 1 ∧ qg1 2 = qg 2)) (fun ((len1, fd1, lt1, ph1, lh1, ks1, qa1, qd1, qg1) : (Nat) × (Nat) × (Nat → Int32) × (Nat → Int32) × (Nat → Int32) × (Nat → Int64) × (Nat → Int64) × (Nat → Int64) × (Nat → Int32)) => cW G h np nl len1 fd1 lu tu T C F LT VV BB lt1 ph1 lh1 ks1 wd gr gs bl ie tw ++ (lW G h qt qc qf qb ql qa1 qd1 qw qh qg1 ++ rs)) := by
  refine Mi_of (lc := [(0, .ref (h 0)), (1, .int (nI w)), (2, .int (nI k)), (3, .ref (h 21)), (4, .ref (h 22)), (5, .ref (h 23)), (6, .ref (h 24)), (7, .ref (h 25)), (8, .ref (h 26)), (9, .ref (h 27)), (10, .ref (h 30))]) (by decide +kernel) (Nat.le_of_ble_eq_true rfl) rfl ?_
  intro X cx hXR hXl hr hin
  subst hXl
  have hX := RmX.of hXR
  have hw3 := ld_bd (Nat.le_refl _) hw2
  have hd : ∀ k, dgt w L k ≤ 9 := fun k => dgt_lt w L k
  have hwb := sx_bd (show L ≤ 8 by omega) hw3
  have hSZ := word_SZ hw1 hw2 (show 1 ≤ L ∧ L ≤ 8 by omega)
  refine V_iload_n cx 1 rfl dL_isWord_0 1 rfl ?_
  refine V_aload_n cx 2 rfl dL_isWord_1 3 rfl ?_
  refine V_aload cx 4 rfl dL_isWord_2 4 rfl ?_
  refine V_aload cx 6 rfl dL_isWord_4 5 rfl ?_
  refine V_aload cx 8 rfl dL_isWord_6 6 rfl ?_
  refine V_aload cx 10 rfl dL_isWord_8 7 rfl ?_
  refine V_aload cx 12 rfl dL_isWord_10 8 rfl ?_
  refine V_aload cx 14 rfl dL_isWord_12 9 rfl ?_
  refine V_aload cx 16 rfl dL_isWord_14 10 rfl ?_
  refine V.swap ?_
  refine KL_128 (As := [.int (nI w), .ref (h 21), .ref (h 22), .ref (h 23), .ref (h 24), .ref (h 25), .ref (h 26), .ref (h 27), .ref (h 30)]) (rest := []) cx (kL_split (xl X) lo G _ h qt qc qf qb ql qa qd qw qh qg w x L hok hq hw1 hw2 (by omega) hg0 hg1) hX (by omega) rfl rfl (Nat.le_of_ble_eq_true rfl) 19 0 0 rfl rfl rfl (by omega) (by omega) dL_isWord_16 (fun u_2 hw_3 => ?_)
  obtain ⟨qa1_4, qd1_5, qg1_6⟩ := u_2
  try dsimp only at hw_3
  refine V.swap ?_
  obtain ⟨fs, F9, hSR, hF32, hA, hG0, hG1, hG2, hG3⟩ := hw_3
  have hL8 : L ≤ 8 := by omega
  refine V_iconst (v := nI 0) cx 20 rfl dL_isWord_19 (by decide) ?_
  refine V_istore (lc1 := [(11, .int (nI 0)), (0, .ref (h 0)), (1, .int (nI w)), (2, .int (nI k)), (3, .ref (h 21)), (4, .ref (h 22)), (5, .ref (h 23)), (6, .ref (h 24)), (7, .ref (h 25)), (8, .ref (h 26)), (9, .ref (h 27)), (10, .ref (h 30))]) cx 22 rfl dL_isWord_20 (by decide) rfl ?_
  refine V_iconst (v := nI 0) cx 23 rfl dL_isWord_22 (by decide) ?_
  refine V_istore (lc1 := [(12, .int (nI 0)), (11, .int (nI 0)), (0, .ref (h 0)), (1, .int (nI w)), (2, .int (nI k)), (3, .ref (h 21)), (4, .ref (h 22)), (5, .ref (h 23)), (6, .ref (h 24)), (7, .ref (h 25)), (8, .ref (h 26)), (9, .ref (h 27)), (10, .ref (h 30))]) cx 25 rfl dL_isWord_23 (by decide) rfl ?_
  have loop_25 : ∀ (fuel : Nat) (i : Nat) (rd : Nat), (i ≤ F9) → (rd = sumF (fun i => trN ((fs i).length - 1)) i) → F9 - i < fuel → V X lo 16 G (Qi X lo G (fun (r : Int32) ((len1, fd1, lt1, ph1, lh1, ks1, qa1, qd1, qg1) : (Nat) × (Nat) × (Nat → Int32) × (Nat → Int32) × (Nat → Int32) × (Nat → Int64) × (Nat → Int64) × (Nat → Int64) × (Nat → Int32)) => r = nI 1 ∧ (qg1 0 = qg 0 ∧ qg1 1 = qg 1 ∧ qg1 2 = qg 2)) (fun ((len1, fd1, lt1, ph1, lh1, ks1, qa1, qd1, qg1) : (Nat) × (Nat) × (Nat → Int32) × (Nat → Int32) × (Nat → Int32) × (Nat → Int64) × (Nat → Int64) × (Nat → Int64) × (Nat → Int32)) => cW G h np nl len1 fd1 lu tu T C F LT VV BB lt1 ph1 lh1 ks1 wd gr gs bl ie tw ++ (lW G h qt qc qf qb ql qa1 qd1 qw qh qg1 ++ rs)) 32 192) 0 0 (cW G h np nl len fd lu tu T C F LT VV BB lt ph lh ks wd gr gs bl ie tw ++ (lW G h qt qc qf qb ql qa1_4 qd1_5 qw qh qg1_6 ++ rs)) [(12, .int (nI i)), (11, .int (nI rd)), (0, .ref (h 0)), (1, .int (nI w)), (2, .int (nI k)), (3, .ref (h 21)), (4, .ref (h 22)), (5, .ref (h 23)), (6, .ref (h 24)), (7, .ref (h 25)), (8, .ref (h 26)), (9, .ref (h 27)), (10, .ref (h 30))] [] 25 := by
    intro fuel
    induction fuel with
    | zero => intro i rd hi hrd hmz; exact absurd hmz (Nat.not_lt_zero _)
    | succ fuel ih_25 =>
      intro i rd hi hrd hmz_25
      refine V_iload cx 27 rfl dL_isWord_25 0 rfl ?_
      refine V_aload cx 29 rfl dL_isWord_27 12 rfl ?_
      refine V_iconst (v := nI 3) cx 30 rfl dL_isWord_29 (by decide) ?_
      refine V_ialdN cx 3 (rfl) (by omega) (by decide) 30 rfl 31 rfl dL_isWord_30 ?_
      refine V_toi (nI F9) (hG3) ?_
      refine V_icmp_ge cx 34 87 rfl dL_isWord_31 (by decide) (fun c_31 => ?_) (fun c_31 => ?_)
      · skip
        have n_31 : i ≥ F9 := N_ge_t (by omega) (by omega) c_31
        have hi9 : i = F9 := by omega
        refine V_aload_n cx 88 rfl dL_isWord_87 2 rfl ?_
        refine V_iload_n cx 89 rfl dL_isWord_88 3 rfl ?_
        refine KL_136 (As := [.ref (h 0), .int (nI w)]) (rest := []) cx (kL_splits (xl X) lo G _ h np nl len fd lu tu T C F LT VV BB lt ph lh ks wd gr gs bl ie tw (nI w) x hst hok hck) hX (by omega) rfl rfl (Nat.le_of_ble_eq_true rfl) 92 1 6 rfl rfl rfl (by omega) (by omega) dL_isWord_89 (fun r_7 u_8 hw_9 => ?_)
        rcases u_8 with _ | ⟨fd1_10, lt1_11, ph1_12, lh1_13, ks1_14, v_15⟩
        · exfalso
          dsimp only at hw_9
          obtain ⟨E, hw_9, -⟩ := hw_9
          obtain ⟨_, h9⟩ := hw_9; omega
        dsimp only at hw_9
        obtain ⟨hw_9, hv_16⟩ := hw_9
        subst hv_16
        refine V_toi (nI F9) ((q_word (f := fun w L => (mEn x (dgt w L) L).length) hwb hSZ hw_9).trans (congrArg nI (SR_len hL8 hSR))) ?_
        refine V_aload cx 94 rfl dL_isWord_92 12 rfl ?_
        refine V_iconst (v := nI 3) cx 95 rfl dL_isWord_94 (by decide) ?_
        refine V_ialdN cx 3 (rfl) (by omega) (by decide) 30 rfl 96 rfl dL_isWord_95 ?_
        refine V_toi (nI F9) (hG3) ?_
        refine V_icmp_ne cx 99 141 rfl dL_isWord_96 (by decide) (fun c_96 => ?_) (fun c_96 => ?_)
        · skip
          exact absurd rfl c_96
        · skip
          refine V_aload_n cx 100 rfl dL_isWord_99 2 rfl ?_
          refine V_iload_n cx 101 rfl dL_isWord_100 3 rfl ?_
          refine KXL_138 (As := [.int (nI w)]) (rest := []) cx (kX4_readings (xl X) lo G _ h np nl (SZ (nI w) 8) fd1_10 lu tu T C F LT VV BB lt1_11 ph1_12 lh1_13 ks1_14 wd gr gs bl ie tw (nI w) x hst hok hck) hX (by omega) 0 rfl rfl rfl (Nat.le_of_ble_eq_true rfl) 104 2 12 rfl rfl rfl (by omega) (by omega) dL_isWord_101 (fun E ce q9 H1 locs1 ls he _ _ _ _ _ _ _ => by exfalso; obtain ⟨_, h9⟩ := he; omega) (fun r_17 u_18 hw_19 => ?_)
          obtain ⟨fd1_20, lt1_21, ph1_22, lh1_23, ks1_24⟩ := u_18
          try dsimp only at hw_19
          refine V_toi (nI rd) ((q_word (f := fun w L => rdN (mEn x (dgt w L) L) (mEn x (dgt w L) L).length) hwb hSZ hw_19).trans (congrArg nI (by rw [SR_rd hL8 hSR, hrd, hi9]))) ?_
          refine V_iload cx 106 rfl dL_isWord_104 1 rfl ?_
          refine V_icmp_ne cx 109 141 rfl dL_isWord_106 (by decide) (fun c_106 => ?_) (fun c_106 => ?_)
          · skip
            exact absurd rfl c_106
          · skip
            refine V_aload_n cx 110 rfl dL_isWord_109 2 rfl ?_
            refine V_iload_n cx 111 rfl dL_isWord_110 3 rfl ?_
            refine KXL_141 (As := [.int (nI w)]) (rest := []) cx (kX4_head (xl X) lo G _ h np nl (SZ (nI w) 8) fd1_20 lu tu T C F LT VV BB lt1_21 ph1_22 lh1_23 ks1_24 wd gr gs bl ie tw (nI w) x hst hok hck) hX (by omega) 0 rfl rfl rfl (Nat.le_of_ble_eq_true rfl) 114 4 24 rfl rfl rfl (by omega) (by omega) dL_isWord_111 (fun E ce q9 H1 locs1 ls he _ _ _ _ _ _ _ => by exfalso; obtain ⟨_, h9⟩ := he; omega) (fun r_25 u_26 hw_27 => ?_)
            obtain ⟨fd1_28, lt1_29, ph1_30, lh1_31, ks1_32⟩ := u_26
            try dsimp only at hw_27
            have hhd := q_ask hwb hSZ hL8 hSR hF32 (k := 0) (by decide) hw_27
            rcases (by omega : F9 = 0 ∨ 0 < F9) with hF0 | hF0
            · skip
              rw [if_neg (by omega)] at hhd
              refine V_toi (-1) (hhd) ?_
              refine V_aload cx 116 rfl dL_isWord_114 12 rfl ?_
              refine V_iconst (v := nI 3) cx 117 rfl dL_isWord_116 (by decide) ?_
              refine V_ialdN cx 3 (rfl) (by omega) (by decide) 30 rfl 118 rfl dL_isWord_117 ?_
              refine V_toi (nI F9) (hG3) ?_
              refine V_if_ne cx 121 125 rfl dL_isWord_118 (by decide) (fun c_118 => ?_) (fun c_118 => ?_)
              · skip
                have n_118 : F9 ≠ 0 := Z_ne_t (by omega) c_118
                omega
              · skip
                have n_118 : F9 = 0 := Z_ne_f (by omega) c_118
                refine V_iconst (v := (-1)) cx 122 rfl dL_isWord_121 (by decide) ?_
                refine V_goto cx 138 dL_isWord_122 (by decide) ?_
                refine V_icmp_eq cx 141 143 rfl dL_isWord_138 (by decide) (fun c_138 => ?_) (fun c_138 => ?_)
                · skip
                  refine V_iconst (v := nI 0) cx 144 rfl dL_isWord_143 (by decide) ?_
                  refine V_istore (lc1 := [(12, .int (nI 0)), (11, .int (nI rd)), (0, .ref (h 0)), (1, .int (nI w)), (2, .int (nI k)), (3, .ref (h 21)), (4, .ref (h 22)), (5, .ref (h 23)), (6, .ref (h 24)), (7, .ref (h 25)), (8, .ref (h 26)), (9, .ref (h 27)), (10, .ref (h 30))]) cx 146 rfl dL_isWord_144 (by decide) rfl ?_
                  have loop_146 : ∀ (fuel : Nat) (wh : Nat) (len2 : Nat) (fd2 : Nat) (lt2 : Nat → Int32) (ph2 : Nat → Int32) (lh2 : Nat → Int32) (ks2 : Nat → Int64), (wh ≤ 2) → 2 - wh < fuel → V X lo 16 G (Qi X lo G (fun (r : Int32) ((len1, fd1, lt1, ph1, lh1, ks1, qa1, qd1, qg1) : (Nat) × (Nat) × (Nat → Int32) × (Nat → Int32) × (Nat → Int32) × (Nat → Int64) × (Nat → Int64) × (Nat → Int64) × (Nat → Int32)) => r = nI 1 ∧ (qg1 0 = qg 0 ∧ qg1 1 = qg 1 ∧ qg1 2 = qg 2)) (fun ((len1, fd1, lt1, ph1, lh1, ks1, qa1, qd1, qg1) : (Nat) × (Nat) × (Nat → Int32) × (Nat → Int32) × (Nat → Int32) × (Nat → Int64) × (Nat → Int64) × (Nat → Int64) × (Nat → Int32)) => cW G h np nl len1 fd1 lu tu T C F LT VV BB lt1 ph1 lh1 ks1 wd gr gs bl ie tw ++ (lW G h qt qc qf qb ql qa1 qd1 qw qh qg1 ++ rs)) 32 192) (4 + 14 * wh) (24 + 84 * wh) (cW G h np nl len2 fd2 lu tu T C F LT VV BB lt2 ph2 lh2 ks2 wd gr gs bl ie tw ++ (lW G h qt qc qf qb ql qa1_4 qd1_5 qw qh qg1_6 ++ rs)) [(12, .int (nI wh)), (0, .ref (h 0)), (1, .int (nI w)), (2, .int (nI k)), (3, .ref (h 21)), (4, .ref (h 22)), (5, .ref (h 23)), (6, .ref (h 24)), (7, .ref (h 25)), (8, .ref (h 26)), (9, .ref (h 27)), (10, .ref (h 30))] [] 146 := by
                    intro fuel
                    induction fuel with
                    | zero => intro wh len2 fd2 lt2 ph2 lh2 ks2 hwh hmz; exact absurd hmz (Nat.not_lt_zero _)
                    | succ fuel ih_146 =>
                      intro wh len2 fd2 lt2 ph2 lh2 ks2 hwh hmz_146
                      refine V_iload cx 148 rfl dL_isWord_146 0 rfl ?_
                      refine V_iconst (v := nI 2) cx 149 rfl dL_isWord_148 (by decide) ?_
                      refine V_icmp_ge cx 152 314 rfl dL_isWord_149 (by decide) (fun c_149 => ?_) (fun c_149 => ?_)
                      · skip
                        have n_149 : wh ≥ 2 := N_ge_t (by omega) (by omega) c_149
                        refine V_iconst (v := nI 1) cx 315 rfl dL_isWord_314 (by decide) ?_
                        exact V_zreturn cx hr (by first | rfl | exact bI_z _) (len2, fd2, lt2, ph2, lh2, ks2, qa1_4, qd1_5, qg1_6) (⟨rfl, hG0, hG1, hG2⟩) rfl (by omega) (by omega) dL_isWord_315
                      · skip
                        have n_149 : wh < 2 := N_ge_f (by omega) (by omega) c_149
                        have join_162 : ∀ (i2 : Nat), (i2 ≤ 7) → V X lo 16 G (Qi X lo G (fun (r : Int32) ((len1, fd1, lt1, ph1, lh1, ks1, qa1, qd1, qg1) : (Nat) × (Nat) × (Nat → Int32) × (Nat → Int32) × (Nat → Int32) × (Nat → Int64) × (Nat → Int64) × (Nat → Int64) × (Nat → Int32)) => r = nI 1 ∧ (qg1 0 = qg 0 ∧ qg1 1 = qg 1 ∧ qg1 2 = qg 2)) (fun ((len1, fd1, lt1, ph1, lh1, ks1, qa1, qd1, qg1) : (Nat) × (Nat) × (Nat → Int32) × (Nat → Int32) × (Nat → Int32) × (Nat → Int64) × (Nat → Int64) × (Nat → Int64) × (Nat → Int32)) => cW G h np nl len1 fd1 lu tu T C F LT VV BB lt1 ph1 lh1 ks1 wd gr gs bl ie tw ++ (lW G h qt qc qf qb ql qa1 qd1 qw qh qg1 ++ rs)) 32 192) (4 + 14 * wh) (24 + 84 * wh) (cW G h np nl len2 fd2 lu tu T C F LT VV BB lt2 ph2 lh2 ks2 wd gr gs bl ie tw ++ (lW G h qt qc qf qb ql qa1_4 qd1_5 qw qh qg1_6 ++ rs)) [(12, .int (nI wh)), (0, .ref (h 0)), (1, .int (nI w)), (2, .int (nI k)), (3, .ref (h 21)), (4, .ref (h 22)), (5, .ref (h 23)), (6, .ref (h 24)), (7, .ref (h 25)), (8, .ref (h 26)), (9, .ref (h 27)), (10, .ref (h 30))] [.int (nI i2)] 162 := by
                          intro i2 hi7
                          refine V_istore (lc1 := [(13, .int (nI i2)), (12, .int (nI wh)), (0, .ref (h 0)), (1, .int (nI w)), (2, .int (nI k)), (3, .ref (h 21)), (4, .ref (h 22)), (5, .ref (h 23)), (6, .ref (h 24)), (7, .ref (h 25)), (8, .ref (h 26)), (9, .ref (h 27)), (10, .ref (h 30))]) cx 164 rfl dL_isWord_162 (by decide) rfl ?_
                          rcases Nat.lt_or_ge i2 F9 with hiF | hiF
                          · skip
                            obtain ⟨b1, b2, b3, b4⟩ := SR_bd hok hd hSR hiF
                            refine V_aload_n cx 165 rfl dL_isWord_164 2 rfl ?_
                            refine V_iload_n cx 166 rfl dL_isWord_165 3 rfl ?_
                            refine V_iload cx 168 rfl dL_isWord_166 0 rfl ?_
                            refine KL_144 (As := [.ref (h 0), .int (nI w), .int (nI i2)]) (rest := []) cx (kL_cost (xl X) lo G _ h np nl len2 fd2 lu tu T C F LT VV BB lt2 ph2 lh2 ks2 wd gr gs bl ie tw (nI w) (nI i2) x hst hok hck) hX (by omega) rfl rfl (Nat.le_of_ble_eq_true rfl) 171 ((4 + 14 * wh) + 2) ((24 + 84 * wh) + 12) rfl rfl rfl (by omega) (by omega) dL_isWord_168 (fun r_33 u_34 hw_35 => ?_)
                            rcases u_34 with _ | ⟨fd1_36, lt1_37, ph1_38, lh1_39, ks1_40, v_41⟩
                            · exfalso
                              dsimp only at hw_35
                              obtain ⟨E, hw_35, -⟩ := hw_35
                              obtain ⟨_, h9 | h9⟩ := hw_35; omega; exact nI_pos (show i2 < 2 ^ 31 by omega) h9
                            dsimp only at hw_35
                            obtain ⟨hw_35, hv_42⟩ := hw_35
                            subst hv_42
                            have hco := q_ask hwb hSZ hL8 hSR hF32 (show i2 < 2147483648 by omega) hw_35
                            rw [if_pos hiF] at hco
                            refine V_toi (nI (cS x (fs i2) - 15)) (hco.trans (congrArg nI (SR_cost hL8 hSR hiF))) ?_
                            refine V_iload cx 173 rfl dL_isWord_171 0 rfl ?_
                            refine V_aload cx 175 rfl dL_isWord_173 12 rfl ?_
                            refine V_iconst (v := nI 3) cx 176 rfl dL_isWord_175 (by decide) ?_
                            refine V_ialdN cx 3 (rfl) (by omega) (by decide) 30 rfl 177 rfl dL_isWord_176 ?_
                            refine V_toi (nI F9) (hG3) ?_
                            refine V_icmp_ge cx 180 193 rfl dL_isWord_177 (by decide) (fun c_177 => ?_) (fun c_177 => ?_)
                            · skip
                              have n_177 : i2 ≥ F9 := N_ge_t (by omega) (by omega) c_177
                              omega
                            · skip
                              have n_177 : i2 < F9 := N_ge_f (by omega) (by omega) c_177
                              refine V_aload cx 182 rfl dL_isWord_180 10 rfl ?_
                              refine V_iload cx 184 rfl dL_isWord_182 0 rfl ?_
                              refine V_laldN cx i2 (rfl) (by omega) (by decide) 26 rfl 185 rfl dL_isWord_184 ?_
                              refine V_tol (lN (aK (fs i2))) (hA i2 hiF) ?_
                              refine V_aload cx 187 rfl dL_isWord_185 6 rfl ?_
                              refine V.swap ?_
                              refine KL_80 (As := [.long (lN (aK (fs i2))), .ref (h 22)]) (rest := [.int (nI (cS x (fs i2) - 15))]) cx (kL_costOf (xl X) lo G _ h qt qc qf qb ql qa1_4 qd1_5 qw qh qg1_6 (aK (fs i2)) (fs i2) x rfl hok b1 (by omega) hq (by omega)) hX (by omega) rfl rfl (Nat.le_of_ble_eq_true rfl) 190 ((4 + 14 * wh) + 2) ((24 + 84 * wh) + 12) rfl rfl rfl (by omega) (by omega) dL_isWord_187 (fun r_43 u_44 hw_45 => ?_)
                              try dsimp only at hw_45
                              subst hw_45
                              refine V.swap ?_
                              refine V_goto cx 194 dL_isWord_190 (by decide) ?_
                              refine V_icmp_ne cx 197 228 rfl dL_isWord_194 (by decide) (fun c_194 => ?_) (fun c_194 => ?_)
                              · skip
                                exact absurd rfl c_194
                              · skip
                                refine V_aload_n cx 198 rfl dL_isWord_197 2 rfl ?_
                                refine V_iload_n cx 199 rfl dL_isWord_198 3 rfl ?_
                                refine V_iload cx 201 rfl dL_isWord_199 0 rfl ?_
                                refine KXL_146 (As := [.int (nI w), .int (nI i2)]) (rest := []) cx (kX4_size (xl X) lo G _ h np nl (SZ (nI w) 8) fd1_36 lu tu T C F LT VV BB lt1_37 ph1_38 lh1_39 ks1_40 wd gr gs bl ie tw (nI w) (nI i2) x hst hok hck) hX (by omega) 0 rfl rfl rfl (Nat.le_of_ble_eq_true rfl) 204 ((4 + 14 * wh) + 4) ((24 + 84 * wh) + 24) rfl rfl rfl (by omega) (by omega) dL_isWord_201 (fun E ce q9 H1 locs1 ls he _ _ _ _ _ _ _ => by exfalso; obtain ⟨_, h9 | h9⟩ := he; omega; exact nI_pos (show i2 < 2 ^ 31 by omega) h9) (fun r_46 u_47 hw_48 => ?_)
                                obtain ⟨fd1_49, lt1_50, ph1_51, lh1_52, ks1_53⟩ := u_47
                                try dsimp only at hw_48
                                have hsz := q_ask hwb hSZ hL8 hSR hF32 (show i2 < 2147483648 by omega) hw_48
                                rw [if_pos hiF] at hsz
                                refine V_toi (nI (List.length (fs i2))) (hsz) ?_
                                refine V_iload cx 206 rfl dL_isWord_204 0 rfl ?_
                                refine V_aload cx 208 rfl dL_isWord_206 12 rfl ?_
                                refine V_iconst (v := nI 3) cx 209 rfl dL_isWord_208 (by decide) ?_
                                refine V_ialdN cx 3 (rfl) (by omega) (by decide) 30 rfl 210 rfl dL_isWord_209 ?_
                                refine V_toi (nI F9) (hG3) ?_
                                refine V_icmp_ge cx 213 224 rfl dL_isWord_210 (by decide) (fun c_210 => ?_) (fun c_210 => ?_)
                                · skip
                                  have n_210 : i2 ≥ F9 := N_ge_t (by omega) (by omega) c_210
                                  omega
                                · skip
                                  have n_210 : i2 < F9 := N_ge_f (by omega) (by omega) c_210
                                  refine V_aload cx 215 rfl dL_isWord_213 10 rfl ?_
                                  refine V_iload cx 217 rfl dL_isWord_215 0 rfl ?_
                                  refine V_laldN cx i2 (rfl) (by omega) (by decide) 26 rfl 218 rfl dL_isWord_217 ?_
                                  refine V_tol (lN (aK (fs i2))) (hA i2 hiF) ?_
                                  refine KL_67 (As := [.long (lN (aK (fs i2)))]) (rest := [.int (nI (List.length (fs i2)))]) cx (kL_parts (xl X) lo G _ (aK (fs i2)) (fs i2) rfl b2 (by omega)) hX (by omega) rfl rfl (Nat.le_of_ble_eq_true rfl) 221 ((4 + 14 * wh) + 4) ((24 + 84 * wh) + 24) rfl rfl rfl (by omega) (by omega) dL_isWord_218 (fun r_54 u_55 hw_56 => ?_)
                                  try dsimp only at hw_56
                                  subst hw_56
                                  refine V_goto cx 225 dL_isWord_221 (by decide) ?_
                                  refine V_icmp_eq cx 228 230 rfl dL_isWord_225 (by decide) (fun c_225 => ?_) (fun c_225 => ?_)
                                  · skip
                                    refine V_iconst (v := nI 0) cx 231 rfl dL_isWord_230 (by decide) ?_
                                    refine V_istore (lc1 := [(14, .int (nI 0)), (13, .int (nI i2)), (12, .int (nI wh)), (0, .ref (h 0)), (1, .int (nI w)), (2, .int (nI k)), (3, .ref (h 21)), (4, .ref (h 22)), (5, .ref (h 23)), (6, .ref (h 24)), (7, .ref (h 25)), (8, .ref (h 26)), (9, .ref (h 27)), (10, .ref (h 30))]) cx 233 rfl dL_isWord_231 (by decide) rfl ?_
                                    have loop_233 : ∀ (fuel : Nat) (pl : Nat) (len3 : Nat) (fd3 : Nat) (lt3 : Nat → Int32) (ph3 : Nat → Int32) (lh3 : Nat → Int32) (ks3 : Nat → Int64), (pl ≤ 5) → 5 - pl < fuel → V X lo 16 G (Qi X lo G (fun (r : Int32) ((len1, fd1, lt1, ph1, lh1, ks1, qa1, qd1, qg1) : (Nat) × (Nat) × (Nat → Int32) × (Nat → Int32) × (Nat → Int32) × (Nat → Int64) × (Nat → Int64) × (Nat → Int64) × (Nat → Int32)) => r = nI 1 ∧ (qg1 0 = qg 0 ∧ qg1 1 = qg 1 ∧ qg1 2 = qg 2)) (fun ((len1, fd1, lt1, ph1, lh1, ks1, qa1, qd1, qg1) : (Nat) × (Nat) × (Nat → Int32) × (Nat → Int32) × (Nat → Int32) × (Nat → Int64) × (Nat → Int64) × (Nat → Int64) × (Nat → Int32)) => cW G h np nl len1 fd1 lu tu T C F LT VV BB lt1 ph1 lh1 ks1 wd gr gs bl ie tw ++ (lW G h qt qc qf qb ql qa1 qd1 qw qh qg1 ++ rs)) 32 192) (4 + 14 * wh + 4 + 2 * pl) (24 + 84 * wh + 24 + 12 * pl) (cW G h np nl len3 fd3 lu tu T C F LT VV BB lt3 ph3 lh3 ks3 wd gr gs bl ie tw ++ (lW G h qt qc qf qb ql qa1_4 qd1_5 qw qh qg1_6 ++ rs)) [(14, .int (nI pl)), (13, .int (nI i2)), (12, .int (nI wh)), (0, .ref (h 0)), (1, .int (nI w)), (2, .int (nI k)), (3, .ref (h 21)), (4, .ref (h 22)), (5, .ref (h 23)), (6, .ref (h 24)), (7, .ref (h 25)), (8, .ref (h 26)), (9, .ref (h 27)), (10, .ref (h 30))] [] 233 := by
                                      intro fuel
                                      induction fuel with
                                      | zero => intro pl len3 fd3 lt3 ph3 lh3 ks3 hpl hmz; exact absurd hmz (Nat.not_lt_zero _)
                                      | succ fuel ih_233 =>
                                        intro pl len3 fd3 lt3 ph3 lh3 ks3 hpl hmz_233
                                        refine V_iload cx 235 rfl dL_isWord_233 0 rfl ?_
                                        refine V_iconst (v := nI 5) cx 236 rfl dL_isWord_235 (by decide) ?_
                                        refine V_icmp_ge cx 239 308 rfl dL_isWord_236 (by decide) (fun c_236 => ?_) (fun c_236 => ?_)
                                        · skip
                                          have n_236 : pl ≥ 5 := N_ge_t (by omega) (by omega) c_236
                                          refine V_iinc (v := nI (wh + 1)) (lc1 := [(12, .int (nI (wh + 1))), (14, .int (nI pl)), (13, .int (nI i2)), (0, .ref (h 0)), (1, .int (nI w)), (2, .int (nI k)), (3, .ref (h 21)), (4, .ref (h 22)), (5, .ref (h 23)), (6, .ref (h 24)), (7, .ref (h 25)), (8, .ref (h 26)), (9, .ref (h 27)), (10, .ref (h 30))]) cx 311 rfl dL_isWord_308 2 rfl (nI_inc wh 1) (by decide) rfl ?_
                                          refine V_goto cx 146 dL_isWord_311 (by decide) ?_
                                          refine V.locs [0, 3, 4, 5, 6, 7, 8, 9, 10, 11, 12, 13] rfl ?_
                                          refine V.widen (k' := 4 + 14 * (wh + 1)) (n' := 24 + 84 * (wh + 1)) (by omega) (by omega) ?_
                                          exact ih_146 (wh + 1) len3 fd3 lt3 ph3 lh3 ks3 (by omega) (by omega)
                                        · skip
                                          have n_236 : pl < 5 := N_ge_f (by omega) (by omega) c_236
                                          rcases Nat.lt_or_ge pl (List.length (fs i2)) with hpL | hpL
                                          · skip
                                            have d1 := bt2_bd (y := (fs i2).getD pl (0, 0)) (b2 pl hpL)
                                            have d2 : bt2 ((fs i2).getD pl (0, 0)) / 8 = spP (fs i2) pl + 1 ∧ bt2 ((fs i2).getD pl (0, 0)) % 8 = spO (fs i2) pl % 7 := bt2_p
                                            refine V_iload cx 241 rfl dL_isWord_239 1 rfl ?_
                                            refine V_aload cx 243 rfl dL_isWord_241 13 rfl ?_
                                            refine V_iconst (v := nI 3) cx 244 rfl dL_isWord_243 (by decide) ?_
                                            refine V_ialdN cx 3 (rfl) (by omega) (by decide) 30 rfl 245 rfl dL_isWord_244 ?_
                                            refine V_toi (nI F9) (hG3) ?_
                                            refine V_icmp_ge cx 248 261 rfl dL_isWord_245 (by decide) (fun c_245 => ?_) (fun c_245 => ?_)
                                            · skip
                                              have n_245 : i2 ≥ F9 := N_ge_t (by omega) (by omega) c_245
                                              omega
                                            · skip
                                              have n_245 : i2 < F9 := N_ge_f (by omega) (by omega) c_245
                                              refine V_aload cx 250 rfl dL_isWord_248 11 rfl ?_
                                              refine V_iload cx 252 rfl dL_isWord_250 1 rfl ?_
                                              refine V_laldN cx i2 (rfl) (by omega) (by decide) 26 rfl 253 rfl dL_isWord_252 ?_
                                              refine V_tol (lN (aK (fs i2))) (hA i2 hiF) ?_
                                              refine V_iload cx 255 rfl dL_isWord_253 0 rfl ?_
                                              refine KL_84 (As := [.long (lN (aK (fs i2))), .int (nI pl)]) (rest := []) cx (kL_at (xl X) lo G _ (aK (fs i2)) pl (fs i2) rfl b2 (by omega) (by omega)) hX (by omega) rfl rfl (Nat.le_of_ble_eq_true rfl) 258 (4 + 14 * wh + 4 + 2 * pl) (24 + 84 * wh + 24 + 12 * pl) rfl rfl rfl (by omega) (by omega) dL_isWord_255 (fun r_57 u_58 hw_59 => ?_)
                                              try dsimp only at hw_59
                                              subst hw_59
                                              refine V_toi (nI (bt2 ((fs i2).getD pl (0, 0)))) (if_pos hpL) ?_
                                              refine V_goto cx 262 dL_isWord_258 (by decide) ?_
                                              refine V_istore (lc1 := [(15, .int (nI (bt2 ((fs i2).getD pl (0, 0))))), (14, .int (nI pl)), (13, .int (nI i2)), (12, .int (nI wh)), (0, .ref (h 0)), (1, .int (nI w)), (2, .int (nI k)), (3, .ref (h 21)), (4, .ref (h 22)), (5, .ref (h 23)), (6, .ref (h 24)), (7, .ref (h 25)), (8, .ref (h 26)), (9, .ref (h 27)), (10, .ref (h 30))]) cx 264 rfl dL_isWord_262 (by decide) rfl ?_
                                              refine V_aload_n cx 265 rfl dL_isWord_264 4 rfl ?_
                                              refine V_iload_n cx 266 rfl dL_isWord_265 5 rfl ?_
                                              refine V_iload cx 268 rfl dL_isWord_266 2 rfl ?_
                                              refine V_iload cx 270 rfl dL_isWord_268 1 rfl ?_
                                              refine KL_148 (As := [.ref (h 0), .int (nI w), .int (nI i2), .int (nI pl)]) (rest := []) cx (kL_partAt (xl X) lo G _ h np nl len3 fd3 lu tu T C F LT VV BB lt3 ph3 lh3 ks3 wd gr gs bl ie tw (nI w) (nI i2) (nI pl) x hst hok hck) hX (by omega) rfl rfl (Nat.le_of_ble_eq_true rfl) 273 ((4 + 14 * wh + 4 + 2 * pl) + 2) ((24 + 84 * wh + 24 + 12 * pl) + 12) rfl rfl rfl (by omega) (by omega) dL_isWord_270 (fun r_60 u_61 hw_62 => ?_)
                                              rcases u_61 with _ | ⟨fd1_63, lt1_64, ph1_65, lh1_66, ks1_67, v_68⟩
                                              · exfalso
                                                dsimp only at hw_62
                                                obtain ⟨E, hw_62, -⟩ := hw_62
                                                obtain ⟨_, h9 | h9 | h9⟩ := hw_62; exact nI_pos (show pl < 2 ^ 31 by omega) h9; omega; exact nI_pos (show i2 < 2 ^ 31 by omega) h9
                                              dsimp only at hw_62
                                              obtain ⟨hw_62, hv_69⟩ := hw_62
                                              subst hv_69
                                              have hpt := q_ask hwb hSZ hL8 hSR hF32 (show i2 < 2147483648 by omega) hw_62.2
                                              rw [if_pos hiF] at hpt
                                              refine V_toi (nI ((10 * (spP (fs i2) pl)) + (spO (fs i2) pl % 7))) (pat_in (by omega) hpL hpt) ?_
                                              refine V_iload cx 275 rfl dL_isWord_273 0 rfl ?_
                                              refine V_if_ge cx 278 282 rfl dL_isWord_275 (by decide) (fun c_275 => ?_) (fun c_275 => ?_)
                                              · skip
                                                have n_275 : bt2 ((fs i2).getD pl (0, 0)) ≥ 0 := Z_ge_t (by omega) c_275
                                                refine V_bipush (v := nI 10) cx 284 rfl dL_isWord_282 (by decide) ?_
                                                refine V_iload cx 286 rfl dL_isWord_284 0 rfl ?_
                                                refine V_iconst (v := nI 3) cx 287 rfl dL_isWord_286 (by decide) ?_
                                                refine V_ishr cx 288 rfl dL_isWord_287 ?_
                                                refine V_toi (nI (spP (fs i2) pl + 1)) ((i_shr (by omega) (by omega)).trans (congrArg nI d2.1)) ?_
                                                refine V_iconst (v := nI 1) cx 289 rfl dL_isWord_288 (by decide) ?_
                                                refine V_isub cx 290 rfl dL_isWord_289 ?_
                                                refine V_toi (nI (spP (fs i2) pl)) (nI_subN (by omega)) ?_
                                                refine V_imul cx 291 rfl dL_isWord_290 ?_
                                                refine V_toi (nI (10 * (spP (fs i2) pl))) (nI_mulN _ _) ?_
                                                refine V_iload cx 293 rfl dL_isWord_291 0 rfl ?_
                                                refine V_bipush (v := nI 7) cx 295 rfl dL_isWord_293 (by decide) ?_
                                                refine V_iand cx 296 rfl dL_isWord_295 ?_
                                                refine V_toi (nI ((bt2 ((fs i2).getD pl (0, 0))) &&& 7)) (nI_andN _ _) ?_
                                                refine V_toi (nI (spO (fs i2) pl % 7)) (by rw [show (7 : Nat) = 2 ^ 3 - 1 by decide, Nat.and_two_pow_sub_one_eq_mod]; exact congrArg nI d2.2) ?_
                                                refine V_iadd cx 297 rfl dL_isWord_296 ?_
                                                refine V_toi (nI ((10 * (spP (fs i2) pl)) + (spO (fs i2) pl % 7))) (nI_add _ _) ?_
                                                refine V_icmp_eq cx 300 302 rfl dL_isWord_297 (by decide) (fun c_297 => ?_) (fun c_297 => ?_)
                                                · skip
                                                  refine V_iinc (v := nI (pl + 1)) (lc1 := [(14, .int (nI (pl + 1))), (15, .int (nI (bt2 ((fs i2).getD pl (0, 0))))), (13, .int (nI i2)), (12, .int (nI wh)), (0, .ref (h 0)), (1, .int (nI w)), (2, .int (nI k)), (3, .ref (h 21)), (4, .ref (h 22)), (5, .ref (h 23)), (6, .ref (h 24)), (7, .ref (h 25)), (8, .ref (h 26)), (9, .ref (h 27)), (10, .ref (h 30))]) cx 305 rfl dL_isWord_302 1 rfl (nI_inc pl 1) (by decide) rfl ?_
                                                  refine V_goto cx 233 dL_isWord_305 (by decide) ?_
                                                  refine V.locs [0, 2, 3, 4, 5, 6, 7, 8, 9, 10, 11, 12, 13, 14] rfl ?_
                                                  refine V.widen (k' := 4 + 14 * wh + 4 + 2 * (pl + 1)) (n' := 24 + 84 * wh + 24 + 12 * (pl + 1)) (by omega) (by omega) ?_
                                                  exact ih_233 (pl + 1) (SZ (nI w) 8) fd1_63 lt1_64 ph1_65 lh1_66 ks1_67 (by omega) (by omega)
                                                · skip
                                                  exact absurd rfl c_297
                                              · skip
                                                have n_275 : bt2 ((fs i2).getD pl (0, 0)) < 0 := Z_ge_f (by omega) c_275
                                                omega
                                          · skip
                                            refine V_iload cx 241 rfl dL_isWord_239 1 rfl ?_
                                            refine V_aload cx 243 rfl dL_isWord_241 13 rfl ?_
                                            refine V_iconst (v := nI 3) cx 244 rfl dL_isWord_243 (by decide) ?_
                                            refine V_ialdN cx 3 (rfl) (by omega) (by decide) 30 rfl 245 rfl dL_isWord_244 ?_
                                            refine V_toi (nI F9) (hG3) ?_
                                            refine V_icmp_ge cx 248 261 rfl dL_isWord_245 (by decide) (fun c_245 => ?_) (fun c_245 => ?_)
                                            · skip
                                              have n_245 : i2 ≥ F9 := N_ge_t (by omega) (by omega) c_245
                                              omega
                                            · skip
                                              have n_245 : i2 < F9 := N_ge_f (by omega) (by omega) c_245
                                              refine V_aload cx 250 rfl dL_isWord_248 11 rfl ?_
                                              refine V_iload cx 252 rfl dL_isWord_250 1 rfl ?_
                                              refine V_laldN cx i2 (rfl) (by omega) (by decide) 26 rfl 253 rfl dL_isWord_252 ?_
                                              refine V_tol (lN (aK (fs i2))) (hA i2 hiF) ?_
                                              refine V_iload cx 255 rfl dL_isWord_253 0 rfl ?_
                                              refine KL_84 (As := [.long (lN (aK (fs i2))), .int (nI pl)]) (rest := []) cx (kL_at (xl X) lo G _ (aK (fs i2)) pl (fs i2) rfl b2 (by omega) (by omega)) hX (by omega) rfl rfl (Nat.le_of_ble_eq_true rfl) 258 (4 + 14 * wh + 4 + 2 * pl) (24 + 84 * wh + 24 + 12 * pl) rfl rfl rfl (by omega) (by omega) dL_isWord_255 (fun r_70 u_71 hw_72 => ?_)
                                              try dsimp only at hw_72
                                              subst hw_72
                                              refine V_toi (-1) (if_neg (by omega)) ?_
                                              refine V_goto cx 262 dL_isWord_258 (by decide) ?_
                                              refine V_istore (lc1 := [(15, .int (-1)), (14, .int (nI pl)), (13, .int (nI i2)), (12, .int (nI wh)), (0, .ref (h 0)), (1, .int (nI w)), (2, .int (nI k)), (3, .ref (h 21)), (4, .ref (h 22)), (5, .ref (h 23)), (6, .ref (h 24)), (7, .ref (h 25)), (8, .ref (h 26)), (9, .ref (h 27)), (10, .ref (h 30))]) cx 264 rfl dL_isWord_262 (by decide) rfl ?_
                                              refine V_aload_n cx 265 rfl dL_isWord_264 4 rfl ?_
                                              refine V_iload_n cx 266 rfl dL_isWord_265 5 rfl ?_
                                              refine V_iload cx 268 rfl dL_isWord_266 2 rfl ?_
                                              refine V_iload cx 270 rfl dL_isWord_268 1 rfl ?_
                                              refine KL_148 (As := [.ref (h 0), .int (nI w), .int (nI i2), .int (nI pl)]) (rest := []) cx (kL_partAt (xl X) lo G _ h np nl len3 fd3 lu tu T C F LT VV BB lt3 ph3 lh3 ks3 wd gr gs bl ie tw (nI w) (nI i2) (nI pl) x hst hok hck) hX (by omega) rfl rfl (Nat.le_of_ble_eq_true rfl) 273 ((4 + 14 * wh + 4 + 2 * pl) + 2) ((24 + 84 * wh + 24 + 12 * pl) + 12) rfl rfl rfl (by omega) (by omega) dL_isWord_270 (fun r_73 u_74 hw_75 => ?_)
                                              rcases u_74 with _ | ⟨fd1_76, lt1_77, ph1_78, lh1_79, ks1_80, v_81⟩
                                              · exfalso
                                                dsimp only at hw_75
                                                obtain ⟨E, hw_75, -⟩ := hw_75
                                                obtain ⟨_, h9 | h9 | h9⟩ := hw_75; exact nI_pos (show pl < 2 ^ 31 by omega) h9; omega; exact nI_pos (show i2 < 2 ^ 31 by omega) h9
                                              dsimp only at hw_75
                                              obtain ⟨hw_75, hv_82⟩ := hw_75
                                              subst hv_82
                                              have hpt := q_ask hwb hSZ hL8 hSR hF32 (show i2 < 2147483648 by omega) hw_75.2
                                              rw [if_pos hiF] at hpt
                                              refine V_toi (-1) (pat_out (by omega) (by omega) hpL hpt) ?_
                                              refine V_iload cx 275 rfl dL_isWord_273 0 rfl ?_
                                              refine V_if_ge cx 278 282 rfl dL_isWord_275 (by decide) (fun c_275 => ?_) (fun c_275 => ?_)
                                              · skip
                                                exact absurd c_275 (by decide)
                                              · skip
                                                refine V_iconst (v := (-1)) cx 279 rfl dL_isWord_278 (by decide) ?_
                                                refine V_goto cx 297 dL_isWord_279 (by decide) ?_
                                                refine V_icmp_eq cx 300 302 rfl dL_isWord_297 (by decide) (fun c_297 => ?_) (fun c_297 => ?_)
                                                · skip
                                                  refine V_iinc (v := nI (pl + 1)) (lc1 := [(14, .int (nI (pl + 1))), (15, .int (-1)), (13, .int (nI i2)), (12, .int (nI wh)), (0, .ref (h 0)), (1, .int (nI w)), (2, .int (nI k)), (3, .ref (h 21)), (4, .ref (h 22)), (5, .ref (h 23)), (6, .ref (h 24)), (7, .ref (h 25)), (8, .ref (h 26)), (9, .ref (h 27)), (10, .ref (h 30))]) cx 305 rfl dL_isWord_302 1 rfl (nI_inc pl 1) (by decide) rfl ?_
                                                  refine V_goto cx 233 dL_isWord_305 (by decide) ?_
                                                  refine V.locs [0, 2, 3, 4, 5, 6, 7, 8, 9, 10, 11, 12, 13, 14] rfl ?_
                                                  refine V.widen (k' := 4 + 14 * wh + 4 + 2 * (pl + 1)) (n' := 24 + 84 * wh + 24 + 12 * (pl + 1)) (by omega) (by omega) ?_
                                                  exact ih_233 (pl + 1) (SZ (nI w) 8) fd1_76 lt1_77 ph1_78 lh1_79 ks1_80 (by omega) (by omega)
                                                · skip
                                                  exact absurd rfl c_297
                                    refine V.locs [0, 1, 2, 3, 4, 5, 6, 7, 8, 9, 10, 11, 12, 13] rfl ?_
                                    refine V.widen (k' := 4 + 14 * wh + 4 + 2 * 0) (n' := 24 + 84 * wh + 24 + 12 * 0) (by omega) (by omega) ?_
                                    exact loop_233 _ 0 (SZ (nI w) 8) fd1_49 lt1_50 ph1_51 lh1_52 ks1_53 (by omega) (Nat.lt_succ_self _)
                                  · skip
                                    exact absurd rfl c_225
                          · skip
                            refine V_aload_n cx 165 rfl dL_isWord_164 2 rfl ?_
                            refine V_iload_n cx 166 rfl dL_isWord_165 3 rfl ?_
                            refine V_iload cx 168 rfl dL_isWord_166 0 rfl ?_
                            refine KL_144 (As := [.ref (h 0), .int (nI w), .int (nI i2)]) (rest := []) cx (kL_cost (xl X) lo G _ h np nl len2 fd2 lu tu T C F LT VV BB lt2 ph2 lh2 ks2 wd gr gs bl ie tw (nI w) (nI i2) x hst hok hck) hX (by omega) rfl rfl (Nat.le_of_ble_eq_true rfl) 171 ((4 + 14 * wh) + 2) ((24 + 84 * wh) + 12) rfl rfl rfl (by omega) (by omega) dL_isWord_168 (fun r_83 u_84 hw_85 => ?_)
                            rcases u_84 with _ | ⟨fd1_86, lt1_87, ph1_88, lh1_89, ks1_90, v_91⟩
                            · exfalso
                              dsimp only at hw_85
                              obtain ⟨E, hw_85, -⟩ := hw_85
                              obtain ⟨_, h9 | h9⟩ := hw_85; omega; exact nI_pos (show i2 < 2 ^ 31 by omega) h9
                            dsimp only at hw_85
                            obtain ⟨hw_85, hv_92⟩ := hw_85
                            subst hv_92
                            have hco := q_ask hwb hSZ hL8 hSR hF32 (show i2 < 2147483648 by omega) hw_85
                            rw [if_neg (by omega)] at hco
                            refine V_toi (-1) (hco) ?_
                            refine V_iload cx 173 rfl dL_isWord_171 0 rfl ?_
                            refine V_aload cx 175 rfl dL_isWord_173 12 rfl ?_
                            refine V_iconst (v := nI 3) cx 176 rfl dL_isWord_175 (by decide) ?_
                            refine V_ialdN cx 3 (rfl) (by omega) (by decide) 30 rfl 177 rfl dL_isWord_176 ?_
                            refine V_toi (nI F9) (hG3) ?_
                            refine V_icmp_ge cx 180 193 rfl dL_isWord_177 (by decide) (fun c_177 => ?_) (fun c_177 => ?_)
                            · skip
                              have n_177 : i2 ≥ F9 := N_ge_t (by omega) (by omega) c_177
                              refine V_iconst (v := (-1)) cx 194 rfl dL_isWord_193 (by decide) ?_
                              refine V_icmp_ne cx 197 228 rfl dL_isWord_194 (by decide) (fun c_194 => ?_) (fun c_194 => ?_)
                              · skip
                                exact absurd rfl c_194
                              · skip
                                refine V_aload_n cx 198 rfl dL_isWord_197 2 rfl ?_
                                refine V_iload_n cx 199 rfl dL_isWord_198 3 rfl ?_
                                refine V_iload cx 201 rfl dL_isWord_199 0 rfl ?_
                                refine KXL_146 (As := [.int (nI w), .int (nI i2)]) (rest := []) cx (kX4_size (xl X) lo G _ h np nl (SZ (nI w) 8) fd1_86 lu tu T C F LT VV BB lt1_87 ph1_88 lh1_89 ks1_90 wd gr gs bl ie tw (nI w) (nI i2) x hst hok hck) hX (by omega) 0 rfl rfl rfl (Nat.le_of_ble_eq_true rfl) 204 ((4 + 14 * wh) + 4) ((24 + 84 * wh) + 24) rfl rfl rfl (by omega) (by omega) dL_isWord_201 (fun E ce q9 H1 locs1 ls he _ _ _ _ _ _ _ => by exfalso; obtain ⟨_, h9 | h9⟩ := he; omega; exact nI_pos (show i2 < 2 ^ 31 by omega) h9) (fun r_93 u_94 hw_95 => ?_)
                                obtain ⟨fd1_96, lt1_97, ph1_98, lh1_99, ks1_100⟩ := u_94
                                try dsimp only at hw_95
                                have hsz := q_ask hwb hSZ hL8 hSR hF32 (show i2 < 2147483648 by omega) hw_95
                                rw [if_neg (by omega)] at hsz
                                refine V_toi (-1) (hsz) ?_
                                refine V_iload cx 206 rfl dL_isWord_204 0 rfl ?_
                                refine V_aload cx 208 rfl dL_isWord_206 12 rfl ?_
                                refine V_iconst (v := nI 3) cx 209 rfl dL_isWord_208 (by decide) ?_
                                refine V_ialdN cx 3 (rfl) (by omega) (by decide) 30 rfl 210 rfl dL_isWord_209 ?_
                                refine V_toi (nI F9) (hG3) ?_
                                refine V_icmp_ge cx 213 224 rfl dL_isWord_210 (by decide) (fun c_210 => ?_) (fun c_210 => ?_)
                                · skip
                                  have n_210 : i2 ≥ F9 := N_ge_t (by omega) (by omega) c_210
                                  refine V_iconst (v := (-1)) cx 225 rfl dL_isWord_224 (by decide) ?_
                                  refine V_icmp_eq cx 228 230 rfl dL_isWord_225 (by decide) (fun c_225 => ?_) (fun c_225 => ?_)
                                  · skip
                                    refine V_iconst (v := nI 0) cx 231 rfl dL_isWord_230 (by decide) ?_
                                    refine V_istore (lc1 := [(14, .int (nI 0)), (13, .int (nI i2)), (12, .int (nI wh)), (0, .ref (h 0)), (1, .int (nI w)), (2, .int (nI k)), (3, .ref (h 21)), (4, .ref (h 22)), (5, .ref (h 23)), (6, .ref (h 24)), (7, .ref (h 25)), (8, .ref (h 26)), (9, .ref (h 27)), (10, .ref (h 30))]) cx 233 rfl dL_isWord_231 (by decide) rfl ?_
                                    have loop_233 : ∀ (fuel : Nat) (pl : Nat) (len3 : Nat) (fd3 : Nat) (lt3 : Nat → Int32) (ph3 : Nat → Int32) (lh3 : Nat → Int32) (ks3 : Nat → Int64), (pl ≤ 5) → 5 - pl < fuel → V X lo 16 G (Qi X lo G (fun (r : Int32) ((len1, fd1, lt1, ph1, lh1, ks1, qa1, qd1, qg1) : (Nat) × (Nat) × (Nat → Int32) × (Nat → Int32) × (Nat → Int32) × (Nat → Int64) × (Nat → Int64) × (Nat → Int64) × (Nat → Int32)) => r = nI 1 ∧ (qg1 0 = qg 0 ∧ qg1 1 = qg 1 ∧ qg1 2 = qg 2)) (fun ((len1, fd1, lt1, ph1, lh1, ks1, qa1, qd1, qg1) : (Nat) × (Nat) × (Nat → Int32) × (Nat → Int32) × (Nat → Int32) × (Nat → Int64) × (Nat → Int64) × (Nat → Int64) × (Nat → Int32)) => cW G h np nl len1 fd1 lu tu T C F LT VV BB lt1 ph1 lh1 ks1 wd gr gs bl ie tw ++ (lW G h qt qc qf qb ql qa1 qd1 qw qh qg1 ++ rs)) 32 192) (4 + 14 * wh + 4 + 2 * pl) (24 + 84 * wh + 24 + 12 * pl) (cW G h np nl len3 fd3 lu tu T C F LT VV BB lt3 ph3 lh3 ks3 wd gr gs bl ie tw ++ (lW G h qt qc qf qb ql qa1_4 qd1_5 qw qh qg1_6 ++ rs)) [(14, .int (nI pl)), (13, .int (nI i2)), (12, .int (nI wh)), (0, .ref (h 0)), (1, .int (nI w)), (2, .int (nI k)), (3, .ref (h 21)), (4, .ref (h 22)), (5, .ref (h 23)), (6, .ref (h 24)), (7, .ref (h 25)), (8, .ref (h 26)), (9, .ref (h 27)), (10, .ref (h 30))] [] 233 := by
                                      intro fuel
                                      induction fuel with
                                      | zero => intro pl len3 fd3 lt3 ph3 lh3 ks3 hpl hmz; exact absurd hmz (Nat.not_lt_zero _)
                                      | succ fuel ih_233 =>
                                        intro pl len3 fd3 lt3 ph3 lh3 ks3 hpl hmz_233
                                        refine V_iload cx 235 rfl dL_isWord_233 0 rfl ?_
                                        refine V_iconst (v := nI 5) cx 236 rfl dL_isWord_235 (by decide) ?_
                                        refine V_icmp_ge cx 239 308 rfl dL_isWord_236 (by decide) (fun c_236 => ?_) (fun c_236 => ?_)
                                        · skip
                                          have n_236 : pl ≥ 5 := N_ge_t (by omega) (by omega) c_236
                                          refine V_iinc (v := nI (wh + 1)) (lc1 := [(12, .int (nI (wh + 1))), (14, .int (nI pl)), (13, .int (nI i2)), (0, .ref (h 0)), (1, .int (nI w)), (2, .int (nI k)), (3, .ref (h 21)), (4, .ref (h 22)), (5, .ref (h 23)), (6, .ref (h 24)), (7, .ref (h 25)), (8, .ref (h 26)), (9, .ref (h 27)), (10, .ref (h 30))]) cx 311 rfl dL_isWord_308 2 rfl (nI_inc wh 1) (by decide) rfl ?_
                                          refine V_goto cx 146 dL_isWord_311 (by decide) ?_
                                          refine V.locs [0, 3, 4, 5, 6, 7, 8, 9, 10, 11, 12, 13] rfl ?_
                                          refine V.widen (k' := 4 + 14 * (wh + 1)) (n' := 24 + 84 * (wh + 1)) (by omega) (by omega) ?_
                                          exact ih_146 (wh + 1) len3 fd3 lt3 ph3 lh3 ks3 (by omega) (by omega)
                                        · skip
                                          have n_236 : pl < 5 := N_ge_f (by omega) (by omega) c_236
                                          refine V_iload cx 241 rfl dL_isWord_239 1 rfl ?_
                                          refine V_aload cx 243 rfl dL_isWord_241 13 rfl ?_
                                          refine V_iconst (v := nI 3) cx 244 rfl dL_isWord_243 (by decide) ?_
                                          refine V_ialdN cx 3 (rfl) (by omega) (by decide) 30 rfl 245 rfl dL_isWord_244 ?_
                                          refine V_toi (nI F9) (hG3) ?_
                                          refine V_icmp_ge cx 248 261 rfl dL_isWord_245 (by decide) (fun c_245 => ?_) (fun c_245 => ?_)
                                          · skip
                                            have n_245 : i2 ≥ F9 := N_ge_t (by omega) (by omega) c_245
                                            refine V_iconst (v := (-1)) cx 262 rfl dL_isWord_261 (by decide) ?_
                                            refine V_istore (lc1 := [(15, .int (-1)), (14, .int (nI pl)), (13, .int (nI i2)), (12, .int (nI wh)), (0, .ref (h 0)), (1, .int (nI w)), (2, .int (nI k)), (3, .ref (h 21)), (4, .ref (h 22)), (5, .ref (h 23)), (6, .ref (h 24)), (7, .ref (h 25)), (8, .ref (h 26)), (9, .ref (h 27)), (10, .ref (h 30))]) cx 264 rfl dL_isWord_262 (by decide) rfl ?_
                                            refine V_aload_n cx 265 rfl dL_isWord_264 4 rfl ?_
                                            refine V_iload_n cx 266 rfl dL_isWord_265 5 rfl ?_
                                            refine V_iload cx 268 rfl dL_isWord_266 2 rfl ?_
                                            refine V_iload cx 270 rfl dL_isWord_268 1 rfl ?_
                                            refine KL_148 (As := [.ref (h 0), .int (nI w), .int (nI i2), .int (nI pl)]) (rest := []) cx (kL_partAt (xl X) lo G _ h np nl len3 fd3 lu tu T C F LT VV BB lt3 ph3 lh3 ks3 wd gr gs bl ie tw (nI w) (nI i2) (nI pl) x hst hok hck) hX (by omega) rfl rfl (Nat.le_of_ble_eq_true rfl) 273 ((4 + 14 * wh + 4 + 2 * pl) + 2) ((24 + 84 * wh + 24 + 12 * pl) + 12) rfl rfl rfl (by omega) (by omega) dL_isWord_270 (fun r_101 u_102 hw_103 => ?_)
                                            rcases u_102 with _ | ⟨fd1_104, lt1_105, ph1_106, lh1_107, ks1_108, v_109⟩
                                            · exfalso
                                              dsimp only at hw_103
                                              obtain ⟨E, hw_103, -⟩ := hw_103
                                              obtain ⟨_, h9 | h9 | h9⟩ := hw_103; exact nI_pos (show pl < 2 ^ 31 by omega) h9; omega; exact nI_pos (show i2 < 2 ^ 31 by omega) h9
                                            dsimp only at hw_103
                                            obtain ⟨hw_103, hv_110⟩ := hw_103
                                            subst hv_110
                                            have hpt := q_ask hwb hSZ hL8 hSR hF32 (show i2 < 2147483648 by omega) hw_103.2
                                            rw [if_neg (by omega)] at hpt
                                            refine V_toi (-1) (hpt) ?_
                                            refine V_iload cx 275 rfl dL_isWord_273 0 rfl ?_
                                            refine V_if_ge cx 278 282 rfl dL_isWord_275 (by decide) (fun c_275 => ?_) (fun c_275 => ?_)
                                            · skip
                                              exact absurd c_275 (by decide)
                                            · skip
                                              refine V_iconst (v := (-1)) cx 279 rfl dL_isWord_278 (by decide) ?_
                                              refine V_goto cx 297 dL_isWord_279 (by decide) ?_
                                              refine V_icmp_eq cx 300 302 rfl dL_isWord_297 (by decide) (fun c_297 => ?_) (fun c_297 => ?_)
                                              · skip
                                                refine V_iinc (v := nI (pl + 1)) (lc1 := [(14, .int (nI (pl + 1))), (15, .int (-1)), (13, .int (nI i2)), (12, .int (nI wh)), (0, .ref (h 0)), (1, .int (nI w)), (2, .int (nI k)), (3, .ref (h 21)), (4, .ref (h 22)), (5, .ref (h 23)), (6, .ref (h 24)), (7, .ref (h 25)), (8, .ref (h 26)), (9, .ref (h 27)), (10, .ref (h 30))]) cx 305 rfl dL_isWord_302 1 rfl (nI_inc pl 1) (by decide) rfl ?_
                                                refine V_goto cx 233 dL_isWord_305 (by decide) ?_
                                                refine V.locs [0, 2, 3, 4, 5, 6, 7, 8, 9, 10, 11, 12, 13, 14] rfl ?_
                                                refine V.widen (k' := 4 + 14 * wh + 4 + 2 * (pl + 1)) (n' := 24 + 84 * wh + 24 + 12 * (pl + 1)) (by omega) (by omega) ?_
                                                exact ih_233 (pl + 1) (SZ (nI w) 8) fd1_104 lt1_105 ph1_106 lh1_107 ks1_108 (by omega) (by omega)
                                              · skip
                                                exact absurd rfl c_297
                                          · skip
                                            have n_245 : i2 < F9 := N_ge_f (by omega) (by omega) c_245
                                            omega
                                    refine V.locs [0, 1, 2, 3, 4, 5, 6, 7, 8, 9, 10, 11, 12, 13] rfl ?_
                                    refine V.widen (k' := 4 + 14 * wh + 4 + 2 * 0) (n' := 24 + 84 * wh + 24 + 12 * 0) (by omega) (by omega) ?_
                                    exact loop_233 _ 0 (SZ (nI w) 8) fd1_96 lt1_97 ph1_98 lh1_99 ks1_100 (by omega) (Nat.lt_succ_self _)
                                  · skip
                                    exact absurd rfl c_225
                                · skip
                                  have n_210 : i2 < F9 := N_ge_f (by omega) (by omega) c_210
                                  omega
                            · skip
                              have n_177 : i2 < F9 := N_ge_f (by omega) (by omega) c_177
                              omega
                        refine V_iload cx 154 rfl dL_isWord_152 0 rfl ?_
                        refine V_if_ne cx 157 161 rfl dL_isWord_154 (by decide) (fun c_154 => ?_) (fun c_154 => ?_)
                        · skip
                          have n_154 : wh ≠ 0 := Z_ne_t (by omega) c_154
                          refine V_iconst (v := nI 0) cx 162 rfl dL_isWord_161 (by decide) ?_
                          refine V.locs [0, 1, 2, 3, 4, 5, 6, 7, 8, 9, 10, 11] rfl ?_
                          exact join_162 0 (by omega)
                        · skip
                          have n_154 : wh = 0 := Z_ne_f (by omega) c_154
                          refine V_iload_n cx 158 rfl dL_isWord_157 3 rfl ?_
                          refine V_goto cx 162 dL_isWord_158 (by decide) ?_
                          refine V.locs [0, 1, 2, 3, 4, 5, 6, 7, 8, 9, 10, 11] rfl ?_
                          exact join_162 k (by omega)
                  refine V.locs [0, 2, 3, 4, 5, 6, 7, 8, 9, 10, 11, 12] rfl ?_
                  refine V.widen (k' := 4 + 14 * 0) (n' := 24 + 84 * 0) (by omega) (by omega) ?_
                  exact loop_146 _ 0 (SZ (nI w) 8) fd1_28 lt1_29 ph1_30 lh1_31 ks1_32 (by omega) (Nat.lt_succ_self _)
                · skip
                  exact absurd rfl c_138
            · skip
              rw [if_pos hF0] at hhd
              obtain ⟨b1, b2, b3, b4⟩ := SR_bd hok hd hSR hF0
              refine V_toi (nI (spP (fs 0) ((fs 0).length - 1))) (hhd) ?_
              obtain ⟨a1, a2, a3⟩ := aK_take (k := (fs 0).length - 1) b2 (by omega)
              rw [show (fs 0).length - 1 + 1 = (fs 0).length by omega, aK_all] at a1 a2 a3
              obtain ⟨a4, a5⟩ := bt2_P a2 (b2 _ (by omega))
              change _ = spP (fs 0) ((fs 0).length - 1) + 1 at a4
              have a6 := aK_bd b2 (Nat.le_refl _) (by omega)
              rw [aK_all] at a6
              refine V_aload cx 116 rfl dL_isWord_114 12 rfl ?_
              refine V_iconst (v := nI 3) cx 117 rfl dL_isWord_116 (by decide) ?_
              refine V_ialdN cx 3 (rfl) (by omega) (by decide) 30 rfl 118 rfl dL_isWord_117 ?_
              refine V_toi (nI F9) (hG3) ?_
              refine V_if_ne cx 121 125 rfl dL_isWord_118 (by decide) (fun c_118 => ?_) (fun c_118 => ?_)
              · skip
                have n_118 : F9 ≠ 0 := Z_ne_t (by omega) c_118
                refine V_aload cx 127 rfl dL_isWord_125 10 rfl ?_
                refine V_iconst (v := nI 0) cx 128 rfl dL_isWord_127 (by decide) ?_
                refine V_laldN cx 0 (rfl) (by omega) (by decide) 26 rfl 129 rfl dL_isWord_128 ?_
                refine V_tol (lN (aK (fs 0))) (hA 0 (by omega)) ?_
                refine V_iconst (v := nI 3) cx 130 rfl dL_isWord_129 (by decide) ?_
                refine V_lshr cx 131 rfl dL_isWord_130 ?_
                refine V_tol (lN (aK (fs 0) / 2 ^ 3)) (l_shr (by omega) (by omega)) ?_
                refine V_ldc2 cx 134 rfl dL_isWord_131 cl_L_73 ?_
                refine V_tol (lN 31) (by decide) ?_
                refine V_land cx 135 rfl dL_isWord_134 ?_
                refine V_tol (lN (aK (fs 0) / 2 ^ 3 % 32)) (l_land 5 32 (by decide) (by decide) (Nat.lt_of_le_of_lt (Nat.div_le_self _ _) (by omega))) ?_
                refine V_l2i cx 136 rfl dL_isWord_135 ?_
                refine V_toi (nI (aK (fs 0) / 2 ^ 3 % 32)) (lN_i _) ?_
                refine V_iconst (v := nI 1) cx 137 rfl dL_isWord_136 (by decide) ?_
                refine V_isub cx 138 rfl dL_isWord_137 ?_
                refine V_toi (nI (spP (fs 0) ((fs 0).length - 1))) (by rw [nI_subN (by omega)]; congr 1; omega) ?_
                refine V_icmp_eq cx 141 143 rfl dL_isWord_138 (by decide) (fun c_138 => ?_) (fun c_138 => ?_)
                · skip
                  refine V_iconst (v := nI 0) cx 144 rfl dL_isWord_143 (by decide) ?_
                  refine V_istore (lc1 := [(12, .int (nI 0)), (11, .int (nI rd)), (0, .ref (h 0)), (1, .int (nI w)), (2, .int (nI k)), (3, .ref (h 21)), (4, .ref (h 22)), (5, .ref (h 23)), (6, .ref (h 24)), (7, .ref (h 25)), (8, .ref (h 26)), (9, .ref (h 27)), (10, .ref (h 30))]) cx 146 rfl dL_isWord_144 (by decide) rfl ?_
                  have loop_146 : ∀ (fuel : Nat) (wh : Nat) (len2 : Nat) (fd2 : Nat) (lt2 : Nat → Int32) (ph2 : Nat → Int32) (lh2 : Nat → Int32) (ks2 : Nat → Int64), (wh ≤ 2) → 2 - wh < fuel → V X lo 16 G (Qi X lo G (fun (r : Int32) ((len1, fd1, lt1, ph1, lh1, ks1, qa1, qd1, qg1) : (Nat) × (Nat) × (Nat → Int32) × (Nat → Int32) × (Nat → Int32) × (Nat → Int64) × (Nat → Int64) × (Nat → Int64) × (Nat → Int32)) => r = nI 1 ∧ (qg1 0 = qg 0 ∧ qg1 1 = qg 1 ∧ qg1 2 = qg 2)) (fun ((len1, fd1, lt1, ph1, lh1, ks1, qa1, qd1, qg1) : (Nat) × (Nat) × (Nat → Int32) × (Nat → Int32) × (Nat → Int32) × (Nat → Int64) × (Nat → Int64) × (Nat → Int64) × (Nat → Int32)) => cW G h np nl len1 fd1 lu tu T C F LT VV BB lt1 ph1 lh1 ks1 wd gr gs bl ie tw ++ (lW G h qt qc qf qb ql qa1 qd1 qw qh qg1 ++ rs)) 32 192) (4 + 14 * wh) (24 + 84 * wh) (cW G h np nl len2 fd2 lu tu T C F LT VV BB lt2 ph2 lh2 ks2 wd gr gs bl ie tw ++ (lW G h qt qc qf qb ql qa1_4 qd1_5 qw qh qg1_6 ++ rs)) [(12, .int (nI wh)), (0, .ref (h 0)), (1, .int (nI w)), (2, .int (nI k)), (3, .ref (h 21)), (4, .ref (h 22)), (5, .ref (h 23)), (6, .ref (h 24)), (7, .ref (h 25)), (8, .ref (h 26)), (9, .ref (h 27)), (10, .ref (h 30))] [] 146 := by
                    intro fuel
                    induction fuel with
                    | zero => intro wh len2 fd2 lt2 ph2 lh2 ks2 hwh hmz; exact absurd hmz (Nat.not_lt_zero _)
                    | succ fuel ih_146 =>
                      intro wh len2 fd2 lt2 ph2 lh2 ks2 hwh hmz_146
                      refine V_iload cx 148 rfl dL_isWord_146 0 rfl ?_
                      refine V_iconst (v := nI 2) cx 149 rfl dL_isWord_148 (by decide) ?_
                      refine V_icmp_ge cx 152 314 rfl dL_isWord_149 (by decide) (fun c_149 => ?_) (fun c_149 => ?_)
                      · skip
                        have n_149 : wh ≥ 2 := N_ge_t (by omega) (by omega) c_149
                        refine V_iconst (v := nI 1) cx 315 rfl dL_isWord_314 (by decide) ?_
                        exact V_zreturn cx hr (by first | rfl | exact bI_z _) (len2, fd2, lt2, ph2, lh2, ks2, qa1_4, qd1_5, qg1_6) (⟨rfl, hG0, hG1, hG2⟩) rfl (by omega) (by omega) dL_isWord_315
                      · skip
                        have n_149 : wh < 2 := N_ge_f (by omega) (by omega) c_149
                        have join_162 : ∀ (i2 : Nat), (i2 ≤ 7) → V X lo 16 G (Qi X lo G (fun (r : Int32) ((len1, fd1, lt1, ph1, lh1, ks1, qa1, qd1, qg1) : (Nat) × (Nat) × (Nat → Int32) × (Nat → Int32) × (Nat → Int32) × (Nat → Int64) × (Nat → Int64) × (Nat → Int64) × (Nat → Int32)) => r = nI 1 ∧ (qg1 0 = qg 0 ∧ qg1 1 = qg 1 ∧ qg1 2 = qg 2)) (fun ((len1, fd1, lt1, ph1, lh1, ks1, qa1, qd1, qg1) : (Nat) × (Nat) × (Nat → Int32) × (Nat → Int32) × (Nat → Int32) × (Nat → Int64) × (Nat → Int64) × (Nat → Int64) × (Nat → Int32)) => cW G h np nl len1 fd1 lu tu T C F LT VV BB lt1 ph1 lh1 ks1 wd gr gs bl ie tw ++ (lW G h qt qc qf qb ql qa1 qd1 qw qh qg1 ++ rs)) 32 192) (4 + 14 * wh) (24 + 84 * wh) (cW G h np nl len2 fd2 lu tu T C F LT VV BB lt2 ph2 lh2 ks2 wd gr gs bl ie tw ++ (lW G h qt qc qf qb ql qa1_4 qd1_5 qw qh qg1_6 ++ rs)) [(12, .int (nI wh)), (0, .ref (h 0)), (1, .int (nI w)), (2, .int (nI k)), (3, .ref (h 21)), (4, .ref (h 22)), (5, .ref (h 23)), (6, .ref (h 24)), (7, .ref (h 25)), (8, .ref (h 26)), (9, .ref (h 27)), (10, .ref (h 30))] [.int (nI i2)] 162 := by
                          intro i2 hi7
                          refine V_istore (lc1 := [(13, .int (nI i2)), (12, .int (nI wh)), (0, .ref (h 0)), (1, .int (nI w)), (2, .int (nI k)), (3, .ref (h 21)), (4, .ref (h 22)), (5, .ref (h 23)), (6, .ref (h 24)), (7, .ref (h 25)), (8, .ref (h 26)), (9, .ref (h 27)), (10, .ref (h 30))]) cx 164 rfl dL_isWord_162 (by decide) rfl ?_
                          rcases Nat.lt_or_ge i2 F9 with hiF | hiF
                          · skip
                            obtain ⟨b1, b2, b3, b4⟩ := SR_bd hok hd hSR hiF
                            refine V_aload_n cx 165 rfl dL_isWord_164 2 rfl ?_
                            refine V_iload_n cx 166 rfl dL_isWord_165 3 rfl ?_
                            refine V_iload cx 168 rfl dL_isWord_166 0 rfl ?_
                            refine KL_144 (As := [.ref (h 0), .int (nI w), .int (nI i2)]) (rest := []) cx (kL_cost (xl X) lo G _ h np nl len2 fd2 lu tu T C F LT VV BB lt2 ph2 lh2 ks2 wd gr gs bl ie tw (nI w) (nI i2) x hst hok hck) hX (by omega) rfl rfl (Nat.le_of_ble_eq_true rfl) 171 ((4 + 14 * wh) + 2) ((24 + 84 * wh) + 12) rfl rfl rfl (by omega) (by omega) dL_isWord_168 (fun r_111 u_112 hw_113 => ?_)
                            rcases u_112 with _ | ⟨fd1_114, lt1_115, ph1_116, lh1_117, ks1_118, v_119⟩
                            · exfalso
                              dsimp only at hw_113
                              obtain ⟨E, hw_113, -⟩ := hw_113
                              obtain ⟨_, h9 | h9⟩ := hw_113; omega; exact nI_pos (show i2 < 2 ^ 31 by omega) h9
                            dsimp only at hw_113
                            obtain ⟨hw_113, hv_120⟩ := hw_113
                            subst hv_120
                            have hco := q_ask hwb hSZ hL8 hSR hF32 (show i2 < 2147483648 by omega) hw_113
                            rw [if_pos hiF] at hco
                            refine V_toi (nI (cS x (fs i2) - 15)) (hco.trans (congrArg nI (SR_cost hL8 hSR hiF))) ?_
                            refine V_iload cx 173 rfl dL_isWord_171 0 rfl ?_
                            refine V_aload cx 175 rfl dL_isWord_173 12 rfl ?_
                            refine V_iconst (v := nI 3) cx 176 rfl dL_isWord_175 (by decide) ?_
                            refine V_ialdN cx 3 (rfl) (by omega) (by decide) 30 rfl 177 rfl dL_isWord_176 ?_
                            refine V_toi (nI F9) (hG3) ?_
                            refine V_icmp_ge cx 180 193 rfl dL_isWord_177 (by decide) (fun c_177 => ?_) (fun c_177 => ?_)
                            · skip
                              have n_177 : i2 ≥ F9 := N_ge_t (by omega) (by omega) c_177
                              omega
                            · skip
                              have n_177 : i2 < F9 := N_ge_f (by omega) (by omega) c_177
                              refine V_aload cx 182 rfl dL_isWord_180 10 rfl ?_
                              refine V_iload cx 184 rfl dL_isWord_182 0 rfl ?_
                              refine V_laldN cx i2 (rfl) (by omega) (by decide) 26 rfl 185 rfl dL_isWord_184 ?_
                              refine V_tol (lN (aK (fs i2))) (hA i2 hiF) ?_
                              refine V_aload cx 187 rfl dL_isWord_185 6 rfl ?_
                              refine V.swap ?_
                              refine KL_80 (As := [.long (lN (aK (fs i2))), .ref (h 22)]) (rest := [.int (nI (cS x (fs i2) - 15))]) cx (kL_costOf (xl X) lo G _ h qt qc qf qb ql qa1_4 qd1_5 qw qh qg1_6 (aK (fs i2)) (fs i2) x rfl hok b1 (by omega) hq (by omega)) hX (by omega) rfl rfl (Nat.le_of_ble_eq_true rfl) 190 ((4 + 14 * wh) + 2) ((24 + 84 * wh) + 12) rfl rfl rfl (by omega) (by omega) dL_isWord_187 (fun r_121 u_122 hw_123 => ?_)
                              try dsimp only at hw_123
                              subst hw_123
                              refine V.swap ?_
                              refine V_goto cx 194 dL_isWord_190 (by decide) ?_
                              refine V_icmp_ne cx 197 228 rfl dL_isWord_194 (by decide) (fun c_194 => ?_) (fun c_194 => ?_)
                              · skip
                                exact absurd rfl c_194
                              · skip
                                refine V_aload_n cx 198 rfl dL_isWord_197 2 rfl ?_
                                refine V_iload_n cx 199 rfl dL_isWord_198 3 rfl ?_
                                refine V_iload cx 201 rfl dL_isWord_199 0 rfl ?_
                                refine KXL_146 (As := [.int (nI w), .int (nI i2)]) (rest := []) cx (kX4_size (xl X) lo G _ h np nl (SZ (nI w) 8) fd1_114 lu tu T C F LT VV BB lt1_115 ph1_116 lh1_117 ks1_118 wd gr gs bl ie tw (nI w) (nI i2) x hst hok hck) hX (by omega) 0 rfl rfl rfl (Nat.le_of_ble_eq_true rfl) 204 ((4 + 14 * wh) + 4) ((24 + 84 * wh) + 24) rfl rfl rfl (by omega) (by omega) dL_isWord_201 (fun E ce q9 H1 locs1 ls he _ _ _ _ _ _ _ => by exfalso; obtain ⟨_, h9 | h9⟩ := he; omega; exact nI_pos (show i2 < 2 ^ 31 by omega) h9) (fun r_124 u_125 hw_126 => ?_)
                                obtain ⟨fd1_127, lt1_128, ph1_129, lh1_130, ks1_131⟩ := u_125
                                try dsimp only at hw_126
                                have hsz := q_ask hwb hSZ hL8 hSR hF32 (show i2 < 2147483648 by omega) hw_126
                                rw [if_pos hiF] at hsz
                                refine V_toi (nI (List.length (fs i2))) (hsz) ?_
                                refine V_iload cx 206 rfl dL_isWord_204 0 rfl ?_
                                refine V_aload cx 208 rfl dL_isWord_206 12 rfl ?_
                                refine V_iconst (v := nI 3) cx 209 rfl dL_isWord_208 (by decide) ?_
                                refine V_ialdN cx 3 (rfl) (by omega) (by decide) 30 rfl 210 rfl dL_isWord_209 ?_
                                refine V_toi (nI F9) (hG3) ?_
                                refine V_icmp_ge cx 213 224 rfl dL_isWord_210 (by decide) (fun c_210 => ?_) (fun c_210 => ?_)
                                · skip
                                  have n_210 : i2 ≥ F9 := N_ge_t (by omega) (by omega) c_210
                                  omega
                                · skip
                                  have n_210 : i2 < F9 := N_ge_f (by omega) (by omega) c_210
                                  refine V_aload cx 215 rfl dL_isWord_213 10 rfl ?_
                                  refine V_iload cx 217 rfl dL_isWord_215 0 rfl ?_
                                  refine V_laldN cx i2 (rfl) (by omega) (by decide) 26 rfl 218 rfl dL_isWord_217 ?_
                                  refine V_tol (lN (aK (fs i2))) (hA i2 hiF) ?_
                                  refine KL_67 (As := [.long (lN (aK (fs i2)))]) (rest := [.int (nI (List.length (fs i2)))]) cx (kL_parts (xl X) lo G _ (aK (fs i2)) (fs i2) rfl b2 (by omega)) hX (by omega) rfl rfl (Nat.le_of_ble_eq_true rfl) 221 ((4 + 14 * wh) + 4) ((24 + 84 * wh) + 24) rfl rfl rfl (by omega) (by omega) dL_isWord_218 (fun r_132 u_133 hw_134 => ?_)
                                  try dsimp only at hw_134
                                  subst hw_134
                                  refine V_goto cx 225 dL_isWord_221 (by decide) ?_
                                  refine V_icmp_eq cx 228 230 rfl dL_isWord_225 (by decide) (fun c_225 => ?_) (fun c_225 => ?_)
                                  · skip
                                    refine V_iconst (v := nI 0) cx 231 rfl dL_isWord_230 (by decide) ?_
                                    refine V_istore (lc1 := [(14, .int (nI 0)), (13, .int (nI i2)), (12, .int (nI wh)), (0, .ref (h 0)), (1, .int (nI w)), (2, .int (nI k)), (3, .ref (h 21)), (4, .ref (h 22)), (5, .ref (h 23)), (6, .ref (h 24)), (7, .ref (h 25)), (8, .ref (h 26)), (9, .ref (h 27)), (10, .ref (h 30))]) cx 233 rfl dL_isWord_231 (by decide) rfl ?_
                                    have loop_233 : ∀ (fuel : Nat) (pl : Nat) (len3 : Nat) (fd3 : Nat) (lt3 : Nat → Int32) (ph3 : Nat → Int32) (lh3 : Nat → Int32) (ks3 : Nat → Int64), (pl ≤ 5) → 5 - pl < fuel → V X lo 16 G (Qi X lo G (fun (r : Int32) ((len1, fd1, lt1, ph1, lh1, ks1, qa1, qd1, qg1) : (Nat) × (Nat) × (Nat → Int32) × (Nat → Int32) × (Nat → Int32) × (Nat → Int64) × (Nat → Int64) × (Nat → Int64) × (Nat → Int32)) => r = nI 1 ∧ (qg1 0 = qg 0 ∧ qg1 1 = qg 1 ∧ qg1 2 = qg 2)) (fun ((len1, fd1, lt1, ph1, lh1, ks1, qa1, qd1, qg1) : (Nat) × (Nat) × (Nat → Int32) × (Nat → Int32) × (Nat → Int32) × (Nat → Int64) × (Nat → Int64) × (Nat → Int64) × (Nat → Int32)) => cW G h np nl len1 fd1 lu tu T C F LT VV BB lt1 ph1 lh1 ks1 wd gr gs bl ie tw ++ (lW G h qt qc qf qb ql qa1 qd1 qw qh qg1 ++ rs)) 32 192) (4 + 14 * wh + 4 + 2 * pl) (24 + 84 * wh + 24 + 12 * pl) (cW G h np nl len3 fd3 lu tu T C F LT VV BB lt3 ph3 lh3 ks3 wd gr gs bl ie tw ++ (lW G h qt qc qf qb ql qa1_4 qd1_5 qw qh qg1_6 ++ rs)) [(14, .int (nI pl)), (13, .int (nI i2)), (12, .int (nI wh)), (0, .ref (h 0)), (1, .int (nI w)), (2, .int (nI k)), (3, .ref (h 21)), (4, .ref (h 22)), (5, .ref (h 23)), (6, .ref (h 24)), (7, .ref (h 25)), (8, .ref (h 26)), (9, .ref (h 27)), (10, .ref (h 30))] [] 233 := by
                                      intro fuel
                                      induction fuel with
                                      | zero => intro pl len3 fd3 lt3 ph3 lh3 ks3 hpl hmz; exact absurd hmz (Nat.not_lt_zero _)
                                      | succ fuel ih_233 =>
                                        intro pl len3 fd3 lt3 ph3 lh3 ks3 hpl hmz_233
                                        refine V_iload cx 235 rfl dL_isWord_233 0 rfl ?_
                                        refine V_iconst (v := nI 5) cx 236 rfl dL_isWord_235 (by decide) ?_
                                        refine V_icmp_ge cx 239 308 rfl dL_isWord_236 (by decide) (fun c_236 => ?_) (fun c_236 => ?_)
                                        · skip
                                          have n_236 : pl ≥ 5 := N_ge_t (by omega) (by omega) c_236
                                          refine V_iinc (v := nI (wh + 1)) (lc1 := [(12, .int (nI (wh + 1))), (14, .int (nI pl)), (13, .int (nI i2)), (0, .ref (h 0)), (1, .int (nI w)), (2, .int (nI k)), (3, .ref (h 21)), (4, .ref (h 22)), (5, .ref (h 23)), (6, .ref (h 24)), (7, .ref (h 25)), (8, .ref (h 26)), (9, .ref (h 27)), (10, .ref (h 30))]) cx 311 rfl dL_isWord_308 2 rfl (nI_inc wh 1) (by decide) rfl ?_
                                          refine V_goto cx 146 dL_isWord_311 (by decide) ?_
                                          refine V.locs [0, 3, 4, 5, 6, 7, 8, 9, 10, 11, 12, 13] rfl ?_
                                          refine V.widen (k' := 4 + 14 * (wh + 1)) (n' := 24 + 84 * (wh + 1)) (by omega) (by omega) ?_
                                          exact ih_146 (wh + 1) len3 fd3 lt3 ph3 lh3 ks3 (by omega) (by omega)
                                        · skip
                                          have n_236 : pl < 5 := N_ge_f (by omega) (by omega) c_236
                                          rcases Nat.lt_or_ge pl (List.length (fs i2)) with hpL | hpL
                                          · skip
                                            have d1 := bt2_bd (y := (fs i2).getD pl (0, 0)) (b2 pl hpL)
                                            have d2 : bt2 ((fs i2).getD pl (0, 0)) / 8 = spP (fs i2) pl + 1 ∧ bt2 ((fs i2).getD pl (0, 0)) % 8 = spO (fs i2) pl % 7 := bt2_p
                                            refine V_iload cx 241 rfl dL_isWord_239 1 rfl ?_
                                            refine V_aload cx 243 rfl dL_isWord_241 13 rfl ?_
                                            refine V_iconst (v := nI 3) cx 244 rfl dL_isWord_243 (by decide) ?_
                                            refine V_ialdN cx 3 (rfl) (by omega) (by decide) 30 rfl 245 rfl dL_isWord_244 ?_
                                            refine V_toi (nI F9) (hG3) ?_
                                            refine V_icmp_ge cx 248 261 rfl dL_isWord_245 (by decide) (fun c_245 => ?_) (fun c_245 => ?_)
                                            · skip
                                              have n_245 : i2 ≥ F9 := N_ge_t (by omega) (by omega) c_245
                                              omega
                                            · skip
                                              have n_245 : i2 < F9 := N_ge_f (by omega) (by omega) c_245
                                              refine V_aload cx 250 rfl dL_isWord_248 11 rfl ?_
                                              refine V_iload cx 252 rfl dL_isWord_250 1 rfl ?_
                                              refine V_laldN cx i2 (rfl) (by omega) (by decide) 26 rfl 253 rfl dL_isWord_252 ?_
                                              refine V_tol (lN (aK (fs i2))) (hA i2 hiF) ?_
                                              refine V_iload cx 255 rfl dL_isWord_253 0 rfl ?_
                                              refine KL_84 (As := [.long (lN (aK (fs i2))), .int (nI pl)]) (rest := []) cx (kL_at (xl X) lo G _ (aK (fs i2)) pl (fs i2) rfl b2 (by omega) (by omega)) hX (by omega) rfl rfl (Nat.le_of_ble_eq_true rfl) 258 (4 + 14 * wh + 4 + 2 * pl) (24 + 84 * wh + 24 + 12 * pl) rfl rfl rfl (by omega) (by omega) dL_isWord_255 (fun r_135 u_136 hw_137 => ?_)
                                              try dsimp only at hw_137
                                              subst hw_137
                                              refine V_toi (nI (bt2 ((fs i2).getD pl (0, 0)))) (if_pos hpL) ?_
                                              refine V_goto cx 262 dL_isWord_258 (by decide) ?_
                                              refine V_istore (lc1 := [(15, .int (nI (bt2 ((fs i2).getD pl (0, 0))))), (14, .int (nI pl)), (13, .int (nI i2)), (12, .int (nI wh)), (0, .ref (h 0)), (1, .int (nI w)), (2, .int (nI k)), (3, .ref (h 21)), (4, .ref (h 22)), (5, .ref (h 23)), (6, .ref (h 24)), (7, .ref (h 25)), (8, .ref (h 26)), (9, .ref (h 27)), (10, .ref (h 30))]) cx 264 rfl dL_isWord_262 (by decide) rfl ?_
                                              refine V_aload_n cx 265 rfl dL_isWord_264 4 rfl ?_
                                              refine V_iload_n cx 266 rfl dL_isWord_265 5 rfl ?_
                                              refine V_iload cx 268 rfl dL_isWord_266 2 rfl ?_
                                              refine V_iload cx 270 rfl dL_isWord_268 1 rfl ?_
                                              refine KL_148 (As := [.ref (h 0), .int (nI w), .int (nI i2), .int (nI pl)]) (rest := []) cx (kL_partAt (xl X) lo G _ h np nl len3 fd3 lu tu T C F LT VV BB lt3 ph3 lh3 ks3 wd gr gs bl ie tw (nI w) (nI i2) (nI pl) x hst hok hck) hX (by omega) rfl rfl (Nat.le_of_ble_eq_true rfl) 273 ((4 + 14 * wh + 4 + 2 * pl) + 2) ((24 + 84 * wh + 24 + 12 * pl) + 12) rfl rfl rfl (by omega) (by omega) dL_isWord_270 (fun r_138 u_139 hw_140 => ?_)
                                              rcases u_139 with _ | ⟨fd1_141, lt1_142, ph1_143, lh1_144, ks1_145, v_146⟩
                                              · exfalso
                                                dsimp only at hw_140
                                                obtain ⟨E, hw_140, -⟩ := hw_140
                                                obtain ⟨_, h9 | h9 | h9⟩ := hw_140; exact nI_pos (show pl < 2 ^ 31 by omega) h9; omega; exact nI_pos (show i2 < 2 ^ 31 by omega) h9
                                              dsimp only at hw_140
                                              obtain ⟨hw_140, hv_147⟩ := hw_140
                                              subst hv_147
                                              have hpt := q_ask hwb hSZ hL8 hSR hF32 (show i2 < 2147483648 by omega) hw_140.2
                                              rw [if_pos hiF] at hpt
                                              refine V_toi (nI ((10 * (spP (fs i2) pl)) + (spO (fs i2) pl % 7))) (pat_in (by omega) hpL hpt) ?_
                                              refine V_iload cx 275 rfl dL_isWord_273 0 rfl ?_
                                              refine V_if_ge cx 278 282 rfl dL_isWord_275 (by decide) (fun c_275 => ?_) (fun c_275 => ?_)
                                              · skip
                                                have n_275 : bt2 ((fs i2).getD pl (0, 0)) ≥ 0 := Z_ge_t (by omega) c_275
                                                refine V_bipush (v := nI 10) cx 284 rfl dL_isWord_282 (by decide) ?_
                                                refine V_iload cx 286 rfl dL_isWord_284 0 rfl ?_
                                                refine V_iconst (v := nI 3) cx 287 rfl dL_isWord_286 (by decide) ?_
                                                refine V_ishr cx 288 rfl dL_isWord_287 ?_
                                                refine V_toi (nI (spP (fs i2) pl + 1)) ((i_shr (by omega) (by omega)).trans (congrArg nI d2.1)) ?_
                                                refine V_iconst (v := nI 1) cx 289 rfl dL_isWord_288 (by decide) ?_
                                                refine V_isub cx 290 rfl dL_isWord_289 ?_
                                                refine V_toi (nI (spP (fs i2) pl)) (nI_subN (by omega)) ?_
                                                refine V_imul cx 291 rfl dL_isWord_290 ?_
                                                refine V_toi (nI (10 * (spP (fs i2) pl))) (nI_mulN _ _) ?_
                                                refine V_iload cx 293 rfl dL_isWord_291 0 rfl ?_
                                                refine V_bipush (v := nI 7) cx 295 rfl dL_isWord_293 (by decide) ?_
                                                refine V_iand cx 296 rfl dL_isWord_295 ?_
                                                refine V_toi (nI ((bt2 ((fs i2).getD pl (0, 0))) &&& 7)) (nI_andN _ _) ?_
                                                refine V_toi (nI (spO (fs i2) pl % 7)) (by rw [show (7 : Nat) = 2 ^ 3 - 1 by decide, Nat.and_two_pow_sub_one_eq_mod]; exact congrArg nI d2.2) ?_
                                                refine V_iadd cx 297 rfl dL_isWord_296 ?_
                                                refine V_toi (nI ((10 * (spP (fs i2) pl)) + (spO (fs i2) pl % 7))) (nI_add _ _) ?_
                                                refine V_icmp_eq cx 300 302 rfl dL_isWord_297 (by decide) (fun c_297 => ?_) (fun c_297 => ?_)
                                                · skip
                                                  refine V_iinc (v := nI (pl + 1)) (lc1 := [(14, .int (nI (pl + 1))), (15, .int (nI (bt2 ((fs i2).getD pl (0, 0))))), (13, .int (nI i2)), (12, .int (nI wh)), (0, .ref (h 0)), (1, .int (nI w)), (2, .int (nI k)), (3, .ref (h 21)), (4, .ref (h 22)), (5, .ref (h 23)), (6, .ref (h 24)), (7, .ref (h 25)), (8, .ref (h 26)), (9, .ref (h 27)), (10, .ref (h 30))]) cx 305 rfl dL_isWord_302 1 rfl (nI_inc pl 1) (by decide) rfl ?_
                                                  refine V_goto cx 233 dL_isWord_305 (by decide) ?_
                                                  refine V.locs [0, 2, 3, 4, 5, 6, 7, 8, 9, 10, 11, 12, 13, 14] rfl ?_
                                                  refine V.widen (k' := 4 + 14 * wh + 4 + 2 * (pl + 1)) (n' := 24 + 84 * wh + 24 + 12 * (pl + 1)) (by omega) (by omega) ?_
                                                  exact ih_233 (pl + 1) (SZ (nI w) 8) fd1_141 lt1_142 ph1_143 lh1_144 ks1_145 (by omega) (by omega)
                                                · skip
                                                  exact absurd rfl c_297
                                              · skip
                                                have n_275 : bt2 ((fs i2).getD pl (0, 0)) < 0 := Z_ge_f (by omega) c_275
                                                omega
                                          · skip
                                            refine V_iload cx 241 rfl dL_isWord_239 1 rfl ?_
                                            refine V_aload cx 243 rfl dL_isWord_241 13 rfl ?_
                                            refine V_iconst (v := nI 3) cx 244 rfl dL_isWord_243 (by decide) ?_
                                            refine V_ialdN cx 3 (rfl) (by omega) (by decide) 30 rfl 245 rfl dL_isWord_244 ?_
                                            refine V_toi (nI F9) (hG3) ?_
                                            refine V_icmp_ge cx 248 261 rfl dL_isWord_245 (by decide) (fun c_245 => ?_) (fun c_245 => ?_)
                                            · skip
                                              have n_245 : i2 ≥ F9 := N_ge_t (by omega) (by omega) c_245
                                              omega
                                            · skip
                                              have n_245 : i2 < F9 := N_ge_f (by omega) (by omega) c_245
                                              refine V_aload cx 250 rfl dL_isWord_248 11 rfl ?_
                                              refine V_iload cx 252 rfl dL_isWord_250 1 rfl ?_
                                              refine V_laldN cx i2 (rfl) (by omega) (by decide) 26 rfl 253 rfl dL_isWord_252 ?_
                                              refine V_tol (lN (aK (fs i2))) (hA i2 hiF) ?_
                                              refine V_iload cx 255 rfl dL_isWord_253 0 rfl ?_
                                              refine KL_84 (As := [.long (lN (aK (fs i2))), .int (nI pl)]) (rest := []) cx (kL_at (xl X) lo G _ (aK (fs i2)) pl (fs i2) rfl b2 (by omega) (by omega)) hX (by omega) rfl rfl (Nat.le_of_ble_eq_true rfl) 258 (4 + 14 * wh + 4 + 2 * pl) (24 + 84 * wh + 24 + 12 * pl) rfl rfl rfl (by omega) (by omega) dL_isWord_255 (fun r_148 u_149 hw_150 => ?_)
                                              try dsimp only at hw_150
                                              subst hw_150
                                              refine V_toi (-1) (if_neg (by omega)) ?_
                                              refine V_goto cx 262 dL_isWord_258 (by decide) ?_
                                              refine V_istore (lc1 := [(15, .int (-1)), (14, .int (nI pl)), (13, .int (nI i2)), (12, .int (nI wh)), (0, .ref (h 0)), (1, .int (nI w)), (2, .int (nI k)), (3, .ref (h 21)), (4, .ref (h 22)), (5, .ref (h 23)), (6, .ref (h 24)), (7, .ref (h 25)), (8, .ref (h 26)), (9, .ref (h 27)), (10, .ref (h 30))]) cx 264 rfl dL_isWord_262 (by decide) rfl ?_
                                              refine V_aload_n cx 265 rfl dL_isWord_264 4 rfl ?_
                                              refine V_iload_n cx 266 rfl dL_isWord_265 5 rfl ?_
                                              refine V_iload cx 268 rfl dL_isWord_266 2 rfl ?_
                                              refine V_iload cx 270 rfl dL_isWord_268 1 rfl ?_
                                              refine KL_148 (As := [.ref (h 0), .int (nI w), .int (nI i2), .int (nI pl)]) (rest := []) cx (kL_partAt (xl X) lo G _ h np nl len3 fd3 lu tu T C F LT VV BB lt3 ph3 lh3 ks3 wd gr gs bl ie tw (nI w) (nI i2) (nI pl) x hst hok hck) hX (by omega) rfl rfl (Nat.le_of_ble_eq_true rfl) 273 ((4 + 14 * wh + 4 + 2 * pl) + 2) ((24 + 84 * wh + 24 + 12 * pl) + 12) rfl rfl rfl (by omega) (by omega) dL_isWord_270 (fun r_151 u_152 hw_153 => ?_)
                                              rcases u_152 with _ | ⟨fd1_154, lt1_155, ph1_156, lh1_157, ks1_158, v_159⟩
                                              · exfalso
                                                dsimp only at hw_153
                                                obtain ⟨E, hw_153, -⟩ := hw_153
                                                obtain ⟨_, h9 | h9 | h9⟩ := hw_153; exact nI_pos (show pl < 2 ^ 31 by omega) h9; omega; exact nI_pos (show i2 < 2 ^ 31 by omega) h9
                                              dsimp only at hw_153
                                              obtain ⟨hw_153, hv_160⟩ := hw_153
                                              subst hv_160
                                              have hpt := q_ask hwb hSZ hL8 hSR hF32 (show i2 < 2147483648 by omega) hw_153.2
                                              rw [if_pos hiF] at hpt
                                              refine V_toi (-1) (pat_out (by omega) (by omega) hpL hpt) ?_
                                              refine V_iload cx 275 rfl dL_isWord_273 0 rfl ?_
                                              refine V_if_ge cx 278 282 rfl dL_isWord_275 (by decide) (fun c_275 => ?_) (fun c_275 => ?_)
                                              · skip
                                                exact absurd c_275 (by decide)
                                              · skip
                                                refine V_iconst (v := (-1)) cx 279 rfl dL_isWord_278 (by decide) ?_
                                                refine V_goto cx 297 dL_isWord_279 (by decide) ?_
                                                refine V_icmp_eq cx 300 302 rfl dL_isWord_297 (by decide) (fun c_297 => ?_) (fun c_297 => ?_)
                                                · skip
                                                  refine V_iinc (v := nI (pl + 1)) (lc1 := [(14, .int (nI (pl + 1))), (15, .int (-1)), (13, .int (nI i2)), (12, .int (nI wh)), (0, .ref (h 0)), (1, .int (nI w)), (2, .int (nI k)), (3, .ref (h 21)), (4, .ref (h 22)), (5, .ref (h 23)), (6, .ref (h 24)), (7, .ref (h 25)), (8, .ref (h 26)), (9, .ref (h 27)), (10, .ref (h 30))]) cx 305 rfl dL_isWord_302 1 rfl (nI_inc pl 1) (by decide) rfl ?_
                                                  refine V_goto cx 233 dL_isWord_305 (by decide) ?_
                                                  refine V.locs [0, 2, 3, 4, 5, 6, 7, 8, 9, 10, 11, 12, 13, 14] rfl ?_
                                                  refine V.widen (k' := 4 + 14 * wh + 4 + 2 * (pl + 1)) (n' := 24 + 84 * wh + 24 + 12 * (pl + 1)) (by omega) (by omega) ?_
                                                  exact ih_233 (pl + 1) (SZ (nI w) 8) fd1_154 lt1_155 ph1_156 lh1_157 ks1_158 (by omega) (by omega)
                                                · skip
                                                  exact absurd rfl c_297
                                    refine V.locs [0, 1, 2, 3, 4, 5, 6, 7, 8, 9, 10, 11, 12, 13] rfl ?_
                                    refine V.widen (k' := 4 + 14 * wh + 4 + 2 * 0) (n' := 24 + 84 * wh + 24 + 12 * 0) (by omega) (by omega) ?_
                                    exact loop_233 _ 0 (SZ (nI w) 8) fd1_127 lt1_128 ph1_129 lh1_130 ks1_131 (by omega) (Nat.lt_succ_self _)
                                  · skip
                                    exact absurd rfl c_225
                          · skip
                            refine V_aload_n cx 165 rfl dL_isWord_164 2 rfl ?_
                            refine V_iload_n cx 166 rfl dL_isWord_165 3 rfl ?_
                            refine V_iload cx 168 rfl dL_isWord_166 0 rfl ?_
                            refine KL_144 (As := [.ref (h 0), .int (nI w), .int (nI i2)]) (rest := []) cx (kL_cost (xl X) lo G _ h np nl len2 fd2 lu tu T C F LT VV BB lt2 ph2 lh2 ks2 wd gr gs bl ie tw (nI w) (nI i2) x hst hok hck) hX (by omega) rfl rfl (Nat.le_of_ble_eq_true rfl) 171 ((4 + 14 * wh) + 2) ((24 + 84 * wh) + 12) rfl rfl rfl (by omega) (by omega) dL_isWord_168 (fun r_161 u_162 hw_163 => ?_)
                            rcases u_162 with _ | ⟨fd1_164, lt1_165, ph1_166, lh1_167, ks1_168, v_169⟩
                            · exfalso
                              dsimp only at hw_163
                              obtain ⟨E, hw_163, -⟩ := hw_163
                              obtain ⟨_, h9 | h9⟩ := hw_163; omega; exact nI_pos (show i2 < 2 ^ 31 by omega) h9
                            dsimp only at hw_163
                            obtain ⟨hw_163, hv_170⟩ := hw_163
                            subst hv_170
                            have hco := q_ask hwb hSZ hL8 hSR hF32 (show i2 < 2147483648 by omega) hw_163
                            rw [if_neg (by omega)] at hco
                            refine V_toi (-1) (hco) ?_
                            refine V_iload cx 173 rfl dL_isWord_171 0 rfl ?_
                            refine V_aload cx 175 rfl dL_isWord_173 12 rfl ?_
                            refine V_iconst (v := nI 3) cx 176 rfl dL_isWord_175 (by decide) ?_
                            refine V_ialdN cx 3 (rfl) (by omega) (by decide) 30 rfl 177 rfl dL_isWord_176 ?_
                            refine V_toi (nI F9) (hG3) ?_
                            refine V_icmp_ge cx 180 193 rfl dL_isWord_177 (by decide) (fun c_177 => ?_) (fun c_177 => ?_)
                            · skip
                              have n_177 : i2 ≥ F9 := N_ge_t (by omega) (by omega) c_177
                              refine V_iconst (v := (-1)) cx 194 rfl dL_isWord_193 (by decide) ?_
                              refine V_icmp_ne cx 197 228 rfl dL_isWord_194 (by decide) (fun c_194 => ?_) (fun c_194 => ?_)
                              · skip
                                exact absurd rfl c_194
                              · skip
                                refine V_aload_n cx 198 rfl dL_isWord_197 2 rfl ?_
                                refine V_iload_n cx 199 rfl dL_isWord_198 3 rfl ?_
                                refine V_iload cx 201 rfl dL_isWord_199 0 rfl ?_
                                refine KXL_146 (As := [.int (nI w), .int (nI i2)]) (rest := []) cx (kX4_size (xl X) lo G _ h np nl (SZ (nI w) 8) fd1_164 lu tu T C F LT VV BB lt1_165 ph1_166 lh1_167 ks1_168 wd gr gs bl ie tw (nI w) (nI i2) x hst hok hck) hX (by omega) 0 rfl rfl rfl (Nat.le_of_ble_eq_true rfl) 204 ((4 + 14 * wh) + 4) ((24 + 84 * wh) + 24) rfl rfl rfl (by omega) (by omega) dL_isWord_201 (fun E ce q9 H1 locs1 ls he _ _ _ _ _ _ _ => by exfalso; obtain ⟨_, h9 | h9⟩ := he; omega; exact nI_pos (show i2 < 2 ^ 31 by omega) h9) (fun r_171 u_172 hw_173 => ?_)
                                obtain ⟨fd1_174, lt1_175, ph1_176, lh1_177, ks1_178⟩ := u_172
                                try dsimp only at hw_173
                                have hsz := q_ask hwb hSZ hL8 hSR hF32 (show i2 < 2147483648 by omega) hw_173
                                rw [if_neg (by omega)] at hsz
                                refine V_toi (-1) (hsz) ?_
                                refine V_iload cx 206 rfl dL_isWord_204 0 rfl ?_
                                refine V_aload cx 208 rfl dL_isWord_206 12 rfl ?_
                                refine V_iconst (v := nI 3) cx 209 rfl dL_isWord_208 (by decide) ?_
                                refine V_ialdN cx 3 (rfl) (by omega) (by decide) 30 rfl 210 rfl dL_isWord_209 ?_
                                refine V_toi (nI F9) (hG3) ?_
                                refine V_icmp_ge cx 213 224 rfl dL_isWord_210 (by decide) (fun c_210 => ?_) (fun c_210 => ?_)
                                · skip
                                  have n_210 : i2 ≥ F9 := N_ge_t (by omega) (by omega) c_210
                                  refine V_iconst (v := (-1)) cx 225 rfl dL_isWord_224 (by decide) ?_
                                  refine V_icmp_eq cx 228 230 rfl dL_isWord_225 (by decide) (fun c_225 => ?_) (fun c_225 => ?_)
                                  · skip
                                    refine V_iconst (v := nI 0) cx 231 rfl dL_isWord_230 (by decide) ?_
                                    refine V_istore (lc1 := [(14, .int (nI 0)), (13, .int (nI i2)), (12, .int (nI wh)), (0, .ref (h 0)), (1, .int (nI w)), (2, .int (nI k)), (3, .ref (h 21)), (4, .ref (h 22)), (5, .ref (h 23)), (6, .ref (h 24)), (7, .ref (h 25)), (8, .ref (h 26)), (9, .ref (h 27)), (10, .ref (h 30))]) cx 233 rfl dL_isWord_231 (by decide) rfl ?_
                                    have loop_233 : ∀ (fuel : Nat) (pl : Nat) (len3 : Nat) (fd3 : Nat) (lt3 : Nat → Int32) (ph3 : Nat → Int32) (lh3 : Nat → Int32) (ks3 : Nat → Int64), (pl ≤ 5) → 5 - pl < fuel → V X lo 16 G (Qi X lo G (fun (r : Int32) ((len1, fd1, lt1, ph1, lh1, ks1, qa1, qd1, qg1) : (Nat) × (Nat) × (Nat → Int32) × (Nat → Int32) × (Nat → Int32) × (Nat → Int64) × (Nat → Int64) × (Nat → Int64) × (Nat → Int32)) => r = nI 1 ∧ (qg1 0 = qg 0 ∧ qg1 1 = qg 1 ∧ qg1 2 = qg 2)) (fun ((len1, fd1, lt1, ph1, lh1, ks1, qa1, qd1, qg1) : (Nat) × (Nat) × (Nat → Int32) × (Nat → Int32) × (Nat → Int32) × (Nat → Int64) × (Nat → Int64) × (Nat → Int64) × (Nat → Int32)) => cW G h np nl len1 fd1 lu tu T C F LT VV BB lt1 ph1 lh1 ks1 wd gr gs bl ie tw ++ (lW G h qt qc qf qb ql qa1 qd1 qw qh qg1 ++ rs)) 32 192) (4 + 14 * wh + 4 + 2 * pl) (24 + 84 * wh + 24 + 12 * pl) (cW G h np nl len3 fd3 lu tu T C F LT VV BB lt3 ph3 lh3 ks3 wd gr gs bl ie tw ++ (lW G h qt qc qf qb ql qa1_4 qd1_5 qw qh qg1_6 ++ rs)) [(14, .int (nI pl)), (13, .int (nI i2)), (12, .int (nI wh)), (0, .ref (h 0)), (1, .int (nI w)), (2, .int (nI k)), (3, .ref (h 21)), (4, .ref (h 22)), (5, .ref (h 23)), (6, .ref (h 24)), (7, .ref (h 25)), (8, .ref (h 26)), (9, .ref (h 27)), (10, .ref (h 30))] [] 233 := by
                                      intro fuel
                                      induction fuel with
                                      | zero => intro pl len3 fd3 lt3 ph3 lh3 ks3 hpl hmz; exact absurd hmz (Nat.not_lt_zero _)
                                      | succ fuel ih_233 =>
                                        intro pl len3 fd3 lt3 ph3 lh3 ks3 hpl hmz_233
                                        refine V_iload cx 235 rfl dL_isWord_233 0 rfl ?_
                                        refine V_iconst (v := nI 5) cx 236 rfl dL_isWord_235 (by decide) ?_
                                        refine V_icmp_ge cx 239 308 rfl dL_isWord_236 (by decide) (fun c_236 => ?_) (fun c_236 => ?_)
                                        · skip
                                          have n_236 : pl ≥ 5 := N_ge_t (by omega) (by omega) c_236
                                          refine V_iinc (v := nI (wh + 1)) (lc1 := [(12, .int (nI (wh + 1))), (14, .int (nI pl)), (13, .int (nI i2)), (0, .ref (h 0)), (1, .int (nI w)), (2, .int (nI k)), (3, .ref (h 21)), (4, .ref (h 22)), (5, .ref (h 23)), (6, .ref (h 24)), (7, .ref (h 25)), (8, .ref (h 26)), (9, .ref (h 27)), (10, .ref (h 30))]) cx 311 rfl dL_isWord_308 2 rfl (nI_inc wh 1) (by decide) rfl ?_
                                          refine V_goto cx 146 dL_isWord_311 (by decide) ?_
                                          refine V.locs [0, 3, 4, 5, 6, 7, 8, 9, 10, 11, 12, 13] rfl ?_
                                          refine V.widen (k' := 4 + 14 * (wh + 1)) (n' := 24 + 84 * (wh + 1)) (by omega) (by omega) ?_
                                          exact ih_146 (wh + 1) len3 fd3 lt3 ph3 lh3 ks3 (by omega) (by omega)
                                        · skip
                                          have n_236 : pl < 5 := N_ge_f (by omega) (by omega) c_236
                                          refine V_iload cx 241 rfl dL_isWord_239 1 rfl ?_
                                          refine V_aload cx 243 rfl dL_isWord_241 13 rfl ?_
                                          refine V_iconst (v := nI 3) cx 244 rfl dL_isWord_243 (by decide) ?_
                                          refine V_ialdN cx 3 (rfl) (by omega) (by decide) 30 rfl 245 rfl dL_isWord_244 ?_
                                          refine V_toi (nI F9) (hG3) ?_
                                          refine V_icmp_ge cx 248 261 rfl dL_isWord_245 (by decide) (fun c_245 => ?_) (fun c_245 => ?_)
                                          · skip
                                            have n_245 : i2 ≥ F9 := N_ge_t (by omega) (by omega) c_245
                                            refine V_iconst (v := (-1)) cx 262 rfl dL_isWord_261 (by decide) ?_
                                            refine V_istore (lc1 := [(15, .int (-1)), (14, .int (nI pl)), (13, .int (nI i2)), (12, .int (nI wh)), (0, .ref (h 0)), (1, .int (nI w)), (2, .int (nI k)), (3, .ref (h 21)), (4, .ref (h 22)), (5, .ref (h 23)), (6, .ref (h 24)), (7, .ref (h 25)), (8, .ref (h 26)), (9, .ref (h 27)), (10, .ref (h 30))]) cx 264 rfl dL_isWord_262 (by decide) rfl ?_
                                            refine V_aload_n cx 265 rfl dL_isWord_264 4 rfl ?_
                                            refine V_iload_n cx 266 rfl dL_isWord_265 5 rfl ?_
                                            refine V_iload cx 268 rfl dL_isWord_266 2 rfl ?_
                                            refine V_iload cx 270 rfl dL_isWord_268 1 rfl ?_
                                            refine KL_148 (As := [.ref (h 0), .int (nI w), .int (nI i2), .int (nI pl)]) (rest := []) cx (kL_partAt (xl X) lo G _ h np nl len3 fd3 lu tu T C F LT VV BB lt3 ph3 lh3 ks3 wd gr gs bl ie tw (nI w) (nI i2) (nI pl) x hst hok hck) hX (by omega) rfl rfl (Nat.le_of_ble_eq_true rfl) 273 ((4 + 14 * wh + 4 + 2 * pl) + 2) ((24 + 84 * wh + 24 + 12 * pl) + 12) rfl rfl rfl (by omega) (by omega) dL_isWord_270 (fun r_179 u_180 hw_181 => ?_)
                                            rcases u_180 with _ | ⟨fd1_182, lt1_183, ph1_184, lh1_185, ks1_186, v_187⟩
                                            · exfalso
                                              dsimp only at hw_181
                                              obtain ⟨E, hw_181, -⟩ := hw_181
                                              obtain ⟨_, h9 | h9 | h9⟩ := hw_181; exact nI_pos (show pl < 2 ^ 31 by omega) h9; omega; exact nI_pos (show i2 < 2 ^ 31 by omega) h9
                                            dsimp only at hw_181
                                            obtain ⟨hw_181, hv_188⟩ := hw_181
                                            subst hv_188
                                            have hpt := q_ask hwb hSZ hL8 hSR hF32 (show i2 < 2147483648 by omega) hw_181.2
                                            rw [if_neg (by omega)] at hpt
                                            refine V_toi (-1) (hpt) ?_
                                            refine V_iload cx 275 rfl dL_isWord_273 0 rfl ?_
                                            refine V_if_ge cx 278 282 rfl dL_isWord_275 (by decide) (fun c_275 => ?_) (fun c_275 => ?_)
                                            · skip
                                              exact absurd c_275 (by decide)
                                            · skip
                                              refine V_iconst (v := (-1)) cx 279 rfl dL_isWord_278 (by decide) ?_
                                              refine V_goto cx 297 dL_isWord_279 (by decide) ?_
                                              refine V_icmp_eq cx 300 302 rfl dL_isWord_297 (by decide) (fun c_297 => ?_) (fun c_297 => ?_)
                                              · skip
                                                refine V_iinc (v := nI (pl + 1)) (lc1 := [(14, .int (nI (pl + 1))), (15, .int (-1)), (13, .int (nI i2)), (12, .int (nI wh)), (0, .ref (h 0)), (1, .int (nI w)), (2, .int (nI k)), (3, .ref (h 21)), (4, .ref (h 22)), (5, .ref (h 23)), (6, .ref (h 24)), (7, .ref (h 25)), (8, .ref (h 26)), (9, .ref (h 27)), (10, .ref (h 30))]) cx 305 rfl dL_isWord_302 1 rfl (nI_inc pl 1) (by decide) rfl ?_
                                                refine V_goto cx 233 dL_isWord_305 (by decide) ?_
                                                refine V.locs [0, 2, 3, 4, 5, 6, 7, 8, 9, 10, 11, 12, 13, 14] rfl ?_
                                                refine V.widen (k' := 4 + 14 * wh + 4 + 2 * (pl + 1)) (n' := 24 + 84 * wh + 24 + 12 * (pl + 1)) (by omega) (by omega) ?_
                                                exact ih_233 (pl + 1) (SZ (nI w) 8) fd1_182 lt1_183 ph1_184 lh1_185 ks1_186 (by omega) (by omega)
                                              · skip
                                                exact absurd rfl c_297
                                          · skip
                                            have n_245 : i2 < F9 := N_ge_f (by omega) (by omega) c_245
                                            omega
                                    refine V.locs [0, 1, 2, 3, 4, 5, 6, 7, 8, 9, 10, 11, 12, 13] rfl ?_
                                    refine V.widen (k' := 4 + 14 * wh + 4 + 2 * 0) (n' := 24 + 84 * wh + 24 + 12 * 0) (by omega) (by omega) ?_
                                    exact loop_233 _ 0 (SZ (nI w) 8) fd1_174 lt1_175 ph1_176 lh1_177 ks1_178 (by omega) (Nat.lt_succ_self _)
                                  · skip
                                    exact absurd rfl c_225
                                · skip
                                  have n_210 : i2 < F9 := N_ge_f (by omega) (by omega) c_210
                                  omega
                            · skip
                              have n_177 : i2 < F9 := N_ge_f (by omega) (by omega) c_177
                              omega
                        refine V_iload cx 154 rfl dL_isWord_152 0 rfl ?_
                        refine V_if_ne cx 157 161 rfl dL_isWord_154 (by decide) (fun c_154 => ?_) (fun c_154 => ?_)
                        · skip
                          have n_154 : wh ≠ 0 := Z_ne_t (by omega) c_154
                          refine V_iconst (v := nI 0) cx 162 rfl dL_isWord_161 (by decide) ?_
                          refine V.locs [0, 1, 2, 3, 4, 5, 6, 7, 8, 9, 10, 11] rfl ?_
                          exact join_162 0 (by omega)
                        · skip
                          have n_154 : wh = 0 := Z_ne_f (by omega) c_154
                          refine V_iload_n cx 158 rfl dL_isWord_157 3 rfl ?_
                          refine V_goto cx 162 dL_isWord_158 (by decide) ?_
                          refine V.locs [0, 1, 2, 3, 4, 5, 6, 7, 8, 9, 10, 11] rfl ?_
                          exact join_162 k (by omega)
                  refine V.locs [0, 2, 3, 4, 5, 6, 7, 8, 9, 10, 11, 12] rfl ?_
                  refine V.widen (k' := 4 + 14 * 0) (n' := 24 + 84 * 0) (by omega) (by omega) ?_
                  exact loop_146 _ 0 (SZ (nI w) 8) fd1_28 lt1_29 ph1_30 lh1_31 ks1_32 (by omega) (Nat.lt_succ_self _)
                · skip
                  exact absurd rfl c_138
              · skip
                have n_118 : F9 = 0 := Z_ne_f (by omega) c_118
                omega
      · skip
        have n_31 : i < F9 := N_ge_f (by omega) (by omega) c_31
        obtain ⟨b1, b2, b3, b4⟩ := SR_bd hok hd hSR (show i < F9 by omega)
        refine V_aload cx 36 rfl dL_isWord_34 10 rfl ?_
        refine V_iload cx 38 rfl dL_isWord_36 0 rfl ?_
        refine V_laldN cx i (rfl) (by omega) (by decide) 26 rfl 39 rfl dL_isWord_38 ?_
        refine V_tol (lN (aK (fs i))) (hA i (by omega)) ?_
        refine KL_67 (As := [.long (lN (aK (fs i)))]) (rest := []) cx (kL_parts (xl X) lo G _ (aK (fs i)) (fs i) rfl b2 (by omega)) hX (by omega) rfl rfl (Nat.le_of_ble_eq_true rfl) 42 0 0 rfl rfl rfl (by omega) (by omega) dL_isWord_39 (fun r_189 u_190 hw_191 => ?_)
        try dsimp only at hw_191
        subst hw_191
        refine V_istore (lc1 := [(13, .int (nI (List.length (fs i)))), (12, .int (nI i)), (11, .int (nI rd)), (0, .ref (h 0)), (1, .int (nI w)), (2, .int (nI k)), (3, .ref (h 21)), (4, .ref (h 22)), (5, .ref (h 23)), (6, .ref (h 24)), (7, .ref (h 25)), (8, .ref (h 26)), (9, .ref (h 27)), (10, .ref (h 30))]) cx 44 rfl dL_isWord_42 (by decide) rfl ?_
        have join_78 : ∀ (tv : Nat), (tv = trN ((fs i).length - 1)) → V X lo 16 G (Qi X lo G (fun (r : Int32) ((len1, fd1, lt1, ph1, lh1, ks1, qa1, qd1, qg1) : (Nat) × (Nat) × (Nat → Int32) × (Nat → Int32) × (Nat → Int32) × (Nat → Int64) × (Nat → Int64) × (Nat → Int64) × (Nat → Int32)) => r = nI 1 ∧ (qg1 0 = qg 0 ∧ qg1 1 = qg 1 ∧ qg1 2 = qg 2)) (fun ((len1, fd1, lt1, ph1, lh1, ks1, qa1, qd1, qg1) : (Nat) × (Nat) × (Nat → Int32) × (Nat → Int32) × (Nat → Int32) × (Nat → Int64) × (Nat → Int64) × (Nat → Int64) × (Nat → Int32)) => cW G h np nl len1 fd1 lu tu T C F LT VV BB lt1 ph1 lh1 ks1 wd gr gs bl ie tw ++ (lW G h qt qc qf qb ql qa1 qd1 qw qh qg1 ++ rs)) 32 192) 0 0 (cW G h np nl len fd lu tu T C F LT VV BB lt ph lh ks wd gr gs bl ie tw ++ (lW G h qt qc qf qb ql qa1_4 qd1_5 qw qh qg1_6 ++ rs)) [(13, .int (nI (List.length (fs i)))), (12, .int (nI i)), (11, .int (nI rd)), (0, .ref (h 0)), (1, .int (nI w)), (2, .int (nI k)), (3, .ref (h 21)), (4, .ref (h 22)), (5, .ref (h 23)), (6, .ref (h 24)), (7, .ref (h 25)), (8, .ref (h 26)), (9, .ref (h 27)), (10, .ref (h 30))] [.int (nI tv), .int (nI rd)] 78 := by
          intro tv htv
          refine V_iadd cx 79 rfl dL_isWord_78 ?_
          refine V_toi (nI (rd + tv)) (nI_add _ _) ?_
          refine V_istore (lc1 := [(11, .int (nI (rd + tv))), (13, .int (nI (List.length (fs i)))), (12, .int (nI i)), (0, .ref (h 0)), (1, .int (nI w)), (2, .int (nI k)), (3, .ref (h 21)), (4, .ref (h 22)), (5, .ref (h 23)), (6, .ref (h 24)), (7, .ref (h 25)), (8, .ref (h 26)), (9, .ref (h 27)), (10, .ref (h 30))]) cx 81 rfl dL_isWord_79 (by decide) rfl ?_
          refine V_iinc (v := nI (i + 1)) (lc1 := [(12, .int (nI (i + 1))), (11, .int (nI (rd + tv))), (13, .int (nI (List.length (fs i)))), (0, .ref (h 0)), (1, .int (nI w)), (2, .int (nI k)), (3, .ref (h 21)), (4, .ref (h 22)), (5, .ref (h 23)), (6, .ref (h 24)), (7, .ref (h 25)), (8, .ref (h 26)), (9, .ref (h 27)), (10, .ref (h 30))]) cx 84 rfl dL_isWord_81 2 rfl (nI_inc i 1) (by decide) rfl ?_
          refine V_goto cx 25 dL_isWord_84 (by decide) ?_
          refine V.locs [0, 1, 3, 4, 5, 6, 7, 8, 9, 10, 11, 12, 13] rfl ?_
          exact ih_25 (i + 1) (rd + tv) (by omega) (by rw [hrd, htv]; rfl) (by omega)
        refine V_iload cx 46 rfl dL_isWord_44 2 rfl ?_
        refine V_iload cx 48 rfl dL_isWord_46 0 rfl ?_
        refine V_iconst (v := nI 3) cx 49 rfl dL_isWord_48 (by decide) ?_
        refine V_icmp_ge cx 52 56 rfl dL_isWord_49 (by decide) (fun c_49 => ?_) (fun c_49 => ?_)
        · skip
          have n_49 : List.length (fs i) ≥ 3 := N_ge_t (by omega) (by omega) c_49
          refine V_iload cx 58 rfl dL_isWord_56 0 rfl ?_
          refine V_iconst (v := nI 3) cx 59 rfl dL_isWord_58 (by decide) ?_
          refine V_icmp_ne cx 62 66 rfl dL_isWord_59 (by decide) (fun c_59 => ?_) (fun c_59 => ?_)
          · skip
            have n_59 : List.length (fs i) ≠ 3 := N_ne_t (by omega) (by omega) c_59
            refine V_iload cx 68 rfl dL_isWord_66 0 rfl ?_
            refine V_iconst (v := nI 4) cx 69 rfl dL_isWord_68 (by decide) ?_
            refine V_icmp_ne cx 72 76 rfl dL_isWord_69 (by decide) (fun c_69 => ?_) (fun c_69 => ?_)
            · skip
              have n_69 : List.length (fs i) ≠ 4 := N_ne_t (by omega) (by omega) c_69
              refine V_bipush (v := nI 14) cx 78 rfl dL_isWord_76 (by decide) ?_
              refine V.locs [0, 1, 2, 3, 4, 5, 6, 7, 8, 9, 10, 11, 12, 13] rfl ?_
              exact join_78 14 (by exact trV (by omega) (by omega))
            · skip
              have n_69 : List.length (fs i) = 4 := N_ne_f (by omega) (by omega) c_69
              refine V_iconst (v := nI 5) cx 73 rfl dL_isWord_72 (by decide) ?_
              refine V_goto cx 78 dL_isWord_73 (by decide) ?_
              refine V.locs [0, 1, 2, 3, 4, 5, 6, 7, 8, 9, 10, 11, 12, 13] rfl ?_
              exact join_78 5 (by exact trV (by omega) (by omega))
          · skip
            have n_59 : List.length (fs i) = 3 := N_ne_f (by omega) (by omega) c_59
            refine V_iconst (v := nI 2) cx 63 rfl dL_isWord_62 (by decide) ?_
            refine V_goto cx 78 dL_isWord_63 (by decide) ?_
            refine V.locs [0, 1, 2, 3, 4, 5, 6, 7, 8, 9, 10, 11, 12, 13] rfl ?_
            exact join_78 2 (by exact trV (by omega) (by omega))
        · skip
          have n_49 : List.length (fs i) < 3 := N_ge_f (by omega) (by omega) c_49
          refine V_iconst (v := nI 1) cx 53 rfl dL_isWord_52 (by decide) ?_
          refine V_goto cx 78 dL_isWord_53 (by decide) ?_
          refine V.locs [0, 1, 2, 3, 4, 5, 6, 7, 8, 9, 10, 11, 12, 13] rfl ?_
          exact join_78 1 (by exact trV (by omega) (by omega))
  refine V.locs [0, 1, 2, 3, 4, 5, 6, 7, 8, 9, 10, 11, 12] rfl ?_
  exact loop_25 _ 0 0 (by omega) (by rfl) (Nat.lt_succ_self _)
