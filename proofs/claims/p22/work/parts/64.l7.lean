set_option maxHeartbeats 4000000 in
set_option maxRecDepth 100000 in
theorem kL_builds (l : Launch) (lo : Nat) (G : vG) (rs : va_W) (h : Nat → Nat) (np : Nat) (nl : Nat) (len : Nat) (fd : Nat) (lu : Nat) (tu : Nat) (T : Nat → Int32) (C : Nat → Int32) (F : Nat → Int32) (LT : Nat → Int32) (VV : Nat → Int32) (BB : Nat → Int32) (lt : Nat → Int32) (ph : Nat → Int32) (lh : Nat → Int32) (ks : Nat → Int64) (wd : Nat → Int32) (gr : Nat → Int32) (gs : Nat → Int32) (bl : Nat → Int32) (ie : Nat → Int32) (tw : Nat → Int32) (qt : Nat → Int32) (qc : Nat → Int32) (qf : Nat → Int32) (qb : Nat → Int32) (ql : Nat → Int32) (qa : Nat → Int64) (qd : Nat → Int64) (qw : Nat → Int64) (qh : Nat → Int32) (qg : Nat → Int32) (act : Nat) (y : Int32) (z : Int32) (x : LX) (hst : l.stackTraces = false) (hLI : LI x np nl lu tu T C F LT VV BB wd gr gs bl ie qt qc qf qb ql qw qh qg) (hact : act < 2147483648) : Mi l yL_builds (.code yL_builds method_27_code 16 (some .boolean)) 26 24 144 lo G [.ref (h 0), .int (nI act), .int y, .int z, .ref (h 21), .ref (h 22), .ref (h 23), .ref (h 24), .ref (h 25), .ref (h 30)] (cW G h np nl len fd lu tu T C F LT VV BB lt ph lh ks wd gr gs bl ie tw ++ (lW G h qt qc qf qb ql qa qd qw qh qg ++ rs)) (fun (r : Int32) ((np1, nl1, tu1, T1, C1, F1, LT1, VV1, BB1, bl1, ie1, qt1, qc1, qf1, qb1, ql1, qg1) : (Nat) × (Nat) × (Nat) × (Nat → Int32) × (Nat → Int32) × (Nat → Int32) × (Nat → Int32) × (Nat → Int32) × (Nat → Int32) × (Nat → Int32) × (Nat → Int32) × (Nat → Int32) × (Nat → Int32) × (Nat → Int32) × (Nat → Int32) × (Nat → Int32) × (Nat → Int32)) => r = nI 1 ∧ (∃ y_, LI y_ np1 nl1 lu tu1 T1 C1 F1 LT1 VV1 BB1 wd gr gs bl1 ie1 qt1 qc1 qf1 qb1 ql1 qw qh qg1)) (fun ((np1, nl1, tu1, T1, C1, F1, LT1, VV1, BB1, bl1, ie1, qt1, qc1, qf1, qb1, ql1, qg1) : (Nat) × (Nat) × (Nat) × (Nat → Int32) × (Nat → Int32) × (Nat → Int32) × (Nat → Int32) × (Nat → Int32) × (Nat → Int32) × (Nat → Int32) × (Nat → Int32) × (Nat → Int32) × (Nat → Int32) × (Nat → Int32) × (Nat → Int32) × (Nat → Int32) × (Nat → Int32)) => cW G h np1 nl1 len fd lu tu1 T1 C1 F1 LT1 VV1 BB1 lt ph lh ks wd gr gs bl1 ie1 tw ++ (lW G h qt1 qc1 qf1 qb1 ql1 qa qd qw qh qg1 ++ rs)) := by
  refine Mi_of (lc := [(0, .ref (h 0)), (1, .int (nI act)), (2, .int y), (3, .int z), (4, .ref (h 21)), (5, .ref (h 22)), (6, .ref (h 23)), (7, .ref (h 24)), (8, .ref (h 25)), (9, .ref (h 30))]) (by decide +kernel) (Nat.le_of_ble_eq_true rfl) rfl ?_
  intro X cx hXR hXl hr hin
  subst hXl
  have hX := RmX.of hXR
  obtain ⟨hok, hck, hq, ⟨hg0x, hg1x, hg2⟩, ⟨hnp, hnl, hlu⟩, hVz, hBz, hTr, hVV, hBB⟩ := hLI.facts
  have hn16 := hok.1
  have hn6 := hok.2.1
  have hg0 : qg 0 = nI np := by rw [hnp]; exact hg0x
  have hg1 : qg 1 = nI nl := by rw [hnl]; exact hg1x
  refine V_iload_n cx 1 rfl dL_builds_0 2 rfl ?_
  refine V_aload cx 3 rfl dL_builds_1 9 rfl ?_
  refine V_iconst (v := nI 0) cx 4 rfl dL_builds_3 (by decide) ?_
  refine V_ialdN cx 0 (rfl) (by omega) (by decide) 30 rfl 5 rfl dL_builds_4 ?_
  refine V_toi (nI np) (hg0) ?_
  refine V_iconst (v := nI 1) cx 6 rfl dL_builds_5 (by decide) ?_
  refine V_iadd cx 7 rfl dL_builds_6 ?_
  refine V_toi (nI (np + 1)) (nI_add _ _) ?_
  refine KL_101 (As := [.int y, .int (nI (np + 1))]) (rest := []) cx (kL_low (xl X) lo G _ y (np + 1) (by omega)) hX (by omega) rfl rfl (Nat.le_of_ble_eq_true rfl) 10 0 0 rfl rfl rfl (by omega) (by omega) dL_builds_7 (fun r_1 u_2 hw_3 => ?_)
  try dsimp only at hw_3
  subst hw_3
  obtain ⟨pt, hpe⟩ : ∃ pt, pt = lowN y (np + 1) := ⟨_, rfl⟩
  have hpb : pt ≤ np := by rw [hpe]; have := lowN_lt y (show 0 < np + 1 by omega); omega
  refine V_toi (nI pt) (congrArg nI hpe.symm) ?_
  refine V_istore (lc1 := [(10, .int (nI pt)), (0, .ref (h 0)), (1, .int (nI act)), (2, .int y), (3, .int z), (4, .ref (h 21)), (5, .ref (h 22)), (6, .ref (h 23)), (7, .ref (h 24)), (8, .ref (h 25)), (9, .ref (h 30))]) cx 12 rfl dL_builds_10 (by decide) rfl ?_
  refine V_iload_n cx 13 rfl dL_builds_12 2 rfl ?_
  refine V_bipush (v := nI 7) cx 15 rfl dL_builds_13 (by decide) ?_
  refine V_icmp_ge cx 18 384 rfl dL_builds_15 (by decide) (fun c_15 => ?_) (fun c_15 => ?_)
  · skip
    have n_15 : act ≥ 7 := N_ge_t (by omega) (by omega) c_15
    refine V_iload_n cx 385 rfl dL_builds_384 2 rfl ?_
    refine V_bipush (v := nI 9) cx 387 rfl dL_builds_385 (by decide) ?_
    refine V_icmp_ge cx 390 556 rfl dL_builds_387 (by decide) (fun c_387 => ?_) (fun c_387 => ?_)
    · skip
      have n_387 : act ≥ 9 := N_ge_t (by omega) (by omega) c_387
      refine V_iload cx 558 rfl dL_builds_556 0 rfl ?_
      refine V_aload cx 560 rfl dL_builds_558 10 rfl ?_
      refine V_iconst (v := nI 0) cx 561 rfl dL_builds_560 (by decide) ?_
      refine V_ialdN cx 0 (rfl) (by omega) (by decide) 30 rfl 562 rfl dL_builds_561 ?_
      refine V_toi (nI np) (hg0) ?_
      refine V_icmp_ne cx 565 638 rfl dL_builds_562 (by decide) (fun c_562 => ?_) (fun c_562 => ?_)
      · skip
        have n_562 : pt ≠ np := N_ne_t (by omega) (by omega) c_562
        have hptl : pt < np := by omega
        refine V_iload_n cx 639 rfl dL_builds_638 2 rfl ?_
        refine V_bipush (v := nI 9) cx 641 rfl dL_builds_639 (by decide) ?_
        refine V_icmp_ne cx 644 731 rfl dL_builds_641 (by decide) (fun c_641 => ?_) (fun c_641 => ?_)
        · skip
          have n_641 : act ≠ 9 := N_ne_t (by omega) (by omega) c_641
          have join_743 : ∀ (isb : Bool), V X lo 16 G (Qi X lo G (fun (r : Int32) ((np1, nl1, tu1, T1, C1, F1, LT1, VV1, BB1, bl1, ie1, qt1, qc1, qf1, qb1, ql1, qg1) : (Nat) × (Nat) × (Nat) × (Nat → Int32) × (Nat → Int32) × (Nat → Int32) × (Nat → Int32) × (Nat → Int32) × (Nat → Int32) × (Nat → Int32) × (Nat → Int32) × (Nat → Int32) × (Nat → Int32) × (Nat → Int32) × (Nat → Int32) × (Nat → Int32) × (Nat → Int32)) => r = nI 1 ∧ (∃ y_, LI y_ np1 nl1 lu tu1 T1 C1 F1 LT1 VV1 BB1 wd gr gs bl1 ie1 qt1 qc1 qf1 qb1 ql1 qw qh qg1)) (fun ((np1, nl1, tu1, T1, C1, F1, LT1, VV1, BB1, bl1, ie1, qt1, qc1, qf1, qb1, ql1, qg1) : (Nat) × (Nat) × (Nat) × (Nat → Int32) × (Nat → Int32) × (Nat → Int32) × (Nat → Int32) × (Nat → Int32) × (Nat → Int32) × (Nat → Int32) × (Nat → Int32) × (Nat → Int32) × (Nat → Int32) × (Nat → Int32) × (Nat → Int32) × (Nat → Int32) × (Nat → Int32)) => cW G h np1 nl1 len fd lu tu1 T1 C1 F1 LT1 VV1 BB1 lt ph lh ks wd gr gs bl1 ie1 tw ++ (lW G h qt1 qc1 qf1 qb1 ql1 qa qd qw qh qg1 ++ rs)) 24 144) 0 0 (cW G h np nl len fd lu tu T C F LT VV BB lt ph lh ks wd gr gs bl ie tw ++ (lW G h qt qc qf qb ql qa qd qw qh qg ++ rs)) [(10, .int (nI pt)), (0, .ref (h 0)), (1, .int (nI act)), (2, .int y), (3, .int z), (4, .ref (h 21)), (5, .ref (h 22)), (6, .ref (h 23)), (7, .ref (h 24)), (8, .ref (h 25)), (9, .ref (h 30))] [.int (bI isb)] 743 := by
            intro isb
            refine V_istore (lc1 := [(11, .int (bI isb)), (10, .int (nI pt)), (0, .ref (h 0)), (1, .int (nI act)), (2, .int y), (3, .int z), (4, .ref (h 21)), (5, .ref (h 22)), (6, .ref (h 23)), (7, .ref (h 24)), (8, .ref (h 25)), (9, .ref (h 30))]) cx 745 rfl dL_builds_743 (by decide) rfl ?_
            refine V_iload_n cx 746 rfl dL_builds_745 3 rfl ?_
            refine V_bipush (v := nI 10) cx 748 rfl dL_builds_746 (by decide) ?_
            refine V_icmp_ne cx 751 835 rfl dL_builds_748 (by decide) (fun c_748 => ?_) (fun c_748 => ?_)
            · skip
              have n_748 : act ≠ 10 := N_ne_t (by omega) (by omega) c_748
              refine V_aload cx 837 rfl dL_builds_835 11 rfl ?_
              refine V_iconst (v := nI 1) cx 838 rfl dL_builds_837 (by decide) ?_
              refine V_ialdN cx 1 (rfl) (by omega) (by decide) 30 rfl 839 rfl dL_builds_838 ?_
              refine V_toi (nI nl) (hg1) ?_
              refine V_if_ne cx 842 862 rfl dL_builds_839 (by decide) (fun c_839 => ?_) (fun c_839 => ?_)
              · skip
                have n_839 : nl ≠ 0 := Z_ne_t (by omega) c_839
                refine V_iload_n cx 863 rfl dL_builds_862 5 rfl ?_
                refine V_iconst (v := nI 3) cx 864 rfl dL_builds_863 (by decide) ?_
                refine V_ishr cx 865 rfl dL_builds_864 ?_
                refine V_aload cx 867 rfl dL_builds_865 11 rfl ?_
                refine V_iconst (v := nI 1) cx 868 rfl dL_builds_867 (by decide) ?_
                refine V_ialdN cx 1 (rfl) (by omega) (by decide) 30 rfl 869 rfl dL_builds_868 ?_
                refine V_toi (nI nl) (hg1) ?_
                refine KL_101 (As := [.int (z >>> ((nI 3) &&& 31)), .int (nI nl)]) (rest := []) cx (kL_low (xl X) lo G _ (z >>> ((nI 3) &&& 31)) nl (by omega)) hX (by omega) rfl rfl (Nat.le_of_ble_eq_true rfl) 872 0 0 rfl rfl rfl (by omega) (by omega) dL_builds_869 (fun r_4 u_5 hw_6 => ?_)
                try dsimp only at hw_6
                subst hw_6
                obtain ⟨lk, hlk⟩ : ∃ lk, lk = lowN (z >>> (nI 3 &&& 31)) nl := ⟨_, rfl⟩
                have hlkb : lk < nl := by rw [hlk]; exact lowN_lt _ (by omega)
                refine V_toi (nI lk) (congrArg nI hlk.symm) ?_
                obtain ⟨v, hv1, hv2, hv4⟩ := hq.2.2.2.1 pt (by omega)
                refine V_istore (lc1 := [(12, .int (nI lk)), (11, .int (bI isb)), (10, .int (nI pt)), (0, .ref (h 0)), (1, .int (nI act)), (2, .int y), (3, .int z), (4, .ref (h 21)), (5, .ref (h 22)), (6, .ref (h 23)), (7, .ref (h 24)), (8, .ref (h 25)), (9, .ref (h 30))]) cx 874 rfl dL_builds_872 (by decide) rfl ?_
                refine V_aload cx 876 rfl dL_builds_874 10 rfl ?_
                refine V_iload cx 878 rfl dL_builds_876 2 rfl ?_
                refine V_ialdN cx pt (rfl) (by omega) (by decide) 24 rfl 879 rfl dL_builds_878 ?_
                refine V_toi (nI v) (hv1) ?_
                refine V_iload cx 881 rfl dL_builds_879 0 rfl ?_
                refine V_ishr cx 882 rfl dL_builds_881 ?_
                refine V_toi (nI (v / 2 ^ lk)) (i_shr (by omega) (by omega)) ?_
                refine V_iconst (v := nI 1) cx 883 rfl dL_builds_882 (by decide) ?_
                refine V_iand cx 884 rfl dL_builds_883 ?_
                refine V_toi (nI ((v / 2 ^ lk) &&& 1)) (nI_andN _ _) ?_
                refine V_istore (lc1 := [(13, .int (nI ((v / 2 ^ lk) &&& 1))), (12, .int (nI lk)), (11, .int (bI isb)), (10, .int (nI pt)), (0, .ref (h 0)), (1, .int (nI act)), (2, .int y), (3, .int z), (4, .ref (h 21)), (5, .ref (h 22)), (6, .ref (h 23)), (7, .ref (h 24)), (8, .ref (h 25)), (9, .ref (h 30))]) cx 886 rfl dL_builds_884 (by decide) rfl ?_
                have join_920 : ∀ (rv : Int32), (∃ v2, rv = nI v2 ∧ v2 < 64 ∧ ∀ j, j < 6 → v2.testBit j = if j = lk then isb else v.testBit j) → V X lo 16 G (Qi X lo G (fun (r : Int32) ((np1, nl1, tu1, T1, C1, F1, LT1, VV1, BB1, bl1, ie1, qt1, qc1, qf1, qb1, ql1, qg1) : (Nat) × (Nat) × (Nat) × (Nat → Int32) × (Nat → Int32) × (Nat → Int32) × (Nat → Int32) × (Nat → Int32) × (Nat → Int32) × (Nat → Int32) × (Nat → Int32) × (Nat → Int32) × (Nat → Int32) × (Nat → Int32) × (Nat → Int32) × (Nat → Int32) × (Nat → Int32)) => r = nI 1 ∧ (∃ y_, LI y_ np1 nl1 lu tu1 T1 C1 F1 LT1 VV1 BB1 wd gr gs bl1 ie1 qt1 qc1 qf1 qb1 ql1 qw qh qg1)) (fun ((np1, nl1, tu1, T1, C1, F1, LT1, VV1, BB1, bl1, ie1, qt1, qc1, qf1, qb1, ql1, qg1) : (Nat) × (Nat) × (Nat) × (Nat → Int32) × (Nat → Int32) × (Nat → Int32) × (Nat → Int32) × (Nat → Int32) × (Nat → Int32) × (Nat → Int32) × (Nat → Int32) × (Nat → Int32) × (Nat → Int32) × (Nat → Int32) × (Nat → Int32) × (Nat → Int32) × (Nat → Int32)) => cW G h np1 nl1 len fd lu tu1 T1 C1 F1 LT1 VV1 BB1 lt ph lh ks wd gr gs bl1 ie1 tw ++ (lW G h qt1 qc1 qf1 qb1 ql1 qa qd qw qh qg1 ++ rs)) 24 144) 0 0 (cW G h np nl len fd lu tu T C F LT VV BB lt ph lh ks wd gr gs bl ie tw ++ (lW G h qt qc qf qb ql qa qd qw qh qg ++ rs)) [(13, .int (nI ((v / 2 ^ lk) &&& 1))), (12, .int (nI lk)), (11, .int (bI isb)), (10, .int (nI pt)), (0, .ref (h 0)), (1, .int (nI act)), (2, .int y), (3, .int z), (4, .ref (h 21)), (5, .ref (h 22)), (6, .ref (h 23)), (7, .ref (h 24)), (8, .ref (h 25)), (9, .ref (h 30))] [.int rv, .int (nI pt), .ref (h 24)] 920 := by
                  intro rv hmv
                  obtain ⟨v2, hrv, hw2, hw4⟩ := hmv
                  refine V_toi (nI v2) (hrv) ?_
                  refine V_iastN cx pt (rfl) (by omega) (by decide) 24 rfl (cW G h np nl len fd lu tu T C F LT VV BB lt ph lh ks wd gr gs bl ie tw ++ (lW G h qt qc qf (upd qb pt (nI v2)) ql qa qd qw qh qg ++ rs)) rfl 921 rfl dL_builds_920 ?_
                  refine V_aload_n cx 922 rfl dL_builds_921 4 rfl ?_
                  refine V_iload cx 924 rfl dL_builds_922 3 rfl ?_
                  refine V_iload cx 926 rfl dL_builds_924 1 rfl ?_
                  refine V_iload cx 928 rfl dL_builds_926 2 rfl ?_
                  refine KL_121 (As := [.ref (h 0), .int (nI pt), .int (nI lk), .int (bI isb)]) (rest := []) cx (kL_bar (xl X) lo G _ h np nl len fd lu tu T C F LT VV BB lt ph lh ks wd gr gs bl ie tw (nI pt) (nI lk) isb hst (by omega) (by omega) hBz) hX (by omega) rfl rfl (Nat.le_of_ble_eq_true rfl) 931 2 12 rfl rfl rfl (by omega) (by omega) dL_builds_928 (fun r_7 u_8 hw_9 => ?_)
                  rcases u_8 with _ | ⟨BB1_10, v_11⟩
                  · exfalso
                    dsimp only at hw_9
                    obtain ⟨E, hw_9, -⟩ := hw_9
                    exact hw_9.2 ⟨⟨pt, hptl, rfl⟩, ⟨lk, hlkb, rfl⟩⟩
                  dsimp only at hw_9
                  obtain ⟨hw_9, hv_12⟩ := hw_9
                  obtain ⟨hrc, hy⟩ := LI_bar hLI hptl hlkb hv1 hv2 hw2 hw4 hw_9
                  refine V_toi (nI ((v / 2 ^ lk) &&& 1)) ((vb_r hrc hv_12).trans (congrArg nI (tb_val v lk).symm)) ?_
                  refine V_iload cx 933 rfl dL_builds_931 0 rfl ?_
                  refine V_icmp_ne cx 936 940 rfl dL_builds_933 (by decide) (fun c_933 => ?_) (fun c_933 => ?_)
                  · skip
                    exact absurd rfl c_933
                  · skip
                    refine V_iconst (v := nI 1) cx 937 rfl dL_builds_936 (by decide) ?_
                    refine V_goto cx 941 dL_builds_937 (by decide) ?_
                    exact V_zreturn cx hr (by first | rfl | exact bI_z _) (np, nl, tu, T, C, F, LT, VV, BB1_10, bl, ie, qt, qc, qf, upd qb pt (nI v2), ql, qg) (⟨rfl, hy⟩) rfl (by omega) (by omega) dL_builds_941
                refine V_aload cx 888 rfl dL_builds_886 11 rfl ?_
                refine V_iload cx 890 rfl dL_builds_888 3 rfl ?_
                refine V_iload cx 892 rfl dL_builds_890 2 rfl ?_
                refine V_if_eq cx 895 908 rfl dL_builds_892 (by decide) (fun c_892 => ?_) (fun c_892 => ?_)
                · skip
                  have n_892 := B_eq_t c_892
                  refine V_aload cx 910 rfl dL_builds_908 11 rfl ?_
                  refine V_iload cx 912 rfl dL_builds_910 3 rfl ?_
                  refine V_ialdN cx pt (rfl) (by omega) (by decide) 24 rfl 913 rfl dL_builds_912 ?_
                  refine V_toi (nI v) (hv1) ?_
                  refine V_iconst (v := nI 1) cx 914 rfl dL_builds_913 (by decide) ?_
                  refine V_iload cx 916 rfl dL_builds_914 1 rfl ?_
                  refine V_ishl cx 917 rfl dL_builds_916 ?_
                  refine V_toi (nI (2 ^ lk)) (shl_1 lk (by omega)) ?_
                  refine V_iconst (v := (-1)) cx 918 rfl dL_builds_917 (by decide) ?_
                  refine V_ixor cx 919 rfl dL_builds_918 ?_
                  refine V_iand cx 920 rfl dL_builds_919 ?_
                  refine V.locs [0, 1, 2, 3, 4, 5, 6, 7, 8, 9, 10, 11, 12, 13] rfl ?_
                  exact join_920 ((nI v) &&& ((nI (2 ^ lk)) ^^^ (-1))) (by rw [n_892]; first | exact mask_b hv2 (show lk < 6 by omega) (fun i hi => bt_or (by omega) hi) | exact mask_b hv2 (show lk < 6 by omega) (fun i hi => bt_andn (by omega) hi))
                · skip
                  have n_892 := B_eq_f c_892
                  refine V_aload cx 897 rfl dL_builds_895 11 rfl ?_
                  refine V_iload cx 899 rfl dL_builds_897 3 rfl ?_
                  refine V_ialdN cx pt (rfl) (by omega) (by decide) 24 rfl 900 rfl dL_builds_899 ?_
                  refine V_toi (nI v) (hv1) ?_
                  refine V_iconst (v := nI 1) cx 901 rfl dL_builds_900 (by decide) ?_
                  refine V_iload cx 903 rfl dL_builds_901 1 rfl ?_
                  refine V_ishl cx 904 rfl dL_builds_903 ?_
                  refine V_toi (nI (2 ^ lk)) (shl_1 lk (by omega)) ?_
                  refine V_ior cx 905 rfl dL_builds_904 ?_
                  refine V_goto cx 920 dL_builds_905 (by decide) ?_
                  refine V.locs [0, 1, 2, 3, 4, 5, 6, 7, 8, 9, 10, 11, 12, 13] rfl ?_
                  exact join_920 ((nI v) ||| (nI (2 ^ lk))) (by rw [n_892]; first | exact mask_b hv2 (show lk < 6 by omega) (fun i hi => bt_or (by omega) hi) | exact mask_b hv2 (show lk < 6 by omega) (fun i hi => bt_andn (by omega) hi))
              · skip
                have n_839 : nl = 0 := Z_ne_f (by omega) c_839
                refine V_aload_n cx 843 rfl dL_builds_842 2 rfl ?_
                refine V_iload cx 845 rfl dL_builds_843 1 rfl ?_
                refine V_iconst (v := nI 0) cx 846 rfl dL_builds_845 (by decide) ?_
                refine V_iload cx 848 rfl dL_builds_846 0 rfl ?_
                refine KL_121 (As := [.ref (h 0), .int (nI pt), .int (nI 0), .int (bI isb)]) (rest := []) cx (kL_bar (xl X) lo G _ h np nl len fd lu tu T C F LT VV BB lt ph lh ks wd gr gs bl ie tw (nI pt) (nI 0) isb hst (by omega) (by omega) hBz) hX (by omega) rfl rfl (Nat.le_of_ble_eq_true rfl) 851 2 12 rfl rfl rfl (by omega) (by omega) dL_builds_848 (fun r_13 u_14 hw_15 => ?_)
                rcases u_14 with _ | ⟨BB1_16, v_17⟩
                rotate_left
                · exfalso
                  dsimp only at hw_15
                  obtain ⟨hw_15, -⟩ := hw_15
                  obtain ⟨p, q, h1, h2, h3, h4, _⟩ := hw_15; omega
                dsimp only at hw_15
                have hv_r_13 : r_13 = (-71) := by
                  obtain ⟨E, hw_15, hc⟩ := hw_15
                  exact hc.2
                subst hv_r_13
                refine V_bipush (v := (-71)) cx 853 rfl dL_builds_851 (by decide) ?_
                refine V_icmp_ne cx 856 860 rfl dL_builds_853 (by decide) (fun c_853 => ?_) (fun c_853 => ?_)
                · skip
                  exact absurd rfl c_853
                · skip
                  refine V_iconst (v := nI 1) cx 857 rfl dL_builds_856 (by decide) ?_
                  refine V_goto cx 861 dL_builds_857 (by decide) ?_
                  exact V_zreturn cx hr (by first | rfl | exact bI_z _) (np, nl, tu, T, C, F, LT, VV, BB, bl, ie, qt, qc, qf, qb, ql, qg) (⟨rfl, x, hLI⟩) rfl (by omega) (by omega) dL_builds_861
            · skip
              have n_748 : act = 10 := N_ne_f (by omega) (by omega) c_748
              refine V_iload_n cx 752 rfl dL_builds_751 5 rfl ?_
              refine V_iconst (v := nI 3) cx 753 rfl dL_builds_752 (by decide) ?_
              refine V_ishr cx 754 rfl dL_builds_753 ?_
              refine V_aload cx 756 rfl dL_builds_754 11 rfl ?_
              refine V_iconst (v := nI 0) cx 757 rfl dL_builds_756 (by decide) ?_
              refine V_ialdN cx 0 (rfl) (by omega) (by decide) 30 rfl 758 rfl dL_builds_757 ?_
              refine V_toi (nI np) (hg0) ?_
              refine KL_101 (As := [.int (z >>> ((nI 3) &&& 31)), .int (nI np)]) (rest := []) cx (kL_low (xl X) lo G _ (z >>> ((nI 3) &&& 31)) np (by omega)) hX (by omega) rfl rfl (Nat.le_of_ble_eq_true rfl) 761 0 0 rfl rfl rfl (by omega) (by omega) dL_builds_758 (fun r_18 u_19 hw_20 => ?_)
              try dsimp only at hw_20
              subst hw_20
              obtain ⟨nx, hnx⟩ : ∃ nx, nx = lowN (z >>> (nI 3 &&& 31)) np := ⟨_, rfl⟩
              have hnxb : nx < np := by rw [hnx]; exact lowN_lt _ (by omega)
              refine V_toi (nI nx) (congrArg nI hnx.symm) ?_
              obtain ⟨v, hv1, hv2, hv3, hv4⟩ := hq.2.2.1 pt (by omega)
              refine V_istore (lc1 := [(12, .int (nI nx)), (11, .int (bI isb)), (10, .int (nI pt)), (0, .ref (h 0)), (1, .int (nI act)), (2, .int y), (3, .int z), (4, .ref (h 21)), (5, .ref (h 22)), (6, .ref (h 23)), (7, .ref (h 24)), (8, .ref (h 25)), (9, .ref (h 30))]) cx 763 rfl dL_builds_761 (by decide) rfl ?_
              refine V_aload cx 765 rfl dL_builds_763 9 rfl ?_
              refine V_iload cx 767 rfl dL_builds_765 2 rfl ?_
              refine V_ialdN cx pt (rfl) (by omega) (by decide) 23 rfl 768 rfl dL_builds_767 ?_
              refine V_toi (nI v) (hv1) ?_
              refine V_iconst (v := nI 3) cx 769 rfl dL_builds_768 (by decide) ?_
              refine V_iload cx 771 rfl dL_builds_769 0 rfl ?_
              refine V_iadd cx 772 rfl dL_builds_771 ?_
              refine V_toi (nI (3 + nx)) (nI_add _ _) ?_
              refine V_ishr cx 773 rfl dL_builds_772 ?_
              refine V_toi (nI (v / 2 ^ (3 + nx))) (i_shr (by omega) (by omega)) ?_
              refine V_iconst (v := nI 1) cx 774 rfl dL_builds_773 (by decide) ?_
              refine V_iand cx 775 rfl dL_builds_774 ?_
              refine V_toi (nI ((v / 2 ^ (3 + nx)) &&& 1)) (nI_andN _ _) ?_
              refine V_istore (lc1 := [(13, .int (nI ((v / 2 ^ (3 + nx)) &&& 1))), (12, .int (nI nx)), (11, .int (bI isb)), (10, .int (nI pt)), (0, .ref (h 0)), (1, .int (nI act)), (2, .int y), (3, .int z), (4, .ref (h 21)), (5, .ref (h 22)), (6, .ref (h 23)), (7, .ref (h 24)), (8, .ref (h 25)), (9, .ref (h 30))]) cx 777 rfl dL_builds_775 (by decide) rfl ?_
              have join_813 : ∀ (rv : Int32), (∃ v2, rv = nI v2 ∧ v2 < 524288 ∧ v2 % 8 = v % 8 ∧ ∀ j, j < 16 → v2.testBit (3 + j) = if j = nx then isb else v.testBit (3 + j)) → V X lo 16 G (Qi X lo G (fun (r : Int32) ((np1, nl1, tu1, T1, C1, F1, LT1, VV1, BB1, bl1, ie1, qt1, qc1, qf1, qb1, ql1, qg1) : (Nat) × (Nat) × (Nat) × (Nat → Int32) × (Nat → Int32) × (Nat → Int32) × (Nat → Int32) × (Nat → Int32) × (Nat → Int32) × (Nat → Int32) × (Nat → Int32) × (Nat → Int32) × (Nat → Int32) × (Nat → Int32) × (Nat → Int32) × (Nat → Int32) × (Nat → Int32)) => r = nI 1 ∧ (∃ y_, LI y_ np1 nl1 lu tu1 T1 C1 F1 LT1 VV1 BB1 wd gr gs bl1 ie1 qt1 qc1 qf1 qb1 ql1 qw qh qg1)) (fun ((np1, nl1, tu1, T1, C1, F1, LT1, VV1, BB1, bl1, ie1, qt1, qc1, qf1, qb1, ql1, qg1) : (Nat) × (Nat) × (Nat) × (Nat → Int32) × (Nat → Int32) × (Nat → Int32) × (Nat → Int32) × (Nat → Int32) × (Nat → Int32) × (Nat → Int32) × (Nat → Int32) × (Nat → Int32) × (Nat → Int32) × (Nat → Int32) × (Nat → Int32) × (Nat → Int32) × (Nat → Int32)) => cW G h np1 nl1 len fd lu tu1 T1 C1 F1 LT1 VV1 BB1 lt ph lh ks wd gr gs bl1 ie1 tw ++ (lW G h qt1 qc1 qf1 qb1 ql1 qa qd qw qh qg1 ++ rs)) 24 144) 0 0 (cW G h np nl len fd lu tu T C F LT VV BB lt ph lh ks wd gr gs bl ie tw ++ (lW G h qt qc qf qb ql qa qd qw qh qg ++ rs)) [(13, .int (nI ((v / 2 ^ (3 + nx)) &&& 1))), (12, .int (nI nx)), (11, .int (bI isb)), (10, .int (nI pt)), (0, .ref (h 0)), (1, .int (nI act)), (2, .int y), (3, .int z), (4, .ref (h 21)), (5, .ref (h 22)), (6, .ref (h 23)), (7, .ref (h 24)), (8, .ref (h 25)), (9, .ref (h 30))] [.int rv, .int (nI pt), .ref (h 23)] 813 := by
                intro rv hmv
                obtain ⟨v2, hrv, hw2, hw3, hw4⟩ := hmv
                refine V_toi (nI v2) (hrv) ?_
                refine V_iastN cx pt (rfl) (by omega) (by decide) 23 rfl (cW G h np nl len fd lu tu T C F LT VV BB lt ph lh ks wd gr gs bl ie tw ++ (lW G h qt qc (upd qf pt (nI v2)) qb ql qa qd qw qh qg ++ rs)) rfl 814 rfl dL_builds_813 ?_
                refine V_aload_n cx 815 rfl dL_builds_814 4 rfl ?_
                refine V_iload cx 817 rfl dL_builds_815 3 rfl ?_
                refine V_iload cx 819 rfl dL_builds_817 1 rfl ?_
                refine V_iload cx 821 rfl dL_builds_819 2 rfl ?_
                refine KL_118 (As := [.ref (h 0), .int (nI pt), .int (nI nx), .int (bI isb)]) (rest := []) cx (kL_veto (xl X) lo G _ h np nl len fd lu tu T C F LT VV BB lt ph lh ks wd gr gs bl ie tw (nI pt) (nI nx) isb hst (by omega) hVz) hX (by omega) rfl rfl (Nat.le_of_ble_eq_true rfl) 824 2 12 rfl rfl rfl (by omega) (by omega) dL_builds_821 (fun r_21 u_22 hw_23 => ?_)
                rcases u_22 with _ | ⟨VV1_24, v_25⟩
                · exfalso
                  dsimp only at hw_23
                  obtain ⟨E, hw_23, -⟩ := hw_23
                  exact hw_23.2 ⟨⟨pt, hptl, rfl⟩, ⟨nx, hnxb, rfl⟩⟩
                dsimp only at hw_23
                obtain ⟨hw_23, hv_26⟩ := hw_23
                obtain ⟨hrc, hy⟩ := LI_veto hLI hptl hnxb hv1 hv2 hw2 hw3 hw4 hw_23
                refine V_toi (nI ((v / 2 ^ (3 + nx)) &&& 1)) ((vb_r hrc hv_26).trans (congrArg nI (tb_val v (3 + nx)).symm)) ?_
                refine V_iload cx 826 rfl dL_builds_824 0 rfl ?_
                refine V_icmp_ne cx 829 833 rfl dL_builds_826 (by decide) (fun c_826 => ?_) (fun c_826 => ?_)
                · skip
                  exact absurd rfl c_826
                · skip
                  refine V_iconst (v := nI 1) cx 830 rfl dL_builds_829 (by decide) ?_
                  refine V_goto cx 834 dL_builds_830 (by decide) ?_
                  exact V_zreturn cx hr (by first | rfl | exact bI_z _) (np, nl, tu, T, C, F, LT, VV1_24, BB, bl, ie, qt, qc, upd qf pt (nI v2), qb, ql, qg) (⟨rfl, hy⟩) rfl (by omega) (by omega) dL_builds_834
              refine V_aload cx 779 rfl dL_builds_777 10 rfl ?_
              refine V_iload cx 781 rfl dL_builds_779 3 rfl ?_
              refine V_iload cx 783 rfl dL_builds_781 2 rfl ?_
              refine V_if_eq cx 786 800 rfl dL_builds_783 (by decide) (fun c_783 => ?_) (fun c_783 => ?_)
              · skip
                have n_783 := B_eq_t c_783
                refine V_aload cx 802 rfl dL_builds_800 10 rfl ?_
                refine V_iload cx 804 rfl dL_builds_802 3 rfl ?_
                refine V_ialdN cx pt (rfl) (by omega) (by decide) 23 rfl 805 rfl dL_builds_804 ?_
                refine V_toi (nI v) (hv1) ?_
                refine V_bipush (v := nI 8) cx 807 rfl dL_builds_805 (by decide) ?_
                refine V_iload cx 809 rfl dL_builds_807 1 rfl ?_
                refine V_ishl cx 810 rfl dL_builds_809 ?_
                refine V_toi (nI (2 ^ (3 + nx))) (shl_8 nx (by omega)) ?_
                refine V_iconst (v := (-1)) cx 811 rfl dL_builds_810 (by decide) ?_
                refine V_ixor cx 812 rfl dL_builds_811 ?_
                refine V_iand cx 813 rfl dL_builds_812 ?_
                refine V.locs [0, 1, 2, 3, 4, 5, 6, 7, 8, 9, 10, 11, 12, 13] rfl ?_
                exact join_813 ((nI v) &&& ((nI (2 ^ (3 + nx))) ^^^ (-1))) (by rw [n_783]; first | exact mask_v hv2 (show nx < 16 by omega) (fun i hi => bt_or (by omega) hi) | exact mask_v hv2 (show nx < 16 by omega) (fun i hi => bt_andn (by omega) hi))
              · skip
                have n_783 := B_eq_f c_783
                refine V_aload cx 788 rfl dL_builds_786 10 rfl ?_
                refine V_iload cx 790 rfl dL_builds_788 3 rfl ?_
                refine V_ialdN cx pt (rfl) (by omega) (by decide) 23 rfl 791 rfl dL_builds_790 ?_
                refine V_toi (nI v) (hv1) ?_
                refine V_bipush (v := nI 8) cx 793 rfl dL_builds_791 (by decide) ?_
                refine V_iload cx 795 rfl dL_builds_793 1 rfl ?_
                refine V_ishl cx 796 rfl dL_builds_795 ?_
                refine V_toi (nI (2 ^ (3 + nx))) (shl_8 nx (by omega)) ?_
                refine V_ior cx 797 rfl dL_builds_796 ?_
                refine V_goto cx 813 dL_builds_797 (by decide) ?_
                refine V.locs [0, 1, 2, 3, 4, 5, 6, 7, 8, 9, 10, 11, 12, 13] rfl ?_
                exact join_813 ((nI v) ||| (nI (2 ^ (3 + nx)))) (by rw [n_783]; first | exact mask_v hv2 (show nx < 16 by omega) (fun i hi => bt_or (by omega) hi) | exact mask_v hv2 (show nx < 16 by omega) (fun i hi => bt_andn (by omega) hi))
          refine V_iload_n cx 732 rfl dL_builds_731 4 rfl ?_
          refine V_bipush (v := nI 6) cx 734 rfl dL_builds_732 (by decide) ?_
          refine V_iand cx 735 rfl dL_builds_734 ?_
          refine V_if_le cx 738 742 rfl dL_builds_735 (by decide) (fun c_735 => ?_) (fun c_735 => ?_)
          · skip
            refine V_iconst (v := nI 0) cx 743 rfl dL_builds_742 (by decide) ?_
            refine V.locs [0, 1, 2, 3, 4, 5, 6, 7, 8, 9, 10] rfl ?_
            exact join_743 false 
          · skip
            refine V_iconst (v := nI 1) cx 739 rfl dL_builds_738 (by decide) ?_
            refine V_goto cx 743 dL_builds_739 (by decide) ?_
            refine V.locs [0, 1, 2, 3, 4, 5, 6, 7, 8, 9, 10] rfl ?_
            exact join_743 true 
        · skip
          have n_641 : act = 9 := N_ne_f (by omega) (by omega) c_641
          obtain ⟨v, hv1, hv2, hv3, hv4⟩ := hq.2.2.1 pt (by omega)
          refine V_aload cx 646 rfl dL_builds_644 7 rfl ?_
          refine V_iload cx 648 rfl dL_builds_646 0 rfl ?_
          refine V_ialdN cx pt (rfl) (by omega) (by decide) 23 rfl 649 rfl dL_builds_648 ?_
          refine V_toi (nI v) (hv1) ?_
          refine V_bipush (v := nI 7) cx 651 rfl dL_builds_649 (by decide) ?_
          refine V_iand cx 652 rfl dL_builds_651 ?_
          refine V_toi (nI (v &&& 7)) (nI_andN _ _) ?_
          refine V_toi (nI (v % 8)) (by rw [show (7 : Nat) = 2 ^ 3 - 1 by decide, Nat.and_two_pow_sub_one_eq_mod]) ?_
          refine V_istore (lc1 := [(11, .int (nI (v % 8))), (10, .int (nI pt)), (0, .ref (h 0)), (1, .int (nI act)), (2, .int y), (3, .int z), (4, .ref (h 21)), (5, .ref (h 22)), (6, .ref (h 23)), (7, .ref (h 24)), (8, .ref (h 25)), (9, .ref (h 30))]) cx 654 rfl dL_builds_652 (by decide) rfl ?_
          have join_672 : ∀ (fl : Nat), (fl ≤ 7) → V X lo 16 G (Qi X lo G (fun (r : Int32) ((np1, nl1, tu1, T1, C1, F1, LT1, VV1, BB1, bl1, ie1, qt1, qc1, qf1, qb1, ql1, qg1) : (Nat) × (Nat) × (Nat) × (Nat → Int32) × (Nat → Int32) × (Nat → Int32) × (Nat → Int32) × (Nat → Int32) × (Nat → Int32) × (Nat → Int32) × (Nat → Int32) × (Nat → Int32) × (Nat → Int32) × (Nat → Int32) × (Nat → Int32) × (Nat → Int32) × (Nat → Int32)) => r = nI 1 ∧ (∃ y_, LI y_ np1 nl1 lu tu1 T1 C1 F1 LT1 VV1 BB1 wd gr gs bl1 ie1 qt1 qc1 qf1 qb1 ql1 qw qh qg1)) (fun ((np1, nl1, tu1, T1, C1, F1, LT1, VV1, BB1, bl1, ie1, qt1, qc1, qf1, qb1, ql1, qg1) : (Nat) × (Nat) × (Nat) × (Nat → Int32) × (Nat → Int32) × (Nat → Int32) × (Nat → Int32) × (Nat → Int32) × (Nat → Int32) × (Nat → Int32) × (Nat → Int32) × (Nat → Int32) × (Nat → Int32) × (Nat → Int32) × (Nat → Int32) × (Nat → Int32) × (Nat → Int32)) => cW G h np1 nl1 len fd lu tu1 T1 C1 F1 LT1 VV1 BB1 lt ph lh ks wd gr gs bl1 ie1 tw ++ (lW G h qt1 qc1 qf1 qb1 ql1 qa qd qw qh qg1 ++ rs)) 24 144) 0 0 (cW G h np nl len fd lu tu T C F LT VV BB lt ph lh ks wd gr gs bl ie tw ++ (lW G h qt qc qf qb ql qa qd qw qh qg ++ rs)) [(11, .int (nI (v % 8))), (10, .int (nI pt)), (0, .ref (h 0)), (1, .int (nI act)), (2, .int y), (3, .int z), (4, .ref (h 21)), (5, .ref (h 22)), (6, .ref (h 23)), (7, .ref (h 24)), (8, .ref (h 25)), (9, .ref (h 30))] [.int (nI fl)] 672 := by
            intro fl hfl
            refine V_istore (lc1 := [(12, .int (nI fl)), (11, .int (nI (v % 8))), (10, .int (nI pt)), (0, .ref (h 0)), (1, .int (nI act)), (2, .int y), (3, .int z), (4, .ref (h 21)), (5, .ref (h 22)), (6, .ref (h 23)), (7, .ref (h 24)), (8, .ref (h 25)), (9, .ref (h 30))]) cx 674 rfl dL_builds_672 (by decide) rfl ?_
            refine V_aload cx 676 rfl dL_builds_674 9 rfl ?_
            refine V_iload cx 678 rfl dL_builds_676 2 rfl ?_
            refine V_dup2 cx 679 rfl dL_builds_678 rfl rfl ?_
            refine V_ialdN cx pt (rfl) (by omega) (by decide) 23 rfl 680 rfl dL_builds_679 ?_
            refine V_toi (nI v) (hv1) ?_
            refine V_iload cx 682 rfl dL_builds_680 0 rfl ?_
            refine V_iload cx 684 rfl dL_builds_682 1 rfl ?_
            refine V_isub cx 685 rfl dL_builds_684 ?_
            refine V_iadd cx 686 rfl dL_builds_685 ?_
            refine V_toi (nI (v - v % 8 + fl)) (nI_swap (Nat.mod_le _ _)) ?_
            refine V_iastN cx pt (rfl) (by omega) (by decide) 23 rfl (cW G h np nl len fd lu tu T C F LT VV BB lt ph lh ks wd gr gs bl ie tw ++ (lW G h qt qc (upd qf pt (nI (v - v % 8 + fl))) qb ql qa qd qw qh qg ++ rs)) rfl 687 rfl dL_builds_686 ?_
            refine V_aload_n cx 688 rfl dL_builds_687 3 rfl ?_
            refine V_iload cx 690 rfl dL_builds_688 2 rfl ?_
            refine V_bipush (v := nI 8) cx 692 rfl dL_builds_690 (by decide) ?_
            refine KL_115 (As := [.ref (h 0), .int (nI pt), .int (nI 8)]) (rest := []) cx (kL_setFlags (xl X) lo G _ h np nl len fd lu tu T C F LT VV BB lt ph lh ks wd gr gs bl ie tw (nI pt) (nI 8) hst (by omega)) hX (by omega) rfl rfl (Nat.le_of_ble_eq_true rfl) 695 2 12 rfl rfl rfl (by omega) (by omega) dL_builds_692 (fun r_27 u_28 hw_29 => ?_)
            rcases u_28 with _ | ⟨F1_30, v_31⟩
            rotate_left
            · exfalso
              dsimp only at hw_29
              obtain ⟨hw_29, -⟩ := hw_29
              obtain ⟨q, _, _, h3, _⟩ := hw_29; exact absurd h3 (by decide)
            dsimp only at hw_29
            have hv_r_27 : r_27 = (-72) := by
              obtain ⟨E, hw_29, hc⟩ := hw_29
              exact flx_f ⟨pt, hptl, rfl⟩ hw_29 hc
            subst hv_r_27
            refine V_bipush (v := (-72)) cx 697 rfl dL_builds_695 (by decide) ?_
            refine V_icmp_ne cx 700 729 rfl dL_builds_697 (by decide) (fun c_697 => ?_) (fun c_697 => ?_)
            · skip
              exact absurd rfl c_697
            · skip
              refine V_aload_n cx 701 rfl dL_builds_700 3 rfl ?_
              refine V_iload cx 703 rfl dL_builds_701 2 rfl ?_
              refine V_iconst (v := (-1)) cx 704 rfl dL_builds_703 (by decide) ?_
              refine KL_115 (As := [.ref (h 0), .int (nI pt), .int (-1)]) (rest := []) cx (kL_setFlags (xl X) lo G _ h np nl len fd lu tu T C F LT VV BB lt ph lh ks wd gr gs bl ie tw (nI pt) (-1) hst (by omega)) hX (by omega) rfl rfl (Nat.le_of_ble_eq_true rfl) 707 4 24 rfl rfl rfl (by omega) (by omega) dL_builds_704 (fun r_32 u_33 hw_34 => ?_)
              rcases u_33 with _ | ⟨F1_35, v_36⟩
              rotate_left
              · exfalso
                dsimp only at hw_34
                obtain ⟨hw_34, -⟩ := hw_34
                obtain ⟨q, _, _, h3, _⟩ := hw_34; exact absurd h3 (by decide)
              dsimp only at hw_34
              have hv_r_32 : r_32 = (-72) := by
                obtain ⟨E, hw_34, hc⟩ := hw_34
                exact flx_f ⟨pt, hptl, rfl⟩ hw_34 hc
              subst hv_r_32
              refine V_bipush (v := (-72)) cx 709 rfl dL_builds_707 (by decide) ?_
              refine V_icmp_ne cx 712 729 rfl dL_builds_709 (by decide) (fun c_709 => ?_) (fun c_709 => ?_)
              · skip
                exact absurd rfl c_709
              · skip
                refine V_aload_n cx 713 rfl dL_builds_712 3 rfl ?_
                refine V_iload cx 715 rfl dL_builds_713 2 rfl ?_
                refine V_iload cx 717 rfl dL_builds_715 0 rfl ?_
                refine KL_115 (As := [.ref (h 0), .int (nI pt), .int (nI fl)]) (rest := []) cx (kL_setFlags (xl X) lo G _ h np nl len fd lu tu T C F LT VV BB lt ph lh ks wd gr gs bl ie tw (nI pt) (nI fl) hst (by omega)) hX (by omega) rfl rfl (Nat.le_of_ble_eq_true rfl) 720 6 36 rfl rfl rfl (by omega) (by omega) dL_builds_717 (fun r_37 u_38 hw_39 => ?_)
                rcases u_38 with _ | ⟨F1_40, v_41⟩
                · exfalso
                  dsimp only at hw_39
                  obtain ⟨E, hw_39, -⟩ := hw_39
                  rcases hw_39 with ⟨_, h9⟩ | ⟨_, _, h9⟩; exact h9 ⟨pt, hptl, rfl⟩; exact h9 ⟨nI_le (by omega) (by omega), nI_le (by omega) (by omega)⟩
                dsimp only at hw_39
                obtain ⟨hw_39, hv_42⟩ := hw_39
                subst hv_42
                obtain ⟨hrc, hy⟩ := LI_setFlags hLI hptl hfl hv1 hv2 hw_39
                refine V_toi (nI (v % 8)) (hrc) ?_
                refine V_iload cx 722 rfl dL_builds_720 1 rfl ?_
                refine V_icmp_ne cx 725 729 rfl dL_builds_722 (by decide) (fun c_722 => ?_) (fun c_722 => ?_)
                · skip
                  exact absurd rfl c_722
                · skip
                  refine V_iconst (v := nI 1) cx 726 rfl dL_builds_725 (by decide) ?_
                  refine V_goto cx 730 dL_builds_726 (by decide) ?_
                  exact V_zreturn cx hr (by first | rfl | exact bI_z _) (np, nl, tu, T, C, F1_40, LT, VV, BB, bl, ie, qt, qc, upd qf pt (nI (v - v % 8 + fl)), qb, ql, qg) (⟨rfl, hy⟩) rfl (by omega) (by omega) dL_builds_730
          refine V_iload_n cx 655 rfl dL_builds_654 5 rfl ?_
          refine V_bipush (v := nI 24) cx 657 rfl dL_builds_655 (by decide) ?_
          refine V_iand cx 658 rfl dL_builds_657 ?_
          refine V_if_ne cx 661 670 rfl dL_builds_658 (by decide) (fun c_658 => ?_) (fun c_658 => ?_)
          · skip
            refine V_bipush (v := nI 7) cx 672 rfl dL_builds_670 (by decide) ?_
            refine V.locs [0, 1, 2, 3, 4, 5, 6, 7, 8, 9, 10, 11] rfl ?_
            exact join_672 7 (by omega)
          · skip
            refine V_iload_n cx 662 rfl dL_builds_661 5 rfl ?_
            refine V_bipush (v := nI 8) cx 664 rfl dL_builds_662 (by decide) ?_
            refine KL_101 (As := [.int z, .int (nI 8)]) (rest := []) cx (kL_low (xl X) lo G _ z 8 (by omega)) hX (by omega) rfl rfl (Nat.le_of_ble_eq_true rfl) 667 0 0 rfl rfl rfl (by omega) (by omega) dL_builds_664 (fun r_43 u_44 hw_45 => ?_)
            try dsimp only at hw_45
            subst hw_45
            refine V_goto cx 672 dL_builds_667 (by decide) ?_
            refine V.locs [0, 1, 2, 3, 4, 5, 6, 7, 8, 9, 10, 11] rfl ?_
            exact join_672 (lowN z 8) (by have hl := lowN_lt z (show 0 < 8 by decide); omega)
      · skip
        have n_562 : pt = np := N_ne_f (by omega) (by omega) c_562
        refine V_aload_n cx 566 rfl dL_builds_565 1 rfl ?_
        refine V_iload cx 568 rfl dL_builds_566 0 rfl ?_
        refine V_bipush (v := nI 8) cx 570 rfl dL_builds_568 (by decide) ?_
        refine KL_115 (As := [.ref (h 0), .int (nI pt), .int (nI 8)]) (rest := []) cx (kL_setFlags (xl X) lo G _ h np nl len fd lu tu T C F LT VV BB lt ph lh ks wd gr gs bl ie tw (nI pt) (nI 8) hst (by omega)) hX (by omega) rfl rfl (Nat.le_of_ble_eq_true rfl) 573 2 12 rfl rfl rfl (by omega) (by omega) dL_builds_570 (fun r_46 u_47 hw_48 => ?_)
        rcases u_47 with _ | ⟨F1_49, v_50⟩
        rotate_left
        · exfalso
          dsimp only at hw_48
          obtain ⟨hw_48, -⟩ := hw_48
          obtain ⟨q, h1, h2, _⟩ := hw_48; exact cIsP_no (by omega) (by omega) (by omega) ⟨q, h1, h2⟩
        dsimp only at hw_48
        have hv_r_46 : r_46 = (-71) := by
          obtain ⟨E, hw_48, hc⟩ := hw_48
          exact flx_p (cIsP_no (by omega) (by omega) (by omega)) hw_48 hc
        subst hv_r_46
        refine V_bipush (v := (-71)) cx 575 rfl dL_builds_573 (by decide) ?_
        refine V_icmp_ne cx 578 636 rfl dL_builds_575 (by decide) (fun c_575 => ?_) (fun c_575 => ?_)
        · skip
          exact absurd rfl c_575
        · skip
          refine V_aload_n cx 579 rfl dL_builds_578 1 rfl ?_
          refine V_iload cx 581 rfl dL_builds_579 0 rfl ?_
          refine V_iconst (v := nI 0) cx 582 rfl dL_builds_581 (by decide) ?_
          refine V_iconst (v := nI 1) cx 583 rfl dL_builds_582 (by decide) ?_
          refine V_toi (bI true) (rfl) ?_
          refine KL_118 (As := [.ref (h 0), .int (nI pt), .int (nI 0), .int (bI true)]) (rest := []) cx (kL_veto (xl X) lo G _ h np nl len fd lu tu T C F LT VV BB lt ph lh ks wd gr gs bl ie tw (nI pt) (nI 0) true hst (by omega) hVz) hX (by omega) rfl rfl (Nat.le_of_ble_eq_true rfl) 586 4 24 rfl rfl rfl (by omega) (by omega) dL_builds_583 (fun r_51 u_52 hw_53 => ?_)
          rcases u_52 with _ | ⟨VV1_54, v_55⟩
          rotate_left
          · exfalso
            dsimp only at hw_53
            obtain ⟨hw_53, -⟩ := hw_53
            obtain ⟨p, q, h1, h2, h3, h4, _⟩ := hw_53; exact cIsP_no (by omega) (by omega) (by omega) ⟨p, h1, h3⟩
          dsimp only at hw_53
          have hv_r_51 : r_51 = (-71) := by
            obtain ⟨E, hw_53, hc⟩ := hw_53
            exact hc.2
          subst hv_r_51
          refine V_bipush (v := (-71)) cx 588 rfl dL_builds_586 (by decide) ?_
          refine V_icmp_ne cx 591 636 rfl dL_builds_588 (by decide) (fun c_588 => ?_) (fun c_588 => ?_)
          · skip
            exact absurd rfl c_588
          · skip
            refine V_aload_n cx 592 rfl dL_builds_591 1 rfl ?_
            refine V_iconst (v := nI 0) cx 593 rfl dL_builds_592 (by decide) ?_
            refine V_iload cx 595 rfl dL_builds_593 0 rfl ?_
            refine V_iconst (v := nI 1) cx 596 rfl dL_builds_595 (by decide) ?_
            refine V_toi (bI true) (rfl) ?_
            refine KL_118 (As := [.ref (h 0), .int (nI 0), .int (nI pt), .int (bI true)]) (rest := []) cx (kL_veto (xl X) lo G _ h np nl len fd lu tu T C F LT VV BB lt ph lh ks wd gr gs bl ie tw (nI 0) (nI pt) true hst (by omega) hVz) hX (by omega) rfl rfl (Nat.le_of_ble_eq_true rfl) 599 6 36 rfl rfl rfl (by omega) (by omega) dL_builds_596 (fun r_56 u_57 hw_58 => ?_)
            rcases u_57 with _ | ⟨VV1_59, v_60⟩
            rotate_left
            · exfalso
              dsimp only at hw_58
              obtain ⟨hw_58, -⟩ := hw_58
              obtain ⟨p, q, h1, h2, h3, h4, _⟩ := hw_58; exact cIsP_no (by omega) (by omega) (by omega) ⟨q, h2, h4⟩
            dsimp only at hw_58
            have hv_r_56 : r_56 = (-71) := by
              obtain ⟨E, hw_58, hc⟩ := hw_58
              exact hc.2
            subst hv_r_56
            refine V_bipush (v := (-71)) cx 601 rfl dL_builds_599 (by decide) ?_
            refine V_icmp_ne cx 604 636 rfl dL_builds_601 (by decide) (fun c_601 => ?_) (fun c_601 => ?_)
            · skip
              exact absurd rfl c_601
            · skip
              refine V_aload_n cx 605 rfl dL_builds_604 1 rfl ?_
              refine V_iload cx 607 rfl dL_builds_605 0 rfl ?_
              refine V_iconst (v := nI 0) cx 608 rfl dL_builds_607 (by decide) ?_
              refine V_iconst (v := nI 1) cx 609 rfl dL_builds_608 (by decide) ?_
              refine V_toi (bI true) (rfl) ?_
              refine KL_121 (As := [.ref (h 0), .int (nI pt), .int (nI 0), .int (bI true)]) (rest := []) cx (kL_bar (xl X) lo G _ h np nl len fd lu tu T C F LT VV BB lt ph lh ks wd gr gs bl ie tw (nI pt) (nI 0) true hst (by omega) (by omega) hBz) hX (by omega) rfl rfl (Nat.le_of_ble_eq_true rfl) 612 8 48 rfl rfl rfl (by omega) (by omega) dL_builds_609 (fun r_61 u_62 hw_63 => ?_)
              rcases u_62 with _ | ⟨BB1_64, v_65⟩
              rotate_left
              · exfalso
                dsimp only at hw_63
                obtain ⟨hw_63, -⟩ := hw_63
                obtain ⟨p, q, h1, h2, h3, h4, _⟩ := hw_63; exact cIsP_no (by omega) (by omega) (by omega) ⟨p, h1, h3⟩
              dsimp only at hw_63
              have hv_r_61 : r_61 = (-71) := by
                obtain ⟨E, hw_63, hc⟩ := hw_63
                exact hc.2
              subst hv_r_61
              refine V_bipush (v := (-71)) cx 614 rfl dL_builds_612 (by decide) ?_
              refine V_icmp_ne cx 617 636 rfl dL_builds_614 (by decide) (fun c_614 => ?_) (fun c_614 => ?_)
              · skip
                exact absurd rfl c_614
              · skip
                refine V_aload_n cx 618 rfl dL_builds_617 1 rfl ?_
                refine V_iconst (v := nI 0) cx 619 rfl dL_builds_618 (by decide) ?_
                refine V_aload cx 621 rfl dL_builds_619 10 rfl ?_
                refine V_iconst (v := nI 1) cx 622 rfl dL_builds_621 (by decide) ?_
                refine V_ialdN cx 1 (rfl) (by omega) (by decide) 30 rfl 623 rfl dL_builds_622 ?_
                refine V_toi (nI nl) (hg1) ?_
                refine V_iconst (v := nI 1) cx 624 rfl dL_builds_623 (by decide) ?_
                refine V_toi (bI true) (rfl) ?_
                refine KL_121 (As := [.ref (h 0), .int (nI 0), .int (nI nl), .int (bI true)]) (rest := []) cx (kL_bar (xl X) lo G _ h np nl len fd lu tu T C F LT VV BB lt ph lh ks wd gr gs bl ie tw (nI 0) (nI nl) true hst (by omega) (by omega) hBz) hX (by omega) rfl rfl (Nat.le_of_ble_eq_true rfl) 627 10 60 rfl rfl rfl (by omega) (by omega) dL_builds_624 (fun r_66 u_67 hw_68 => ?_)
                rcases u_67 with _ | ⟨BB1_69, v_70⟩
                rotate_left
                · exfalso
                  dsimp only at hw_68
                  obtain ⟨hw_68, -⟩ := hw_68
                  obtain ⟨p, q, h1, h2, h3, h4, _⟩ := hw_68; exact cIsP_no (by omega) (by omega) (by omega) ⟨q, h2, h4⟩
                dsimp only at hw_68
                have hv_r_66 : r_66 = (-71) := by
                  obtain ⟨E, hw_68, hc⟩ := hw_68
                  exact hc.2
                subst hv_r_66
                refine V_bipush (v := (-71)) cx 629 rfl dL_builds_627 (by decide) ?_
                refine V_icmp_ne cx 632 636 rfl dL_builds_629 (by decide) (fun c_629 => ?_) (fun c_629 => ?_)
                · skip
                  exact absurd rfl c_629
                · skip
                  refine V_iconst (v := nI 1) cx 633 rfl dL_builds_632 (by decide) ?_
                  refine V_goto cx 637 dL_builds_633 (by decide) ?_
                  exact V_zreturn cx hr (by first | rfl | exact bI_z _) (np, nl, tu, T, C, F, LT, VV, BB, bl, ie, qt, qc, qf, qb, ql, qg) (⟨rfl, x, hLI⟩) rfl (by omega) (by omega) dL_builds_637
    · skip
      have n_387 : act < 9 := N_ge_f (by omega) (by omega) c_387
      refine V_iload_n cx 391 rfl dL_builds_390 4 rfl ?_
      refine V_iconst (v := nI 2) cx 392 rfl dL_builds_391 (by decide) ?_
      refine KL_104 (As := [.int z, .int (nI 2)]) (rest := []) cx (kL_text (xl X) lo G _ z 2 (by omega)) hX (by omega) rfl rfl (Nat.le_of_ble_eq_true rfl) 395 0 0 rfl rfl rfl (by omega) (by omega) dL_builds_392 (fun r_71 u_72 hw_73 => ?_)
      try dsimp only at hw_73
      obtain ⟨tv, tn, hre, hn1, hn2, hv1, hv2⟩ := hw_73
      refine V_toi (nI tv) (hre) ?_
      have htvb : tv < 20000 := by have := p10_le hn2; omega
      have hSZ := word_SZ hv1 hv2 (show 1 ≤ tn ∧ tn ≤ 8 by omega)
      refine V_istore (lc1 := [(11, .int (nI tv)), (10, .int (nI pt)), (0, .ref (h 0)), (1, .int (nI act)), (2, .int y), (3, .int z), (4, .ref (h 21)), (5, .ref (h 22)), (6, .ref (h 23)), (7, .ref (h 24)), (8, .ref (h 25)), (9, .ref (h 30))]) cx 397 rfl dL_builds_395 (by decide) rfl ?_
      have join_411 : ∀ (th0 : Bool), (th0 = decide (nl = 6)) → V X lo 16 G (Qi X lo G (fun (r : Int32) ((np1, nl1, tu1, T1, C1, F1, LT1, VV1, BB1, bl1, ie1, qt1, qc1, qf1, qb1, ql1, qg1) : (Nat) × (Nat) × (Nat) × (Nat → Int32) × (Nat → Int32) × (Nat → Int32) × (Nat → Int32) × (Nat → Int32) × (Nat → Int32) × (Nat → Int32) × (Nat → Int32) × (Nat → Int32) × (Nat → Int32) × (Nat → Int32) × (Nat → Int32) × (Nat → Int32) × (Nat → Int32)) => r = nI 1 ∧ (∃ y_, LI y_ np1 nl1 lu tu1 T1 C1 F1 LT1 VV1 BB1 wd gr gs bl1 ie1 qt1 qc1 qf1 qb1 ql1 qw qh qg1)) (fun ((np1, nl1, tu1, T1, C1, F1, LT1, VV1, BB1, bl1, ie1, qt1, qc1, qf1, qb1, ql1, qg1) : (Nat) × (Nat) × (Nat) × (Nat → Int32) × (Nat → Int32) × (Nat → Int32) × (Nat → Int32) × (Nat → Int32) × (Nat → Int32) × (Nat → Int32) × (Nat → Int32) × (Nat → Int32) × (Nat → Int32) × (Nat → Int32) × (Nat → Int32) × (Nat → Int32) × (Nat → Int32)) => cW G h np1 nl1 len fd lu tu1 T1 C1 F1 LT1 VV1 BB1 lt ph lh ks wd gr gs bl1 ie1 tw ++ (lW G h qt1 qc1 qf1 qb1 ql1 qa qd qw qh qg1 ++ rs)) 24 144) 0 0 (cW G h np nl len fd lu tu T C F LT VV BB lt ph lh ks wd gr gs bl ie tw ++ (lW G h qt qc qf qb ql qa qd qw qh qg ++ rs)) [(11, .int (nI tv)), (10, .int (nI pt)), (0, .ref (h 0)), (1, .int (nI act)), (2, .int y), (3, .int z), (4, .ref (h 21)), (5, .ref (h 22)), (6, .ref (h 23)), (7, .ref (h 24)), (8, .ref (h 25)), (9, .ref (h 30))] [.int (bI th0)] 411 := by
        intro th0 hth0
        refine V_istore (lc1 := [(12, .int (bI th0)), (11, .int (nI tv)), (10, .int (nI pt)), (0, .ref (h 0)), (1, .int (nI act)), (2, .int y), (3, .int z), (4, .ref (h 21)), (5, .ref (h 22)), (6, .ref (h 23)), (7, .ref (h 24)), (8, .ref (h 25)), (9, .ref (h 30))]) cx 413 rfl dL_builds_411 (by decide) rfl ?_
        refine V_iconst (v := nI 0) cx 414 rfl dL_builds_413 (by decide) ?_
        refine V_istore (lc1 := [(13, .int (nI 0)), (12, .int (bI th0)), (11, .int (nI tv)), (10, .int (nI pt)), (0, .ref (h 0)), (1, .int (nI act)), (2, .int y), (3, .int z), (4, .ref (h 21)), (5, .ref (h 22)), (6, .ref (h 23)), (7, .ref (h 24)), (8, .ref (h 25)), (9, .ref (h 30))]) cx 416 rfl dL_builds_414 (by decide) rfl ?_
        have loop_416 : ∀ (fuel : Nat) (k : Nat) (th : Bool), (k ≤ nl) → (th = (decide (nl = 6) || exN (lU x) tv k)) → nl - k < fuel → V X lo 16 G (Qi X lo G (fun (r : Int32) ((np1, nl1, tu1, T1, C1, F1, LT1, VV1, BB1, bl1, ie1, qt1, qc1, qf1, qb1, ql1, qg1) : (Nat) × (Nat) × (Nat) × (Nat → Int32) × (Nat → Int32) × (Nat → Int32) × (Nat → Int32) × (Nat → Int32) × (Nat → Int32) × (Nat → Int32) × (Nat → Int32) × (Nat → Int32) × (Nat → Int32) × (Nat → Int32) × (Nat → Int32) × (Nat → Int32) × (Nat → Int32)) => r = nI 1 ∧ (∃ y_, LI y_ np1 nl1 lu tu1 T1 C1 F1 LT1 VV1 BB1 wd gr gs bl1 ie1 qt1 qc1 qf1 qb1 ql1 qw qh qg1)) (fun ((np1, nl1, tu1, T1, C1, F1, LT1, VV1, BB1, bl1, ie1, qt1, qc1, qf1, qb1, ql1, qg1) : (Nat) × (Nat) × (Nat) × (Nat → Int32) × (Nat → Int32) × (Nat → Int32) × (Nat → Int32) × (Nat → Int32) × (Nat → Int32) × (Nat → Int32) × (Nat → Int32) × (Nat → Int32) × (Nat → Int32) × (Nat → Int32) × (Nat → Int32) × (Nat → Int32) × (Nat → Int32)) => cW G h np1 nl1 len fd lu tu1 T1 C1 F1 LT1 VV1 BB1 lt ph lh ks wd gr gs bl1 ie1 tw ++ (lW G h qt1 qc1 qf1 qb1 ql1 qa qd qw qh qg1 ++ rs)) 24 144) 0 0 (cW G h np nl len fd lu tu T C F LT VV BB lt ph lh ks wd gr gs bl ie tw ++ (lW G h qt qc qf qb ql qa qd qw qh qg ++ rs)) [(13, .int (nI k)), (12, .int (bI th)), (11, .int (nI tv)), (10, .int (nI pt)), (0, .ref (h 0)), (1, .int (nI act)), (2, .int y), (3, .int z), (4, .ref (h 21)), (5, .ref (h 22)), (6, .ref (h 23)), (7, .ref (h 24)), (8, .ref (h 25)), (9, .ref (h 30))] [] 416 := by
          intro fuel
          induction fuel with
          | zero => intro k th hk hth hmz; exact absurd hmz (Nat.not_lt_zero _)
          | succ fuel ih_416 =>
            intro k th hk hth hmz_416
            refine V_iload cx 418 rfl dL_builds_416 0 rfl ?_
            refine V_aload cx 420 rfl dL_builds_418 13 rfl ?_
            refine V_iconst (v := nI 1) cx 421 rfl dL_builds_420 (by decide) ?_
            refine V_ialdN cx 1 (rfl) (by omega) (by decide) 30 rfl 422 rfl dL_builds_421 ?_
            refine V_toi (nI nl) (hg1) ?_
            refine V_icmp_ge cx 425 451 rfl dL_builds_422 (by decide) (fun c_422 => ?_) (fun c_422 => ?_)
            · skip
              have n_422 : k ≥ nl := N_ge_t (by omega) (by omega) c_422
              refine V_aload_n cx 452 rfl dL_builds_451 4 rfl ?_
              refine V_sipush (v := nI 1000) cx 455 rfl dL_builds_452 (by decide) ?_
              refine KL_112 (As := [.ref (h 0), .int (nI 1000)]) (rest := []) cx (kL_addLink (xl X) lo G _ h np nl len fd lu tu T C F LT VV BB lt ph lh ks wd gr gs bl ie tw (nI 1000) hst (by omega)) hX (by omega) rfl rfl (Nat.le_of_ble_eq_true rfl) 458 2 12 rfl rfl rfl (by omega) (by omega) dL_builds_455 (fun r_74 u_75 hw_76 => ?_)
              rcases u_75 with _ | v_77
              rotate_left
              · exfalso
                dsimp only at hw_76
                obtain ⟨hw_76, -⟩ := hw_76
                obtain ⟨h9, _⟩ := hw_76; rw [sz_1000] at h9; exact absurd h9 (by decide)
              dsimp only at hw_76
              have hv_r_74 : r_74 = (-72) := by
                obtain ⟨E, hw_76, hc⟩ := hw_76
                exact lkx_r (by rw [sz_1000]; decide) hw_76 hc
              subst hv_r_74
              refine V_bipush (v := (-72)) cx 460 rfl dL_builds_458 (by decide) ?_
              refine V_icmp_ne cx 463 494 rfl dL_builds_460 (by decide) (fun c_460 => ?_) (fun c_460 => ?_)
              · skip
                exact absurd rfl c_460
              · skip
                refine V_aload_n cx 464 rfl dL_builds_463 4 rfl ?_
                refine V_iconst (v := nI 1) cx 465 rfl dL_builds_464 (by decide) ?_
                refine KL_112 (As := [.ref (h 0), .int (nI 1)]) (rest := []) cx (kL_addLink (xl X) lo G _ h np nl len fd lu tu T C F LT VV BB lt ph lh ks wd gr gs bl ie tw (nI 1) hst (by omega)) hX (by omega) rfl rfl (Nat.le_of_ble_eq_true rfl) 468 4 24 rfl rfl rfl (by omega) (by omega) dL_builds_465 (fun r_78 u_79 hw_80 => ?_)
                rcases u_79 with _ | v_81
                rotate_left
                · exfalso
                  dsimp only at hw_80
                  obtain ⟨hw_80, -⟩ := hw_80
                  obtain ⟨h9, _⟩ := hw_80; rw [sz_1] at h9; exact absurd h9 (by decide)
                dsimp only at hw_80
                have hv_r_78 : r_78 = (-72) := by
                  obtain ⟨E, hw_80, hc⟩ := hw_80
                  exact lkx_r (by rw [sz_1]; decide) hw_80 hc
                subst hv_r_78
                refine V_bipush (v := (-72)) cx 470 rfl dL_builds_468 (by decide) ?_
                refine V_icmp_ne cx 473 494 rfl dL_builds_470 (by decide) (fun c_470 => ?_) (fun c_470 => ?_)
                · skip
                  exact absurd rfl c_470
                · skip
                  refine V_aload_n cx 474 rfl dL_builds_473 4 rfl ?_
                  refine V_bipush (v := nI 20) cx 476 rfl dL_builds_474 (by decide) ?_
                  refine KL_112 (As := [.ref (h 0), .int (nI 20)]) (rest := []) cx (kL_addLink (xl X) lo G _ h np nl len fd lu tu T C F LT VV BB lt ph lh ks wd gr gs bl ie tw (nI 20) hst (by omega)) hX (by omega) rfl rfl (Nat.le_of_ble_eq_true rfl) 479 6 36 rfl rfl rfl (by omega) (by omega) dL_builds_476 (fun r_82 u_83 hw_84 => ?_)
                  rcases u_83 with _ | v_85
                  rotate_left
                  · exfalso
                    dsimp only at hw_84
                    obtain ⟨hw_84, -⟩ := hw_84
                    obtain ⟨h9, _⟩ := hw_84; rw [sz_20] at h9; exact absurd h9 (by decide)
                  dsimp only at hw_84
                  have hv_r_82 : r_82 = (-72) := by
                    obtain ⟨E, hw_84, hc⟩ := hw_84
                    exact lkx_r (by rw [sz_20]; decide) hw_84 hc
                  subst hv_r_82
                  refine V_bipush (v := (-72)) cx 481 rfl dL_builds_479 (by decide) ?_
                  refine V_icmp_ne cx 484 494 rfl dL_builds_481 (by decide) (fun c_481 => ?_) (fun c_481 => ?_)
                  · skip
                    exact absurd rfl c_481
                  · skip
                    refine V_aload_n cx 485 rfl dL_builds_484 4 rfl ?_
                    refine V_iconst (v := nI 0) cx 486 rfl dL_builds_485 (by decide) ?_
                    refine KL_112 (As := [.ref (h 0), .int (nI 0)]) (rest := []) cx (kL_addLink (xl X) lo G _ h np nl len fd lu tu T C F LT VV BB lt ph lh ks wd gr gs bl ie tw (nI 0) hst (by omega)) hX (by omega) rfl rfl (Nat.le_of_ble_eq_true rfl) 489 8 48 rfl rfl rfl (by omega) (by omega) dL_builds_486 (fun r_86 u_87 hw_88 => ?_)
                    rcases u_87 with _ | v_89
                    rotate_left
                    · exfalso
                      dsimp only at hw_88
                      obtain ⟨hw_88, -⟩ := hw_88
                      obtain ⟨h9, _⟩ := hw_88; rw [sz_0] at h9; exact absurd h9 (by decide)
                    dsimp only at hw_88
                    have hv_r_86 : r_86 = (-72) := by
                      obtain ⟨E, hw_88, hc⟩ := hw_88
                      exact lkx_r (by rw [sz_0]; decide) hw_88 hc
                    subst hv_r_86
                    refine V_bipush (v := (-72)) cx 491 rfl dL_builds_489 (by decide) ?_
                    refine V_icmp_eq cx 494 496 rfl dL_builds_491 (by decide) (fun c_491 => ?_) (fun c_491 => ?_)
                    · skip
                      refine V_iload cx 498 rfl dL_builds_496 1 rfl ?_
                      refine V_if_eq cx 501 518 rfl dL_builds_498 (by decide) (fun c_498 => ?_) (fun c_498 => ?_)
                      · skip
                        have n_498 := B_eq_t c_498
                        have hk9 : k = nl := by omega
                        rw [hk9] at hth
                        have hgood : 1 ≤ SZ (nI tv) 8 ∧ SZ (nI tv) 8 ≤ 2 := by rw [hSZ]; omega
                        have hpw := pu_ex hok hck (show tv < 2147483648 by omega)
                        rw [n_498] at hth
                        have hth1 : decide (nl = 6) = false ∧ exN (lU x) tv nl = false := by revert hth; cases decide (nl = 6) <;> cases exN (lU x) tv nl <;> decide
                        have hlt : nl < 6 := by have := of_decide_eq_false hth1.1; omega
                        refine V_aload cx 520 rfl dL_builds_518 12 rfl ?_
                        refine V_aload cx 522 rfl dL_builds_520 13 rfl ?_
                        refine V_iconst (v := nI 1) cx 523 rfl dL_builds_522 (by decide) ?_
                        refine V_ialdN cx 1 (rfl) (by omega) (by decide) 30 rfl 524 rfl dL_builds_523 ?_
                        refine V_toi (nI nl) (hg1) ?_
                        refine V_iload cx 526 rfl dL_builds_524 2 rfl ?_
                        refine V_iastN cx nl (rfl) (by omega) (by decide) 25 rfl (cW G h np nl len fd lu tu T C F LT VV BB lt ph lh ks wd gr gs bl ie tw ++ (lW G h qt qc qf qb (upd ql nl (nI tv)) qa qd qw qh qg ++ rs)) rfl 527 rfl dL_builds_526 ?_
                        refine V_aload cx 529 rfl dL_builds_527 13 rfl ?_
                        refine V_iconst (v := nI 1) cx 530 rfl dL_builds_529 (by decide) ?_
                        refine V_dup2 cx 531 rfl dL_builds_530 rfl rfl ?_
                        refine V_ialdN cx 1 (rfl) (by omega) (by decide) 30 rfl 532 rfl dL_builds_531 ?_
                        refine V_toi (nI nl) (hg1) ?_
                        refine V_iconst (v := nI 1) cx 533 rfl dL_builds_532 (by decide) ?_
                        refine V_iadd cx 534 rfl dL_builds_533 ?_
                        refine V_toi (nI (nl + 1)) (nI_add _ _) ?_
                        refine V_iastN cx 1 (rfl) (by omega) (by decide) 30 rfl (cW G h np nl len fd lu tu T C F LT VV BB lt ph lh ks wd gr gs bl ie tw ++ (lW G h qt qc qf qb (upd ql nl (nI tv)) qa qd qw qh (upd qg 1 (nI (nl + 1))) ++ rs)) rfl 535 rfl dL_builds_534 ?_
                        refine V_aload_n cx 536 rfl dL_builds_535 4 rfl ?_
                        refine V_iload cx 538 rfl dL_builds_536 2 rfl ?_
                        refine KL_112 (As := [.ref (h 0), .int (nI tv)]) (rest := []) cx (kL_addLink (xl X) lo G _ h np nl len fd lu tu T C F LT VV BB lt ph lh ks wd gr gs bl ie tw (nI tv) hst (by omega)) hX (by omega) rfl rfl (Nat.le_of_ble_eq_true rfl) 541 10 60 rfl rfl rfl (by omega) (by omega) dL_builds_538 (fun r_90 u_91 hw_92 => ?_)
                        rcases u_91 with _ | v_93
                        · exfalso
                          dsimp only at hw_92
                          obtain ⟨E, hw_92, -⟩ := hw_92
                          rcases hw_92 with ⟨_, h9⟩ | ⟨_, _, h9 | h9⟩; exact h9 hgood; omega; exact h9 (hpw.mpr hth1.2)
                        dsimp only at hw_92
                        obtain ⟨hw_92, hv_94⟩ := hw_92
                        subst hv_94
                        refine V_toi (nI nl) (hw_92.2.2.2) ?_
                        refine V_aload cx 543 rfl dL_builds_541 13 rfl ?_
                        refine V_iconst (v := nI 1) cx 544 rfl dL_builds_543 (by decide) ?_
                        refine V_ialdN cx 1 (rfl) (by omega) (by decide) 30 rfl 545 rfl dL_builds_544 ?_
                        refine V_toi (nI (nl + 1)) (upd_s _ _ _) ?_
                        refine V_iconst (v := nI 1) cx 546 rfl dL_builds_545 (by decide) ?_
                        refine V_isub cx 547 rfl dL_builds_546 ?_
                        refine V_toi (nI nl) (nI_subN (by omega)) ?_
                        refine V_icmp_ne cx 550 554 rfl dL_builds_547 (by decide) (fun c_547 => ?_) (fun c_547 => ?_)
                        · skip
                          exact absurd rfl c_547
                        · skip
                          refine V_iconst (v := nI 1) cx 551 rfl dL_builds_550 (by decide) ?_
                          refine V_goto cx 555 dL_builds_551 (by decide) ?_
                          exact V_zreturn cx hr (by first | rfl | exact bI_z _) (np, nl + 1, tu, T, C, F, upd LT nl (nI tv), VV, BB, bl, ie, qt, qc, qf, qb, upd ql nl (nI tv), upd qg 1 (nI (nl + 1))) (⟨rfl, LI_addLink hLI hw_92⟩) rfl (by omega) (by omega) dL_builds_555
                      · skip
                        have n_498 := B_eq_f c_498
                        have hk9 : k = nl := by omega
                        rw [hk9] at hth
                        have hgood : 1 ≤ SZ (nI tv) 8 ∧ SZ (nI tv) 8 ≤ 2 := by rw [hSZ]; omega
                        have hpw := pu_ex hok hck (show tv < 2147483648 by omega)
                        rw [n_498] at hth
                        have hful : nl = 6 ∨ ¬ oI (pwI LT (nI tv) nl) = -1 := by
                          rcases (show decide (nl = 6) = true ∨ exN (lU x) tv nl = true by revert hth; cases decide (nl = 6) <;> cases exN (lU x) tv nl <;> decide) with h9 | h9
                          · exact Or.inl (of_decide_eq_true h9)
                          · exact Or.inr (fun h8 => by rw [hpw.mp h8] at h9; cases h9)
                        refine V_aload_n cx 502 rfl dL_builds_501 4 rfl ?_
                        refine V_iload cx 504 rfl dL_builds_502 2 rfl ?_
                        refine KL_112 (As := [.ref (h 0), .int (nI tv)]) (rest := []) cx (kL_addLink (xl X) lo G _ h np nl len fd lu tu T C F LT VV BB lt ph lh ks wd gr gs bl ie tw (nI tv) hst (by omega)) hX (by omega) rfl rfl (Nat.le_of_ble_eq_true rfl) 507 10 60 rfl rfl rfl (by omega) (by omega) dL_builds_504 (fun r_95 u_96 hw_97 => ?_)
                        rcases u_96 with _ | v_98
                        rotate_left
                        · exfalso
                          dsimp only at hw_97
                          obtain ⟨hw_97, -⟩ := hw_97
                          rcases hful with h9 | h9; (have := hw_97.2.1; omega); exact h9 hw_97.2.2.1
                        dsimp only at hw_97
                        have hv_r_95 : r_95 = (-73) := by
                          obtain ⟨E, hw_97, hc⟩ := hw_97
                          exact lkx_s hgood hw_97 hc
                        subst hv_r_95
                        refine V_bipush (v := (-73)) cx 509 rfl dL_builds_507 (by decide) ?_
                        refine V_icmp_ne cx 512 516 rfl dL_builds_509 (by decide) (fun c_509 => ?_) (fun c_509 => ?_)
                        · skip
                          exact absurd rfl c_509
                        · skip
                          refine V_iconst (v := nI 1) cx 513 rfl dL_builds_512 (by decide) ?_
                          refine V_goto cx 517 dL_builds_513 (by decide) ?_
                          exact V_zreturn cx hr (by first | rfl | exact bI_z _) (np, nl, tu, T, C, F, LT, VV, BB, bl, ie, qt, qc, qf, qb, ql, qg) (⟨rfl, x, hLI⟩) rfl (by omega) (by omega) dL_builds_517
                    · skip
                      exact absurd rfl c_491
            · skip
              have n_422 : k < nl := N_ge_f (by omega) (by omega) c_422
              have join_442 : ∀ (bz : Bool), (bz = decide (lU x k = tv)) → V X lo 16 G (Qi X lo G (fun (r : Int32) ((np1, nl1, tu1, T1, C1, F1, LT1, VV1, BB1, bl1, ie1, qt1, qc1, qf1, qb1, ql1, qg1) : (Nat) × (Nat) × (Nat) × (Nat → Int32) × (Nat → Int32) × (Nat → Int32) × (Nat → Int32) × (Nat → Int32) × (Nat → Int32) × (Nat → Int32) × (Nat → Int32) × (Nat → Int32) × (Nat → Int32) × (Nat → Int32) × (Nat → Int32) × (Nat → Int32) × (Nat → Int32)) => r = nI 1 ∧ (∃ y_, LI y_ np1 nl1 lu tu1 T1 C1 F1 LT1 VV1 BB1 wd gr gs bl1 ie1 qt1 qc1 qf1 qb1 ql1 qw qh qg1)) (fun ((np1, nl1, tu1, T1, C1, F1, LT1, VV1, BB1, bl1, ie1, qt1, qc1, qf1, qb1, ql1, qg1) : (Nat) × (Nat) × (Nat) × (Nat → Int32) × (Nat → Int32) × (Nat → Int32) × (Nat → Int32) × (Nat → Int32) × (Nat → Int32) × (Nat → Int32) × (Nat → Int32) × (Nat → Int32) × (Nat → Int32) × (Nat → Int32) × (Nat → Int32) × (Nat → Int32) × (Nat → Int32)) => cW G h np1 nl1 len fd lu tu1 T1 C1 F1 LT1 VV1 BB1 lt ph lh ks wd gr gs bl1 ie1 tw ++ (lW G h qt1 qc1 qf1 qb1 ql1 qa qd qw qh qg1 ++ rs)) 24 144) 0 0 (cW G h np nl len fd lu tu T C F LT VV BB lt ph lh ks wd gr gs bl ie tw ++ (lW G h qt qc qf qb ql qa qd qw qh qg ++ rs)) [(13, .int (nI k)), (12, .int (bI th)), (11, .int (nI tv)), (10, .int (nI pt)), (0, .ref (h 0)), (1, .int (nI act)), (2, .int y), (3, .int z), (4, .ref (h 21)), (5, .ref (h 22)), (6, .ref (h 23)), (7, .ref (h 24)), (8, .ref (h 25)), (9, .ref (h 30))] [.int (bI bz), .int (bI th)] 442 := by
                intro bz hbz
                refine V_ior cx 443 rfl dL_builds_442 ?_
                refine V_toi (bI (th || bz)) (bI_or _ _) ?_
                refine V_istore (lc1 := [(12, .int (bI (th || bz))), (13, .int (nI k)), (11, .int (nI tv)), (10, .int (nI pt)), (0, .ref (h 0)), (1, .int (nI act)), (2, .int y), (3, .int z), (4, .ref (h 21)), (5, .ref (h 22)), (6, .ref (h 23)), (7, .ref (h 24)), (8, .ref (h 25)), (9, .ref (h 30))]) cx 445 rfl dL_builds_443 (by decide) rfl ?_
                refine V_iinc (v := nI (k + 1)) (lc1 := [(13, .int (nI (k + 1))), (12, .int (bI (th || bz))), (11, .int (nI tv)), (10, .int (nI pt)), (0, .ref (h 0)), (1, .int (nI act)), (2, .int y), (3, .int z), (4, .ref (h 21)), (5, .ref (h 22)), (6, .ref (h 23)), (7, .ref (h 24)), (8, .ref (h 25)), (9, .ref (h 30))]) cx 448 rfl dL_builds_445 1 rfl (nI_inc k 1) (by decide) rfl ?_
                refine V_goto cx 416 dL_builds_448 (by decide) ?_
                refine V.locs [0, 1, 2, 3, 4, 5, 6, 7, 8, 9, 10, 11, 12, 13] rfl ?_
                exact ih_416 (k + 1) (th || bz) (by omega) (by rw [hth, hbz]; exact Bool.or_assoc _ _ _) (by omega)
              refine V_iload cx 427 rfl dL_builds_425 1 rfl ?_
              refine V_aload cx 429 rfl dL_builds_427 12 rfl ?_
              refine V_iload cx 431 rfl dL_builds_429 0 rfl ?_
              refine V_ialdN cx k (rfl) (by omega) (by decide) 25 rfl 432 rfl dL_builds_431 ?_
              refine V_toi (nI (lU x k)) (hq.2.2.2.2 k (by omega)) ?_
              refine V_iload cx 434 rfl dL_builds_432 2 rfl ?_
              refine V_icmp_ne cx 437 441 rfl dL_builds_434 (by decide) (fun c_434 => ?_) (fun c_434 => ?_)
              · skip
                have hib := hok.u (show k < lNl x by omega)
                have n_434 : lU x k ≠ tv := N_ne_t (by omega) (by omega) c_434
                refine V_iconst (v := nI 0) cx 442 rfl dL_builds_441 (by decide) ?_
                refine V.locs [0, 1, 2, 3, 4, 5, 6, 7, 8, 9, 10, 11, 12, 13] rfl ?_
                exact join_442 false (by first | exact (decide_eq_true n_434).symm | exact (decide_eq_false n_434).symm)
              · skip
                have hib := hok.u (show k < lNl x by omega)
                have n_434 : lU x k = tv := N_ne_f (by omega) (by omega) c_434
                refine V_iconst (v := nI 1) cx 438 rfl dL_builds_437 (by decide) ?_
                refine V_goto cx 442 dL_builds_438 (by decide) ?_
                refine V.locs [0, 1, 2, 3, 4, 5, 6, 7, 8, 9, 10, 11, 12, 13] rfl ?_
                exact join_442 true (by first | exact (decide_eq_true n_434).symm | exact (decide_eq_false n_434).symm)
        refine V.locs [0, 1, 2, 3, 4, 5, 6, 7, 8, 9, 10, 11, 12, 13] rfl ?_
        exact loop_416 _ 0 th0 (by omega) (by rw [hth0]; exact (Bool.or_false _).symm) (Nat.lt_succ_self _)
      refine V_aload cx 399 rfl dL_builds_397 11 rfl ?_
      refine V_iconst (v := nI 1) cx 400 rfl dL_builds_399 (by decide) ?_
      refine V_ialdN cx 1 (rfl) (by omega) (by decide) 30 rfl 401 rfl dL_builds_400 ?_
      refine V_toi (nI nl) (hg1) ?_
      refine V_bipush (v := nI 6) cx 403 rfl dL_builds_401 (by decide) ?_
      refine V_icmp_ne cx 406 410 rfl dL_builds_403 (by decide) (fun c_403 => ?_) (fun c_403 => ?_)
      · skip
        have n_403 : nl ≠ 6 := N_ne_t (by omega) (by omega) c_403
        refine V_iconst (v := nI 0) cx 411 rfl dL_builds_410 (by decide) ?_
        refine V.locs [0, 1, 2, 3, 4, 5, 6, 7, 8, 9, 10, 11] rfl ?_
        exact join_411 false (by first | exact (decide_eq_true (show nl = 6 by omega)).symm | exact (decide_eq_false (show ¬ nl = 6 by omega)).symm)
      · skip
        have n_403 : nl = 6 := N_ne_f (by omega) (by omega) c_403
        refine V_iconst (v := nI 1) cx 407 rfl dL_builds_406 (by decide) ?_
        refine V_goto cx 411 dL_builds_407 (by decide) ?_
        refine V.locs [0, 1, 2, 3, 4, 5, 6, 7, 8, 9, 10, 11] rfl ?_
        exact join_411 true (by first | exact (decide_eq_true (show nl = 6 by omega)).symm | exact (decide_eq_false (show ¬ nl = 6 by omega)).symm)
  · skip
    have n_15 : act < 7 := N_ge_f (by omega) (by omega) c_15
    refine V_iload_n cx 19 rfl dL_builds_18 4 rfl ?_
    refine V_iconst (v := nI 4) cx 20 rfl dL_builds_19 (by decide) ?_
    refine KL_104 (As := [.int z, .int (nI 4)]) (rest := []) cx (kL_text (xl X) lo G _ z 4 (by omega)) hX (by omega) rfl rfl (Nat.le_of_ble_eq_true rfl) 23 0 0 rfl rfl rfl (by omega) (by omega) dL_builds_20 (fun r_99 u_100 hw_101 => ?_)
    try dsimp only at hw_101
    obtain ⟨tv, tn, hre, hn1, hn2, hv1, hv2⟩ := hw_101
    refine V_toi (nI tv) (hre) ?_
    have htvb : tv < 20000 := by have := p10_le hn2; omega
    have hSZ := word_SZ hv1 hv2 (show 1 ≤ tn ∧ tn ≤ 8 by omega)
    refine V_istore (lc1 := [(11, .int (nI tv)), (10, .int (nI pt)), (0, .ref (h 0)), (1, .int (nI act)), (2, .int y), (3, .int z), (4, .ref (h 21)), (5, .ref (h 22)), (6, .ref (h 23)), (7, .ref (h 24)), (8, .ref (h 25)), (9, .ref (h 30))]) cx 25 rfl dL_builds_23 (by decide) rfl ?_
    have join_80 : ∀ (cv : Nat), (1 ≤ cv ∧ cv ≤ 9999) → V X lo 16 G (Qi X lo G (fun (r : Int32) ((np1, nl1, tu1, T1, C1, F1, LT1, VV1, BB1, bl1, ie1, qt1, qc1, qf1, qb1, ql1, qg1) : (Nat) × (Nat) × (Nat) × (Nat → Int32) × (Nat → Int32) × (Nat → Int32) × (Nat → Int32) × (Nat → Int32) × (Nat → Int32) × (Nat → Int32) × (Nat → Int32) × (Nat → Int32) × (Nat → Int32) × (Nat → Int32) × (Nat → Int32) × (Nat → Int32) × (Nat → Int32)) => r = nI 1 ∧ (∃ y_, LI y_ np1 nl1 lu tu1 T1 C1 F1 LT1 VV1 BB1 wd gr gs bl1 ie1 qt1 qc1 qf1 qb1 ql1 qw qh qg1)) (fun ((np1, nl1, tu1, T1, C1, F1, LT1, VV1, BB1, bl1, ie1, qt1, qc1, qf1, qb1, ql1, qg1) : (Nat) × (Nat) × (Nat) × (Nat → Int32) × (Nat → Int32) × (Nat → Int32) × (Nat → Int32) × (Nat → Int32) × (Nat → Int32) × (Nat → Int32) × (Nat → Int32) × (Nat → Int32) × (Nat → Int32) × (Nat → Int32) × (Nat → Int32) × (Nat → Int32) × (Nat → Int32)) => cW G h np1 nl1 len fd lu tu1 T1 C1 F1 LT1 VV1 BB1 lt ph lh ks wd gr gs bl1 ie1 tw ++ (lW G h qt1 qc1 qf1 qb1 ql1 qa qd qw qh qg1 ++ rs)) 24 144) 0 0 (cW G h np nl len fd lu tu T C F LT VV BB lt ph lh ks wd gr gs bl ie tw ++ (lW G h qt qc qf qb ql qa qd qw qh qg ++ rs)) [(11, .int (nI tv)), (10, .int (nI pt)), (0, .ref (h 0)), (1, .int (nI act)), (2, .int y), (3, .int z), (4, .ref (h 21)), (5, .ref (h 22)), (6, .ref (h 23)), (7, .ref (h 24)), (8, .ref (h 25)), (9, .ref (h 30))] [.int (nI cv)] 80 := by
      intro cv hcv
      refine V_istore (lc1 := [(12, .int (nI cv)), (11, .int (nI tv)), (10, .int (nI pt)), (0, .ref (h 0)), (1, .int (nI act)), (2, .int y), (3, .int z), (4, .ref (h 21)), (5, .ref (h 22)), (6, .ref (h 23)), (7, .ref (h 24)), (8, .ref (h 25)), (9, .ref (h 30))]) cx 82 rfl dL_builds_80 (by decide) rfl ?_
      have join_105 : ∀ (fl : Nat), (1 ≤ fl ∧ fl ≤ 7) → V X lo 16 G (Qi X lo G (fun (r : Int32) ((np1, nl1, tu1, T1, C1, F1, LT1, VV1, BB1, bl1, ie1, qt1, qc1, qf1, qb1, ql1, qg1) : (Nat) × (Nat) × (Nat) × (Nat → Int32) × (Nat → Int32) × (Nat → Int32) × (Nat → Int32) × (Nat → Int32) × (Nat → Int32) × (Nat → Int32) × (Nat → Int32) × (Nat → Int32) × (Nat → Int32) × (Nat → Int32) × (Nat → Int32) × (Nat → Int32) × (Nat → Int32)) => r = nI 1 ∧ (∃ y_, LI y_ np1 nl1 lu tu1 T1 C1 F1 LT1 VV1 BB1 wd gr gs bl1 ie1 qt1 qc1 qf1 qb1 ql1 qw qh qg1)) (fun ((np1, nl1, tu1, T1, C1, F1, LT1, VV1, BB1, bl1, ie1, qt1, qc1, qf1, qb1, ql1, qg1) : (Nat) × (Nat) × (Nat) × (Nat → Int32) × (Nat → Int32) × (Nat → Int32) × (Nat → Int32) × (Nat → Int32) × (Nat → Int32) × (Nat → Int32) × (Nat → Int32) × (Nat → Int32) × (Nat → Int32) × (Nat → Int32) × (Nat → Int32) × (Nat → Int32) × (Nat → Int32)) => cW G h np1 nl1 len fd lu tu1 T1 C1 F1 LT1 VV1 BB1 lt ph lh ks wd gr gs bl1 ie1 tw ++ (lW G h qt1 qc1 qf1 qb1 ql1 qa qd qw qh qg1 ++ rs)) 24 144) 0 0 (cW G h np nl len fd lu tu T C F LT VV BB lt ph lh ks wd gr gs bl ie tw ++ (lW G h qt qc qf qb ql qa qd qw qh qg ++ rs)) [(12, .int (nI cv)), (11, .int (nI tv)), (10, .int (nI pt)), (0, .ref (h 0)), (1, .int (nI act)), (2, .int y), (3, .int z), (4, .ref (h 21)), (5, .ref (h 22)), (6, .ref (h 23)), (7, .ref (h 24)), (8, .ref (h 25)), (9, .ref (h 30))] [.int (nI fl)] 105 := by
        intro fl hfl
        refine V_istore (lc1 := [(13, .int (nI fl)), (12, .int (nI cv)), (11, .int (nI tv)), (10, .int (nI pt)), (0, .ref (h 0)), (1, .int (nI act)), (2, .int y), (3, .int z), (4, .ref (h 21)), (5, .ref (h 22)), (6, .ref (h 23)), (7, .ref (h 24)), (8, .ref (h 25)), (9, .ref (h 30))]) cx 107 rfl dL_builds_105 (by decide) rfl ?_
        refine V_aload_n cx 108 rfl dL_builds_107 4 rfl ?_
        refine V_iconst (v := nI 1) cx 109 rfl dL_builds_108 (by decide) ?_
        refine V_iload cx 111 rfl dL_builds_109 1 rfl ?_
        refine V_iload cx 113 rfl dL_builds_111 0 rfl ?_
        refine KL_108 (As := [.ref (h 0), .int (nI 1), .int (nI cv), .int (nI fl)]) (rest := []) cx (kL_addPart (xl X) lo G _ h np nl len fd lu tu T C F LT VV BB lt ph lh ks wd gr gs bl ie tw (nI 1) (nI cv) (nI fl) (Wd (lT x) (lNp x)) hst (by omega) hTr.2 hTr.1) hX (by omega) rfl rfl (Nat.le_of_ble_eq_true rfl) 116 2 12 rfl rfl rfl (by omega) (by omega) dL_builds_113 (fun r_102 u_103 hw_104 => ?_)
        rcases u_103 with _ | ⟨tu1_105, bl1_106, ie1_107, v_108⟩
        rotate_left
        · exfalso
          dsimp only at hw_104
          obtain ⟨hw_104, -⟩ := hw_104
          exact absurd hw_104.1 (ng_t (by rw [sz_1]; decide))
        dsimp only at hw_104
        have hv_r_102 : r_102 = (-72) := by
          obtain ⟨E, hw_104, hc⟩ := hw_104
          exact addx_r (ng_t (by rw [sz_1]; decide)) hw_104 hc
        subst hv_r_102
        refine V_bipush (v := (-72)) cx 118 rfl dL_builds_116 (by decide) ?_
        refine V_icmp_ne cx 121 242 rfl dL_builds_118 (by decide) (fun c_118 => ?_) (fun c_118 => ?_)
        · skip
          exact absurd rfl c_118
        · skip
          refine V_aload_n cx 122 rfl dL_builds_121 4 rfl ?_
          refine V_iconst (v := nI 2) cx 123 rfl dL_builds_122 (by decide) ?_
          refine V_iload cx 125 rfl dL_builds_123 1 rfl ?_
          refine V_iload cx 127 rfl dL_builds_125 0 rfl ?_
          refine KL_108 (As := [.ref (h 0), .int (nI 2), .int (nI cv), .int (nI fl)]) (rest := []) cx (kL_addPart (xl X) lo G _ h np nl len fd lu tu T C F LT VV BB lt ph lh ks wd gr gs bl ie tw (nI 2) (nI cv) (nI fl) (Wd (lT x) (lNp x)) hst (by omega) hTr.2 hTr.1) hX (by omega) rfl rfl (Nat.le_of_ble_eq_true rfl) 130 4 24 rfl rfl rfl (by omega) (by omega) dL_builds_127 (fun r_109 u_110 hw_111 => ?_)
          rcases u_110 with _ | ⟨tu1_112, bl1_113, ie1_114, v_115⟩
          rotate_left
          · exfalso
            dsimp only at hw_111
            obtain ⟨hw_111, -⟩ := hw_111
            exact absurd hw_111.1 (ng_t (by rw [sz_2]; decide))
          dsimp only at hw_111
          have hv_r_109 : r_109 = (-72) := by
            obtain ⟨E, hw_111, hc⟩ := hw_111
            exact addx_r (ng_t (by rw [sz_2]; decide)) hw_111 hc
          subst hv_r_109
          refine V_bipush (v := (-72)) cx 132 rfl dL_builds_130 (by decide) ?_
          refine V_icmp_ne cx 135 242 rfl dL_builds_132 (by decide) (fun c_132 => ?_) (fun c_132 => ?_)
          · skip
            exact absurd rfl c_132
          · skip
            refine V_aload_n cx 136 rfl dL_builds_135 4 rfl ?_
            refine V_ldc (v := nI 100000) cx 138 rfl dL_builds_136 ci_L_58 ?_
            refine V_iload cx 140 rfl dL_builds_138 1 rfl ?_
            refine V_iload cx 142 rfl dL_builds_140 0 rfl ?_
            refine KL_108 (As := [.ref (h 0), .int (nI 100000), .int (nI cv), .int (nI fl)]) (rest := []) cx (kL_addPart (xl X) lo G _ h np nl len fd lu tu T C F LT VV BB lt ph lh ks wd gr gs bl ie tw (nI 100000) (nI cv) (nI fl) (Wd (lT x) (lNp x)) hst (by omega) hTr.2 hTr.1) hX (by omega) rfl rfl (Nat.le_of_ble_eq_true rfl) 145 6 36 rfl rfl rfl (by omega) (by omega) dL_builds_142 (fun r_116 u_117 hw_118 => ?_)
            rcases u_117 with _ | ⟨tu1_119, bl1_120, ie1_121, v_122⟩
            rotate_left
            · exfalso
              dsimp only at hw_118
              obtain ⟨hw_118, -⟩ := hw_118
              exact absurd hw_118.1 (ng_t (by rw [sz_5]; decide))
            dsimp only at hw_118
            have hv_r_116 : r_116 = (-72) := by
              obtain ⟨E, hw_118, hc⟩ := hw_118
              exact addx_r (ng_t (by rw [sz_5]; decide)) hw_118 hc
            subst hv_r_116
            refine V_bipush (v := (-72)) cx 147 rfl dL_builds_145 (by decide) ?_
            refine V_icmp_ne cx 150 242 rfl dL_builds_147 (by decide) (fun c_147 => ?_) (fun c_147 => ?_)
            · skip
              exact absurd rfl c_147
            · skip
              refine V_aload_n cx 151 rfl dL_builds_150 4 rfl ?_
              refine V_iload cx 153 rfl dL_builds_151 2 rfl ?_
              refine V_iconst (v := nI 0) cx 154 rfl dL_builds_153 (by decide) ?_
              refine V_iload cx 156 rfl dL_builds_154 0 rfl ?_
              refine KL_108 (As := [.ref (h 0), .int (nI tv), .int (nI 0), .int (nI fl)]) (rest := []) cx (kL_addPart (xl X) lo G _ h np nl len fd lu tu T C F LT VV BB lt ph lh ks wd gr gs bl ie tw (nI tv) (nI 0) (nI fl) (Wd (lT x) (lNp x)) hst (by omega) hTr.2 hTr.1) hX (by omega) rfl rfl (Nat.le_of_ble_eq_true rfl) 159 8 48 rfl rfl rfl (by omega) (by omega) dL_builds_156 (fun r_123 u_124 hw_125 => ?_)
              rcases u_124 with _ | ⟨tu1_126, bl1_127, ie1_128, v_129⟩
              rotate_left
              · exfalso
                dsimp only at hw_125
                obtain ⟨hw_125, -⟩ := hw_125
                exact absurd hw_125.1 (ng_c (by decide))
              dsimp only at hw_125
              have hv_r_123 : r_123 = (-72) := by
                obtain ⟨E, hw_125, hc⟩ := hw_125
                exact addx_r (ng_c (by decide)) hw_125 hc
              subst hv_r_123
              refine V_bipush (v := (-72)) cx 161 rfl dL_builds_159 (by decide) ?_
              refine V_icmp_ne cx 164 242 rfl dL_builds_161 (by decide) (fun c_161 => ?_) (fun c_161 => ?_)
              · skip
                exact absurd rfl c_161
              · skip
                refine V_aload_n cx 165 rfl dL_builds_164 4 rfl ?_
                refine V_iload cx 167 rfl dL_builds_165 2 rfl ?_
                refine V_sipush (v := nI 10000) cx 170 rfl dL_builds_167 (by decide) ?_
                refine V_iload cx 172 rfl dL_builds_170 0 rfl ?_
                refine KL_108 (As := [.ref (h 0), .int (nI tv), .int (nI 10000), .int (nI fl)]) (rest := []) cx (kL_addPart (xl X) lo G _ h np nl len fd lu tu T C F LT VV BB lt ph lh ks wd gr gs bl ie tw (nI tv) (nI 10000) (nI fl) (Wd (lT x) (lNp x)) hst (by omega) hTr.2 hTr.1) hX (by omega) rfl rfl (Nat.le_of_ble_eq_true rfl) 175 10 60 rfl rfl rfl (by omega) (by omega) dL_builds_172 (fun r_130 u_131 hw_132 => ?_)
                rcases u_131 with _ | ⟨tu1_133, bl1_134, ie1_135, v_136⟩
                rotate_left
                · exfalso
                  dsimp only at hw_132
                  obtain ⟨hw_132, -⟩ := hw_132
                  exact absurd hw_132.1 (ng_c (by decide))
                dsimp only at hw_132
                have hv_r_130 : r_130 = (-72) := by
                  obtain ⟨E, hw_132, hc⟩ := hw_132
                  exact addx_r (ng_c (by decide)) hw_132 hc
                subst hv_r_130
                refine V_bipush (v := (-72)) cx 177 rfl dL_builds_175 (by decide) ?_
                refine V_icmp_ne cx 180 242 rfl dL_builds_177 (by decide) (fun c_177 => ?_) (fun c_177 => ?_)
                · skip
                  exact absurd rfl c_177
                · skip
                  refine V_aload_n cx 181 rfl dL_builds_180 4 rfl ?_
                  refine V_iload cx 183 rfl dL_builds_181 2 rfl ?_
                  refine V_iload cx 185 rfl dL_builds_183 1 rfl ?_
                  refine V_iconst (v := nI 0) cx 186 rfl dL_builds_185 (by decide) ?_
                  refine KL_108 (As := [.ref (h 0), .int (nI tv), .int (nI cv), .int (nI 0)]) (rest := []) cx (kL_addPart (xl X) lo G _ h np nl len fd lu tu T C F LT VV BB lt ph lh ks wd gr gs bl ie tw (nI tv) (nI cv) (nI 0) (Wd (lT x) (lNp x)) hst (by omega) hTr.2 hTr.1) hX (by omega) rfl rfl (Nat.le_of_ble_eq_true rfl) 189 12 72 rfl rfl rfl (by omega) (by omega) dL_builds_186 (fun r_137 u_138 hw_139 => ?_)
                  rcases u_138 with _ | ⟨tu1_140, bl1_141, ie1_142, v_143⟩
                  rotate_left
                  · exfalso
                    dsimp only at hw_139
                    obtain ⟨hw_139, -⟩ := hw_139
                    exact absurd hw_139.1 (ng_f (by decide))
                  dsimp only at hw_139
                  have hv_r_137 : r_137 = (-72) := by
                    obtain ⟨E, hw_139, hc⟩ := hw_139
                    exact addx_r (ng_f (by decide)) hw_139 hc
                  subst hv_r_137
                  refine V_bipush (v := (-72)) cx 191 rfl dL_builds_189 (by decide) ?_
                  refine V_icmp_ne cx 194 242 rfl dL_builds_191 (by decide) (fun c_191 => ?_) (fun c_191 => ?_)
                  · skip
                    exact absurd rfl c_191
                  · skip
                    refine V_aload_n cx 195 rfl dL_builds_194 4 rfl ?_
                    refine V_iload cx 197 rfl dL_builds_195 2 rfl ?_
                    refine V_iload cx 199 rfl dL_builds_197 1 rfl ?_
                    refine V_bipush (v := nI 8) cx 201 rfl dL_builds_199 (by decide) ?_
                    refine KL_108 (As := [.ref (h 0), .int (nI tv), .int (nI cv), .int (nI 8)]) (rest := []) cx (kL_addPart (xl X) lo G _ h np nl len fd lu tu T C F LT VV BB lt ph lh ks wd gr gs bl ie tw (nI tv) (nI cv) (nI 8) (Wd (lT x) (lNp x)) hst (by omega) hTr.2 hTr.1) hX (by omega) rfl rfl (Nat.le_of_ble_eq_true rfl) 204 14 84 rfl rfl rfl (by omega) (by omega) dL_builds_201 (fun r_144 u_145 hw_146 => ?_)
                    rcases u_145 with _ | ⟨tu1_147, bl1_148, ie1_149, v_150⟩
                    rotate_left
                    · exfalso
                      dsimp only at hw_146
                      obtain ⟨hw_146, -⟩ := hw_146
                      exact absurd hw_146.1 (ng_f (by decide))
                    dsimp only at hw_146
                    have hv_r_144 : r_144 = (-72) := by
                      obtain ⟨E, hw_146, hc⟩ := hw_146
                      exact addx_r (ng_f (by decide)) hw_146 hc
                    subst hv_r_144
                    refine V_bipush (v := (-72)) cx 206 rfl dL_builds_204 (by decide) ?_
                    refine V_icmp_ne cx 209 242 rfl dL_builds_206 (by decide) (fun c_206 => ?_) (fun c_206 => ?_)
                    · skip
                      exact absurd rfl c_206
                    · skip
                      refine V_aload_n cx 210 rfl dL_builds_209 4 rfl ?_
                      refine V_iload cx 212 rfl dL_builds_210 2 rfl ?_
                      refine V_ldc (v := nI 8000000) cx 214 rfl dL_builds_212 ci_L_111 ?_
                      refine V_iadd cx 215 rfl dL_builds_214 ?_
                      refine V_toi (nI (tv + 8000000)) (nI_add _ _) ?_
                      refine V_iload cx 217 rfl dL_builds_215 1 rfl ?_
                      refine V_iload cx 219 rfl dL_builds_217 0 rfl ?_
                      refine KL_108 (As := [.ref (h 0), .int (nI (tv + 8000000)), .int (nI cv), .int (nI fl)]) (rest := []) cx (kL_addPart (xl X) lo G _ h np nl len fd lu tu T C F LT VV BB lt ph lh ks wd gr gs bl ie tw (nI (tv + 8000000)) (nI cv) (nI fl) (Wd (lT x) (lNp x)) hst (by omega) hTr.2 hTr.1) hX (by omega) rfl rfl (Nat.le_of_ble_eq_true rfl) 222 16 96 rfl rfl rfl (by omega) (by omega) dL_builds_219 (fun r_151 u_152 hw_153 => ?_)
                      rcases u_152 with _ | ⟨tu1_154, bl1_155, ie1_156, v_157⟩
                      rotate_left
                      · exfalso
                        dsimp only at hw_153
                        obtain ⟨hw_153, -⟩ := hw_153
                        exact absurd hw_153.1 (ng_t (by rw [sz_8m htvb]; decide))
                      dsimp only at hw_153
                      have hv_r_151 : r_151 = (-72) := by
                        obtain ⟨E, hw_153, hc⟩ := hw_153
                        exact addx_r (ng_t (by rw [sz_8m htvb]; decide)) hw_153 hc
                      subst hv_r_151
                      refine V_bipush (v := (-72)) cx 224 rfl dL_builds_222 (by decide) ?_
                      refine V_icmp_ne cx 227 242 rfl dL_builds_224 (by decide) (fun c_224 => ?_) (fun c_224 => ?_)
                      · skip
                        exact absurd rfl c_224
                      · skip
                        refine V_aload_n cx 228 rfl dL_builds_227 4 rfl ?_
                        refine V_bipush (v := (-12)) cx 230 rfl dL_builds_228 (by decide) ?_
                        refine V_iload cx 232 rfl dL_builds_230 1 rfl ?_
                        refine V_iload cx 234 rfl dL_builds_232 0 rfl ?_
                        refine KL_108 (As := [.ref (h 0), .int (-12), .int (nI cv), .int (nI fl)]) (rest := []) cx (kL_addPart (xl X) lo G _ h np nl len fd lu tu T C F LT VV BB lt ph lh ks wd gr gs bl ie tw (-12) (nI cv) (nI fl) (Wd (lT x) (lNp x)) hst (by omega) hTr.2 hTr.1) hX (by omega) rfl rfl (Nat.le_of_ble_eq_true rfl) 237 18 108 rfl rfl rfl (by omega) (by omega) dL_builds_234 (fun r_158 u_159 hw_160 => ?_)
                        rcases u_159 with _ | ⟨tu1_161, bl1_162, ie1_163, v_164⟩
                        rotate_left
                        · exfalso
                          dsimp only at hw_160
                          obtain ⟨hw_160, -⟩ := hw_160
                          exact absurd hw_160.1 (ng_t (by rw [sz_m12]; decide))
                        dsimp only at hw_160
                        have hv_r_158 : r_158 = (-72) := by
                          obtain ⟨E, hw_160, hc⟩ := hw_160
                          exact addx_r (ng_t (by rw [sz_m12]; decide)) hw_160 hc
                        subst hv_r_158
                        refine V_bipush (v := (-72)) cx 239 rfl dL_builds_237 (by decide) ?_
                        refine V_icmp_eq cx 242 244 rfl dL_builds_239 (by decide) (fun c_239 => ?_) (fun c_239 => ?_)
                        · skip
                          have join_258 : ∀ (th0 : Bool), (th0 = decide (np = 16)) → V X lo 16 G (Qi X lo G (fun (r : Int32) ((np1, nl1, tu1, T1, C1, F1, LT1, VV1, BB1, bl1, ie1, qt1, qc1, qf1, qb1, ql1, qg1) : (Nat) × (Nat) × (Nat) × (Nat → Int32) × (Nat → Int32) × (Nat → Int32) × (Nat → Int32) × (Nat → Int32) × (Nat → Int32) × (Nat → Int32) × (Nat → Int32) × (Nat → Int32) × (Nat → Int32) × (Nat → Int32) × (Nat → Int32) × (Nat → Int32) × (Nat → Int32)) => r = nI 1 ∧ (∃ y_, LI y_ np1 nl1 lu tu1 T1 C1 F1 LT1 VV1 BB1 wd gr gs bl1 ie1 qt1 qc1 qf1 qb1 ql1 qw qh qg1)) (fun ((np1, nl1, tu1, T1, C1, F1, LT1, VV1, BB1, bl1, ie1, qt1, qc1, qf1, qb1, ql1, qg1) : (Nat) × (Nat) × (Nat) × (Nat → Int32) × (Nat → Int32) × (Nat → Int32) × (Nat → Int32) × (Nat → Int32) × (Nat → Int32) × (Nat → Int32) × (Nat → Int32) × (Nat → Int32) × (Nat → Int32) × (Nat → Int32) × (Nat → Int32) × (Nat → Int32) × (Nat → Int32)) => cW G h np1 nl1 len fd lu tu1 T1 C1 F1 LT1 VV1 BB1 lt ph lh ks wd gr gs bl1 ie1 tw ++ (lW G h qt1 qc1 qf1 qb1 ql1 qa qd qw qh qg1 ++ rs)) 24 144) 18 108 (cW G h np nl len fd lu tu T C F LT VV BB lt ph lh ks wd gr gs bl ie tw ++ (lW G h qt qc qf qb ql qa qd qw qh qg ++ rs)) [(13, .int (nI fl)), (12, .int (nI cv)), (11, .int (nI tv)), (10, .int (nI pt)), (0, .ref (h 0)), (1, .int (nI act)), (2, .int y), (3, .int z), (4, .ref (h 21)), (5, .ref (h 22)), (6, .ref (h 23)), (7, .ref (h 24)), (8, .ref (h 25)), (9, .ref (h 30))] [.int (bI th0)] 258 := by
                            intro th0 hth0
                            refine V_istore (lc1 := [(14, .int (bI th0)), (13, .int (nI fl)), (12, .int (nI cv)), (11, .int (nI tv)), (10, .int (nI pt)), (0, .ref (h 0)), (1, .int (nI act)), (2, .int y), (3, .int z), (4, .ref (h 21)), (5, .ref (h 22)), (6, .ref (h 23)), (7, .ref (h 24)), (8, .ref (h 25)), (9, .ref (h 30))]) cx 260 rfl dL_builds_258 (by decide) rfl ?_
                            refine V_iconst (v := nI 0) cx 261 rfl dL_builds_260 (by decide) ?_
                            refine V_istore (lc1 := [(15, .int (nI 0)), (14, .int (bI th0)), (13, .int (nI fl)), (12, .int (nI cv)), (11, .int (nI tv)), (10, .int (nI pt)), (0, .ref (h 0)), (1, .int (nI act)), (2, .int y), (3, .int z), (4, .ref (h 21)), (5, .ref (h 22)), (6, .ref (h 23)), (7, .ref (h 24)), (8, .ref (h 25)), (9, .ref (h 30))]) cx 263 rfl dL_builds_261 (by decide) rfl ?_
                            have loop_263 : ∀ (fuel : Nat) (k : Nat) (th : Bool), (k ≤ np) → (th = (decide (np = 16) || exN (lT x) tv k)) → np - k < fuel → V X lo 16 G (Qi X lo G (fun (r : Int32) ((np1, nl1, tu1, T1, C1, F1, LT1, VV1, BB1, bl1, ie1, qt1, qc1, qf1, qb1, ql1, qg1) : (Nat) × (Nat) × (Nat) × (Nat → Int32) × (Nat → Int32) × (Nat → Int32) × (Nat → Int32) × (Nat → Int32) × (Nat → Int32) × (Nat → Int32) × (Nat → Int32) × (Nat → Int32) × (Nat → Int32) × (Nat → Int32) × (Nat → Int32) × (Nat → Int32) × (Nat → Int32)) => r = nI 1 ∧ (∃ y_, LI y_ np1 nl1 lu tu1 T1 C1 F1 LT1 VV1 BB1 wd gr gs bl1 ie1 qt1 qc1 qf1 qb1 ql1 qw qh qg1)) (fun ((np1, nl1, tu1, T1, C1, F1, LT1, VV1, BB1, bl1, ie1, qt1, qc1, qf1, qb1, ql1, qg1) : (Nat) × (Nat) × (Nat) × (Nat → Int32) × (Nat → Int32) × (Nat → Int32) × (Nat → Int32) × (Nat → Int32) × (Nat → Int32) × (Nat → Int32) × (Nat → Int32) × (Nat → Int32) × (Nat → Int32) × (Nat → Int32) × (Nat → Int32) × (Nat → Int32) × (Nat → Int32)) => cW G h np1 nl1 len fd lu tu1 T1 C1 F1 LT1 VV1 BB1 lt ph lh ks wd gr gs bl1 ie1 tw ++ (lW G h qt1 qc1 qf1 qb1 ql1 qa qd qw qh qg1 ++ rs)) 24 144) 18 108 (cW G h np nl len fd lu tu T C F LT VV BB lt ph lh ks wd gr gs bl ie tw ++ (lW G h qt qc qf qb ql qa qd qw qh qg ++ rs)) [(15, .int (nI k)), (14, .int (bI th)), (13, .int (nI fl)), (12, .int (nI cv)), (11, .int (nI tv)), (10, .int (nI pt)), (0, .ref (h 0)), (1, .int (nI act)), (2, .int y), (3, .int z), (4, .ref (h 21)), (5, .ref (h 22)), (6, .ref (h 23)), (7, .ref (h 24)), (8, .ref (h 25)), (9, .ref (h 30))] [] 263 := by
                              intro fuel
                              induction fuel with
                              | zero => intro k th hk hth hmz; exact absurd hmz (Nat.not_lt_zero _)
                              | succ fuel ih_263 =>
                                intro k th hk hth hmz_263
                                refine V_iload cx 265 rfl dL_builds_263 0 rfl ?_
                                refine V_aload cx 267 rfl dL_builds_265 15 rfl ?_
                                refine V_iconst (v := nI 0) cx 268 rfl dL_builds_267 (by decide) ?_
                                refine V_ialdN cx 0 (rfl) (by omega) (by decide) 30 rfl 269 rfl dL_builds_268 ?_
                                refine V_toi (nI np) (hg0) ?_
                                refine V_icmp_ge cx 272 298 rfl dL_builds_269 (by decide) (fun c_269 => ?_) (fun c_269 => ?_)
                                · skip
                                  have n_269 : k ≥ np := N_ge_t (by omega) (by omega) c_269
                                  refine V_iload cx 300 rfl dL_builds_298 1 rfl ?_
                                  refine V_if_eq cx 303 324 rfl dL_builds_300 (by decide) (fun c_300 => ?_) (fun c_300 => ?_)
                                  · skip
                                    have n_300 := B_eq_t c_300
                                    have hk9 : k = np := by omega
                                    rw [hk9] at hth
                                    have hgood : goodC (nI tv) (nI cv) (nI fl) := ⟨by rw [hSZ]; omega, ⟨nI_le (by omega) (by omega), nI_le (by omega) (by omega)⟩, nI_le (by omega) (by omega), nI_le (by omega) (by omega)⟩
                                    have hpw := pw_ex hok hck (show tv < 2147483648 by omega)
                                    rw [n_300] at hth
                                    have hth1 : decide (np = 16) = false ∧ exN (lT x) tv np = false := by revert hth; cases decide (np = 16) <;> cases exN (lT x) tv np <;> decide
                                    have hlt : np < 16 := by have := of_decide_eq_false hth1.1; omega
                                    refine V_aload cx 326 rfl dL_builds_324 10 rfl ?_
                                    refine V_aload cx 328 rfl dL_builds_326 15 rfl ?_
                                    refine V_iconst (v := nI 0) cx 329 rfl dL_builds_328 (by decide) ?_
                                    refine V_ialdN cx 0 (rfl) (by omega) (by decide) 30 rfl 330 rfl dL_builds_329 ?_
                                    refine V_toi (nI np) (hg0) ?_
                                    refine V_iload cx 332 rfl dL_builds_330 4 rfl ?_
                                    refine V_iastN cx np (rfl) (by omega) (by decide) 21 rfl (cW G h np nl len fd lu tu T C F LT VV BB lt ph lh ks wd gr gs bl ie tw ++ (lW G h (upd qt np (nI tv)) qc qf qb ql qa qd qw qh qg ++ rs)) rfl 333 rfl dL_builds_332 ?_
                                    refine V_aload cx 335 rfl dL_builds_333 11 rfl ?_
                                    refine V_aload cx 337 rfl dL_builds_335 15 rfl ?_
                                    refine V_iconst (v := nI 0) cx 338 rfl dL_builds_337 (by decide) ?_
                                    refine V_ialdN cx 0 (rfl) (by omega) (by decide) 30 rfl 339 rfl dL_builds_338 ?_
                                    refine V_toi (nI np) (hg0) ?_
                                    refine V_iload cx 341 rfl dL_builds_339 3 rfl ?_
                                    refine V_iastN cx np (rfl) (by omega) (by decide) 22 rfl (cW G h np nl len fd lu tu T C F LT VV BB lt ph lh ks wd gr gs bl ie tw ++ (lW G h (upd qt np (nI tv)) (upd qc np (nI cv)) qf qb ql qa qd qw qh qg ++ rs)) rfl 342 rfl dL_builds_341 ?_
                                    refine V_aload cx 344 rfl dL_builds_342 12 rfl ?_
                                    refine V_aload cx 346 rfl dL_builds_344 15 rfl ?_
                                    refine V_iconst (v := nI 0) cx 347 rfl dL_builds_346 (by decide) ?_
                                    refine V_ialdN cx 0 (rfl) (by omega) (by decide) 30 rfl 348 rfl dL_builds_347 ?_
                                    refine V_toi (nI np) (hg0) ?_
                                    refine V_iload cx 350 rfl dL_builds_348 2 rfl ?_
                                    refine V_iastN cx np (rfl) (by omega) (by decide) 23 rfl (cW G h np nl len fd lu tu T C F LT VV BB lt ph lh ks wd gr gs bl ie tw ++ (lW G h (upd qt np (nI tv)) (upd qc np (nI cv)) (upd qf np (nI fl)) qb ql qa qd qw qh qg ++ rs)) rfl 351 rfl dL_builds_350 ?_
                                    refine V_aload cx 353 rfl dL_builds_351 15 rfl ?_
                                    refine V_iconst (v := nI 0) cx 354 rfl dL_builds_353 (by decide) ?_
                                    refine V_dup2 cx 355 rfl dL_builds_354 rfl rfl ?_
                                    refine V_ialdN cx 0 (rfl) (by omega) (by decide) 30 rfl 356 rfl dL_builds_355 ?_
                                    refine V_toi (nI np) (hg0) ?_
                                    refine V_iconst (v := nI 1) cx 357 rfl dL_builds_356 (by decide) ?_
                                    refine V_iadd cx 358 rfl dL_builds_357 ?_
                                    refine V_toi (nI (np + 1)) (nI_add _ _) ?_
                                    refine V_iastN cx 0 (rfl) (by omega) (by decide) 30 rfl (cW G h np nl len fd lu tu T C F LT VV BB lt ph lh ks wd gr gs bl ie tw ++ (lW G h (upd qt np (nI tv)) (upd qc np (nI cv)) (upd qf np (nI fl)) qb ql qa qd qw qh (upd qg 0 (nI (np + 1))) ++ rs)) rfl 359 rfl dL_builds_358 ?_
                                    refine V_aload_n cx 360 rfl dL_builds_359 6 rfl ?_
                                    refine V_iload cx 362 rfl dL_builds_360 4 rfl ?_
                                    refine V_iload cx 364 rfl dL_builds_362 3 rfl ?_
                                    refine V_iload cx 366 rfl dL_builds_364 2 rfl ?_
                                    refine KL_108 (As := [.ref (h 0), .int (nI tv), .int (nI cv), .int (nI fl)]) (rest := []) cx (kL_addPart (xl X) lo G _ h np nl len fd lu tu T C F LT VV BB lt ph lh ks wd gr gs bl ie tw (nI tv) (nI cv) (nI fl) (Wd (lT x) (lNp x)) hst (by omega) hTr.2 hTr.1) hX (by omega) rfl rfl (Nat.le_of_ble_eq_true rfl) 369 20 120 rfl rfl rfl (by omega) (by omega) dL_builds_366 (fun r_165 u_166 hw_167 => ?_)
                                    rcases u_166 with _ | ⟨tu1_168, bl1_169, ie1_170, v_171⟩
                                    · exfalso
                                      dsimp only at hw_167
                                      obtain ⟨E, hw_167, -⟩ := hw_167
                                      rcases hw_167 with ⟨_, h9⟩ | ⟨_, _, h9 | h9⟩; exact h9 hgood; omega; exact h9 (hpw.mpr hth1.2)
                                    dsimp only at hw_167
                                    obtain ⟨hw_167, hv_172⟩ := hw_167
                                    subst hv_172
                                    refine V_toi (nI np) (hw_167.2.2.2.1) ?_
                                    refine V_aload cx 371 rfl dL_builds_369 15 rfl ?_
                                    refine V_iconst (v := nI 0) cx 372 rfl dL_builds_371 (by decide) ?_
                                    refine V_ialdN cx 0 (rfl) (by omega) (by decide) 30 rfl 373 rfl dL_builds_372 ?_
                                    refine V_toi (nI (np + 1)) (upd_s _ _ _) ?_
                                    refine V_iconst (v := nI 1) cx 374 rfl dL_builds_373 (by decide) ?_
                                    refine V_isub cx 375 rfl dL_builds_374 ?_
                                    refine V_toi (nI np) (nI_subN (by omega)) ?_
                                    refine V_icmp_ne cx 378 382 rfl dL_builds_375 (by decide) (fun c_375 => ?_) (fun c_375 => ?_)
                                    · skip
                                      exact absurd rfl c_375
                                    · skip
                                      refine V_iconst (v := nI 1) cx 379 rfl dL_builds_378 (by decide) ?_
                                      refine V_goto cx 383 dL_builds_379 (by decide) ?_
                                      exact V_zreturn cx hr (by first | rfl | exact bI_z _) (np + 1, nl, tu1_168, upd T np (nI tv), upd C np (nI cv), upd F np (nI fl), LT, VV, BB, bl1_169, ie1_170, upd qt np (nI tv), upd qc np (nI cv), upd qf np (nI fl), qb, ql, upd qg 0 (nI (np + 1))) (⟨rfl, LI_addPart hLI hw_167⟩) rfl (by omega) (by omega) dL_builds_383
                                  · skip
                                    have n_300 := B_eq_f c_300
                                    have hk9 : k = np := by omega
                                    rw [hk9] at hth
                                    have hgood : goodC (nI tv) (nI cv) (nI fl) := ⟨by rw [hSZ]; omega, ⟨nI_le (by omega) (by omega), nI_le (by omega) (by omega)⟩, nI_le (by omega) (by omega), nI_le (by omega) (by omega)⟩
                                    have hpw := pw_ex hok hck (show tv < 2147483648 by omega)
                                    rw [n_300] at hth
                                    have hful : np = 16 ∨ ¬ oI (pwI T (nI tv) np) = -1 := by
                                      rcases (show decide (np = 16) = true ∨ exN (lT x) tv np = true by revert hth; cases decide (np = 16) <;> cases exN (lT x) tv np <;> decide) with h9 | h9
                                      · exact Or.inl (of_decide_eq_true h9)
                                      · exact Or.inr (fun h8 => by rw [hpw.mp h8] at h9; cases h9)
                                    refine V_aload_n cx 304 rfl dL_builds_303 6 rfl ?_
                                    refine V_iload cx 306 rfl dL_builds_304 4 rfl ?_
                                    refine V_iload cx 308 rfl dL_builds_306 3 rfl ?_
                                    refine V_iload cx 310 rfl dL_builds_308 2 rfl ?_
                                    refine KL_108 (As := [.ref (h 0), .int (nI tv), .int (nI cv), .int (nI fl)]) (rest := []) cx (kL_addPart (xl X) lo G _ h np nl len fd lu tu T C F LT VV BB lt ph lh ks wd gr gs bl ie tw (nI tv) (nI cv) (nI fl) (Wd (lT x) (lNp x)) hst (by omega) hTr.2 hTr.1) hX (by omega) rfl rfl (Nat.le_of_ble_eq_true rfl) 313 20 120 rfl rfl rfl (by omega) (by omega) dL_builds_310 (fun r_173 u_174 hw_175 => ?_)
                                    rcases u_174 with _ | ⟨tu1_176, bl1_177, ie1_178, v_179⟩
                                    rotate_left
                                    · exfalso
                                      dsimp only at hw_175
                                      obtain ⟨hw_175, -⟩ := hw_175
                                      rcases hful with h9 | h9; (have := hw_175.2.1; omega); exact h9 hw_175.2.2.1
                                    dsimp only at hw_175
                                    have hv_r_173 : r_173 = (-73) := by
                                      obtain ⟨E, hw_175, hc⟩ := hw_175
                                      exact addx_s hgood hw_175 hc
                                    subst hv_r_173
                                    refine V_bipush (v := (-73)) cx 315 rfl dL_builds_313 (by decide) ?_
                                    refine V_icmp_ne cx 318 322 rfl dL_builds_315 (by decide) (fun c_315 => ?_) (fun c_315 => ?_)
                                    · skip
                                      exact absurd rfl c_315
                                    · skip
                                      refine V_iconst (v := nI 1) cx 319 rfl dL_builds_318 (by decide) ?_
                                      refine V_goto cx 323 dL_builds_319 (by decide) ?_
                                      exact V_zreturn cx hr (by first | rfl | exact bI_z _) (np, nl, tu, T, C, F, LT, VV, BB, bl, ie, qt, qc, qf, qb, ql, qg) (⟨rfl, x, hLI⟩) rfl (by omega) (by omega) dL_builds_323
                                · skip
                                  have n_269 : k < np := N_ge_f (by omega) (by omega) c_269
                                  have join_289 : ∀ (bz : Bool), (bz = decide (lT x k = tv)) → V X lo 16 G (Qi X lo G (fun (r : Int32) ((np1, nl1, tu1, T1, C1, F1, LT1, VV1, BB1, bl1, ie1, qt1, qc1, qf1, qb1, ql1, qg1) : (Nat) × (Nat) × (Nat) × (Nat → Int32) × (Nat → Int32) × (Nat → Int32) × (Nat → Int32) × (Nat → Int32) × (Nat → Int32) × (Nat → Int32) × (Nat → Int32) × (Nat → Int32) × (Nat → Int32) × (Nat → Int32) × (Nat → Int32) × (Nat → Int32) × (Nat → Int32)) => r = nI 1 ∧ (∃ y_, LI y_ np1 nl1 lu tu1 T1 C1 F1 LT1 VV1 BB1 wd gr gs bl1 ie1 qt1 qc1 qf1 qb1 ql1 qw qh qg1)) (fun ((np1, nl1, tu1, T1, C1, F1, LT1, VV1, BB1, bl1, ie1, qt1, qc1, qf1, qb1, ql1, qg1) : (Nat) × (Nat) × (Nat) × (Nat → Int32) × (Nat → Int32) × (Nat → Int32) × (Nat → Int32) × (Nat → Int32) × (Nat → Int32) × (Nat → Int32) × (Nat → Int32) × (Nat → Int32) × (Nat → Int32) × (Nat → Int32) × (Nat → Int32) × (Nat → Int32) × (Nat → Int32)) => cW G h np1 nl1 len fd lu tu1 T1 C1 F1 LT1 VV1 BB1 lt ph lh ks wd gr gs bl1 ie1 tw ++ (lW G h qt1 qc1 qf1 qb1 ql1 qa qd qw qh qg1 ++ rs)) 24 144) 18 108 (cW G h np nl len fd lu tu T C F LT VV BB lt ph lh ks wd gr gs bl ie tw ++ (lW G h qt qc qf qb ql qa qd qw qh qg ++ rs)) [(15, .int (nI k)), (14, .int (bI th)), (13, .int (nI fl)), (12, .int (nI cv)), (11, .int (nI tv)), (10, .int (nI pt)), (0, .ref (h 0)), (1, .int (nI act)), (2, .int y), (3, .int z), (4, .ref (h 21)), (5, .ref (h 22)), (6, .ref (h 23)), (7, .ref (h 24)), (8, .ref (h 25)), (9, .ref (h 30))] [.int (bI bz), .int (bI th)] 289 := by
                                    intro bz hbz
                                    refine V_ior cx 290 rfl dL_builds_289 ?_
                                    refine V_toi (bI (th || bz)) (bI_or _ _) ?_
                                    refine V_istore (lc1 := [(14, .int (bI (th || bz))), (15, .int (nI k)), (13, .int (nI fl)), (12, .int (nI cv)), (11, .int (nI tv)), (10, .int (nI pt)), (0, .ref (h 0)), (1, .int (nI act)), (2, .int y), (3, .int z), (4, .ref (h 21)), (5, .ref (h 22)), (6, .ref (h 23)), (7, .ref (h 24)), (8, .ref (h 25)), (9, .ref (h 30))]) cx 292 rfl dL_builds_290 (by decide) rfl ?_
                                    refine V_iinc (v := nI (k + 1)) (lc1 := [(15, .int (nI (k + 1))), (14, .int (bI (th || bz))), (13, .int (nI fl)), (12, .int (nI cv)), (11, .int (nI tv)), (10, .int (nI pt)), (0, .ref (h 0)), (1, .int (nI act)), (2, .int y), (3, .int z), (4, .ref (h 21)), (5, .ref (h 22)), (6, .ref (h 23)), (7, .ref (h 24)), (8, .ref (h 25)), (9, .ref (h 30))]) cx 295 rfl dL_builds_292 1 rfl (nI_inc k 1) (by decide) rfl ?_
                                    refine V_goto cx 263 dL_builds_295 (by decide) ?_
                                    refine V.locs [0, 1, 2, 3, 4, 5, 6, 7, 8, 9, 10, 11, 12, 13, 14, 15] rfl ?_
                                    exact ih_263 (k + 1) (th || bz) (by omega) (by rw [hth, hbz]; exact Bool.or_assoc _ _ _) (by omega)
                                  refine V_iload cx 274 rfl dL_builds_272 1 rfl ?_
                                  refine V_aload cx 276 rfl dL_builds_274 10 rfl ?_
                                  refine V_iload cx 278 rfl dL_builds_276 0 rfl ?_
                                  refine V_ialdN cx k (rfl) (by omega) (by decide) 21 rfl 279 rfl dL_builds_278 ?_
                                  refine V_toi (nI (lT x k)) (hq.1 k (by omega)) ?_
                                  refine V_iload cx 281 rfl dL_builds_279 4 rfl ?_
                                  refine V_icmp_ne cx 284 288 rfl dL_builds_281 (by decide) (fun c_281 => ?_) (fun c_281 => ?_)
                                  · skip
                                    have hib := hok.t (show k < lNp x by omega)
                                    have n_281 : lT x k ≠ tv := N_ne_t (by omega) (by omega) c_281
                                    refine V_iconst (v := nI 0) cx 289 rfl dL_builds_288 (by decide) ?_
                                    refine V.locs [0, 1, 2, 3, 4, 5, 6, 7, 8, 9, 10, 11, 12, 13, 14, 15] rfl ?_
                                    exact join_289 false (by first | exact (decide_eq_true n_281).symm | exact (decide_eq_false n_281).symm)
                                  · skip
                                    have hib := hok.t (show k < lNp x by omega)
                                    have n_281 : lT x k = tv := N_ne_f (by omega) (by omega) c_281
                                    refine V_iconst (v := nI 1) cx 285 rfl dL_builds_284 (by decide) ?_
                                    refine V_goto cx 289 dL_builds_285 (by decide) ?_
                                    refine V.locs [0, 1, 2, 3, 4, 5, 6, 7, 8, 9, 10, 11, 12, 13, 14, 15] rfl ?_
                                    exact join_289 true (by first | exact (decide_eq_true n_281).symm | exact (decide_eq_false n_281).symm)
                            refine V.locs [0, 1, 2, 3, 4, 5, 6, 7, 8, 9, 10, 11, 12, 13, 14, 15] rfl ?_
                            exact loop_263 _ 0 th0 (by omega) (by rw [hth0]; exact (Bool.or_false _).symm) (Nat.lt_succ_self _)
                          refine V_aload cx 246 rfl dL_builds_244 13 rfl ?_
                          refine V_iconst (v := nI 0) cx 247 rfl dL_builds_246 (by decide) ?_
                          refine V_ialdN cx 0 (rfl) (by omega) (by decide) 30 rfl 248 rfl dL_builds_247 ?_
                          refine V_toi (nI np) (hg0) ?_
                          refine V_bipush (v := nI 16) cx 250 rfl dL_builds_248 (by decide) ?_
                          refine V_icmp_ne cx 253 257 rfl dL_builds_250 (by decide) (fun c_250 => ?_) (fun c_250 => ?_)
                          · skip
                            have n_250 : np ≠ 16 := N_ne_t (by omega) (by omega) c_250
                            refine V_iconst (v := nI 0) cx 258 rfl dL_builds_257 (by decide) ?_
                            refine V.locs [0, 1, 2, 3, 4, 5, 6, 7, 8, 9, 10, 11, 12, 13] rfl ?_
                            exact join_258 false (by first | exact (decide_eq_true (show np = 16 by omega)).symm | exact (decide_eq_false (show ¬ np = 16 by omega)).symm)
                          · skip
                            have n_250 : np = 16 := N_ne_f (by omega) (by omega) c_250
                            refine V_iconst (v := nI 1) cx 254 rfl dL_builds_253 (by decide) ?_
                            refine V_goto cx 258 dL_builds_254 (by decide) ?_
                            refine V.locs [0, 1, 2, 3, 4, 5, 6, 7, 8, 9, 10, 11, 12, 13] rfl ?_
                            exact join_258 true (by first | exact (decide_eq_true (show np = 16 by omega)).symm | exact (decide_eq_false (show ¬ np = 16 by omega)).symm)
                        · skip
                          exact absurd rfl c_239
      refine V_iload_n cx 83 rfl dL_builds_82 5 rfl ?_
      refine V_ldc (v := nI 196608) cx 85 rfl dL_builds_83 ci_L_107 ?_
      refine V_iand cx 86 rfl dL_builds_85 ?_
      refine V_if_ne cx 89 103 rfl dL_builds_86 (by decide) (fun c_86 => ?_) (fun c_86 => ?_)
      · skip
        refine V_bipush (v := nI 7) cx 105 rfl dL_builds_103 (by decide) ?_
        refine V.locs [0, 1, 2, 3, 4, 5, 6, 7, 8, 9, 10, 11, 12] rfl ?_
        exact join_105 7 (by omega)
      · skip
        refine V_iconst (v := nI 1) cx 90 rfl dL_builds_89 (by decide) ?_
        refine V_iload_n cx 91 rfl dL_builds_90 5 rfl ?_
        refine V_bipush (v := nI 18) cx 93 rfl dL_builds_91 (by decide) ?_
        refine V_ishr cx 94 rfl dL_builds_93 ?_
        refine V_bipush (v := nI 7) cx 96 rfl dL_builds_94 (by decide) ?_
        refine KL_101 (As := [.int (y >>> ((nI 18) &&& 31)), .int (nI 7)]) (rest := [.int (nI 1)]) cx (kL_low (xl X) lo G _ (y >>> ((nI 18) &&& 31)) 7 (by omega)) hX (by omega) rfl rfl (Nat.le_of_ble_eq_true rfl) 99 0 0 rfl rfl rfl (by omega) (by omega) dL_builds_96 (fun r_180 u_181 hw_182 => ?_)
        try dsimp only at hw_182
        subst hw_182
        refine V_iadd cx 100 rfl dL_builds_99 ?_
        refine V_toi (nI (1 + (lowN (y >>> ((nI 18) &&& 31)) 7))) (nI_add _ _) ?_
        refine V_goto cx 105 dL_builds_100 (by decide) ?_
        refine V.locs [0, 1, 2, 3, 4, 5, 6, 7, 8, 9, 10, 11, 12] rfl ?_
        exact join_105 (1 + (lowN (y >>> ((nI 18) &&& 31)) 7)) (by have hl := lowN_lt (y >>> ((nI 18) &&& 31)) (show 0 < 7 by decide); omega)
    refine V_iload_n cx 26 rfl dL_builds_25 4 rfl ?_
    refine V_bipush (v := nI 6) cx 28 rfl dL_builds_26 (by decide) ?_
    refine V_iand cx 29 rfl dL_builds_28 ?_
    refine V_if_ne cx 32 46 rfl dL_builds_29 (by decide) (fun c_29 => ?_) (fun c_29 => ?_)
    · skip
      refine V_iload_n cx 47 rfl dL_builds_46 4 rfl ?_
      refine V_bipush (v := nI 6) cx 49 rfl dL_builds_47 (by decide) ?_
      refine V_iand cx 50 rfl dL_builds_49 ?_
      refine V_iconst (v := nI 2) cx 51 rfl dL_builds_50 (by decide) ?_
      refine V_icmp_ne cx 54 69 rfl dL_builds_51 (by decide) (fun c_51 => ?_) (fun c_51 => ?_)
      · skip
        refine V_iconst (v := nI 1) cx 70 rfl dL_builds_69 (by decide) ?_
        refine V_iload_n cx 71 rfl dL_builds_70 4 rfl ?_
        refine V_iconst (v := nI 3) cx 72 rfl dL_builds_71 (by decide) ?_
        refine V_ishr cx 73 rfl dL_builds_72 ?_
        refine V_sipush (v := nI 300) cx 76 rfl dL_builds_73 (by decide) ?_
        refine KL_101 (As := [.int (y >>> ((nI 3) &&& 31)), .int (nI 300)]) (rest := [.int (nI 1)]) cx (kL_low (xl X) lo G _ (y >>> ((nI 3) &&& 31)) 300 (by omega)) hX (by omega) rfl rfl (Nat.le_of_ble_eq_true rfl) 79 0 0 rfl rfl rfl (by omega) (by omega) dL_builds_76 (fun r_183 u_184 hw_185 => ?_)
        try dsimp only at hw_185
        subst hw_185
        refine V_iadd cx 80 rfl dL_builds_79 ?_
        refine V_toi (nI (1 + (lowN (y >>> ((nI 3) &&& 31)) 300))) (nI_add _ _) ?_
        refine V.locs [0, 1, 2, 3, 4, 5, 6, 7, 8, 9, 10, 11] rfl ?_
        exact join_80 (1 + (lowN (y >>> ((nI 3) &&& 31)) 300)) (by have hl := lowN_lt (y >>> ((nI 3) &&& 31)) (show 0 < 300 by decide); omega)
      · skip
        refine V_sipush (v := nI 9990) cx 57 rfl dL_builds_54 (by decide) ?_
        refine V_iload_n cx 58 rfl dL_builds_57 4 rfl ?_
        refine V_iconst (v := nI 3) cx 59 rfl dL_builds_58 (by decide) ?_
        refine V_ishr cx 60 rfl dL_builds_59 ?_
        refine V_bipush (v := nI 10) cx 62 rfl dL_builds_60 (by decide) ?_
        refine KL_101 (As := [.int (y >>> ((nI 3) &&& 31)), .int (nI 10)]) (rest := [.int (nI 9990)]) cx (kL_low (xl X) lo G _ (y >>> ((nI 3) &&& 31)) 10 (by omega)) hX (by omega) rfl rfl (Nat.le_of_ble_eq_true rfl) 65 0 0 rfl rfl rfl (by omega) (by omega) dL_builds_62 (fun r_186 u_187 hw_188 => ?_)
        try dsimp only at hw_188
        subst hw_188
        refine V_iadd cx 66 rfl dL_builds_65 ?_
        refine V_toi (nI (9990 + (lowN (y >>> ((nI 3) &&& 31)) 10))) (nI_add _ _) ?_
        refine V_goto cx 80 dL_builds_66 (by decide) ?_
        refine V.locs [0, 1, 2, 3, 4, 5, 6, 7, 8, 9, 10, 11] rfl ?_
        exact join_80 (9990 + (lowN (y >>> ((nI 3) &&& 31)) 10)) (by have hl := lowN_lt (y >>> ((nI 3) &&& 31)) (show 0 < 10 by decide); omega)
    · skip
      refine V_iconst (v := nI 1) cx 33 rfl dL_builds_32 (by decide) ?_
      refine V_iload_n cx 34 rfl dL_builds_33 4 rfl ?_
      refine V_iconst (v := nI 3) cx 35 rfl dL_builds_34 (by decide) ?_
      refine V_ishr cx 36 rfl dL_builds_35 ?_
      refine V_sipush (v := nI 9999) cx 39 rfl dL_builds_36 (by decide) ?_
      refine KL_101 (As := [.int (y >>> ((nI 3) &&& 31)), .int (nI 9999)]) (rest := [.int (nI 1)]) cx (kL_low (xl X) lo G _ (y >>> ((nI 3) &&& 31)) 9999 (by omega)) hX (by omega) rfl rfl (Nat.le_of_ble_eq_true rfl) 42 0 0 rfl rfl rfl (by omega) (by omega) dL_builds_39 (fun r_189 u_190 hw_191 => ?_)
      try dsimp only at hw_191
      subst hw_191
      refine V_iadd cx 43 rfl dL_builds_42 ?_
      refine V_toi (nI (1 + (lowN (y >>> ((nI 3) &&& 31)) 9999))) (nI_add _ _) ?_
      refine V_goto cx 80 dL_builds_43 (by decide) ?_
      refine V.locs [0, 1, 2, 3, 4, 5, 6, 7, 8, 9, 10, 11] rfl ?_
      exact join_80 (1 + (lowN (y >>> ((nI 3) &&& 31)) 9999)) (by have hl := lowN_lt (y >>> ((nI 3) &&& 31)) (show 0 < 9999 by decide); omega)
