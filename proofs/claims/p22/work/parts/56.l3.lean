set_option maxHeartbeats 4000000 in
set_option maxRecDepth 100000 in
theorem kL_split (l : Launch) (lo : Nat) (G : vG) (rs : va_W) (h : Nat → Nat) (qt : Nat → Int32) (qc : Nat → Int32) (qf : Nat → Int32) (qb : Nat → Int32) (ql : Nat → Int32) (qa : Nat → Int64) (qd : Nat → Int64) (qw : Nat → Int64) (qh : Nat → Int32) (qg : Nat → Int32) (w : Nat) (x : LX) (L : Nat) (hok : lxOK x) (hq : LQ x qt qc qf qb ql) (hw1 : 10 ^ L ≤ w) (hw2 : w < 2 * 10 ^ L) (hL : 1 ≤ L ∧ L ≤ 5) (hg0 : qg 0 = nI (lNp x)) (hg1 : qg 1 = nI (lNl x)) : Mv l yL_split (.code yL_split method_25_code 21 none) 4 0 0 lo G [.int (nI w), .ref (h 21), .ref (h 22), .ref (h 23), .ref (h 24), .ref (h 25), .ref (h 26), .ref (h 27), .ref (h 30)] (lW G h qt qc qf qb ql qa qd qw qh qg ++ rs) (fun ((qa1, qd1, qg1) : (Nat → Int64) × (Nat → Int64) × (Nat → Int32)) => spPost x L w qg qa1 qg1) (fun ((qa1, qd1, qg1) : (Nat → Int64) × (Nat → Int64) × (Nat → Int32)) => lW G h qt qc qf qb ql qa1 qd1 qw qh qg1 ++ rs) := by
  refine Mv_of (lc := [(0, .int (nI w)), (1, .ref (h 21)), (2, .ref (h 22)), (3, .ref (h 23)), (4, .ref (h 24)), (5, .ref (h 25)), (6, .ref (h 26)), (7, .ref (h 27)), (8, .ref (h 30))]) (by decide +kernel) (Nat.le_of_ble_eq_true rfl) rfl ?_
  intro X cx hXR hXl hr hin
  subst hXl
  have hX := RmX.of hXR
  have hw3 := ld_bd (Nat.le_refl _) hw2
  have hd : ∀ k, dgt w L k ≤ 9 := fun k => dgt_lt w L k
  have hwb := sx_bd (show L ≤ 8 by omega) hw3
  have hnp := hok.1
  have hnl := hok.2.1
  refine V_aload cx 2 rfl dL_split_0 8 rfl ?_
  refine V_iconst (v := nI 3) cx 3 rfl dL_split_2 (by decide) ?_
  refine V_iconst (v := nI 0) cx 4 rfl dL_split_3 (by decide) ?_
  refine V_iastN cx 3 (rfl) (by omega) (by decide) 9 rfl (lW G h qt qc qf qb ql qa qd qw qh (upd qg 3 (nI 0)) ++ rs) rfl 5 rfl dL_split_4 ?_
  refine V_aload cx 7 rfl dL_split_5 8 rfl ?_
  refine V_iconst (v := nI 4) cx 8 rfl dL_split_7 (by decide) ?_
  refine V_iconst (v := nI 1) cx 9 rfl dL_split_8 (by decide) ?_
  refine V_iastN cx 4 (rfl) (by omega) (by decide) 9 rfl (lW G h qt qc qf qb ql qa qd qw qh (upd (upd qg 3 (nI 0)) 4 (nI 1)) ++ rs) rfl 10 rfl dL_split_9 ?_
  refine V_aload cx 12 rfl dL_split_10 7 rfl ?_
  refine V_iconst (v := nI 0) cx 13 rfl dL_split_12 (by decide) ?_
  refine V_lconst (v := lN 0) cx 14 rfl dL_split_13 (by decide) ?_
  refine V_lastN cx 0 (rfl) (by omega) (by decide) 6 rfl (lW G h qt qc qf qb ql qa (vp_updL qd 0 (lN 0)) qw qh (upd (upd qg 3 (nI 0)) 4 (nI 1)) ++ rs) rfl 15 rfl dL_split_14 ?_
  refine V_iload_n cx 16 rfl dL_split_15 0 rfl ?_
  refine KL_59 (As := [.int (nI w)]) (rest := []) cx (kL_size (xl X) lo G _ w L hw1 hw3 (by omega)) hX (by omega) rfl rfl (Nat.le_of_ble_eq_true rfl) 19 0 0 rfl rfl rfl (by omega) (by omega) dL_split_16 (fun r_1 u_2 hw_3 => ?_)
  try dsimp only at hw_3
  subst hw_3
  refine V_istore (lc1 := [(9, .int (nI L)), (0, .int (nI w)), (1, .ref (h 21)), (2, .ref (h 22)), (3, .ref (h 23)), (4, .ref (h 24)), (5, .ref (h 25)), (6, .ref (h 26)), (7, .ref (h 27)), (8, .ref (h 30))]) cx 21 rfl dL_split_19 (by decide) rfl ?_
  refine V_iconst (v := nI 0) cx 22 rfl dL_split_21 (by decide) ?_
  refine V_istore (lc1 := [(10, .int (nI 0)), (9, .int (nI L)), (0, .int (nI w)), (1, .ref (h 21)), (2, .ref (h 22)), (3, .ref (h 23)), (4, .ref (h 24)), (5, .ref (h 25)), (6, .ref (h 26)), (7, .ref (h 27)), (8, .ref (h 30))]) cx 24 rfl dL_split_22 (by decide) rfl ?_
  have loop_24 : ∀ (fuel : Nat) (j : Nat) (qa2 : Nat → Int64) (qd2 : Nat → Int64) (qg2 : Nat → Int32) (qs2 : Nat → SP) (fs2 : Nat → SP) (N2 : Nat) (F2 : Nat), (j ≤ N2) → (gI qg2 qg x F2 N2) → (∀ i, i < F2 → qa2 i = lN (aK (fs2 i))) → (∀ i, i < N2 → qd2 i = lN (aK (qs2 i))) → (QB x L (dgt w L) qs2 N2 fs2 F2 (fun i _ => i < j)) → 40 - j < fuel → V X lo 21 G (Qv X lo G (fun ((qa1, qd1, qg1) : (Nat → Int64) × (Nat → Int64) × (Nat → Int32)) => spPost x L w qg qa1 qg1) (fun ((qa1, qd1, qg1) : (Nat → Int64) × (Nat → Int64) × (Nat → Int32)) => lW G h qt qc qf qb ql qa1 qd1 qw qh qg1 ++ rs) 0 0) 0 0 (lW G h qt qc qf qb ql qa2 qd2 qw qh qg2 ++ rs) [(10, .int (nI j)), (9, .int (nI L)), (0, .int (nI w)), (1, .ref (h 21)), (2, .ref (h 22)), (3, .ref (h 23)), (4, .ref (h 24)), (5, .ref (h 25)), (6, .ref (h 26)), (7, .ref (h 27)), (8, .ref (h 30))] [] 24 := by
    intro fuel
    induction fuel with
    | zero => intro j qa2 qd2 qg2 qs2 fs2 N2 F2 hj hG hA hD hB hmz; exact absurd hmz (Nat.not_lt_zero _)
    | succ fuel ih_24 =>
      intro j qa2 qd2 qg2 qs2 fs2 N2 F2 hj hG hA hD hB hmz_24
      have hN2 := QB_N hok hL.2 hB
      have hF2 := QB_F hok hL.2 hL.1 hB
      refine V_iload cx 26 rfl dL_split_24 0 rfl ?_
      refine V_aload cx 28 rfl dL_split_26 10 rfl ?_
      refine V_iconst (v := nI 4) cx 29 rfl dL_split_28 (by decide) ?_
      refine V_ialdN cx 4 (rfl) (by omega) (by decide) 9 rfl 30 rfl dL_split_29 ?_
      refine V_toi (nI N2) (hG.2.2.2.2) ?_
      refine V_icmp_ge cx 33 407 rfl dL_split_30 (by decide) (fun c_30 => ?_) (fun c_30 => ?_)
      · skip
        have n_30 : j ≥ N2 := N_ge_t (by omega) (by omega) c_30
        have hall := (QB_all hB (fun i z hi => by omega)).2
        exact V_vreturn cx hr (qa2, qd2, qg2) (⟨fs2, F2, ⟨hB.2.2.2.1, hB.2.2.2.2.1, hall⟩, hF2, hA, hG.1.trans hg0.symm, hG.2.1.trans hg1.symm, hG.2.2.1, hG.2.2.2.1⟩) rfl (by omega) (by omega) dL_split_407
      · skip
        have n_30 : j < N2 := N_ge_f (by omega) (by omega) c_30
        have hjN : j < N2 := by omega
        obtain ⟨Q, hQ⟩ : ∃ Q, Q = qs2 j := ⟨_, rfl⟩
        obtain ⟨e, pv, hPS, heL⟩ := hB.2.2.1 j hjN
        rw [← hQ] at hPS
        have hsQ := PS_spOK hok hd hPS
        have hbQ := hsQ.b hok
        have hlQ := PS_le _ _ _ _ _ hPS
        obtain ⟨hend, hlast⟩ := PS_end hok hd _ Q e pv rfl hPS
        have hKb := aK_bd hbQ (Nat.le_refl _) (by omega)
        rw [aK_all] at hKb
        refine V_aload cx 35 rfl dL_split_33 9 rfl ?_
        refine V_iload cx 37 rfl dL_split_35 0 rfl ?_
        refine V_laldN cx j (rfl) (by omega) (by decide) 6 rfl 38 rfl dL_split_37 ?_
        refine V_tol (lN (aK Q)) ((hD j hjN).trans (by rw [hQ])) ?_
        refine V_lstore (lc1 := [(11, .long (lN (aK Q))), (10, .int (nI j)), (9, .int (nI L)), (0, .int (nI w)), (1, .ref (h 21)), (2, .ref (h 22)), (3, .ref (h 23)), (4, .ref (h 24)), (5, .ref (h 25)), (6, .ref (h 26)), (7, .ref (h 27)), (8, .ref (h 30))]) cx 40 rfl dL_split_38 (by decide) rfl ?_
        refine V_lload cx 42 rfl dL_split_40 0 rfl ?_
        refine V_aload_n cx 43 rfl dL_split_42 4 rfl ?_
        refine V_aload cx 45 rfl dL_split_43 8 rfl ?_
        refine KL_88 (As := [.long (lN (aK Q)), .ref (h 21), .ref (h 25)]) (rest := []) cx (kL_length (xl X) lo G _ h qt qc qf qb ql qa2 qd2 qw qh qg2 (aK Q) Q x rfl hok hsQ (by omega) hq) hX (by omega) rfl rfl (Nat.le_of_ble_eq_true rfl) 48 0 0 rfl rfl rfl (by omega) (by omega) dL_split_45 (fun r_4 u_5 hw_6 => ?_)
        try dsimp only at hw_6
        subst hw_6
        refine V_toi (nI e) (congrArg nI hend) ?_
        refine V_istore (lc1 := [(13, .int (nI e)), (11, .long (lN (aK Q))), (10, .int (nI j)), (9, .int (nI L)), (0, .int (nI w)), (1, .ref (h 21)), (2, .ref (h 22)), (3, .ref (h 23)), (4, .ref (h 24)), (5, .ref (h 25)), (6, .ref (h 26)), (7, .ref (h 27)), (8, .ref (h 30))]) cx 50 rfl dL_split_48 (by decide) rfl ?_
        have join_72 : ∀ (bf : Int32), (bf = oI pv) → V X lo 21 G (Qv X lo G (fun ((qa1, qd1, qg1) : (Nat → Int64) × (Nat → Int64) × (Nat → Int32)) => spPost x L w qg qa1 qg1) (fun ((qa1, qd1, qg1) : (Nat → Int64) × (Nat → Int64) × (Nat → Int32)) => lW G h qt qc qf qb ql qa1 qd1 qw qh qg1 ++ rs) 0 0) 0 0 (lW G h qt qc qf qb ql qa2 qd2 qw qh qg2 ++ rs) [(13, .int (nI e)), (11, .long (lN (aK Q))), (10, .int (nI j)), (9, .int (nI L)), (0, .int (nI w)), (1, .ref (h 21)), (2, .ref (h 22)), (3, .ref (h 23)), (4, .ref (h 24)), (5, .ref (h 25)), (6, .ref (h 26)), (7, .ref (h 27)), (8, .ref (h 30))] [.int bf] 72 := by
          intro bf hbf
          refine V_istore (lc1 := [(14, .int bf), (13, .int (nI e)), (11, .long (lN (aK Q))), (10, .int (nI j)), (9, .int (nI L)), (0, .int (nI w)), (1, .ref (h 21)), (2, .ref (h 22)), (3, .ref (h 23)), (4, .ref (h 24)), (5, .ref (h 25)), (6, .ref (h 26)), (7, .ref (h 27)), (8, .ref (h 30))]) cx 74 rfl dL_split_72 (by decide) rfl ?_
          refine V_iconst (v := nI 0) cx 75 rfl dL_split_74 (by decide) ?_
          refine V_istore (lc1 := [(15, .int (nI 0)), (14, .int bf), (13, .int (nI e)), (11, .long (lN (aK Q))), (10, .int (nI j)), (9, .int (nI L)), (0, .int (nI w)), (1, .ref (h 21)), (2, .ref (h 22)), (3, .ref (h 23)), (4, .ref (h 24)), (5, .ref (h 25)), (6, .ref (h 26)), (7, .ref (h 27)), (8, .ref (h 30))]) cx 77 rfl dL_split_75 (by decide) rfl ?_
          have loop_77 : ∀ (fuel : Nat) (p : Nat) (qa3 : Nat → Int64) (qd3 : Nat → Int64) (qg3 : Nat → Int32) (qs3 : Nat → SP) (fs3 : Nat → SP) (N3 : Nat) (F3 : Nat), (p ≤ lNp x) → (gI qg3 qg x F3 N3) → (∀ i, i < F3 → qa3 i = lN (aK (fs3 i))) → (∀ i, i < N3 → qd3 i = lN (aK (qs3 i))) → (j < N3) → (qs3 j = Q) → (QB x L (dgt w L) qs3 N3 fs3 F3 (PrP j p)) → lNp x - p < fuel → V X lo 21 G (Qv X lo G (fun ((qa1, qd1, qg1) : (Nat → Int64) × (Nat → Int64) × (Nat → Int32)) => spPost x L w qg qa1 qg1) (fun ((qa1, qd1, qg1) : (Nat → Int64) × (Nat → Int64) × (Nat → Int32)) => lW G h qt qc qf qb ql qa1 qd1 qw qh qg1 ++ rs) 0 0) 0 0 (lW G h qt qc qf qb ql qa3 qd3 qw qh qg3 ++ rs) [(15, .int (nI p)), (14, .int bf), (13, .int (nI e)), (11, .long (lN (aK Q))), (10, .int (nI j)), (9, .int (nI L)), (0, .int (nI w)), (1, .ref (h 21)), (2, .ref (h 22)), (3, .ref (h 23)), (4, .ref (h 24)), (5, .ref (h 25)), (6, .ref (h 26)), (7, .ref (h 27)), (8, .ref (h 30))] [] 77 := by
            intro fuel
            induction fuel with
            | zero => intro p qa3 qd3 qg3 qs3 fs3 N3 F3 hp hG3 hA3 hD3 hj3 hq3 hB3 hmz; exact absurd hmz (Nat.not_lt_zero _)
            | succ fuel ih_77 =>
              intro p qa3 qd3 qg3 qs3 fs3 N3 F3 hp hG3 hA3 hD3 hj3 hq3 hB3 hmz_77
              have hN3 := QB_N hok hL.2 hB3
              have hF3 := QB_F hok hL.2 hL.1 hB3
              refine V_iload cx 79 rfl dL_split_77 0 rfl ?_
              refine V_aload cx 81 rfl dL_split_79 14 rfl ?_
              refine V_iconst (v := nI 0) cx 82 rfl dL_split_81 (by decide) ?_
              refine V_ialdN cx 0 (rfl) (by omega) (by decide) 9 rfl 83 rfl dL_split_82 ?_
              refine V_toi (nI (lNp x)) (hG3.1) ?_
              refine V_icmp_ge cx 86 401 rfl dL_split_83 (by decide) (fun c_83 => ?_) (fun c_83 => ?_)
              · skip
                have n_83 : p ≥ lNp x := N_ge_t (by omega) (by omega) c_83
                refine V_iinc (v := nI (j + 1)) (lc1 := [(10, .int (nI (j + 1))), (15, .int (nI p)), (14, .int bf), (13, .int (nI e)), (11, .long (lN (aK Q))), (9, .int (nI L)), (0, .int (nI w)), (1, .ref (h 21)), (2, .ref (h 22)), (3, .ref (h 23)), (4, .ref (h 24)), (5, .ref (h 25)), (6, .ref (h 26)), (7, .ref (h 27)), (8, .ref (h 30))]) cx 404 rfl dL_split_401 4 rfl (nI_inc j 1) (by decide) rfl ?_
                refine V_goto cx 24 dL_split_404 (by decide) ?_
                refine V.locs [0, 5, 6, 7, 8, 9, 10, 11, 12, 13, 14] rfl ?_
                have hp9 : p = lNp x := by omega
                rw [hp9] at hB3
                exact ih_24 (j + 1) qa3 qd3 qg3 qs3 fs3 N3 F3 (by omega) (by exact hG3) (by exact hA3) (by exact hD3) (by exact QB_jn hd hB3 hj3 hq3 hPS) (by omega)
              · skip
                have n_83 : p < lNp x := N_ge_f (by omega) (by omega) c_83
                have hpn : p < lNp x := by omega
                obtain ⟨t1, t2, t3, t4⟩ := hok.2.2.1 p hpn
                have t5 := ld_bd (Nat.le_refl _) t4
                have t6 := hok.t hpn
                refine V_iload cx 88 rfl dL_split_86 2 rfl ?_
                refine V_aload_n cx 89 rfl dL_split_88 7 rfl ?_
                refine V_iload cx 91 rfl dL_split_89 0 rfl ?_
                refine V_ialdN cx p (rfl) (by omega) (by decide) 0 rfl 92 rfl dL_split_91 ?_
                refine V_toi (nI (lT x p)) (hq.1 p hpn) ?_
                refine KL_59 (As := [.int (nI (lT x p))]) (rest := [.int (nI e)]) cx (kL_size (xl X) lo G _ (lT x p) (szN (lT x p)) t3 t5 (by omega)) hX (by omega) rfl rfl (Nat.le_of_ble_eq_true rfl) 95 0 0 rfl rfl rfl (by omega) (by omega) dL_split_92 (fun r_7 u_8 hw_9 => ?_)
                try dsimp only at hw_9
                subst hw_9
                refine V_iadd cx 96 rfl dL_split_95 ?_
                refine V_toi (nI (e + (szN (lT x p)))) (nI_add _ _) ?_
                refine V_istore (lc1 := [(16, .int (nI (e + (szN (lT x p))))), (15, .int (nI p)), (14, .int bf), (13, .int (nI e)), (11, .long (lN (aK Q))), (10, .int (nI j)), (9, .int (nI L)), (0, .int (nI w)), (1, .ref (h 21)), (2, .ref (h 22)), (3, .ref (h 23)), (4, .ref (h 24)), (5, .ref (h 25)), (6, .ref (h 26)), (7, .ref (h 27)), (8, .ref (h 30))]) cx 98 rfl dL_split_96 (by decide) rfl ?_
                refine V_iload_n cx 99 rfl dL_split_98 7 rfl ?_
                refine V_iload cx 101 rfl dL_split_99 3 rfl ?_
                refine V_aload_n cx 102 rfl dL_split_101 8 rfl ?_
                refine V_iload cx 104 rfl dL_split_102 1 rfl ?_
                refine V_ialdN cx p (rfl) (by omega) (by decide) 0 rfl 105 rfl dL_split_104 ?_
                refine V_toi (nI (lT x p)) (hq.1 p hpn) ?_
                refine KL_59 (As := [.int (nI (lT x p))]) (rest := [.int (nI e), .int (nI w)]) cx (kL_size (xl X) lo G _ (lT x p) (szN (lT x p)) t3 t5 (by omega)) hX (by omega) rfl rfl (Nat.le_of_ble_eq_true rfl) 108 0 0 rfl rfl rfl (by omega) (by omega) dL_split_105 (fun r_10 u_11 hw_12 => ?_)
                try dsimp only at hw_12
                subst hw_12
                refine KL_92 (As := [.int (nI w), .int (nI e), .int (nI (szN (lT x p)))]) (rest := []) cx (kL_sub (xl X) lo G _ w e (szN (lT x p)) L hw1 hw3 (by omega) (by omega)) hX (by omega) rfl rfl (Nat.le_of_ble_eq_true rfl) 111 0 0 rfl rfl rfl (by omega) (by omega) dL_split_108 (fun r_13 u_14 hw_15 => ?_)
                try dsimp only at hw_15
                subst hw_15
                refine V_aload_n cx 112 rfl dL_split_111 8 rfl ?_
                refine V_iload cx 114 rfl dL_split_112 1 rfl ?_
                refine V_ialdN cx p (rfl) (by omega) (by decide) 0 rfl 115 rfl dL_split_114 ?_
                refine V_toi (nI (lT x p)) (hq.1 p hpn) ?_
                refine V_icmp_ne cx 118 395 rfl dL_split_115 (by decide) (fun c_115 => ?_) (fun c_115 => ?_)
                · skip
                  have n_115 : ¬ wAt x L (dgt w L) e (szN (lT x p)) = some p := fun hh => c_115 ((wt_iff hok hpn hd).mpr hh)
                  refine V_iinc (v := nI (p + 1)) (lc1 := [(15, .int (nI (p + 1))), (16, .int (nI (e + (szN (lT x p))))), (14, .int bf), (13, .int (nI e)), (11, .long (lN (aK Q))), (10, .int (nI j)), (9, .int (nI L)), (0, .int (nI w)), (1, .ref (h 21)), (2, .ref (h 22)), (3, .ref (h 23)), (4, .ref (h 24)), (5, .ref (h 25)), (6, .ref (h 26)), (7, .ref (h 27)), (8, .ref (h 30))]) cx 398 rfl dL_split_395 1 rfl (nI_inc p 1) (by decide) rfl ?_
                  refine V_goto cx 77 dL_split_398 (by decide) ?_
                  refine V.locs [0, 2, 3, 4, 5, 6, 7, 8, 9, 10, 11, 12, 13, 14, 15] rfl ?_
                  have hno : ¬ fits1 x L (dgt w L) e pv p := fun hh => n_115 hh.1
                  have kB := QB_no hd hB3 hj3 hq3 hPS hno
                  have kG := hG3
                  have kA := hA3
                  have kD := hD3
                  have kq := hq3
                  exact ih_77 (p + 1) qa3 qd3 qg3 qs3 fs3 N3 F3 (by omega) (by exact kG) (by exact kA) (by exact kD) (by omega) (by exact kq) (by exact kB) (by omega)
                · skip
                  have n_115 : wAt x L (dgt w L) e (szN (lT x p)) = some p := (wt_iff hok hpn hd).mp c_115
                  have hle := (wAt_some n_115).1
                  have join_141 : (vetoed x pv p = false) → V X lo 21 G (Qv X lo G (fun ((qa1, qd1, qg1) : (Nat → Int64) × (Nat → Int64) × (Nat → Int32)) => spPost x L w qg qa1 qg1) (fun ((qa1, qd1, qg1) : (Nat → Int64) × (Nat → Int64) × (Nat → Int32)) => lW G h qt qc qf qb ql qa1 qd1 qw qh qg1 ++ rs) 0 0) 0 0 (lW G h qt qc qf qb ql qa3 qd3 qw qh qg3 ++ rs) [(16, .int (nI (e + (szN (lT x p))))), (15, .int (nI p)), (14, .int bf), (13, .int (nI e)), (11, .long (lN (aK Q))), (10, .int (nI j)), (9, .int (nI L)), (0, .int (nI w)), (1, .ref (h 21)), (2, .ref (h 22)), (3, .ref (h 23)), (4, .ref (h 24)), (5, .ref (h 25)), (6, .ref (h 26)), (7, .ref (h 27)), (8, .ref (h 30))] [] 141 := by
                    intro hvf
                    refine V_lload cx 143 rfl dL_split_141 4 rfl ?_
                    refine V_bipush (v := nI 8) cx 145 rfl dL_split_143 (by decide) ?_
                    refine V_lshl cx 146 rfl dL_split_145 ?_
                    refine V_tol (lN (aK Q * 2 ^ 8)) (wb_shl _ (by omega)) ?_
                    refine V_ldc2 cx 149 rfl dL_split_146 cl_L_95 ?_
                    refine V_tol (lN 8) (by decide) ?_
                    refine V_iload cx 151 rfl dL_split_149 1 rfl ?_
                    refine V_iconst (v := nI 1) cx 152 rfl dL_split_151 (by decide) ?_
                    refine V_iadd cx 153 rfl dL_split_152 ?_
                    refine V_toi (nI (p + 1)) (nI_add _ _) ?_
                    refine V_i2l cx 154 rfl dL_split_153 ?_
                    refine V_tol (lN (p + 1)) (nI_l (by omega)) ?_
                    refine V_lmul cx 155 rfl dL_split_154 ?_
                    refine V_tol (lN (8 * (p + 1))) (lN_mul _ _) ?_
                    refine V_lor cx 156 rfl dL_split_155 ?_
                    refine V_tol (lN (aK (Q ++ [yO x p 0]))) ((g_or (k := 8) rfl (by omega) (by omega)).trans (congrArg lN (by rw [aK_yO _ _ _ _ (by omega)]; omega))) ?_
                    refine V_lstore (lc1 := [(17, .long (lN (aK (Q ++ [yO x p 0])))), (16, .int (nI (e + (szN (lT x p))))), (15, .int (nI p)), (14, .int bf), (13, .int (nI e)), (11, .long (lN (aK Q))), (10, .int (nI j)), (9, .int (nI L)), (0, .int (nI w)), (1, .ref (h 21)), (2, .ref (h 22)), (3, .ref (h 23)), (4, .ref (h 24)), (5, .ref (h 25)), (6, .ref (h 26)), (7, .ref (h 27)), (8, .ref (h 30))]) cx 158 rfl dL_split_156 (by decide) rfl ?_
                    have join_194 : ∀ (nd : Nat), (nd = fNeed pv.isNone (decide (e + szN (lT x p) = L))) → V X lo 21 G (Qv X lo G (fun ((qa1, qd1, qg1) : (Nat → Int64) × (Nat → Int64) × (Nat → Int32)) => spPost x L w qg qa1 qg1) (fun ((qa1, qd1, qg1) : (Nat → Int64) × (Nat → Int64) × (Nat → Int32)) => lW G h qt qc qf qb ql qa1 qd1 qw qh qg1 ++ rs) 0 0) 0 0 (lW G h qt qc qf qb ql qa3 qd3 qw qh qg3 ++ rs) [(17, .long (lN (aK (Q ++ [yO x p 0])))), (16, .int (nI (e + (szN (lT x p))))), (15, .int (nI p)), (14, .int bf), (13, .int (nI e)), (11, .long (lN (aK Q))), (10, .int (nI j)), (9, .int (nI L)), (0, .int (nI w)), (1, .ref (h 21)), (2, .ref (h 22)), (3, .ref (h 23)), (4, .ref (h 24)), (5, .ref (h 25)), (6, .ref (h 26)), (7, .ref (h 27)), (8, .ref (h 30))] [.int (nI nd)] 194 := by
                      intro nd hnd
                      refine V_istore (lc1 := [(19, .int (nI nd)), (17, .long (lN (aK (Q ++ [yO x p 0])))), (16, .int (nI (e + (szN (lT x p))))), (15, .int (nI p)), (14, .int bf), (13, .int (nI e)), (11, .long (lN (aK Q))), (10, .int (nI j)), (9, .int (nI L)), (0, .int (nI w)), (1, .ref (h 21)), (2, .ref (h 22)), (3, .ref (h 23)), (4, .ref (h 24)), (5, .ref (h 25)), (6, .ref (h 26)), (7, .ref (h 27)), (8, .ref (h 30))]) cx 196 rfl dL_split_194 (by decide) rfl ?_
                      have hnd8 : nd ≤ 5 := by rw [hnd]; unfold fNeed; split <;> split <;> omega
                      obtain ⟨vp, hvp1, hvp2, hvp3, hvp4⟩ := hq.2.2.1 p hpn
                      refine V_aload_n cx 197 rfl dL_split_196 12 rfl ?_
                      refine V_iload cx 199 rfl dL_split_197 3 rfl ?_
                      refine V_ialdN cx p (rfl) (by omega) (by decide) 2 rfl 200 rfl dL_split_199 ?_
                      refine V_toi (nI vp) (hvp1) ?_
                      refine V_iload cx 202 rfl dL_split_200 0 rfl ?_
                      refine V_iand cx 203 rfl dL_split_202 ?_
                      refine V_toi (nI (vp &&& nd)) (nI_andN _ _) ?_
                      refine V_iload cx 205 rfl dL_split_203 0 rfl ?_
                      refine V_icmp_eq cx 208 211 rfl dL_split_205 (by decide) (fun c_205 => ?_) (fun c_205 => ?_)
                      · skip
                        have h8 : vp &&& nd = (vp % 8) &&& nd := and_m8 (by omega)
                        have h9 : vp &&& nd ≤ nd := Nat.and_le_right
                        have hokf : okF (lF x p) pv.isNone (decide (e + szN (lT x p) = L)) = decide (vp &&& nd = nd) := by unfold okF; rw [← hnd, h8, hvp3]
                        have n_205 : vp &&& nd = nd := nI_inj (by omega) (by omega) c_205
                        have hfit : fits1 x L (dgt w L) e pv p := ⟨n_115, hvf, by rw [hokf]; exact decide_eq_true n_205⟩
                        refine V_iload cx 213 rfl dL_split_211 2 rfl ?_
                        refine V_iload cx 215 rfl dL_split_213 8 rfl ?_
                        refine V_icmp_ne cx 218 282 rfl dL_split_215 (by decide) (fun c_215 => ?_) (fun c_215 => ?_)
                        · skip
                          have n_215 : e + (szN (lT x p)) ≠ L := N_ne_t (by omega) (by omega) c_215
                          refine V_aload cx 284 rfl dL_split_282 16 rfl ?_
                          refine V_aload cx 286 rfl dL_split_284 17 rfl ?_
                          refine V_iconst (v := nI 4) cx 287 rfl dL_split_286 (by decide) ?_
                          refine V_ialdN cx 4 (rfl) (by omega) (by decide) 9 rfl 288 rfl dL_split_287 ?_
                          refine V_toi (nI N3) (hG3.2.2.2.2) ?_
                          refine V_lload cx 290 rfl dL_split_288 1 rfl ?_
                          refine V_lastN cx N3 (rfl) (by omega) (by decide) 6 rfl (lW G h qt qc qf qb ql qa3 (vp_updL qd3 N3 (lN (aK (Q ++ [yO x p 0])))) qw qh qg3 ++ rs) rfl 291 rfl dL_split_290 ?_
                          refine V_aload cx 293 rfl dL_split_291 17 rfl ?_
                          refine V_iconst (v := nI 4) cx 294 rfl dL_split_293 (by decide) ?_
                          refine V_dup2 cx 295 rfl dL_split_294 rfl rfl ?_
                          refine V_ialdN cx 4 (rfl) (by omega) (by decide) 9 rfl 296 rfl dL_split_295 ?_
                          refine V_toi (nI N3) (hG3.2.2.2.2) ?_
                          refine V_iconst (v := nI 1) cx 297 rfl dL_split_296 (by decide) ?_
                          refine V_iadd cx 298 rfl dL_split_297 ?_
                          refine V_toi (nI (N3 + 1)) (nI_add _ _) ?_
                          refine V_iastN cx 4 (rfl) (by omega) (by decide) 9 rfl (lW G h qt qc qf qb ql qa3 (vp_updL qd3 N3 (lN (aK (Q ++ [yO x p 0])))) qw qh (upd qg3 4 (nI (N3 + 1))) ++ rs) rfl 299 rfl dL_split_298 ?_
                          refine V_iconst (v := nI 0) cx 300 rfl dL_split_299 (by decide) ?_
                          refine V_istore (lc1 := [(20, .int (nI 0)), (19, .int (nI nd)), (17, .long (lN (aK (Q ++ [yO x p 0])))), (16, .int (nI (e + (szN (lT x p))))), (15, .int (nI p)), (14, .int bf), (13, .int (nI e)), (11, .long (lN (aK Q))), (10, .int (nI j)), (9, .int (nI L)), (0, .int (nI w)), (1, .ref (h 21)), (2, .ref (h 22)), (3, .ref (h 23)), (4, .ref (h 24)), (5, .ref (h 25)), (6, .ref (h 26)), (7, .ref (h 27)), (8, .ref (h 30))]) cx 302 rfl dL_split_300 (by decide) rfl ?_
                          have loop_302 : ∀ (fuel : Nat) (k : Nat) (qd5 : Nat → Int64) (qg5 : Nat → Int32) (qs5 : Nat → SP) (N5 : Nat), (k ≤ lNl x) → (gI qg5 qg x F3 N5) → (∀ i, i < N5 → qd5 i = lN (aK (qs5 i))) → (j < N5) → (qs5 j = Q) → (QB x L (dgt w L) qs5 N5 fs3 F3 (PrL j p (k + 1))) → lNl x - k < fuel → V X lo 21 G (Qv X lo G (fun ((qa1, qd1, qg1) : (Nat → Int64) × (Nat → Int64) × (Nat → Int32)) => spPost x L w qg qa1 qg1) (fun ((qa1, qd1, qg1) : (Nat → Int64) × (Nat → Int64) × (Nat → Int32)) => lW G h qt qc qf qb ql qa1 qd1 qw qh qg1 ++ rs) 0 0) 0 0 (lW G h qt qc qf qb ql qa3 qd5 qw qh qg5 ++ rs) [(20, .int (nI k)), (19, .int (nI nd)), (17, .long (lN (aK (Q ++ [yO x p 0])))), (16, .int (nI (e + (szN (lT x p))))), (15, .int (nI p)), (14, .int bf), (13, .int (nI e)), (11, .long (lN (aK Q))), (10, .int (nI j)), (9, .int (nI L)), (0, .int (nI w)), (1, .ref (h 21)), (2, .ref (h 22)), (3, .ref (h 23)), (4, .ref (h 24)), (5, .ref (h 25)), (6, .ref (h 26)), (7, .ref (h 27)), (8, .ref (h 30))] [] 302 := by
                            intro fuel
                            induction fuel with
                            | zero => intro k qd5 qg5 qs5 N5 hk hG5 hD5 hj5 hq5 hB5 hmz; exact absurd hmz (Nat.not_lt_zero _)
                            | succ fuel ih_302 =>
                              intro k qd5 qg5 qs5 N5 hk hG5 hD5 hj5 hq5 hB5 hmz_302
                              have hN5 := QB_N hok hL.2 hB5
                              refine V_iload cx 304 rfl dL_split_302 0 rfl ?_
                              refine V_aload cx 306 rfl dL_split_304 18 rfl ?_
                              refine V_iconst (v := nI 1) cx 307 rfl dL_split_306 (by decide) ?_
                              refine V_ialdN cx 1 (rfl) (by omega) (by decide) 9 rfl 308 rfl dL_split_307 ?_
                              refine V_toi (nI (lNl x)) (hG5.2.1) ?_
                              refine V_icmp_ge cx 311 395 rfl dL_split_308 (by decide) (fun c_308 => ?_) (fun c_308 => ?_)
                              · skip
                                have n_308 : k ≥ lNl x := N_ge_t (by omega) (by omega) c_308
                                refine V_iinc (v := nI (p + 1)) (lc1 := [(15, .int (nI (p + 1))), (20, .int (nI k)), (19, .int (nI nd)), (17, .long (lN (aK (Q ++ [yO x p 0])))), (16, .int (nI (e + (szN (lT x p))))), (14, .int bf), (13, .int (nI e)), (11, .long (lN (aK Q))), (10, .int (nI j)), (9, .int (nI L)), (0, .int (nI w)), (1, .ref (h 21)), (2, .ref (h 22)), (3, .ref (h 23)), (4, .ref (h 24)), (5, .ref (h 25)), (6, .ref (h 26)), (7, .ref (h 27)), (8, .ref (h 30))]) cx 398 rfl dL_split_395 4 rfl (nI_inc p 1) (by decide) rfl ?_
                                refine V_goto cx 77 dL_split_398 (by decide) ?_
                                refine V.locs [0, 5, 6, 7, 8, 9, 10, 11, 12, 13, 14, 15, 16, 17, 18] rfl ?_
                                have hk9 : k = lNl x := by omega
                                rw [hk9] at hB5
                                have kB := QB_le hd hB5 hj5 hq5 hPS
                                have kG := hG5
                                have kA := hA3
                                have kD := hD5
                                have kq := hq5
                                exact ih_77 (p + 1) qa3 qd5 qg5 qs5 fs3 N5 F3 (by omega) (by exact kG) (by exact kA) (by exact kD) (by omega) (by exact kq) (by exact kB) (by omega)
                              · skip
                                have n_308 : k < lNl x := N_ge_f (by omega) (by omega) c_308
                                obtain ⟨vb, hvb1, hvb2, hvb3⟩ := hq.2.2.2.1 p hpn
                                obtain ⟨u1, u2, u3, u4⟩ := hok.2.2.2.2.2.2.1 k n_308
                                have u5 := ld_bd (Nat.le_refl _) u4
                                have u6 := hok.u n_308
                                refine V_aload cx 313 rfl dL_split_311 14 rfl ?_
                                refine V_iload cx 315 rfl dL_split_313 4 rfl ?_
                                refine V_ialdN cx p (rfl) (by omega) (by decide) 3 rfl 316 rfl dL_split_315 ?_
                                refine V_toi (nI vb) (hvb1) ?_
                                refine V_iload cx 318 rfl dL_split_316 0 rfl ?_
                                refine V_ishr cx 319 rfl dL_split_318 ?_
                                refine V_toi (nI (vb / 2 ^ k)) (i_shr (by omega) (by omega)) ?_
                                refine V_iconst (v := nI 1) cx 320 rfl dL_split_319 (by decide) ?_
                                refine V_iand cx 321 rfl dL_split_320 ?_
                                refine V_toi (nI ((vb / 2 ^ k) &&& 1)) (nI_andN _ _) ?_
                                refine V_iconst (v := nI 1) cx 322 rfl dL_split_321 (by decide) ?_
                                refine V_icmp_eq cx 325 389 rfl dL_split_322 (by decide) (fun c_322 => ?_) (fun c_322 => ?_)
                                · skip
                                  have n_322 : vb / 2 ^ k &&& 1 = 1 := nI_inj (Nat.lt_of_le_of_lt Nat.and_le_right (by decide)) (by decide) c_322
                                  have hbt : lB x p k = true := by rw [← hvb3 k (by omega)]; exact (tb_iff1 vb k).mp n_322
                                  refine V_iinc (v := nI (k + 1)) (lc1 := [(20, .int (nI (k + 1))), (19, .int (nI nd)), (17, .long (lN (aK (Q ++ [yO x p 0])))), (16, .int (nI (e + (szN (lT x p))))), (15, .int (nI p)), (14, .int bf), (13, .int (nI e)), (11, .long (lN (aK Q))), (10, .int (nI j)), (9, .int (nI L)), (0, .int (nI w)), (1, .ref (h 21)), (2, .ref (h 22)), (3, .ref (h 23)), (4, .ref (h 24)), (5, .ref (h 25)), (6, .ref (h 26)), (7, .ref (h 27)), (8, .ref (h 30))]) cx 392 rfl dL_split_389 0 rfl (nI_inc k 1) (by decide) rfl ?_
                                  refine V_goto cx 302 dL_split_392 (by decide) ?_
                                  refine V.locs [0, 1, 2, 3, 4, 5, 6, 7, 8, 9, 10, 11, 12, 13, 14, 15, 16, 17, 18] rfl ?_
                                  have hln : ¬ lkOK x L (dgt w L) (e + szN (lT x p)) p k = true := fun hh => by rw [(lkOK_iff.mp hh).2.1] at hbt; cases hbt
                                  have kB := QB_ln hd hB5 hj5 hq5 hPS hln
                                  have kG := hG5
                                  have kD := hD5
                                  have kq := hq5
                                  exact ih_302 (k + 1) qd5 qg5 qs5 N5 (by omega) (by exact kG) (by exact kD) (by omega) (by exact kq) (by exact kB) (by omega)
                                · skip
                                  have hbt : lB x p k = false := by rw [← hvb3 k (by omega)]; cases hb9 : vb.testBit k with | false => rfl | true => exact absurd (congrArg nI ((tb_iff1 vb k).mpr hb9)) c_322
                                  refine V_iload_n cx 326 rfl dL_split_325 10 rfl ?_
                                  refine V_iload cx 328 rfl dL_split_326 3 rfl ?_
                                  refine V_aload cx 330 rfl dL_split_328 15 rfl ?_
                                  refine V_iload cx 332 rfl dL_split_330 0 rfl ?_
                                  refine V_ialdN cx k (rfl) (by omega) (by decide) 4 rfl 333 rfl dL_split_332 ?_
                                  refine V_toi (nI (lU x k)) (hq.2.2.2.2 k n_308) ?_
                                  refine KL_59 (As := [.int (nI (lU x k))]) (rest := [.int (nI (e + (szN (lT x p)))), .int (nI w)]) cx (kL_size (xl X) lo G _ (lU x k) (szN (lU x k)) u3 u5 (by omega)) hX (by omega) rfl rfl (Nat.le_of_ble_eq_true rfl) 336 0 0 rfl rfl rfl (by omega) (by omega) dL_split_333 (fun r_16 u_17 hw_18 => ?_)
                                  try dsimp only at hw_18
                                  subst hw_18
                                  refine KL_92 (As := [.int (nI w), .int (nI (e + (szN (lT x p)))), .int (nI (szN (lU x k)))]) (rest := []) cx (kL_sub (xl X) lo G _ w (e + (szN (lT x p))) (szN (lU x k)) L hw1 hw3 (by omega) (by omega)) hX (by omega) rfl rfl (Nat.le_of_ble_eq_true rfl) 339 0 0 rfl rfl rfl (by omega) (by omega) dL_split_336 (fun r_19 u_20 hw_21 => ?_)
                                  try dsimp only at hw_21
                                  subst hw_21
                                  refine V_aload cx 341 rfl dL_split_339 15 rfl ?_
                                  refine V_iload cx 343 rfl dL_split_341 0 rfl ?_
                                  refine V_ialdN cx k (rfl) (by omega) (by decide) 4 rfl 344 rfl dL_split_343 ?_
                                  refine V_toi (nI (lU x k)) (hq.2.2.2.2 k n_308) ?_
                                  refine V_icmp_ne cx 347 389 rfl dL_split_344 (by decide) (fun c_344 => ?_) (fun c_344 => ?_)
                                  · skip
                                    have n_344 : ¬ (e + szN (lT x p) + szN (lU x k) ≤ L ∧ TA (dgt w L) (e + szN (lT x p)) (szN (lU x k)) = lU x k) := fun hh => c_344 ((txt_iff hok n_308 hd (by omega)).mpr hh)
                                    refine V_iinc (v := nI (k + 1)) (lc1 := [(20, .int (nI (k + 1))), (19, .int (nI nd)), (17, .long (lN (aK (Q ++ [yO x p 0])))), (16, .int (nI (e + (szN (lT x p))))), (15, .int (nI p)), (14, .int bf), (13, .int (nI e)), (11, .long (lN (aK Q))), (10, .int (nI j)), (9, .int (nI L)), (0, .int (nI w)), (1, .ref (h 21)), (2, .ref (h 22)), (3, .ref (h 23)), (4, .ref (h 24)), (5, .ref (h 25)), (6, .ref (h 26)), (7, .ref (h 27)), (8, .ref (h 30))]) cx 392 rfl dL_split_389 0 rfl (nI_inc k 1) (by decide) rfl ?_
                                    refine V_goto cx 302 dL_split_392 (by decide) ?_
                                    refine V.locs [0, 1, 2, 3, 4, 5, 6, 7, 8, 9, 10, 11, 12, 13, 14, 15, 16, 17, 18] rfl ?_
                                    have hln : ¬ lkOK x L (dgt w L) (e + szN (lT x p)) p k = true := fun hh => n_344 ⟨Nat.le_of_lt (lkOK_iff.mp hh).2.2.1, (lkOK_iff.mp hh).2.2.2⟩
                                    have kB := QB_ln hd hB5 hj5 hq5 hPS hln
                                    have kG := hG5
                                    have kD := hD5
                                    have kq := hq5
                                    exact ih_302 (k + 1) qd5 qg5 qs5 N5 (by omega) (by exact kG) (by exact kD) (by omega) (by exact kq) (by exact kB) (by omega)
                                  · skip
                                    have n_344 : e + szN (lT x p) + szN (lU x k) ≤ L ∧ TA (dgt w L) (e + szN (lT x p)) (szN (lU x k)) = lU x k := (txt_iff hok n_308 hd (by omega)).mp c_344
                                    refine V_iload cx 349 rfl dL_split_347 3 rfl ?_
                                    refine V_aload cx 351 rfl dL_split_349 15 rfl ?_
                                    refine V_iload cx 353 rfl dL_split_351 0 rfl ?_
                                    refine V_ialdN cx k (rfl) (by omega) (by decide) 4 rfl 354 rfl dL_split_353 ?_
                                    refine V_toi (nI (lU x k)) (hq.2.2.2.2 k n_308) ?_
                                    refine KL_59 (As := [.int (nI (lU x k))]) (rest := [.int (nI (e + (szN (lT x p))))]) cx (kL_size (xl X) lo G _ (lU x k) (szN (lU x k)) u3 u5 (by omega)) hX (by omega) rfl rfl (Nat.le_of_ble_eq_true rfl) 357 0 0 rfl rfl rfl (by omega) (by omega) dL_split_354 (fun r_22 u_23 hw_24 => ?_)
                                    try dsimp only at hw_24
                                    subst hw_24
                                    refine V_iadd cx 358 rfl dL_split_357 ?_
                                    refine V_toi (nI ((e + (szN (lT x p))) + (szN (lU x k)))) (nI_add _ _) ?_
                                    refine V_iload cx 360 rfl dL_split_358 9 rfl ?_
                                    refine V_icmp_ne cx 363 366 rfl dL_split_360 (by decide) (fun c_360 => ?_) (fun c_360 => ?_)
                                    · skip
                                      have n_360 : e + szN (lT x p) + szN (lU x k) ≠ L := N_ne_t (by omega) (by omega) c_360
                                      have hly : lkOK x L (dgt w L) (e + szN (lT x p)) p k = true := lkOK_iff.mpr ⟨n_308, hbt, by omega, n_344.2⟩
                                      refine V_aload cx 368 rfl dL_split_366 17 rfl ?_
                                      refine V_aload cx 370 rfl dL_split_368 18 rfl ?_
                                      refine V_iconst (v := nI 4) cx 371 rfl dL_split_370 (by decide) ?_
                                      refine V_ialdN cx 4 (rfl) (by omega) (by decide) 9 rfl 372 rfl dL_split_371 ?_
                                      refine V_toi (nI N5) (hG5.2.2.2.2) ?_
                                      refine V_lload cx 374 rfl dL_split_372 2 rfl ?_
                                      refine V_iload cx 376 rfl dL_split_374 0 rfl ?_
                                      refine V_i2l cx 377 rfl dL_split_376 ?_
                                      refine V_tol (lN k) (nI_l (by omega)) ?_
                                      refine V_lconst (v := lN 1) cx 378 rfl dL_split_377 (by decide) ?_
                                      refine V_ladd cx 379 rfl dL_split_378 ?_
                                      refine V_tol (lN (k + 1)) (lN_add _ _) ?_
                                      refine V_lor cx 380 rfl dL_split_379 ?_
                                      refine V_tol (lN (aK (Q ++ [yO x p (k + 1)]))) (by rw [aK_yO _ _ _ _ (show 0 < 7 by omega), show 256 * aK Q + (8 * (p + 1) + 0) = (32 * aK Q + (p + 1)) * 8 by omega, g_or (k := 3) rfl (by omega) (by omega), aK_yO _ _ _ _ (by omega)]; congr 1; omega) ?_
                                      refine V_lastN cx N5 (rfl) (by omega) (by decide) 6 rfl (lW G h qt qc qf qb ql qa3 (vp_updL qd5 N5 (lN (aK (Q ++ [yO x p (k + 1)])))) qw qh qg5 ++ rs) rfl 381 rfl dL_split_380 ?_
                                      refine V_aload cx 383 rfl dL_split_381 18 rfl ?_
                                      refine V_iconst (v := nI 4) cx 384 rfl dL_split_383 (by decide) ?_
                                      refine V_dup2 cx 385 rfl dL_split_384 rfl rfl ?_
                                      refine V_ialdN cx 4 (rfl) (by omega) (by decide) 9 rfl 386 rfl dL_split_385 ?_
                                      refine V_toi (nI N5) (hG5.2.2.2.2) ?_
                                      refine V_iconst (v := nI 1) cx 387 rfl dL_split_386 (by decide) ?_
                                      refine V_iadd cx 388 rfl dL_split_387 ?_
                                      refine V_toi (nI (N5 + 1)) (nI_add _ _) ?_
                                      refine V_iastN cx 4 (rfl) (by omega) (by decide) 9 rfl (lW G h qt qc qf qb ql qa3 (vp_updL qd5 N5 (lN (aK (Q ++ [yO x p (k + 1)])))) qw qh (upd qg5 4 (nI (N5 + 1))) ++ rs) rfl 389 rfl dL_split_388 ?_
                                      refine V_iinc (v := nI (k + 1)) (lc1 := [(20, .int (nI (k + 1))), (19, .int (nI nd)), (17, .long (lN (aK (Q ++ [yO x p 0])))), (16, .int (nI (e + (szN (lT x p))))), (15, .int (nI p)), (14, .int bf), (13, .int (nI e)), (11, .long (lN (aK Q))), (10, .int (nI j)), (9, .int (nI L)), (0, .int (nI w)), (1, .ref (h 21)), (2, .ref (h 22)), (3, .ref (h 23)), (4, .ref (h 24)), (5, .ref (h 25)), (6, .ref (h 26)), (7, .ref (h 27)), (8, .ref (h 30))]) cx 392 rfl dL_split_389 0 rfl (nI_inc k 1) (by decide) rfl ?_
                                      refine V_goto cx 302 dL_split_392 (by decide) ?_
                                      refine V.locs [0, 1, 2, 3, 4, 5, 6, 7, 8, 9, 10, 11, 12, 13, 14, 15, 16, 17, 18] rfl ?_
                                      have kB := QB_ly hok hd hB5 hj5 hq5 hPS heL hfit hly
                                      have kG := gI_4 hG5 (N5 + 1)
                                      have kq : updS qs5 N5 (Q ++ [yO x p (k + 1)]) j = Q := (updS_n _ _ (by omega)).trans hq5
                                      have kD : ∀ i, i < N5 + 1 → vp_updL qd5 N5 (lN (aK (Q ++ [yO x p (k + 1)]))) i = lN (aK (updS qs5 N5 (Q ++ [yO x p (k + 1)]) i)) := fun i hi => by
                                        by_cases g1 : i = N5
                                        · rw [g1, updL_s, updS_s]
                                        · rw [updL_n _ _ g1, updS_n _ _ g1]; exact hD5 i (by omega)
                                      exact ih_302 (k + 1) (vp_updL qd5 N5 (lN (aK (Q ++ [yO x p (k + 1)])))) (upd qg5 4 (nI (N5 + 1))) (updS qs5 N5 (Q ++ [yO x p (k + 1)])) (N5 + 1) (by omega) (by exact kG) (by exact kD) (by omega) (by exact kq) (by exact kB) (by omega)
                                    · skip
                                      have n_360 : e + szN (lT x p) + szN (lU x k) = L := N_ne_f (by omega) (by omega) c_360
                                      refine V_goto cx 389 dL_split_363 (by decide) ?_
                                      refine V_iinc (v := nI (k + 1)) (lc1 := [(20, .int (nI (k + 1))), (19, .int (nI nd)), (17, .long (lN (aK (Q ++ [yO x p 0])))), (16, .int (nI (e + (szN (lT x p))))), (15, .int (nI p)), (14, .int bf), (13, .int (nI e)), (11, .long (lN (aK Q))), (10, .int (nI j)), (9, .int (nI L)), (0, .int (nI w)), (1, .ref (h 21)), (2, .ref (h 22)), (3, .ref (h 23)), (4, .ref (h 24)), (5, .ref (h 25)), (6, .ref (h 26)), (7, .ref (h 27)), (8, .ref (h 30))]) cx 392 rfl dL_split_389 0 rfl (nI_inc k 1) (by decide) rfl ?_
                                      refine V_goto cx 302 dL_split_392 (by decide) ?_
                                      refine V.locs [0, 1, 2, 3, 4, 5, 6, 7, 8, 9, 10, 11, 12, 13, 14, 15, 16, 17, 18] rfl ?_
                                      have hln : ¬ lkOK x L (dgt w L) (e + szN (lT x p)) p k = true := fun hh => by have := (lkOK_iff.mp hh).2.2.1; omega
                                      have kB := QB_ln hd hB5 hj5 hq5 hPS hln
                                      have kG := hG5
                                      have kD := hD5
                                      have kq := hq5
                                      exact ih_302 (k + 1) qd5 qg5 qs5 N5 (by omega) (by exact kG) (by exact kD) (by omega) (by exact kq) (by exact kB) (by omega)
                          refine V.locs [0, 1, 2, 3, 4, 5, 6, 7, 8, 9, 10, 11, 12, 13, 14, 15, 16, 17, 18] rfl ?_
                          exact loop_302 _ 0 (vp_updL qd3 N3 (lN (aK (Q ++ [yO x p 0])))) (upd qg3 4 (nI (N3 + 1))) (updS qs3 N3 (Q ++ [yO x p 0])) (N3 + 1) (by omega) (by exact gI_4 hG3 (N3 + 1)) (by exact fun i hi => by by_cases g1 : i = N3; (rw [g1, updL_s, updS_s]); (rw [updL_n _ _ g1, updS_n _ _ g1]; exact hD3 i (by omega))) (by omega) (by exact (updS_n _ _ (by omega)).trans hq3) (by exact QB_l0 hok hd hB3 hj3 hq3 hPS heL hfit (by omega)) (Nat.lt_succ_self _)
                        · skip
                          have n_215 : e + (szN (lT x p)) = L := N_ne_f (by omega) (by omega) c_215
                          obtain ⟨e9, hps9, he9, -⟩ := ext_mk hok hPS heL hfit 0 (by omega) (Or.inl rfl)
                          have he10 : e9 = L := by rw [he9, show lsO x 0 = 0 from if_pos rfl]; omega
                          rw [he10] at hps9
                          have hvS : valS x L (dgt w L) (Q ++ [yO x p 0]) 0 none := PS_valS _ _ _ _ (by simp) hps9
                          obtain ⟨hv1, hv2, -⟩ := id (show (∀ i, i < F3 → valS x L (dgt w L) (fs3 i) 0 none) ∧ (∀ i j, i < j → j < F3 → ckl x (fs3 i) < ckl x (fs3 j)) ∧ True from ⟨hB3.2.2.2.1, hB3.2.2.2.2.1, trivial⟩)
                          refine V_aload cx 220 rfl dL_split_218 17 rfl ?_
                          refine V_iconst (v := nI 3) cx 221 rfl dL_split_220 (by decide) ?_
                          refine V_ialdN cx 3 (rfl) (by omega) (by decide) 9 rfl 222 rfl dL_split_221 ?_
                          refine V_toi (nI F3) (hG3.2.2.2.1) ?_
                          refine V_istore (lc1 := [(20, .int (nI F3)), (19, .int (nI nd)), (17, .long (lN (aK (Q ++ [yO x p 0])))), (16, .int (nI (e + (szN (lT x p))))), (15, .int (nI p)), (14, .int bf), (13, .int (nI e)), (11, .long (lN (aK Q))), (10, .int (nI j)), (9, .int (nI L)), (0, .int (nI w)), (1, .ref (h 21)), (2, .ref (h 22)), (3, .ref (h 23)), (4, .ref (h 24)), (5, .ref (h 25)), (6, .ref (h 26)), (7, .ref (h 27)), (8, .ref (h 30))]) cx 224 rfl dL_split_222 (by decide) rfl ?_
                          have loop_224 : ∀ (fuel : Nat) (k : Nat) (qa4 : Nat → Int64), (k ≤ F3) → (∀ i, i < k → qa4 i = lN (aK (fs3 i))) → (∀ i, k < i → i ≤ F3 → qa4 i = lN (aK (fs3 (i - 1)))) → (∀ i, k ≤ i → i < F3 → ckl x (Q ++ [yO x p 0]) < ckl x (fs3 i)) → k < fuel → V X lo 21 G (Qv X lo G (fun ((qa1, qd1, qg1) : (Nat → Int64) × (Nat → Int64) × (Nat → Int32)) => spPost x L w qg qa1 qg1) (fun ((qa1, qd1, qg1) : (Nat → Int64) × (Nat → Int64) × (Nat → Int32)) => lW G h qt qc qf qb ql qa1 qd1 qw qh qg1 ++ rs) 0 0) 0 0 (lW G h qt qc qf qb ql qa4 qd3 qw qh qg3 ++ rs) [(20, .int (nI k)), (19, .int (nI nd)), (17, .long (lN (aK (Q ++ [yO x p 0])))), (16, .int (nI (e + (szN (lT x p))))), (15, .int (nI p)), (14, .int bf), (13, .int (nI e)), (11, .long (lN (aK Q))), (10, .int (nI j)), (9, .int (nI L)), (0, .int (nI w)), (1, .ref (h 21)), (2, .ref (h 22)), (3, .ref (h 23)), (4, .ref (h 24)), (5, .ref (h 25)), (6, .ref (h 26)), (7, .ref (h 27)), (8, .ref (h 30))] [] 224 := by
                            intro fuel
                            induction fuel with
                            | zero => intro k qa4 hk1 hk2 hk3 hk4 hmz; exact absurd hmz (Nat.not_lt_zero _)
                            | succ fuel ih_224 =>
                              intro k qa4 hk1 hk2 hk3 hk4 hmz_224
                              refine V_iload cx 226 rfl dL_split_224 0 rfl ?_
                              refine V_if_le cx 229 264 rfl dL_split_226 (by decide) (fun c_226 => ?_) (fun c_226 => ?_)
                              · skip
                                have n_226 : k ≤ 0 := Z_le_t (by omega) c_226
                                refine V_aload cx 266 rfl dL_split_264 16 rfl ?_
                                refine V_iload cx 268 rfl dL_split_266 0 rfl ?_
                                refine V_lload cx 270 rfl dL_split_268 2 rfl ?_
                                refine V_lastN cx k (rfl) (by omega) (by decide) 5 rfl (lW G h qt qc qf qb ql (vp_updL qa4 k (lN (aK (Q ++ [yO x p 0])))) qd3 qw qh qg3 ++ rs) rfl 271 rfl dL_split_270 ?_
                                refine V_aload cx 273 rfl dL_split_271 18 rfl ?_
                                refine V_iconst (v := nI 3) cx 274 rfl dL_split_273 (by decide) ?_
                                refine V_dup2 cx 275 rfl dL_split_274 rfl rfl ?_
                                refine V_ialdN cx 3 (rfl) (by omega) (by decide) 9 rfl 276 rfl dL_split_275 ?_
                                refine V_toi (nI F3) (hG3.2.2.2.1) ?_
                                refine V_iconst (v := nI 1) cx 277 rfl dL_split_276 (by decide) ?_
                                refine V_iadd cx 278 rfl dL_split_277 ?_
                                refine V_toi (nI (F3 + 1)) (nI_add _ _) ?_
                                refine V_iastN cx 3 (rfl) (by omega) (by decide) 9 rfl (lW G h qt qc qf qb ql (vp_updL qa4 k (lN (aK (Q ++ [yO x p 0])))) qd3 qw qh (upd qg3 3 (nI (F3 + 1))) ++ rs) rfl 279 rfl dL_split_278 ?_
                                refine V_goto cx 395 dL_split_279 (by decide) ?_
                                refine V_iinc (v := nI (p + 1)) (lc1 := [(15, .int (nI (p + 1))), (20, .int (nI k)), (19, .int (nI nd)), (17, .long (lN (aK (Q ++ [yO x p 0])))), (16, .int (nI (e + (szN (lT x p))))), (14, .int bf), (13, .int (nI e)), (11, .long (lN (aK Q))), (10, .int (nI j)), (9, .int (nI L)), (0, .int (nI w)), (1, .ref (h 21)), (2, .ref (h 22)), (3, .ref (h 23)), (4, .ref (h 24)), (5, .ref (h 25)), (6, .ref (h 26)), (7, .ref (h 27)), (8, .ref (h 30))]) cx 398 rfl dL_split_395 4 rfl (nI_inc p 1) (by decide) rfl ?_
                                refine V_goto cx 77 dL_split_398 (by decide) ?_
                                refine V.locs [0, 5, 6, 7, 8, 9, 10, 11, 12, 13, 14, 15, 16, 17, 18] rfl ?_
                                have kB := QB_ins hok hd (by omega) hB3 hj3 hq3 hPS heL hfit (by omega) hk1 hk4 (Or.inl (by omega))
                                have kG := gI_3 hG3 (F3 + 1)
                                have kD := hD3
                                have kq := hq3
                                have kA : ∀ i, i < F3 + 1 → vp_updL qa4 k (lN (aK (Q ++ [yO x p 0]))) i = lN (aK (insS fs3 k (Q ++ [yO x p 0]) i)) := fun i hi => by
                                  rcases Nat.lt_trichotomy i k with g1 | g1 | g1
                                  · rw [updL_n _ _ (by omega), insS_l _ _ g1]; exact hk2 i g1
                                  · rw [g1, updL_s, insS_s]
                                  · rw [updL_n _ _ (by omega), insS_g _ _ g1]; exact hk3 i g1 (by omega)
                                exact ih_77 (p + 1) (vp_updL qa4 k (lN (aK (Q ++ [yO x p 0])))) qd3 (upd qg3 3 (nI (F3 + 1))) qs3 (insS fs3 k (Q ++ [yO x p 0])) N3 (F3 + 1) (by omega) (by exact kG) (by exact kA) (by exact kD) (by omega) (by exact kq) (by exact kB) (by omega)
                              · skip
                                have n_226 : k > 0 := Z_le_f (by omega) c_226
                                refine V_lload cx 231 rfl dL_split_229 2 rfl ?_
                                refine V_aload cx 233 rfl dL_split_231 16 rfl ?_
                                refine V_iload cx 235 rfl dL_split_233 0 rfl ?_
                                refine V_iconst (v := nI 1) cx 236 rfl dL_split_235 (by decide) ?_
                                refine V_isub cx 237 rfl dL_split_236 ?_
                                refine V_toi (nI (k - 1)) (nI_subN (by omega)) ?_
                                refine V_laldN cx (k - 1) (rfl) (by omega) (by decide) 5 rfl 238 rfl dL_split_237 ?_
                                refine V_tol (lN (aK (fs3 (k - 1)))) (hk2 (k - 1) (by omega)) ?_
                                refine V_aload_n cx 239 rfl dL_split_238 11 rfl ?_
                                refine V_aload_n cx 240 rfl dL_split_239 12 rfl ?_
                                refine KL_97 (As := [.long (lN (aK (Q ++ [yO x p 0]))), .long (lN (aK (fs3 (k - 1)))), .ref (h 21), .ref (h 22)]) (rest := []) cx (kL_isAhead (xl X) lo G _ h qt qc qf qb ql qa4 qd3 qw qh qg3 (aK (Q ++ [yO x p 0])) (aK (fs3 (k - 1))) (Q ++ [yO x p 0]) (fs3 (k - 1)) x L (dgt w L) rfl rfl hok hq (by omega) hd hvS (hv1 (k - 1) (by omega))) hX (by omega) rfl rfl (Nat.le_of_ble_eq_true rfl) 243 0 0 rfl rfl rfl (by omega) (by omega) dL_split_240 (fun r_25 u_26 hw_27 => ?_)
                                try dsimp only at hw_27
                                subst hw_27
                                refine V_if_eq cx 246 264 rfl dL_split_243 (by decide) (fun c_243 => ?_) (fun c_243 => ?_)
                                · skip
                                  have n_243 := B_eq_t c_243
                                  simp only [decide_eq_true_eq, decide_eq_false_iff_not] at n_243
                                  refine V_aload cx 266 rfl dL_split_264 16 rfl ?_
                                  refine V_iload cx 268 rfl dL_split_266 0 rfl ?_
                                  refine V_lload cx 270 rfl dL_split_268 2 rfl ?_
                                  refine V_lastN cx k (rfl) (by omega) (by decide) 5 rfl (lW G h qt qc qf qb ql (vp_updL qa4 k (lN (aK (Q ++ [yO x p 0])))) qd3 qw qh qg3 ++ rs) rfl 271 rfl dL_split_270 ?_
                                  refine V_aload cx 273 rfl dL_split_271 18 rfl ?_
                                  refine V_iconst (v := nI 3) cx 274 rfl dL_split_273 (by decide) ?_
                                  refine V_dup2 cx 275 rfl dL_split_274 rfl rfl ?_
                                  refine V_ialdN cx 3 (rfl) (by omega) (by decide) 9 rfl 276 rfl dL_split_275 ?_
                                  refine V_toi (nI F3) (hG3.2.2.2.1) ?_
                                  refine V_iconst (v := nI 1) cx 277 rfl dL_split_276 (by decide) ?_
                                  refine V_iadd cx 278 rfl dL_split_277 ?_
                                  refine V_toi (nI (F3 + 1)) (nI_add _ _) ?_
                                  refine V_iastN cx 3 (rfl) (by omega) (by decide) 9 rfl (lW G h qt qc qf qb ql (vp_updL qa4 k (lN (aK (Q ++ [yO x p 0])))) qd3 qw qh (upd qg3 3 (nI (F3 + 1))) ++ rs) rfl 279 rfl dL_split_278 ?_
                                  refine V_goto cx 395 dL_split_279 (by decide) ?_
                                  refine V_iinc (v := nI (p + 1)) (lc1 := [(15, .int (nI (p + 1))), (20, .int (nI k)), (19, .int (nI nd)), (17, .long (lN (aK (Q ++ [yO x p 0])))), (16, .int (nI (e + (szN (lT x p))))), (14, .int bf), (13, .int (nI e)), (11, .long (lN (aK Q))), (10, .int (nI j)), (9, .int (nI L)), (0, .int (nI w)), (1, .ref (h 21)), (2, .ref (h 22)), (3, .ref (h 23)), (4, .ref (h 24)), (5, .ref (h 25)), (6, .ref (h 26)), (7, .ref (h 27)), (8, .ref (h 30))]) cx 398 rfl dL_split_395 4 rfl (nI_inc p 1) (by decide) rfl ?_
                                  refine V_goto cx 77 dL_split_398 (by decide) ?_
                                  refine V.locs [0, 5, 6, 7, 8, 9, 10, 11, 12, 13, 14, 15, 16, 17, 18] rfl ?_
                                  have kB := QB_ins hok hd (by omega) hB3 hj3 hq3 hPS heL hfit (by omega) hk1 hk4 (Or.inr n_243)
                                  have kG := gI_3 hG3 (F3 + 1)
                                  have kD := hD3
                                  have kq := hq3
                                  have kA : ∀ i, i < F3 + 1 → vp_updL qa4 k (lN (aK (Q ++ [yO x p 0]))) i = lN (aK (insS fs3 k (Q ++ [yO x p 0]) i)) := fun i hi => by
                                    rcases Nat.lt_trichotomy i k with g1 | g1 | g1
                                    · rw [updL_n _ _ (by omega), insS_l _ _ g1]; exact hk2 i g1
                                    · rw [g1, updL_s, insS_s]
                                    · rw [updL_n _ _ (by omega), insS_g _ _ g1]; exact hk3 i g1 (by omega)
                                  exact ih_77 (p + 1) (vp_updL qa4 k (lN (aK (Q ++ [yO x p 0])))) qd3 (upd qg3 3 (nI (F3 + 1))) qs3 (insS fs3 k (Q ++ [yO x p 0])) N3 (F3 + 1) (by omega) (by exact kG) (by exact kA) (by exact kD) (by omega) (by exact kq) (by exact kB) (by omega)
                                · skip
                                  have n_243 := B_eq_f c_243
                                  simp only [decide_eq_true_eq, decide_eq_false_iff_not] at n_243
                                  refine V_aload cx 248 rfl dL_split_246 16 rfl ?_
                                  refine V_iload cx 250 rfl dL_split_248 0 rfl ?_
                                  refine V_aload cx 252 rfl dL_split_250 16 rfl ?_
                                  refine V_iload cx 254 rfl dL_split_252 0 rfl ?_
                                  refine V_iconst (v := nI 1) cx 255 rfl dL_split_254 (by decide) ?_
                                  refine V_isub cx 256 rfl dL_split_255 ?_
                                  refine V_toi (nI (k - 1)) (nI_subN (by omega)) ?_
                                  refine V_laldN cx (k - 1) (rfl) (by omega) (by decide) 5 rfl 257 rfl dL_split_256 ?_
                                  refine V_tol (lN (aK (fs3 (k - 1)))) (hk2 (k - 1) (by omega)) ?_
                                  refine V_lastN cx k (rfl) (by omega) (by decide) 5 rfl (lW G h qt qc qf qb ql (vp_updL qa4 k (lN (aK (fs3 (k - 1))))) qd3 qw qh qg3 ++ rs) rfl 258 rfl dL_split_257 ?_
                                  refine V_iinc (v := nI (k - 1)) (lc1 := [(20, .int (nI (k - 1))), (19, .int (nI nd)), (17, .long (lN (aK (Q ++ [yO x p 0])))), (16, .int (nI (e + (szN (lT x p))))), (15, .int (nI p)), (14, .int bf), (13, .int (nI e)), (11, .long (lN (aK Q))), (10, .int (nI j)), (9, .int (nI L)), (0, .int (nI w)), (1, .ref (h 21)), (2, .ref (h 22)), (3, .ref (h 23)), (4, .ref (h 24)), (5, .ref (h 25)), (6, .ref (h 26)), (7, .ref (h 27)), (8, .ref (h 30))]) cx 261 rfl dL_split_258 0 rfl (nI_dec k 1 (by omega)) (by decide) rfl ?_
                                  refine V_goto cx 224 dL_split_261 (by decide) ?_
                                  refine V.locs [0, 1, 2, 3, 4, 5, 6, 7, 8, 9, 10, 11, 12, 13, 14, 15, 16, 17, 18] rfl ?_
                                  exact ih_224 (k - 1) (vp_updL qa4 k (lN (aK (fs3 (k - 1))))) (by omega) (by exact fun i hi => (updL_n _ _ (by omega)).trans (hk2 i (by omega))) (by exact fun i h1 h2 => by rcases Nat.eq_or_lt_of_le (show k ≤ i by omega) with g1 | g1; (rw [← g1, updL_s]); (rw [updL_n _ _ (by omega)]; exact hk3 i g1 h2)) (by exact fun i h1 h2 => by rcases Nat.eq_or_lt_of_le h1 with g1 | g1; (rw [← g1]; exact n_243); exact hk4 i (by omega) h2) (by omega)
                          refine V.locs [0, 1, 2, 3, 4, 5, 6, 7, 8, 9, 10, 11, 12, 13, 14, 15, 16, 17, 18] rfl ?_
                          exact loop_224 _ F3 qa3 (by omega) (by exact hA3) (by exact fun i h1 h2 => by omega) (by exact fun i h1 h2 => by omega) (Nat.lt_succ_self _)
                      · skip
                        have h8 : vp &&& nd = (vp % 8) &&& nd := and_m8 (by omega)
                        have h9 : vp &&& nd ≤ nd := Nat.and_le_right
                        have hokf : okF (lF x p) pv.isNone (decide (e + szN (lT x p) = L)) = decide (vp &&& nd = nd) := by unfold okF; rw [← hnd, h8, hvp3]
                        have n_205 : ¬ vp &&& nd = nd := fun hh => c_205 (congrArg nI hh)
                        have hff : ¬ okF (lF x p) pv.isNone (decide (e + szN (lT x p) = L)) = true := by rw [hokf, decide_eq_false n_205]; exact Bool.false_ne_true
                        refine V_goto cx 395 dL_split_208 (by decide) ?_
                        refine V_iinc (v := nI (p + 1)) (lc1 := [(15, .int (nI (p + 1))), (19, .int (nI nd)), (17, .long (lN (aK (Q ++ [yO x p 0])))), (16, .int (nI (e + (szN (lT x p))))), (14, .int bf), (13, .int (nI e)), (11, .long (lN (aK Q))), (10, .int (nI j)), (9, .int (nI L)), (0, .int (nI w)), (1, .ref (h 21)), (2, .ref (h 22)), (3, .ref (h 23)), (4, .ref (h 24)), (5, .ref (h 25)), (6, .ref (h 26)), (7, .ref (h 27)), (8, .ref (h 30))]) cx 398 rfl dL_split_395 3 rfl (nI_inc p 1) (by decide) rfl ?_
                        refine V_goto cx 77 dL_split_398 (by decide) ?_
                        refine V.locs [0, 4, 5, 6, 7, 8, 9, 10, 11, 12, 13, 14, 15, 16, 17] rfl ?_
                        have hno : ¬ fits1 x L (dgt w L) e pv p := fun hh => hff hh.2.2
                        have kB := QB_no hd hB3 hj3 hq3 hPS hno
                        have kG := hG3
                        have kA := hA3
                        have kD := hD3
                        have kq := hq3
                        exact ih_77 (p + 1) qa3 qd3 qg3 qs3 fs3 N3 F3 (by omega) (by exact kG) (by exact kA) (by exact kD) (by omega) (by exact kq) (by exact kB) (by omega)
                    refine V_lload cx 160 rfl dL_split_158 5 rfl ?_
                    refine V_lconst (v := lN 0) cx 161 rfl dL_split_160 (by decide) ?_
                    refine V_lcmp cx 162 rfl dL_split_161 ?_
                    refine V_if_ne cx 165 169 rfl dL_split_162 (by decide) (fun c_162 => ?_) (fun c_162 => ?_)
                    · skip
                      have n_162 := lg_z_t c_162
                      have hpn2 : pv.isNone = false := by rw [hlast]; unfold lastP; rw [if_neg (fun e9 => n_162 (by rw [e9]; rfl))]; rfl
                      refine V_iload cx 171 rfl dL_split_169 1 rfl ?_
                      refine V_iload cx 173 rfl dL_split_171 7 rfl ?_
                      refine V_icmp_ge cx 176 180 rfl dL_split_173 (by decide) (fun c_173 => ?_) (fun c_173 => ?_)
                      · skip
                        have n_173 : e + (szN (lT x p)) ≥ L := N_ge_t (by omega) (by omega) c_173
                        refine V_iconst (v := nI 0) cx 181 rfl dL_split_180 (by decide) ?_
                        refine V_iload cx 183 rfl dL_split_181 1 rfl ?_
                        refine V_iload cx 185 rfl dL_split_183 7 rfl ?_
                        refine V_icmp_ne cx 188 192 rfl dL_split_185 (by decide) (fun c_185 => ?_) (fun c_185 => ?_)
                        · skip
                          have n_185 : e + (szN (lT x p)) ≠ L := N_ne_t (by omega) (by omega) c_185
                          refine V_iconst (v := nI 0) cx 193 rfl dL_split_192 (by decide) ?_
                          refine V_iadd cx 194 rfl dL_split_193 ?_
                          refine V_toi (nI 0) (nI_add _ _) ?_
                          refine V.locs [0, 1, 2, 3, 4, 5, 6, 7, 8, 9, 10, 11, 12, 13, 14, 15, 16] rfl ?_
                          exact join_194 0 (by first | (exfalso; omega) | (rw [hpn2, decide_eq_true (show e + szN (lT x p) = L by omega)]; rfl) | (rw [hpn2, decide_eq_false (show ¬ e + szN (lT x p) = L by omega)]; rfl))
                        · skip
                          have n_185 : e + (szN (lT x p)) = L := N_ne_f (by omega) (by omega) c_185
                          refine V_iconst (v := nI 4) cx 189 rfl dL_split_188 (by decide) ?_
                          refine V_goto cx 193 dL_split_189 (by decide) ?_
                          refine V_iadd cx 194 rfl dL_split_193 ?_
                          refine V_toi (nI 4) (nI_add _ _) ?_
                          refine V.locs [0, 1, 2, 3, 4, 5, 6, 7, 8, 9, 10, 11, 12, 13, 14, 15, 16] rfl ?_
                          exact join_194 4 (by first | (exfalso; omega) | (rw [hpn2, decide_eq_true (show e + szN (lT x p) = L by omega)]; rfl) | (rw [hpn2, decide_eq_false (show ¬ e + szN (lT x p) = L by omega)]; rfl))
                      · skip
                        have n_173 : e + (szN (lT x p)) < L := N_ge_f (by omega) (by omega) c_173
                        refine V_iconst (v := nI 2) cx 177 rfl dL_split_176 (by decide) ?_
                        refine V_goto cx 181 dL_split_177 (by decide) ?_
                        refine V_iload cx 183 rfl dL_split_181 1 rfl ?_
                        refine V_iload cx 185 rfl dL_split_183 7 rfl ?_
                        refine V_icmp_ne cx 188 192 rfl dL_split_185 (by decide) (fun c_185 => ?_) (fun c_185 => ?_)
                        · skip
                          have n_185 : e + (szN (lT x p)) ≠ L := N_ne_t (by omega) (by omega) c_185
                          refine V_iconst (v := nI 0) cx 193 rfl dL_split_192 (by decide) ?_
                          refine V_iadd cx 194 rfl dL_split_193 ?_
                          refine V_toi (nI 2) (nI_add _ _) ?_
                          refine V.locs [0, 1, 2, 3, 4, 5, 6, 7, 8, 9, 10, 11, 12, 13, 14, 15, 16] rfl ?_
                          exact join_194 2 (by first | (exfalso; omega) | (rw [hpn2, decide_eq_true (show e + szN (lT x p) = L by omega)]; rfl) | (rw [hpn2, decide_eq_false (show ¬ e + szN (lT x p) = L by omega)]; rfl))
                        · skip
                          have n_185 : e + (szN (lT x p)) = L := N_ne_f (by omega) (by omega) c_185
                          refine V_iconst (v := nI 4) cx 189 rfl dL_split_188 (by decide) ?_
                          refine V_goto cx 193 dL_split_189 (by decide) ?_
                          refine V_iadd cx 194 rfl dL_split_193 ?_
                          refine V_toi (nI 6) (nI_add _ _) ?_
                          refine V.locs [0, 1, 2, 3, 4, 5, 6, 7, 8, 9, 10, 11, 12, 13, 14, 15, 16] rfl ?_
                          exact join_194 6 (by first | (exfalso; omega) | (rw [hpn2, decide_eq_true (show e + szN (lT x p) = L by omega)]; rfl) | (rw [hpn2, decide_eq_false (show ¬ e + szN (lT x p) = L by omega)]; rfl))
                    · skip
                      have n_162 := lg_z_f (by omega) c_162
                      have hpn2 : pv.isNone = true := by rw [hlast]; unfold lastP; rw [if_pos ((aK_z hbQ).mp n_162)]; rfl
                      refine V_iconst (v := nI 1) cx 166 rfl dL_split_165 (by decide) ?_
                      refine V_goto cx 181 dL_split_166 (by decide) ?_
                      refine V_iload cx 183 rfl dL_split_181 1 rfl ?_
                      refine V_iload cx 185 rfl dL_split_183 7 rfl ?_
                      refine V_icmp_ne cx 188 192 rfl dL_split_185 (by decide) (fun c_185 => ?_) (fun c_185 => ?_)
                      · skip
                        have n_185 : e + (szN (lT x p)) ≠ L := N_ne_t (by omega) (by omega) c_185
                        refine V_iconst (v := nI 0) cx 193 rfl dL_split_192 (by decide) ?_
                        refine V_iadd cx 194 rfl dL_split_193 ?_
                        refine V_toi (nI 1) (nI_add _ _) ?_
                        refine V.locs [0, 1, 2, 3, 4, 5, 6, 7, 8, 9, 10, 11, 12, 13, 14, 15, 16] rfl ?_
                        exact join_194 1 (by first | (exfalso; omega) | (rw [hpn2, decide_eq_true (show e + szN (lT x p) = L by omega)]; rfl) | (rw [hpn2, decide_eq_false (show ¬ e + szN (lT x p) = L by omega)]; rfl))
                      · skip
                        have n_185 : e + (szN (lT x p)) = L := N_ne_f (by omega) (by omega) c_185
                        refine V_iconst (v := nI 4) cx 189 rfl dL_split_188 (by decide) ?_
                        refine V_goto cx 193 dL_split_189 (by decide) ?_
                        refine V_iadd cx 194 rfl dL_split_193 ?_
                        refine V_toi (nI 5) (nI_add _ _) ?_
                        refine V.locs [0, 1, 2, 3, 4, 5, 6, 7, 8, 9, 10, 11, 12, 13, 14, 15, 16] rfl ?_
                        exact join_194 5 (by first | (exfalso; omega) | (rw [hpn2, decide_eq_true (show e + szN (lT x p) = L by omega)]; rfl) | (rw [hpn2, decide_eq_false (show ¬ e + szN (lT x p) = L by omega)]; rfl))
                  refine V_iload cx 120 rfl dL_split_118 2 rfl ?_
                  refine V_if_lt cx 123 141 rfl dL_split_120 (by decide) (fun c_120 => ?_) (fun c_120 => ?_)
                  · skip
                    have hpv0 : pv = none := by
                      rcases hpv1 : pv with _ | q
                      · rfl
                      · exfalso
                        have h9 := lastP_bd hsQ hlast hpv1
                        rw [hbf, hpv1] at c_120
                        exact nI_pos (show q < 2 ^ 31 by omega) c_120
                    have hvf : vetoed x pv p = false := by rw [hpv0]; rfl
                    refine V.locs [0, 1, 2, 3, 4, 5, 6, 7, 8, 9, 10, 11, 12, 13, 14, 15] rfl ?_
                    exact join_141  (by exact hvf)
                  · skip
                    obtain ⟨q, hpv0, hqn, hq0⟩ : ∃ q, pv = some q ∧ q < lNp x ∧ bf = nI q := by
                      rcases hpv1 : pv with _ | q
                      · exfalso
                        rw [hbf, hpv1] at c_120
                        exact c_120 (by decide)
                      · exact ⟨q, rfl, lastP_bd hsQ hlast hpv1, by rw [hbf, hpv1]; rfl⟩
                    obtain ⟨vq, hvq1, hvq2, hvq3, hvq4⟩ := hq.2.2.1 q hqn
                    have hvt0 : vetoed x pv p = lV x q p := by rw [hpv0]; rfl
                    refine V_aload_n cx 124 rfl dL_split_123 10 rfl ?_
                    refine V_iload cx 126 rfl dL_split_124 2 rfl ?_
                    refine V_ialdN cx q (hq0) (by omega) (by decide) 2 rfl 127 rfl dL_split_126 ?_
                    refine V_toi (nI vq) (hvq1) ?_
                    refine V_iconst (v := nI 3) cx 128 rfl dL_split_127 (by decide) ?_
                    refine V_iload cx 130 rfl dL_split_128 1 rfl ?_
                    refine V_iadd cx 131 rfl dL_split_130 ?_
                    refine V_toi (nI (3 + p)) (nI_add _ _) ?_
                    refine V_ishr cx 132 rfl dL_split_131 ?_
                    refine V_toi (nI (vq / 2 ^ (3 + p))) (i_shr (by omega) (by omega)) ?_
                    refine V_iconst (v := nI 1) cx 133 rfl dL_split_132 (by decide) ?_
                    refine V_iand cx 134 rfl dL_split_133 ?_
                    refine V_toi (nI ((vq / 2 ^ (3 + p)) &&& 1)) (nI_andN _ _) ?_
                    refine V_iconst (v := nI 1) cx 135 rfl dL_split_134 (by decide) ?_
                    refine V_icmp_ne cx 138 141 rfl dL_split_135 (by decide) (fun c_135 => ?_) (fun c_135 => ?_)
                    · skip
                      have hvf : vetoed x pv p = false := by rw [hvt0, ← hvq4 p (by omega)]; cases hb9 : vq.testBit (3 + p) with | false => rfl | true => exact absurd (congrArg nI ((tb_iff1 vq (3 + p)).mpr hb9)) c_135
                      refine V.locs [0, 1, 2, 3, 4, 5, 6, 7, 8, 9, 10, 11, 12, 13, 14, 15] rfl ?_
                      exact join_141  (by exact hvf)
                    · skip
                      have n_135 : vq / 2 ^ (3 + p) &&& 1 = 1 := nI_inj (Nat.lt_of_le_of_lt Nat.and_le_right (by decide)) (by decide) c_135
                      have hvt : vetoed x pv p = true := by rw [hvt0, ← hvq4 p (by omega)]; exact (tb_iff1 vq (3 + p)).mp n_135
                      refine V_goto cx 395 dL_split_138 (by decide) ?_
                      refine V_iinc (v := nI (p + 1)) (lc1 := [(15, .int (nI (p + 1))), (16, .int (nI (e + (szN (lT x p))))), (14, .int bf), (13, .int (nI e)), (11, .long (lN (aK Q))), (10, .int (nI j)), (9, .int (nI L)), (0, .int (nI w)), (1, .ref (h 21)), (2, .ref (h 22)), (3, .ref (h 23)), (4, .ref (h 24)), (5, .ref (h 25)), (6, .ref (h 26)), (7, .ref (h 27)), (8, .ref (h 30))]) cx 398 rfl dL_split_395 1 rfl (nI_inc p 1) (by decide) rfl ?_
                      refine V_goto cx 77 dL_split_398 (by decide) ?_
                      refine V.locs [0, 2, 3, 4, 5, 6, 7, 8, 9, 10, 11, 12, 13, 14, 15] rfl ?_
                      have hno : ¬ fits1 x L (dgt w L) e pv p := fun hh => by have h9 := hh.2.1; rw [hvt] at h9; cases h9
                      have kB := QB_no hd hB3 hj3 hq3 hPS hno
                      have kG := hG3
                      have kA := hA3
                      have kD := hD3
                      have kq := hq3
                      exact ih_77 (p + 1) qa3 qd3 qg3 qs3 fs3 N3 F3 (by omega) (by exact kG) (by exact kA) (by exact kD) (by omega) (by exact kq) (by exact kB) (by omega)
          refine V.locs [0, 1, 2, 3, 4, 5, 6, 7, 8, 9, 10, 11, 12, 13, 14] rfl ?_
          exact loop_77 _ 0 qa2 qd2 qg2 qs2 fs2 N2 F2 (by omega) (by exact hG) (by exact hA) (by exact hD) (by exact hjN) (by exact hQ.symm) (by exact QB_p0 hB hjN) (Nat.lt_succ_self _)
        refine V_lload cx 52 rfl dL_split_50 1 rfl ?_
        refine V_lconst (v := lN 0) cx 53 rfl dL_split_52 (by decide) ?_
        refine V_lcmp cx 54 rfl dL_split_53 ?_
        refine V_if_ne cx 57 61 rfl dL_split_54 (by decide) (fun c_54 => ?_) (fun c_54 => ?_)
        · skip
          have n_54 := lg_z_t c_54
          have hQn : Q ≠ [] := fun e9 => n_54 (by rw [e9]; rfl)
          have hpv : pv = some (spP Q (Q.length - 1)) := by rw [hlast]; exact if_neg hQn
          have hQl : 0 < Q.length := List.length_pos_iff.mpr hQn
          obtain ⟨a1, a2, a3⟩ := aK_take (k := Q.length - 1) hbQ (by omega)
          rw [show Q.length - 1 + 1 = Q.length by omega, aK_all] at a1 a2 a3
          obtain ⟨b3, b4⟩ := bt2_P a2 (hbQ _ (by omega))
          change _ = spP Q (Q.length - 1) + 1 at b3
          refine V_lload cx 63 rfl dL_split_61 1 rfl ?_
          refine V_iconst (v := nI 3) cx 64 rfl dL_split_63 (by decide) ?_
          refine V_lshr cx 65 rfl dL_split_64 ?_
          refine V_tol (lN (aK Q / 2 ^ 3)) (l_shr (by omega) (by omega)) ?_
          refine V_ldc2 cx 68 rfl dL_split_65 cl_L_73 ?_
          refine V_tol (lN 31) (by decide) ?_
          refine V_land cx 69 rfl dL_split_68 ?_
          refine V_tol (lN (aK Q / 2 ^ 3 % 32)) (l_land 5 32 (by decide) (by decide) (Nat.lt_of_le_of_lt (Nat.div_le_self _ _) (by omega))) ?_
          refine V_l2i cx 70 rfl dL_split_69 ?_
          refine V_toi (nI (aK Q / 2 ^ 3 % 32)) (lN_i _) ?_
          refine V_iconst (v := nI 1) cx 71 rfl dL_split_70 (by decide) ?_
          refine V_isub cx 72 rfl dL_split_71 ?_
          refine V_toi (nI (spP Q (Q.length - 1))) (by rw [nI_subN (by omega)]; congr 1; omega) ?_
          refine V.locs [0, 1, 2, 3, 4, 5, 6, 7, 8, 9, 10, 11, 12] rfl ?_
          exact join_72 (nI (spP Q (Q.length - 1))) (by rw [hpv]; rfl)
        · skip
          have n_54 := lg_z_f (by omega) c_54
          have hQe : Q = [] := (aK_z hbQ).mp n_54
          have hpv : pv = none := by rw [hlast]; exact if_pos hQe
          refine V_iconst (v := (-1)) cx 58 rfl dL_split_57 (by decide) ?_
          refine V_goto cx 72 dL_split_58 (by decide) ?_
          refine V.locs [0, 1, 2, 3, 4, 5, 6, 7, 8, 9, 10, 11, 12] rfl ?_
          exact join_72 (-1) (by rw [hpv]; rfl)
  refine V.locs [0, 1, 2, 3, 4, 5, 6, 7, 8, 9, 10] rfl ?_
  exact loop_24 _ 0 qa (vp_updL qd 0 (lN 0)) (upd (upd qg 3 (nI 0)) 4 (nI 1)) (fun _ => ([] : SP)) (fun _ => ([] : SP)) 1 0 (by omega) (by exact ⟨hg0, hg1, rfl, rfl, rfl⟩) (by exact fun i hi => absurd hi (Nat.not_lt_zero i)) (by exact fun i hi => by rw [show i = 0 by omega]; rfl) (by exact QB_start (show 0 < L by omega) rfl) (Nat.lt_succ_self _)
