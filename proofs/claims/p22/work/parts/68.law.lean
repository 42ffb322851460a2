abbrev zI : Nat → Int32 := fun _ => 0
abbrev zJ : Nat → Int64 := fun _ => 0
abbrev x0 : LX := (0, 0, (fun _ => 0), (fun _ => 0), (fun _ => 0), (fun _ => 0), (fun _ _ => false), (fun _ _ => false))
theorem inv_start : INV (0, 0, (fun _ => 0), (fun _ => 0), (fun _ => 0), (fun _ => 0), (fun _ _ => false), (fun _ _ => false)) 0 0 0 1 zI zI zI zI zI zI zI zI zI zI zI 0 0 0 zI zI zI zI zI zI zI zI zI zI := by
  have v : ∀ {P : Prop} {i : Nat}, i < 0 → P := fun h => absurd h (Nat.not_lt_zero _)
  refine ⟨⟨Nat.zero_le _, Nat.zero_le _, fun i hi => v hi, fun i hi => v hi, fun i hi => v hi, fun i j hi _ => v hi, fun i hi => v hi, fun i j hi _ => v hi⟩, ⟨rfl, rfl, fun i hi => v hi, fun i hi => v hi, fun i hi => v hi, fun i hi => v hi, fun i j hi _ => v hi, fun i j hi _ => v hi⟩, ⟨rfl, rfl, fun i hi => v hi, fun i hi => v hi, fun i hi => v hi, fun i hi => v hi, fun i hi => v hi, fun i hi => v hi, fun i j hi _ => v hi, fun i j hi _ => v hi⟩, ⟨fun i => ⟨false, rfl⟩, fun i => ⟨false, rfl⟩, fun i j hi hj => ⟨rfl, bitI_zero j hj⟩, fun i l hi hl => ⟨rfl, bitI_zero l (by omega)⟩⟩, ⟨⟨fun _ _ => 0, fun _ => 1, ?_⟩, by omega⟩, rfl, Nat.zero_le _, fun _ => 0, fun _ _ => 0, fun k hk => v hk, fun p hp => v hp⟩
  refine ⟨⟨Nat.le_refl _, fun i hi c hc => ⟨rfl, Or.inl rfl⟩⟩, rfl, fun i c hi hc h => absurd rfl h, fun j h1 h2 => by omega, fun i j hi hj _ => by omega, fun i hi => Or.inr ⟨fun ⟨k, hk, _⟩ => v hk, rfl⟩, fun t ⟨k, hk, _⟩ => v hk, fun i h1 h2 => ⟨rfl, fun c hc => rfl⟩, fun i hi => ⟨Nat.le_refl _, Or.inl (by omega)⟩⟩
theorem hLI0 : LI x0 0 0 0 1 zI zI zI zI zI zI zI zI zI zI zI zI zI zI zI zI zJ zI zI := by
  have v : ∀ {P : Prop} {i : Nat}, i < 0 → P := fun h => absurd h (Nat.not_lt_zero _)
  exact ⟨zI, zI, zI, zI, zI, zI, zI, zI, zI, zI, inv_start, ⟨fun i hi => v hi, fun i hi => v hi, fun i hi => v hi, fun i hi => ⟨0, rfl, by decide, fun j hj => by rw [Nat.zero_testBit]; exact (bitI_zero j (by omega)).symm⟩, fun i hi => v hi, fun i _ _ j hj => bitI_zero j hj⟩, fun k hk => v hk, rfl, rfl, rfl⟩
theorem q_nodes0 {r : Int32} {P Q : Prop} (h : ((0 : Nat) = 0 ∧ r = nI 0) ∨ (0 < 0 ∧ P ∧ Q)) : r = nI 0 := by
  rcases h with ⟨_, h⟩ | ⟨h, _⟩
  · exact h
  · exact absurd h (Nat.lt_irrefl 0)
theorem q_nodes {x : LX} {np nl lu tu : Nat} {T C F LT VV BB wd gr gs bl ie : Nat → Int32} {qt qc qf qb ql : Nat → Int32} {qw : Nat → Int64} {qh qg : Nat → Int32} (h : LI x np nl lu tu T C F LT VV BB wd gr gs bl ie qt qc qf qb ql qw qh qg) {ch : Nat → Nat → Nat} {nd : Nat → Nat} {r : Int32} {tw1 : Nat → Int32} (hT : TR ch nd bl ie tu (Wd (lT x) (lNp x)) (Wd (lT x) (lNp x))) (hx : (np = 0 ∧ r = nI 0) ∨ (0 < np ∧ (∀ i, i < tu → twP ch ie tw1 tu i) ∧ r = nI (cntT tw1 0 tu))) : r = nI (nodesM (lT x) (fun i => szN (lT x i)) (lNp x) (lNp x)) := by
  obtain ⟨-, -, -, -, ⟨hn, -, -⟩, -⟩ := h.facts
  obtain ⟨T2, S2, C2, F2, LT2, LS2, VE, BA, wd2, mo, hI, -⟩ := h
  rw [← hn]
  exact st_nodes hI hT hx
set_option maxHeartbeats 8000000 in
set_option maxRecDepth 100000 in
theorem lw_main {X : vX} {lo : Nat} {G : vG} {Q : State → Prop} {b L : Nat} {sc : Nat → Int32} (LC : LCx X lo G b L sc) (hend : ∀ (ws : va_W) (lc : List (Nat × Value)), V X lo 17 G Q 617941 7247644 ws lc [.int (nI 1)] 292) (h : Nat → Nat) (rs : va_W) : V X lo 17 G Q 31 3800 (cW G h 0 0 0 0 0 1 zI zI zI zI zI zI zI zI zI zJ zI zI zI zI zI zI ++ (lW G h zI zI zI zI zI zJ zJ zJ zI zI ++ rs)) [(0, .ref b), (1, .ref (h 0)), (2, .ref (h 21)), (3, .ref (h 22)), (4, .ref (h 23)), (5, .ref (h 24)), (6, .ref (h 25)), (7, .ref (h 26)), (8, .ref (h 27)), (9, .ref (h 28)), (10, .ref (h 29)), (11, .ref (h 30))] [] 65 := by
  obtain ⟨cx, hX, hst, hsc, hbl, hbA, hLs⟩ := id LC
  obtain ⟨hok0, hck0, hq0, ⟨hg00, hg10, hg20⟩, ⟨hnp0, hnl0, hlu0⟩, -⟩ := hLI0.facts
  have hn160 := hok0.1
  refine V_aload_n cx 66 rfl dL_law_65 1 rfl ?_
  refine V_iconst (v := nI 2) cx 67 rfl dL_law_66 (by decide) ?_
  refine V_aload_n cx 68 rfl dL_law_67 2 rfl ?_
  refine V_aload_n cx 69 rfl dL_law_68 3 rfl ?_
  refine V_aload cx 71 rfl dL_law_69 4 rfl ?_
  refine V_aload cx 73 rfl dL_law_71 5 rfl ?_
  refine V_aload cx 75 rfl dL_law_73 6 rfl ?_
  refine V_aload cx 77 rfl dL_law_75 7 rfl ?_
  refine V_aload cx 79 rfl dL_law_77 8 rfl ?_
  refine V_aload cx 81 rfl dL_law_79 11 rfl ?_
  refine KL_169 (As := [.ref (h 0), .int (nI 2), .ref (h 21), .ref (h 22), .ref (h 23), .ref (h 24), .ref (h 25), .ref (h 26), .ref (h 27), .ref (h 30)]) (rest := []) cx (kL_isTold (xl X) lo G _ h 0 0 0 0 0 1 zI zI zI zI zI zI zI zI zI zJ zI zI zI zI zI zI zI zI zI zI zI zJ zJ zJ zI zI (nI 2) x0 hst hok0 hck0 hq0 hg00 hg10 hg20) hX (by omega) rfl rfl (Nat.le_of_ble_eq_true rfl) 84 131 4400 rfl rfl rfl (by omega) (by omega) dL_law_81 (fun r_1 u_2 hw_3 => ?_)
  obtain ⟨len1_4, fd1_5, lt1_6, ph1_7, lh1_8, ks1_9, qa1_10, qd1_11, qg1_12⟩ := u_2
  try dsimp only at hw_3
  obtain ⟨hw_3, hp_13⟩ := hw_3
  subst hw_3
  obtain ⟨e0, e1, e2⟩ := hp_13
  have hLI1 := hLI0.same e0 e1 e2
  refine V_if_eq cx 87 94 rfl dL_law_84 (by decide) (fun c_84 => ?_) (fun c_84 => ?_)
  · skip
    exact absurd c_84 (by decide)
  · skip
    obtain ⟨⟨ch, nd, hT⟩, htu⟩ : TRE x0 0 1 zI zI := hLI0.facts.2.2.2.2.2.2.2.1
    refine V_aload_n cx 88 rfl dL_law_87 1 rfl ?_
    refine KL_173 (As := []) (rest := []) cx (kX4_nodes (xl X) lo G _ h 0 0 len1_4 fd1_5 0 1 zI zI zI zI zI zI lt1_6 ph1_7 lh1_8 ks1_9 zI zI zI zI zI zI ch (by omega) (by omega) hT.1.2 hT.1.1) hX (by omega) 0 rfl rfl rfl (Nat.le_of_ble_eq_true rfl) 91 131 4400 rfl rfl rfl (by omega) (by omega) dL_law_88 (fun r_14 u_15 hw_16 => ?_)
    obtain ⟨tw1_17, rfl⟩ : ∃ z, z = u_15 := ⟨_, rfl⟩
    try dsimp only at hw_16
    refine V_toi (nI 0) (q_nodes0 hw_16) ?_
    refine V_if_eq cx 94 96 rfl dL_law_91 (by decide) (fun c_91 => ?_) (fun c_91 => ?_)
    · skip
      refine V_iconst (v := nI 0) cx 97 rfl dL_law_96 (by decide) ?_
      refine V_istore (lc1 := [(12, .int (nI 0)), (0, .ref b), (1, .ref (h 0)), (2, .ref (h 21)), (3, .ref (h 22)), (4, .ref (h 23)), (5, .ref (h 24)), (6, .ref (h 25)), (7, .ref (h 26)), (8, .ref (h 27)), (9, .ref (h 28)), (10, .ref (h 29)), (11, .ref (h 30))]) cx 99 rfl dL_law_97 (by decide) rfl ?_
      have loop_99 : ∀ (fuel : Nat) (turn : Nat) (np2 : Nat) (nl2 : Nat) (len2 : Nat) (fd2 : Nat) (lu2 : Nat) (tu2 : Nat) (T2 : Nat → Int32) (C2 : Nat → Int32) (F2 : Nat → Int32) (LT2 : Nat → Int32) (VV2 : Nat → Int32) (BB2 : Nat → Int32) (lt2 : Nat → Int32) (ph2 : Nat → Int32) (lh2 : Nat → Int32) (ks2 : Nat → Int64) (wd2 : Nat → Int32) (gr2 : Nat → Int32) (gs2 : Nat → Int32) (bl2 : Nat → Int32) (ie2 : Nat → Int32) (tw2 : Nat → Int32) (qt2 : Nat → Int32) (qc2 : Nat → Int32) (qf2 : Nat → Int32) (qb2 : Nat → Int32) (ql2 : Nat → Int32) (qa2 : Nat → Int64) (qd2 : Nat → Int64) (qw2 : Nat → Int64) (qh2 : Nat → Int32) (qg2 : Nat → Int32) (x2 : LX), (turn ≤ 100) → (LI x2 np2 nl2 lu2 tu2 T2 C2 F2 LT2 VV2 BB2 wd2 gr2 gs2 bl2 ie2 qt2 qc2 qf2 qb2 ql2 qw2 qh2 qg2) → 100 - turn < fuel → V X lo 17 G (Q) (131 + 124 * turn) (4400 + 744 * turn) (cW G h np2 nl2 len2 fd2 lu2 tu2 T2 C2 F2 LT2 VV2 BB2 lt2 ph2 lh2 ks2 wd2 gr2 gs2 bl2 ie2 tw2 ++ (lW G h qt2 qc2 qf2 qb2 ql2 qa2 qd2 qw2 qh2 qg2 ++ rs)) [(12, .int (nI turn)), (0, .ref b), (1, .ref (h 0)), (2, .ref (h 21)), (3, .ref (h 22)), (4, .ref (h 23)), (5, .ref (h 24)), (6, .ref (h 25)), (7, .ref (h 26)), (8, .ref (h 27)), (9, .ref (h 28)), (10, .ref (h 29)), (11, .ref (h 30))] [] 99 := by
        intro fuel
        induction fuel with
        | zero => intro turn np2 nl2 len2 fd2 lu2 tu2 T2 C2 F2 LT2 VV2 BB2 lt2 ph2 lh2 ks2 wd2 gr2 gs2 bl2 ie2 tw2 qt2 qc2 qf2 qb2 ql2 qa2 qd2 qw2 qh2 qg2 x2 ht hLI2 hmz; exact absurd hmz (Nat.not_lt_zero _)
        | succ fuel ih_99 =>
          intro turn np2 nl2 len2 fd2 lu2 tu2 T2 C2 F2 LT2 VV2 BB2 lt2 ph2 lh2 ks2 wd2 gr2 gs2 bl2 ie2 tw2 qt2 qc2 qf2 qb2 ql2 qa2 qd2 qw2 qh2 qg2 x2 ht hLI2 hmz_99
          refine V_iload cx 101 rfl dL_law_99 0 rfl ?_
          refine V_bipush (v := nI 100) cx 103 rfl dL_law_101 (by decide) ?_
          refine V_icmp_ge cx 106 291 rfl dL_law_103 (by decide) (fun c_103 => ?_) (fun c_103 => ?_)
          · skip
            have n_103 : turn ≥ 100 := N_ge_t (by omega) (by omega) c_103
            refine V_iconst (v := nI 1) cx 292 rfl dL_law_291 (by decide) ?_
            exact V.widen (by omega) (by omega) (hend _ _)
          · skip
            have n_103 : turn < 100 := N_ge_f (by omega) (by omega) c_103
            obtain ⟨hok2, hck2, hq2, ⟨hg02, hg12, hg22⟩, ⟨hnp2, hnl2, hlu2⟩, -⟩ := hLI2.facts
            have hn162 := hok2.1
            refine V_aload_n cx 107 rfl dL_law_106 1 rfl ?_
            refine V_iconst (v := nI 3) cx 108 rfl dL_law_107 (by decide) ?_
            refine V_iload cx 110 rfl dL_law_108 0 rfl ?_
            refine V_imul cx 111 rfl dL_law_110 ?_
            refine V_toi (nI (3 * turn)) (nI_mulN _ _) ?_
            refine V_cell LC (3 * turn) (by omega) (Nat.le_of_ble_eq_true rfl) (by omega) (by omega) 114 rfl dL_law_111 (fun r_18 => ?_)
            refine V_istore (lc1 := [(13, .int r_18), (12, .int (nI turn)), (0, .ref b), (1, .ref (h 0)), (2, .ref (h 21)), (3, .ref (h 22)), (4, .ref (h 23)), (5, .ref (h 24)), (6, .ref (h 25)), (7, .ref (h 26)), (8, .ref (h 27)), (9, .ref (h 28)), (10, .ref (h 29)), (11, .ref (h 30))]) cx 116 rfl dL_law_114 (by decide) rfl ?_
            refine V_aload_n cx 117 rfl dL_law_116 2 rfl ?_
            refine V_iconst (v := nI 3) cx 118 rfl dL_law_117 (by decide) ?_
            refine V_iload cx 120 rfl dL_law_118 1 rfl ?_
            refine V_imul cx 121 rfl dL_law_120 ?_
            refine V_toi (nI (3 * turn)) (nI_mulN _ _) ?_
            refine V_iconst (v := nI 1) cx 122 rfl dL_law_121 (by decide) ?_
            refine V_iadd cx 123 rfl dL_law_122 ?_
            refine V_toi (nI ((3 * turn) + 1)) (nI_add _ _) ?_
            refine V_cell LC ((3 * turn) + 1) (by omega) (Nat.le_of_ble_eq_true rfl) (by omega) (by omega) 126 rfl dL_law_123 (fun r_19 => ?_)
            refine V_istore (lc1 := [(14, .int r_19), (13, .int r_18), (12, .int (nI turn)), (0, .ref b), (1, .ref (h 0)), (2, .ref (h 21)), (3, .ref (h 22)), (4, .ref (h 23)), (5, .ref (h 24)), (6, .ref (h 25)), (7, .ref (h 26)), (8, .ref (h 27)), (9, .ref (h 28)), (10, .ref (h 29)), (11, .ref (h 30))]) cx 128 rfl dL_law_126 (by decide) rfl ?_
            refine V_aload_n cx 129 rfl dL_law_128 3 rfl ?_
            refine V_iconst (v := nI 3) cx 130 rfl dL_law_129 (by decide) ?_
            refine V_iload cx 132 rfl dL_law_130 2 rfl ?_
            refine V_imul cx 133 rfl dL_law_132 ?_
            refine V_toi (nI (3 * turn)) (nI_mulN _ _) ?_
            refine V_iconst (v := nI 2) cx 134 rfl dL_law_133 (by decide) ?_
            refine V_iadd cx 135 rfl dL_law_134 ?_
            refine V_toi (nI ((3 * turn) + 2)) (nI_add _ _) ?_
            refine V_cell LC ((3 * turn) + 2) (by omega) (Nat.le_of_ble_eq_true rfl) (by omega) (by omega) 138 rfl dL_law_135 (fun r_20 => ?_)
            refine V_istore (lc1 := [(15, .int r_20), (14, .int r_19), (13, .int r_18), (12, .int (nI turn)), (0, .ref b), (1, .ref (h 0)), (2, .ref (h 21)), (3, .ref (h 22)), (4, .ref (h 23)), (5, .ref (h 24)), (6, .ref (h 25)), (7, .ref (h 26)), (8, .ref (h 27)), (9, .ref (h 28)), (10, .ref (h 29)), (11, .ref (h 30))]) cx 140 rfl dL_law_138 (by decide) rfl ?_
            have join_170 : ∀ (act : Nat), (act < 2147483648) → V X lo 17 G (Q) (131 + 124 * turn) (4400 + 744 * turn) (cW G h np2 nl2 len2 fd2 lu2 tu2 T2 C2 F2 LT2 VV2 BB2 lt2 ph2 lh2 ks2 wd2 gr2 gs2 bl2 ie2 tw2 ++ (lW G h qt2 qc2 qf2 qb2 ql2 qa2 qd2 qw2 qh2 qg2 ++ rs)) [(15, .int r_20), (14, .int r_19), (13, .int r_18), (12, .int (nI turn)), (0, .ref b), (1, .ref (h 0)), (2, .ref (h 21)), (3, .ref (h 22)), (4, .ref (h 23)), (5, .ref (h 24)), (6, .ref (h 25)), (7, .ref (h 26)), (8, .ref (h 27)), (9, .ref (h 28)), (10, .ref (h 29)), (11, .ref (h 30))] [.int (nI act)] 170 := by
              intro act hact
              refine V_istore (lc1 := [(16, .int (nI act)), (15, .int r_20), (14, .int r_19), (13, .int r_18), (12, .int (nI turn)), (0, .ref b), (1, .ref (h 0)), (2, .ref (h 21)), (3, .ref (h 22)), (4, .ref (h 23)), (5, .ref (h 24)), (6, .ref (h 25)), (7, .ref (h 26)), (8, .ref (h 27)), (9, .ref (h 28)), (10, .ref (h 29)), (11, .ref (h 30))]) cx 172 rfl dL_law_170 (by decide) rfl ?_
              have join_232 : ∀ (np4 : Nat) (nl4 : Nat) (len4 : Nat) (fd4 : Nat) (lu4 : Nat) (tu4 : Nat) (T4 : Nat → Int32) (C4 : Nat → Int32) (F4 : Nat → Int32) (LT4 : Nat → Int32) (VV4 : Nat → Int32) (BB4 : Nat → Int32) (lt4 : Nat → Int32) (ph4 : Nat → Int32) (lh4 : Nat → Int32) (ks4 : Nat → Int64) (wd4 : Nat → Int32) (gr4 : Nat → Int32) (gs4 : Nat → Int32) (bl4 : Nat → Int32) (ie4 : Nat → Int32) (tw4 : Nat → Int32) (qt4 : Nat → Int32) (qc4 : Nat → Int32) (qf4 : Nat → Int32) (qb4 : Nat → Int32) (ql4 : Nat → Int32) (qa4 : Nat → Int64) (qd4 : Nat → Int64) (qw4 : Nat → Int64) (qh4 : Nat → Int32) (qg4 : Nat → Int32) (x4 : LX), (LI x4 np4 nl4 lu4 tu4 T4 C4 F4 LT4 VV4 BB4 wd4 gr4 gs4 bl4 ie4 qt4 qc4 qf4 qb4 ql4 qw4 qh4 qg4) → V X lo 17 G (Q) (131 + 124 * turn + 24) (4400 + 744 * turn + 144) (cW G h np4 nl4 len4 fd4 lu4 tu4 T4 C4 F4 LT4 VV4 BB4 lt4 ph4 lh4 ks4 wd4 gr4 gs4 bl4 ie4 tw4 ++ (lW G h qt4 qc4 qf4 qb4 ql4 qa4 qd4 qw4 qh4 qg4 ++ rs)) [(16, .int (nI act)), (15, .int r_20), (14, .int r_19), (13, .int r_18), (12, .int (nI turn)), (0, .ref b), (1, .ref (h 0)), (2, .ref (h 21)), (3, .ref (h 22)), (4, .ref (h 23)), (5, .ref (h 24)), (6, .ref (h 25)), (7, .ref (h 26)), (8, .ref (h 27)), (9, .ref (h 28)), (10, .ref (h 29)), (11, .ref (h 30))] [] 232 := by
                intro np4 nl4 len4 fd4 lu4 tu4 T4 C4 F4 LT4 VV4 BB4 lt4 ph4 lh4 ks4 wd4 gr4 gs4 bl4 ie4 tw4 qt4 qc4 qf4 qb4 ql4 qa4 qd4 qw4 qh4 qg4 x4 hLI4
                obtain ⟨hok4, hck4, hq4, ⟨hg04, hg14, hg24⟩, ⟨hnp4, hnl4, hlu4⟩, -⟩ := hLI4.facts
                have hn164 := hok4.1
                refine V_aload_n cx 233 rfl dL_law_232 6 rfl ?_
                refine V_iload cx 235 rfl dL_law_233 3 rfl ?_
                refine V_iconst (v := nI 5) cx 236 rfl dL_law_235 (by decide) ?_
                refine V_ishr cx 237 rfl dL_law_236 ?_
                refine V_iload cx 239 rfl dL_law_237 2 rfl ?_
                refine V_ixor cx 240 rfl dL_law_239 ?_
                refine V_aload_n cx 241 rfl dL_law_240 7 rfl ?_
                refine V_aload_n cx 242 rfl dL_law_241 8 rfl ?_
                refine V_aload cx 244 rfl dL_law_242 9 rfl ?_
                refine V_aload cx 246 rfl dL_law_244 10 rfl ?_
                refine V_aload cx 248 rfl dL_law_246 11 rfl ?_
                refine V_aload cx 250 rfl dL_law_248 12 rfl ?_
                refine V_aload cx 252 rfl dL_law_250 13 rfl ?_
                refine V_aload cx 254 rfl dL_law_252 16 rfl ?_
                refine KL_169 (As := [.ref (h 0), .int ((r_18 >>> ((nI 5) &&& 31)) ^^^ r_19), .ref (h 21), .ref (h 22), .ref (h 23), .ref (h 24), .ref (h 25), .ref (h 26), .ref (h 27), .ref (h 30)]) (rest := []) cx (kL_isTold (xl X) lo G _ h np4 nl4 len4 fd4 lu4 tu4 T4 C4 F4 LT4 VV4 BB4 lt4 ph4 lh4 ks4 wd4 gr4 gs4 bl4 ie4 tw4 qt4 qc4 qf4 qb4 ql4 qa4 qd4 qw4 qh4 qg4 ((r_18 >>> ((nI 5) &&& 31)) ^^^ r_19) x4 hst hok4 hck4 hq4 hg04 hg14 hg24) hX (by omega) rfl rfl (Nat.le_of_ble_eq_true rfl) 257 (131 + 124 * turn + 124) (4400 + 744 * turn + 744) rfl rfl rfl (by omega) (by omega) dL_law_254 (fun r_21 u_22 hw_23 => ?_)
                obtain ⟨len1_24, fd1_25, lt1_26, ph1_27, lh1_28, ks1_29, qa1_30, qd1_31, qg1_32⟩ := u_22
                try dsimp only at hw_23
                obtain ⟨hw_23, hp_33⟩ := hw_23
                subst hw_23
                obtain ⟨e0, e1, e2⟩ := hp_33
                have hLI5 := hLI4.same e0 e1 e2
                refine V_if_eq cx 260 283 rfl dL_law_257 (by decide) (fun c_257 => ?_) (fun c_257 => ?_)
                · skip
                  exact absurd c_257 (by decide)
                · skip
                  refine V_iload cx 262 rfl dL_law_260 4 rfl ?_
                  refine V_bipush (v := nI 10) cx 264 rfl dL_law_262 (by decide) ?_
                  refine V_irem cx 265 rfl dL_law_264 (by decide) ?_
                  refine V_toi (nI (turn % 10)) (nI_mod (by omega) (by omega)) ?_
                  refine V_bipush (v := nI 9) cx 267 rfl dL_law_265 (by decide) ?_
                  refine V_icmp_ne cx 270 285 rfl dL_law_267 (by decide) (fun c_267 => ?_) (fun c_267 => ?_)
                  · skip
                    have n_267 : turn % 10 ≠ 9 := N_ne_t (by omega) (by omega) c_267
                    refine V_iinc (v := nI (turn + 1)) (lc1 := [(12, .int (nI (turn + 1))), (16, .int (nI act)), (15, .int r_20), (14, .int r_19), (13, .int r_18), (0, .ref b), (1, .ref (h 0)), (2, .ref (h 21)), (3, .ref (h 22)), (4, .ref (h 23)), (5, .ref (h 24)), (6, .ref (h 25)), (7, .ref (h 26)), (8, .ref (h 27)), (9, .ref (h 28)), (10, .ref (h 29)), (11, .ref (h 30))]) cx 288 rfl dL_law_285 4 rfl (nI_inc turn 1) (by decide) rfl ?_
                    refine V_goto cx 99 dL_law_288 (by decide) ?_
                    refine V.locs [0, 5, 6, 7, 8, 9, 10, 11, 12, 13, 14, 15, 16] rfl ?_
                    refine V.widen (k' := 131 + 124 * (turn + 1)) (n' := 4400 + 744 * (turn + 1)) (by omega) (by omega) ?_
                    exact ih_99 (turn + 1) np4 nl4 len1_24 fd1_25 lu4 tu4 T4 C4 F4 LT4 VV4 BB4 lt1_26 ph1_27 lh1_28 ks1_29 wd4 gr4 gs4 bl4 ie4 tw4 qt4 qc4 qf4 qb4 ql4 qa1_30 qd1_31 qw4 qh4 qg1_32 x4 (by omega) (by exact hLI5) (by omega)
                  · skip
                    have n_267 : turn % 10 = 9 := N_ne_f (by omega) (by omega) c_267
                    obtain ⟨⟨ch, nd, hT⟩, htu⟩ : TRE x4 np4 tu4 bl4 ie4 := hLI4.facts.2.2.2.2.2.2.2.1
                    refine V_aload_n cx 271 rfl dL_law_270 6 rfl ?_
                    refine KL_173 (As := []) (rest := []) cx (kX4_nodes (xl X) lo G _ h np4 nl4 len1_24 fd1_25 lu4 tu4 T4 C4 F4 LT4 VV4 BB4 lt1_26 ph1_27 lh1_28 ks1_29 wd4 gr4 gs4 bl4 ie4 tw4 ch (by omega) (by omega) hT.1.2 hT.1.1) hX (by omega) 0 rfl rfl rfl (Nat.le_of_ble_eq_true rfl) 274 (131 + 124 * turn + 124) (4400 + 744 * turn + 744) rfl rfl rfl (by omega) (by omega) dL_law_271 (fun r_34 u_35 hw_36 => ?_)
                    obtain ⟨tw1_37, rfl⟩ : ∃ z, z = u_35 := ⟨_, rfl⟩
                    try dsimp only at hw_36
                    refine V_toi (nI (nodesM (lT x4) (fun i => szN (lT x4 i)) (lNp x4) (lNp x4))) (q_nodes hLI4 hT hw_36) ?_
                    refine V_aload_n cx 275 rfl dL_law_274 7 rfl ?_
                    refine V_aload cx 277 rfl dL_law_275 16 rfl ?_
                    refine V.swap ?_
                    refine KL_188 (As := [.ref (h 21), .ref (h 30)]) (rest := [.int (nI (nodesM (lT x4) (fun i => szN (lT x4 i)) (lNp x4) (lNp x4)))]) cx (kL_nodes (xl X) lo G _ h qt4 qc4 qf4 qb4 ql4 qa1_30 qd1_31 qw4 qh4 qg1_32 x4 hok4 hq4 (e0.trans hg04)) hX (by omega) rfl rfl (Nat.le_of_ble_eq_true rfl) 280 (131 + 124 * turn + 124) (4400 + 744 * turn + 744) rfl rfl rfl (by omega) (by omega) dL_law_277 (fun r_38 u_39 hw_40 => ?_)
                    try dsimp only at hw_40
                    subst hw_40
                    refine V.swap ?_
                    refine V_icmp_eq cx 283 285 rfl dL_law_280 (by decide) (fun c_280 => ?_) (fun c_280 => ?_)
                    · skip
                      refine V_iinc (v := nI (turn + 1)) (lc1 := [(12, .int (nI (turn + 1))), (16, .int (nI act)), (15, .int r_20), (14, .int r_19), (13, .int r_18), (0, .ref b), (1, .ref (h 0)), (2, .ref (h 21)), (3, .ref (h 22)), (4, .ref (h 23)), (5, .ref (h 24)), (6, .ref (h 25)), (7, .ref (h 26)), (8, .ref (h 27)), (9, .ref (h 28)), (10, .ref (h 29)), (11, .ref (h 30))]) cx 288 rfl dL_law_285 4 rfl (nI_inc turn 1) (by decide) rfl ?_
                      refine V_goto cx 99 dL_law_288 (by decide) ?_
                      refine V.locs [0, 5, 6, 7, 8, 9, 10, 11, 12, 13, 14, 15, 16] rfl ?_
                      refine V.widen (k' := 131 + 124 * (turn + 1)) (n' := 4400 + 744 * (turn + 1)) (by omega) (by omega) ?_
                      exact ih_99 (turn + 1) np4 nl4 len1_24 fd1_25 lu4 tu4 T4 C4 F4 LT4 VV4 BB4 lt1_26 ph1_27 lh1_28 ks1_29 wd4 gr4 gs4 bl4 ie4 tw1_37 qt4 qc4 qf4 qb4 ql4 qa1_30 qd1_31 qw4 qh4 qg1_32 x4 (by omega) (by exact hLI5) (by omega)
                    · skip
                      exact absurd rfl c_280
              refine V_iload cx 174 rfl dL_law_172 0 rfl ?_
              refine V_bipush (v := nI 12) cx 176 rfl dL_law_174 (by decide) ?_
              refine V_icmp_ge cx 179 205 rfl dL_law_176 (by decide) (fun c_176 => ?_) (fun c_176 => ?_)
              · skip
                have n_176 : act ≥ 12 := N_ge_t (by omega) (by omega) c_176
                refine V_aload_n cx 206 rfl dL_law_205 6 rfl ?_
                refine V_iload cx 208 rfl dL_law_206 1 rfl ?_
                refine V_aload_n cx 209 rfl dL_law_208 7 rfl ?_
                refine V_aload_n cx 210 rfl dL_law_209 8 rfl ?_
                refine V_aload cx 212 rfl dL_law_210 9 rfl ?_
                refine V_aload cx 214 rfl dL_law_212 10 rfl ?_
                refine V_aload cx 216 rfl dL_law_214 11 rfl ?_
                refine V_aload cx 218 rfl dL_law_216 12 rfl ?_
                refine V_aload cx 220 rfl dL_law_218 13 rfl ?_
                refine V_aload cx 222 rfl dL_law_220 14 rfl ?_
                refine V_aload cx 224 rfl dL_law_222 15 rfl ?_
                refine V_aload cx 226 rfl dL_law_224 16 rfl ?_
                refine KL_184 (As := [.ref (h 0), .int r_20, .ref (h 21), .ref (h 22), .ref (h 23), .ref (h 24), .ref (h 25), .ref (h 26), .ref (h 27), .ref (h 28), .ref (h 29), .ref (h 30)]) (rest := []) cx (kL_learns (xl X) lo G _ h np2 nl2 len2 fd2 lu2 tu2 T2 C2 F2 LT2 VV2 BB2 lt2 ph2 lh2 ks2 wd2 gr2 gs2 bl2 ie2 tw2 qt2 qc2 qf2 qb2 ql2 qa2 qd2 qw2 qh2 qg2 r_20 x2 hst hLI2) hX (by omega) rfl rfl (Nat.le_of_ble_eq_true rfl) 229 ((131 + 124 * turn) + 8) ((4400 + 744 * turn) + 48) rfl rfl rfl (by omega) (by omega) dL_law_226 (fun r_41 u_42 hw_43 => ?_)
                obtain ⟨lu1_44, C1_45, wd1_46, gr1_47, gs1_48, qc1_49, qw1_50, qh1_51, qg1_52, qa1_53, qd1_54, len1_55, fd1_56, lt1_57, ph1_58, lh1_59, ks1_60⟩ := u_42
                try dsimp only at hw_43
                obtain ⟨hw_43, hp_61⟩ := hw_43
                subst hw_43
                obtain ⟨x3, hLI3⟩ := hp_61
                refine V_if_eq cx 232 283 rfl dL_law_229 (by decide) (fun c_229 => ?_) (fun c_229 => ?_)
                · skip
                  exact absurd c_229 (by decide)
                · skip
                  refine V.locs [0, 1, 2, 3, 4, 5, 6, 7, 8, 9, 10, 11, 12, 13, 14, 15, 16] rfl ?_
                  refine V.widen (k' := 131 + 124 * turn + 24) (n' := 4400 + 744 * turn + 144) (by omega) (by omega) ?_
                  exact join_232 np2 nl2 len1_55 fd1_56 lu1_44 tu2 T2 C1_45 F2 LT2 VV2 BB2 lt1_57 ph1_58 lh1_59 ks1_60 wd1_46 gr1_47 gs1_48 bl2 ie2 tw2 qt2 qc1_49 qf2 qb2 ql2 qa1_53 qd1_54 qw1_50 qh1_51 qg1_52 x3 (by exact hLI3)
              · skip
                have n_176 : act < 12 := N_ge_f (by omega) (by omega) c_176
                refine V_aload_n cx 180 rfl dL_law_179 6 rfl ?_
                refine V_iload cx 182 rfl dL_law_180 0 rfl ?_
                refine V_iload cx 184 rfl dL_law_182 2 rfl ?_
                refine V_iload cx 186 rfl dL_law_184 1 rfl ?_
                refine V_aload_n cx 187 rfl dL_law_186 7 rfl ?_
                refine V_aload_n cx 188 rfl dL_law_187 8 rfl ?_
                refine V_aload cx 190 rfl dL_law_188 9 rfl ?_
                refine V_aload cx 192 rfl dL_law_190 10 rfl ?_
                refine V_aload cx 194 rfl dL_law_192 11 rfl ?_
                refine V_aload cx 196 rfl dL_law_194 16 rfl ?_
                refine KL_180 (As := [.ref (h 0), .int (nI act), .int r_19, .int r_20, .ref (h 21), .ref (h 22), .ref (h 23), .ref (h 24), .ref (h 25), .ref (h 30)]) (rest := []) cx (kL_builds (xl X) lo G _ h np2 nl2 len2 fd2 lu2 tu2 T2 C2 F2 LT2 VV2 BB2 lt2 ph2 lh2 ks2 wd2 gr2 gs2 bl2 ie2 tw2 qt2 qc2 qf2 qb2 ql2 qa2 qd2 qw2 qh2 qg2 act r_19 r_20 x2 hst hLI2 hact) hX (by omega) rfl rfl (Nat.le_of_ble_eq_true rfl) 199 ((131 + 124 * turn) + 24) ((4400 + 744 * turn) + 144) rfl rfl rfl (by omega) (by omega) dL_law_196 (fun r_62 u_63 hw_64 => ?_)
                obtain ⟨np1_65, nl1_66, tu1_67, T1_68, C1_69, F1_70, LT1_71, VV1_72, BB1_73, bl1_74, ie1_75, qt1_76, qc1_77, qf1_78, qb1_79, ql1_80, qg1_81⟩ := u_63
                try dsimp only at hw_64
                obtain ⟨hw_64, hp_82⟩ := hw_64
                subst hw_64
                obtain ⟨x3, hLI3⟩ := hp_82
                refine V_if_eq cx 202 283 rfl dL_law_199 (by decide) (fun c_199 => ?_) (fun c_199 => ?_)
                · skip
                  exact absurd c_199 (by decide)
                · skip
                  refine V_goto cx 232 dL_law_202 (by decide) ?_
                  refine V.locs [0, 1, 2, 3, 4, 5, 6, 7, 8, 9, 10, 11, 12, 13, 14, 15, 16] rfl ?_
                  refine V.widen (k' := 131 + 124 * turn + 24) (n' := 4400 + 744 * turn + 144) (by omega) (by omega) ?_
                  exact join_232 np1_65 nl1_66 len2 fd2 lu2 tu1_67 T1_68 C1_69 F1_70 LT1_71 VV1_72 BB1_73 lt2 ph2 lh2 ks2 wd2 gr2 gs2 bl1_74 ie1_75 tw2 qt1_76 qc1_77 qf1_78 qb1_79 ql1_80 qa2 qd2 qw2 qh2 qg1_81 x3 (by exact hLI3)
            refine V_iload cx 142 rfl dL_law_140 3 rfl ?_
            refine V_bipush (v := nI 8) cx 144 rfl dL_law_142 (by decide) ?_
            refine V_icmp_ge cx 147 151 rfl dL_law_144 (by decide) (fun c_144 => ?_) (fun c_144 => ?_)
            · skip
              have n_144 : turn ≥ 8 := N_ge_t (by omega) (by omega) c_144
              refine V_iload cx 153 rfl dL_law_151 3 rfl ?_
              refine V_bipush (v := nI 10) cx 155 rfl dL_law_153 (by decide) ?_
              refine V_icmp_ge cx 158 163 rfl dL_law_155 (by decide) (fun c_155 => ?_) (fun c_155 => ?_)
              · skip
                have n_155 : turn ≥ 10 := N_ge_t (by omega) (by omega) c_155
                refine V_iload cx 165 rfl dL_law_163 2 rfl ?_
                refine V_bipush (v := nI 20) cx 167 rfl dL_law_165 (by decide) ?_
                refine KL_101 (As := [.int r_18, .int (nI 20)]) (rest := []) cx (kL_low (xl X) lo G _ r_18 20 (by omega)) hX (by omega) rfl rfl (Nat.le_of_ble_eq_true rfl) 170 (131 + 124 * turn) (4400 + 744 * turn) rfl rfl rfl (by omega) (by omega) dL_law_167 (fun r_83 u_84 hw_85 => ?_)
                try dsimp only at hw_85
                subst hw_85
                refine V.locs [0, 1, 2, 3, 4, 5, 6, 7, 8, 9, 10, 11, 12, 13, 14, 15] rfl ?_
                exact join_170 (lowN r_18 20) (by exact Nat.lt_trans (lowN_lt _ (by decide)) (by decide))
              · skip
                have n_155 : turn < 10 := N_ge_f (by omega) (by omega) c_155
                refine V_bipush (v := nI 7) cx 160 rfl dL_law_158 (by decide) ?_
                refine V_goto cx 170 dL_law_160 (by decide) ?_
                refine V.locs [0, 1, 2, 3, 4, 5, 6, 7, 8, 9, 10, 11, 12, 13, 14, 15] rfl ?_
                exact join_170 7 (by omega)
            · skip
              have n_144 : turn < 8 := N_ge_f (by omega) (by omega) c_144
              refine V_iconst (v := nI 0) cx 148 rfl dL_law_147 (by decide) ?_
              refine V_goto cx 170 dL_law_148 (by decide) ?_
              refine V.locs [0, 1, 2, 3, 4, 5, 6, 7, 8, 9, 10, 11, 12, 13, 14, 15] rfl ?_
              exact join_170 0 (by omega)
      refine V.locs [0, 1, 2, 3, 4, 5, 6, 7, 8, 9, 10, 11, 12] rfl ?_
      refine V.widen (k' := 131 + 124 * 0) (n' := 4400 + 744 * 0) (by omega) (by omega) ?_
      exact loop_99 _ 0 0 0 len1_4 fd1_5 0 1 zI zI zI zI zI zI lt1_6 ph1_7 lh1_8 ks1_9 zI zI zI zI zI tw1_17 zI zI zI zI zI qa1_10 qd1_11 zJ zI qg1_12 x0 (by omega) (by exact hLI1) (Nat.lt_succ_self _)
    · skip
      exact absurd c_91 (by decide)
