theorem lg_cmp_1 : lg_cmp (lN 1) (lN 1) = 0 := by decide +kernel
theorem lrn_y {c : Nat → Nat} {sl : SP} {k : Nat} (h : (lrn c sl k).1 (spP sl k) < 9999) {p : Nat} : (lrn c sl (k + 1)).1 p = if p = spP sl k then (lrn c sl k).1 (spP sl k) + 1 else (lrn c sl k).1 p := by
  show (if (lrn c sl k).1 (spP sl k) < 9999 then _ else lrn c sl k).1 p = _
  rw [if_pos h]
  dsimp only
  by_cases e : p = spP sl k
  · rw [if_pos e, if_pos e, e]
  · rw [if_neg e, if_neg e]
theorem lrn_y2 {c : Nat → Nat} {sl : SP} {k : Nat} (h : (lrn c sl k).1 (spP sl k) < 9999) {p : Nat} : (lrn c sl (k + 1)).2 p = if p = spP sl k then (lrn c sl k).2 p + 1 else (lrn c sl k).2 p := by
  show (if (lrn c sl k).1 (spP sl k) < 9999 then _ else lrn c sl k).2 p = _
  rw [if_pos h]
theorem lrn_n {c : Nat → Nat} {sl : SP} {k : Nat} (h : ¬ (lrn c sl k).1 (spP sl k) < 9999) : lrn c sl (k + 1) = lrn c sl k := if_neg h
theorem zc_p {j : Nat} (h : 0 < j) : 2 ^ (40 + j) = 2 * 2 ^ (40 + (j - 1)) := by
  rw [show 40 + j = (40 + (j - 1)) + 1 by omega, Nat.pow_succ, Nat.mul_comm]
theorem zc_y {M j : Nat} (h : 0 < j) : M * 2 ^ (40 + j) + 2 ^ (40 + (j - 1)) = (2 * M + 1) * 2 ^ (40 + (j - 1)) := by
  rw [zc_p h, Nat.add_mul, Nat.one_mul, ← Nat.mul_assoc, Nat.mul_comm M 2]
theorem zc_n {M j : Nat} (h : 0 < j) : M * 2 ^ (40 + j) = (2 * M + 0) * 2 ^ (40 + (j - 1)) := by
  rw [zc_p h, Nat.add_zero, ← Nat.mul_assoc, Nat.mul_comm M 2]
theorem zc_M {M m j b : Nat} (h : 0 < j) (hj : j ≤ m) (hM : M < 2 ^ (m - j)) (hb : b < 2) : 2 * M + b < 2 ^ (m - (j - 1)) := by
  rw [show m - (j - 1) = (m - j) + 1 by omega, Nat.pow_succ]
  omega
theorem zc_bd {M m j : Nat} (hm : m ≤ 5) (hM : M < 2 ^ (m - j)) (hj : j ≤ m) (h0 : 0 < j) : M * 2 ^ (40 + j) + 2 ^ (40 + (j - 1)) < 2 ^ 64 := by
  have h1 : M + 1 ≤ 2 ^ (m - j) := hM
  have h2 := Nat.mul_le_mul_right (2 ^ (40 + j)) h1
  rw [← Nat.pow_add, Nat.add_mul, Nat.one_mul] at h2
  have h3 : 2 ^ (m - j + (40 + j)) ≤ 2 ^ 45 := Nat.pow_le_pow_right (by decide) (by omega)
  have h4 := zc_p h0
  omega
theorem zc_e {K M m : Nat} (hM : M < 2 ^ m) (hm : m ≤ 5) (hK : K < 1099511627776) : K + M * 2 ^ 40 < 2 ^ 64 := by
  have h1 : M < 2 ^ 5 := Nat.lt_of_lt_of_le hM (Nat.pow_le_pow_right (by decide) hm)
  omega
set_option maxHeartbeats 4000000 in
set_option maxRecDepth 100000 in
theorem kL_learns (l : Launch) (lo : Nat) (G : vG) (rs : va_W) (h : Nat → Nat) (np : Nat) (nl : Nat) (len : Nat) (fd : Nat) (lu : Nat) (tu : Nat) (T : Nat → Int32) (C : Nat → Int32) (F : Nat → Int32) (LT : Nat → Int32) (VV : Nat → Int32) (BB : Nat → Int32) (lt : Nat → Int32) (ph : Nat → Int32) (lh : Nat → Int32) (ks : Nat → Int64) (wd : Nat → Int32) (gr : Nat → Int32) (gs : Nat → Int32) (bl : Nat → Int32) (ie : Nat → Int32) (tw : Nat → Int32) (qt : Nat → Int32) (qc : Nat → Int32) (qf : Nat → Int32) (qb : Nat → Int32) (ql : Nat → Int32) (qa : Nat → Int64) (qd : Nat → Int64) (qw : Nat → Int64) (qh : Nat → Int32) (qg : Nat → Int32) (z : Int32) (x : LX) (hst : l.stackTraces = false) (hLI : LI x np nl lu tu T C F LT VV BB wd gr gs bl ie qt qc qf qb ql qw qh qg) : Mi l yL_learns (.code yL_learns method_28_code 17 (some .boolean)) 26 8 48 lo G [.ref (h 0), .int z, .ref (h 21), .ref (h 22), .ref (h 23), .ref (h 24), .ref (h 25), .ref (h 26), .ref (h 27), .ref (h 28), .ref (h 29), .ref (h 30)] (cW G h np nl len fd lu tu T C F LT VV BB lt ph lh ks wd gr gs bl ie tw ++ (lW G h qt qc qf qb ql qa qd qw qh qg ++ rs)) (fun (r : Int32) ((lu1, C1, wd1, gr1, gs1, qc1, qw1, qh1, qg1, qa1, qd1, len1, fd1, lt1, ph1, lh1, ks1) : (Nat) × (Nat → Int32) × (Nat → Int32) × (Nat → Int32) × (Nat → Int32) × (Nat → Int32) × (Nat → Int64) × (Nat → Int32) × (Nat → Int32) × (Nat → Int64) × (Nat → Int64) × (Nat) × (Nat) × (Nat → Int32) × (Nat → Int32) × (Nat → Int32) × (Nat → Int64)) => r = nI 1 ∧ (∃ y_, LI y_ np nl lu1 tu T C1 F LT VV BB wd1 gr1 gs1 bl ie qt qc1 qf qb ql qw1 qh1 qg1)) (fun ((lu1, C1, wd1, gr1, gs1, qc1, qw1, qh1, qg1, qa1, qd1, len1, fd1, lt1, ph1, lh1, ks1) : (Nat) × (Nat → Int32) × (Nat → Int32) × (Nat → Int32) × (Nat → Int32) × (Nat → Int32) × (Nat → Int64) × (Nat → Int32) × (Nat → Int32) × (Nat → Int64) × (Nat → Int64) × (Nat) × (Nat) × (Nat → Int32) × (Nat → Int32) × (Nat → Int32) × (Nat → Int64)) => cW G h np nl len1 fd1 lu1 tu T C1 F LT VV BB lt1 ph1 lh1 ks1 wd1 gr1 gs1 bl ie tw ++ (lW G h qt qc1 qf qb ql qa1 qd1 qw1 qh1 qg1 ++ rs)) := by
  refine Mi_of (lc := [(0, .ref (h 0)), (1, .int z), (2, .ref (h 21)), (3, .ref (h 22)), (4, .ref (h 23)), (5, .ref (h 24)), (6, .ref (h 25)), (7, .ref (h 26)), (8, .ref (h 27)), (9, .ref (h 28)), (10, .ref (h 29)), (11, .ref (h 30))]) (by decide +kernel) (Nat.le_of_ble_eq_true rfl) rfl ?_
  intro X cx hXR hXl hr hin
  subst hXl
  have hX := RmX.of hXR
  obtain ⟨hok, hck, hq, ⟨hg0x, hg1x, hg2⟩, ⟨hnp, hnl, hlu⟩, hVz, hBz, hTr, hVV, hBB⟩ := hLI.facts
  have hn16 := hok.1
  have hn6 := hok.2.1
  have hg0 : qg 0 = nI np := by rw [hnp]; exact hg0x
  have hg1 : qg 1 = nI nl := by rw [hnl]; exact hg1x
  refine V_iload_n cx 1 rfl dL_learns_0 1 rfl ?_
  refine V_bipush (v := nI 96) cx 3 rfl dL_learns_1 (by decide) ?_
  refine V_iand cx 4 rfl dL_learns_3 ?_
  refine V_if_ne cx 7 124 rfl dL_learns_4 (by decide) (fun c_4 => ?_) (fun c_4 => ?_)
  · skip
    refine V_iload_n cx 125 rfl dL_learns_124 1 rfl ?_
    refine V_bipush (v := nI 7) cx 127 rfl dL_learns_125 (by decide) ?_
    refine V_ishr cx 128 rfl dL_learns_127 ?_
    refine V_iconst (v := nI 5) cx 129 rfl dL_learns_128 (by decide) ?_
    refine KL_104 (As := [.int (z >>> ((nI 7) &&& 31)), .int (nI 5)]) (rest := []) cx (kL_text (xl X) lo G _ (z >>> ((nI 7) &&& 31)) 5 (by omega)) hX (by omega) rfl rfl (Nat.le_of_ble_eq_true rfl) 132 0 0 rfl rfl rfl (by omega) (by omega) dL_learns_129 (fun r_1 u_2 hw_3 => ?_)
    try dsimp only at hw_3
    obtain ⟨wv, L9, hre, hL1, hL2, hw1, hw2⟩ := hw_3
    refine V_toi (nI wv) (hre) ?_
    have hwb := sx_bd (show L9 ≤ 8 by omega) (ld_bd (Nat.le_refl _) hw2)
    have hSZ := word_SZ hw1 hw2 (show 1 ≤ L9 ∧ L9 ≤ 8 by omega)
    have hL8 : L9 ≤ 8 := by omega
    have hd : ∀ k, dgt wv L9 k ≤ 9 := fun k => dgt_lt wv L9 k
    refine V_istore (lc1 := [(12, .int (nI wv)), (0, .ref (h 0)), (1, .int z), (2, .ref (h 21)), (3, .ref (h 22)), (4, .ref (h 23)), (5, .ref (h 24)), (6, .ref (h 25)), (7, .ref (h 26)), (8, .ref (h 27)), (9, .ref (h 28)), (10, .ref (h 29)), (11, .ref (h 30))]) cx 134 rfl dL_learns_132 (by decide) rfl ?_
    refine V_aload_n cx 135 rfl dL_learns_134 1 rfl ?_
    refine V_iconst (v := nI 1) cx 136 rfl dL_learns_135 (by decide) ?_
    refine KL_126 (As := [.ref (h 0), .int (nI 1)]) (rest := []) cx (kL_learn (xl X) lo G _ h np nl len fd lu tu T C F LT VV BB lt ph lh ks wd gr gs bl ie tw (nI 1) x hst hok hck (by omega)) hX (by omega) rfl rfl (Nat.le_of_ble_eq_true rfl) 139 2 12 rfl rfl rfl (by omega) (by omega) dL_learns_136 (fun r_4 u_5 hw_6 => ?_)
    rcases u_5 with _ | ⟨lu1_7, C1_8, gr1_9, gs1_10, wd1_11, fd1_12, lt1_13, ph1_14, lh1_15, ks1_16, v_17⟩
    rotate_left
    · exfalso
      dsimp only at hw_6
      obtain ⟨hw_6, -⟩ := hw_6
      obtain ⟨w9, _, _, h9, _⟩ := hw_6; rw [sz_1] at h9; exact absurd h9 (by decide)
    dsimp only at hw_6
    have hv_r_4 : r_4 = (-72) := by
      obtain ⟨E, hw_6, hc⟩ := hw_6
      exact lrx_r (by rw [sz_1]; exact fun h9 => absurd h9.1 (by decide)) hw_6 hc
    subst hv_r_4
    refine V_bipush (v := (-72)) cx 141 rfl dL_learns_139 (by decide) ?_
    refine V_icmp_ne cx 144 154 rfl dL_learns_141 (by decide) (fun c_141 => ?_) (fun c_141 => ?_)
    · skip
      exact absurd rfl c_141
    · skip
      refine V_aload_n cx 145 rfl dL_learns_144 1 rfl ?_
      refine V_iconst (v := nI 0) cx 146 rfl dL_learns_145 (by decide) ?_
      refine KL_126 (As := [.ref (h 0), .int (nI 0)]) (rest := []) cx (kL_learn (xl X) lo G _ h np nl len fd lu tu T C F LT VV BB lt ph lh ks wd gr gs bl ie tw (nI 0) x hst hok hck (by omega)) hX (by omega) rfl rfl (Nat.le_of_ble_eq_true rfl) 149 4 24 rfl rfl rfl (by omega) (by omega) dL_learns_146 (fun r_18 u_19 hw_20 => ?_)
      rcases u_19 with _ | ⟨lu1_21, C1_22, gr1_23, gs1_24, wd1_25, fd1_26, lt1_27, ph1_28, lh1_29, ks1_30, v_31⟩
      rotate_left
      · exfalso
        dsimp only at hw_20
        obtain ⟨hw_20, -⟩ := hw_20
        obtain ⟨w9, _, _, h9, _⟩ := hw_20; rw [sz_0] at h9; exact absurd h9 (by decide)
      dsimp only at hw_20
      have hv_r_18 : r_18 = (-72) := by
        obtain ⟨E, hw_20, hc⟩ := hw_20
        exact lrx_r (by rw [sz_0]; exact fun h9 => absurd h9.1 (by decide)) hw_20 hc
      subst hv_r_18
      refine V_bipush (v := (-72)) cx 151 rfl dL_learns_149 (by decide) ?_
      refine V_icmp_eq cx 154 156 rfl dL_learns_151 (by decide) (fun c_151 => ?_) (fun c_151 => ?_)
      · skip
        refine V_aload cx 158 rfl dL_learns_156 12 rfl ?_
        refine V_iconst (v := nI 2) cx 159 rfl dL_learns_158 (by decide) ?_
        refine V_ialdN cx 2 (rfl) (by omega) (by decide) 30 rfl 160 rfl dL_learns_159 ?_
        refine V_toi (nI lu) (hg2) ?_
        refine V_bipush (v := nI 50) cx 162 rfl dL_learns_160 (by decide) ?_
        refine V_icmp_ne cx 165 182 rfl dL_learns_162 (by decide) (fun c_162 => ?_) (fun c_162 => ?_)
        · skip
          have n_162 : lu ≠ 50 := N_ne_t (by omega) (by omega) c_162
          refine V_iload cx 184 rfl dL_learns_182 0 rfl ?_
          refine V_aload_n cx 185 rfl dL_learns_184 3 rfl ?_
          refine V_aload_n cx 186 rfl dL_learns_185 4 rfl ?_
          refine V_aload cx 188 rfl dL_learns_186 5 rfl ?_
          refine V_aload cx 190 rfl dL_learns_188 6 rfl ?_
          refine V_aload cx 192 rfl dL_learns_190 7 rfl ?_
          refine V_aload cx 194 rfl dL_learns_192 8 rfl ?_
          refine V_aload cx 196 rfl dL_learns_194 9 rfl ?_
          refine V_aload cx 198 rfl dL_learns_196 12 rfl ?_
          refine V.swap ?_
          refine KL_128 (As := [.int (nI wv), .ref (h 21), .ref (h 22), .ref (h 23), .ref (h 24), .ref (h 25), .ref (h 26), .ref (h 27), .ref (h 30)]) (rest := []) cx (kL_split (xl X) lo G _ h qt qc qf qb ql qa qd qw qh qg wv x L9 hok hq hw1 hw2 (by omega) hg0x hg1x) hX (by omega) rfl rfl (Nat.le_of_ble_eq_true rfl) 201 4 24 rfl rfl rfl (by omega) (by omega) dL_learns_198 (fun u_33 hw_34 => ?_)
          obtain ⟨qa1_35, qd1_36, qg1_37⟩ := u_33
          try dsimp only at hw_34
          refine V.swap ?_
          obtain ⟨fs, F9, hSR, hF32, hA, hG0, hG1, hG2, hG3⟩ := hw_34
          refine V_aload cx 203 rfl dL_learns_201 12 rfl ?_
          refine V_iconst (v := nI 3) cx 204 rfl dL_learns_203 (by decide) ?_
          refine V_ialdN cx 3 (rfl) (by omega) (by decide) 30 rfl 205 rfl dL_learns_204 ?_
          refine V_toi (nI F9) (hG3) ?_
          refine V_if_eq cx 208 238 rfl dL_learns_205 (by decide) (fun c_205 => ?_) (fun c_205 => ?_)
          · skip
            have n_205 : F9 = 0 := Z_eq_t (by omega) c_205
            have hns : F9 = 0 ∨ (1 < F9 ∧ cS x (fs 1) - 15 < cS x (fs 0) - 15 + 20) := Or.inl n_205
            refine V_aload_n cx 239 rfl dL_learns_238 1 rfl ?_
            refine V_iload cx 241 rfl dL_learns_239 0 rfl ?_
            refine KL_126 (As := [.ref (h 0), .int (nI wv)]) (rest := []) cx (kL_learn (xl X) lo G _ h np nl len fd lu tu T C F LT VV BB lt ph lh ks wd gr gs bl ie tw (nI wv) x hst hok hck (by omega)) hX (by omega) rfl rfl (Nat.le_of_ble_eq_true rfl) 244 6 36 rfl rfl rfl (by omega) (by omega) dL_learns_241 (fun r_38 u_39 hw_40 => ?_)
            rcases u_39 with _ | ⟨lu1_41, C1_42, gr1_43, gs1_44, wd1_45, fd1_46, lt1_47, ph1_48, lh1_49, ks1_50, v_51⟩
            · exfalso
              dsimp only at hw_40
              obtain ⟨E, hw_40, -⟩ := hw_40
              rcases hw_40 with ⟨_, h9⟩ | ⟨_, _, h9⟩ <;> omega
            dsimp only at hw_40
            obtain ⟨hw_40, hv_52⟩ := hw_40
            obtain ⟨f1, f2, f3, f4, f5, f6⟩ := lrn_f (lu := lu) (C := C) (gr := gr) (gs := gs) (wd := wd) hwb hSZ hL8 hSR hF32 hns hw_40
            rw [f1] at hv_52
            refine V_toi (nI 0) (hv_52.1 rfl) ?_
            refine V_if_ne cx 247 251 rfl dL_learns_244 (by decide) (fun c_244 => ?_) (fun c_244 => ?_)
            · skip
              exact absurd c_244 (by decide)
            · skip
              refine V_iconst (v := nI 1) cx 248 rfl dL_learns_247 (by decide) ?_
              refine V_goto cx 252 dL_learns_248 (by decide) ?_
              exact V_zreturn cx hr (by first | rfl | exact bI_z _) (lu1_41, C1_42, wd1_45, gr1_43, gs1_44, qc, qw, qh, qg1_37, qa1_35, qd1_36, SZ (nI wv) 8, fd1_46, lt1_47, ph1_48, lh1_49, ks1_50) (⟨rfl, x, by rw [f2, f3, f4, f5, f6]; exact hLI.same hG0 hG1 hG2⟩) rfl (by omega) (by omega) dL_learns_252
          · skip
            have n_205 : F9 ≠ 0 := Z_eq_f (by omega) c_205
            have join_253 : (F9 = 1 ∨ (1 < F9 ∧ cS x (fs 0) - 15 + 20 ≤ cS x (fs 1) - 15)) → V X lo 17 G (Qi X lo G (fun (r : Int32) ((lu1, C1, wd1, gr1, gs1, qc1, qw1, qh1, qg1, qa1, qd1, len1, fd1, lt1, ph1, lh1, ks1) : (Nat) × (Nat → Int32) × (Nat → Int32) × (Nat → Int32) × (Nat → Int32) × (Nat → Int32) × (Nat → Int64) × (Nat → Int32) × (Nat → Int32) × (Nat → Int64) × (Nat → Int64) × (Nat) × (Nat) × (Nat → Int32) × (Nat → Int32) × (Nat → Int32) × (Nat → Int64)) => r = nI 1 ∧ (∃ y_, LI y_ np nl lu1 tu T C1 F LT VV BB wd1 gr1 gs1 bl ie qt qc1 qf qb ql qw1 qh1 qg1)) (fun ((lu1, C1, wd1, gr1, gs1, qc1, qw1, qh1, qg1, qa1, qd1, len1, fd1, lt1, ph1, lh1, ks1) : (Nat) × (Nat → Int32) × (Nat → Int32) × (Nat → Int32) × (Nat → Int32) × (Nat → Int32) × (Nat → Int64) × (Nat → Int32) × (Nat → Int32) × (Nat → Int64) × (Nat → Int64) × (Nat) × (Nat) × (Nat → Int32) × (Nat → Int32) × (Nat → Int32) × (Nat → Int64)) => cW G h np nl len1 fd1 lu1 tu T C1 F LT VV BB lt1 ph1 lh1 ks1 wd1 gr1 gs1 bl ie tw ++ (lW G h qt qc1 qf qb ql qa1 qd1 qw1 qh1 qg1 ++ rs)) 8 48) 4 24 (cW G h np nl len fd lu tu T C F LT VV BB lt ph lh ks wd gr gs bl ie tw ++ (lW G h qt qc qf qb ql qa1_35 qd1_36 qw qh qg1_37 ++ rs)) [(12, .int (nI wv)), (0, .ref (h 0)), (1, .int z), (2, .ref (h 21)), (3, .ref (h 22)), (4, .ref (h 23)), (5, .ref (h 24)), (6, .ref (h 25)), (7, .ref (h 26)), (8, .ref (h 27)), (9, .ref (h 28)), (10, .ref (h 29)), (11, .ref (h 30))] [] 253 := by
              intro hsr
              obtain ⟨b1, b2, b3, b4⟩ := SR_bd hok hd hSR (show 0 < F9 by omega)
              have hKb := aK_bd b2 (Nat.le_refl _) (by omega)
              rw [aK_all] at hKb
              have hKc := aK_lt b2 (fs 0).length (Nat.le_refl _)
              rw [aK_all] at hKc
              have hKd := p256 (show (fs 0).length ≤ 5 by omega)
              obtain ⟨m, hm⟩ : ∃ m, m = (fs 0).length := ⟨_, rfl⟩
              rw [← hm] at b3 b4 hKc hKd
              refine V_lconst (v := lN 0) cx 254 rfl dL_learns_253 (by decide) ?_
              refine V_lstore (lc1 := [(13, .long (lN 0)), (12, .int (nI wv)), (0, .ref (h 0)), (1, .int z), (2, .ref (h 21)), (3, .ref (h 22)), (4, .ref (h 23)), (5, .ref (h 24)), (6, .ref (h 25)), (7, .ref (h 26)), (8, .ref (h 27)), (9, .ref (h 28)), (10, .ref (h 29)), (11, .ref (h 30))]) cx 256 rfl dL_learns_254 (by decide) rfl ?_
              refine V_aload cx 258 rfl dL_learns_256 9 rfl ?_
              refine V_iconst (v := nI 0) cx 259 rfl dL_learns_258 (by decide) ?_
              refine V_laldN cx 0 (rfl) (by omega) (by decide) 26 rfl 260 rfl dL_learns_259 ?_
              refine V_tol (lN (aK (fs 0))) (hA 0 (by omega)) ?_
              refine KL_67 (As := [.long (lN (aK (fs 0)))]) (rest := []) cx (kL_parts (xl X) lo G _ (aK (fs 0)) (fs 0) rfl b2 (by omega)) hX (by omega) rfl rfl (Nat.le_of_ble_eq_true rfl) 263 4 24 rfl rfl rfl (by omega) (by omega) dL_learns_260 (fun r_53 u_54 hw_55 => ?_)
              try dsimp only at hw_55
              subst hw_55
              refine V_iconst (v := nI 1) cx 264 rfl dL_learns_263 (by decide) ?_
              refine V_isub cx 265 rfl dL_learns_264 ?_
              refine V_istore (lc1 := [(15, .int ((nI (List.length (fs 0))) - (nI 1))), (13, .long (lN 0)), (12, .int (nI wv)), (0, .ref (h 0)), (1, .int z), (2, .ref (h 21)), (3, .ref (h 22)), (4, .ref (h 23)), (5, .ref (h 24)), (6, .ref (h 25)), (7, .ref (h 26)), (8, .ref (h 27)), (9, .ref (h 28)), (10, .ref (h 29)), (11, .ref (h 30))]) cx 267 rfl dL_learns_265 (by decide) rfl ?_
              have loop_267 : ∀ (fuel : Nat) (j : Nat) (M : Nat) (zc : Nat) (qc3 : Nat → Int32), (j ≤ m) → (zc = M * 2 ^ (40 + j)) → (M < 2 ^ (m - j)) → (∀ p, p < np → qc3 p = nI ((lrn (lC x) (fs 0) (m - j)).1 p)) → (∀ p, cntW M ((fun i => spP (fs 0) (m - 1 - (i + j)))) p (m - j) = (lrn (lC x) (fs 0) (m - j)).2 p) → j < fuel → V X lo 17 G (Qi X lo G (fun (r : Int32) ((lu1, C1, wd1, gr1, gs1, qc1, qw1, qh1, qg1, qa1, qd1, len1, fd1, lt1, ph1, lh1, ks1) : (Nat) × (Nat → Int32) × (Nat → Int32) × (Nat → Int32) × (Nat → Int32) × (Nat → Int32) × (Nat → Int64) × (Nat → Int32) × (Nat → Int32) × (Nat → Int64) × (Nat → Int64) × (Nat) × (Nat) × (Nat → Int32) × (Nat → Int32) × (Nat → Int32) × (Nat → Int64)) => r = nI 1 ∧ (∃ y_, LI y_ np nl lu1 tu T C1 F LT VV BB wd1 gr1 gs1 bl ie qt qc1 qf qb ql qw1 qh1 qg1)) (fun ((lu1, C1, wd1, gr1, gs1, qc1, qw1, qh1, qg1, qa1, qd1, len1, fd1, lt1, ph1, lh1, ks1) : (Nat) × (Nat → Int32) × (Nat → Int32) × (Nat → Int32) × (Nat → Int32) × (Nat → Int32) × (Nat → Int64) × (Nat → Int32) × (Nat → Int32) × (Nat → Int64) × (Nat → Int64) × (Nat) × (Nat) × (Nat → Int32) × (Nat → Int32) × (Nat → Int32) × (Nat → Int64)) => cW G h np nl len1 fd1 lu1 tu T C1 F LT VV BB lt1 ph1 lh1 ks1 wd1 gr1 gs1 bl ie tw ++ (lW G h qt qc1 qf qb ql qa1 qd1 qw1 qh1 qg1 ++ rs)) 8 48) 4 24 (cW G h np nl len fd lu tu T C F LT VV BB lt ph lh ks wd gr gs bl ie tw ++ (lW G h qt qc3 qf qb ql qa1_35 qd1_36 qw qh qg1_37 ++ rs)) [(15, .int (nI j - nI 1)), (13, .long (lN zc)), (12, .int (nI wv)), (0, .ref (h 0)), (1, .int z), (2, .ref (h 21)), (3, .ref (h 22)), (4, .ref (h 23)), (5, .ref (h 24)), (6, .ref (h 25)), (7, .ref (h 26)), (8, .ref (h 27)), (9, .ref (h 28)), (10, .ref (h 29)), (11, .ref (h 30))] [] 267 := by
                intro fuel
                induction fuel with
                | zero => intro j M zc qc3 hj hz hM hqc hcw hmz; exact absurd hmz (Nat.not_lt_zero _)
                | succ fuel ih_267 =>
                  intro j M zc qc3 hj hz hM hqc hcw hmz_267
                  refine V_iload cx 269 rfl dL_learns_267 0 rfl ?_
                  refine V_if_lt cx 272 332 rfl dL_learns_269 (by decide) (fun c_269 => ?_) (fun c_269 => ?_)
                  · skip
                    have ej : j = 0 := nI_subz (by omega) c_269
                    subst ej
                    rw [Nat.add_zero] at hz
                    rw [Nat.sub_zero] at hM
                    refine V_aload cx 334 rfl dL_learns_332 12 rfl ?_
                    refine V_aload cx 336 rfl dL_learns_334 14 rfl ?_
                    refine V_iconst (v := nI 2) cx 337 rfl dL_learns_336 (by decide) ?_
                    refine V_ialdN cx 2 (rfl) (by omega) (by decide) 30 rfl 338 rfl dL_learns_337 ?_
                    refine V_toi (nI lu) (hG2.trans hg2) ?_
                    refine V_aload cx 340 rfl dL_learns_338 10 rfl ?_
                    refine V_iconst (v := nI 0) cx 341 rfl dL_learns_340 (by decide) ?_
                    refine V_laldN cx 0 (rfl) (by omega) (by decide) 26 rfl 342 rfl dL_learns_341 ?_
                    refine V_tol (lN (aK (fs 0))) (hA 0 (by omega)) ?_
                    refine V_lload cx 344 rfl dL_learns_342 1 rfl ?_
                    refine V_lor cx 345 rfl dL_learns_344 ?_
                    refine V_tol (lN (aK (fs 0) + M * 1099511627776)) (by rw [hz]; exact g_or' (k := 40) rfl (by omega) (zc_e hM (by omega) (by omega))) ?_
                    refine V_lastN cx lu (rfl) (by omega) (by decide) 28 rfl (cW G h np nl len fd lu tu T C F LT VV BB lt ph lh ks wd gr gs bl ie tw ++ (lW G h qt qc3 qf qb ql qa1_35 qd1_36 (vp_updL qw lu (lN (aK (fs 0) + M * 1099511627776))) qh qg1_37 ++ rs)) rfl 346 rfl dL_learns_345 ?_
                    refine V_aload cx 348 rfl dL_learns_346 13 rfl ?_
                    refine V_aload cx 350 rfl dL_learns_348 14 rfl ?_
                    refine V_iconst (v := nI 2) cx 351 rfl dL_learns_350 (by decide) ?_
                    refine V_ialdN cx 2 (rfl) (by omega) (by decide) 30 rfl 352 rfl dL_learns_351 ?_
                    refine V_toi (nI lu) (hG2.trans hg2) ?_
                    refine V_iload cx 354 rfl dL_learns_352 2 rfl ?_
                    refine V_iastN cx lu (rfl) (by omega) (by decide) 29 rfl (cW G h np nl len fd lu tu T C F LT VV BB lt ph lh ks wd gr gs bl ie tw ++ (lW G h qt qc3 qf qb ql qa1_35 qd1_36 (vp_updL qw lu (lN (aK (fs 0) + M * 1099511627776))) (upd qh lu (nI wv)) qg1_37 ++ rs)) rfl 355 rfl dL_learns_354 ?_
                    refine V_aload cx 357 rfl dL_learns_355 14 rfl ?_
                    refine V_iconst (v := nI 2) cx 358 rfl dL_learns_357 (by decide) ?_
                    refine V_dup2 cx 359 rfl dL_learns_358 rfl rfl ?_
                    refine V_ialdN cx 2 (rfl) (by omega) (by decide) 30 rfl 360 rfl dL_learns_359 ?_
                    refine V_toi (nI lu) (hG2.trans hg2) ?_
                    refine V_iconst (v := nI 1) cx 361 rfl dL_learns_360 (by decide) ?_
                    refine V_iadd cx 362 rfl dL_learns_361 ?_
                    refine V_toi (nI (lu + 1)) (nI_add _ _) ?_
                    refine V_iastN cx 2 (rfl) (by omega) (by decide) 30 rfl (cW G h np nl len fd lu tu T C F LT VV BB lt ph lh ks wd gr gs bl ie tw ++ (lW G h qt qc3 qf qb ql qa1_35 qd1_36 (vp_updL qw lu (lN (aK (fs 0) + M * 1099511627776))) (upd qh lu (nI wv)) (upd qg1_37 2 (nI (lu + 1))) ++ rs)) rfl 363 rfl dL_learns_362 ?_
                    refine V_aload_n cx 364 rfl dL_learns_363 3 rfl ?_
                    refine V_iload cx 366 rfl dL_learns_364 2 rfl ?_
                    refine KL_126 (As := [.ref (h 0), .int (nI wv)]) (rest := []) cx (kL_learn (xl X) lo G _ h np nl len fd lu tu T C F LT VV BB lt ph lh ks wd gr gs bl ie tw (nI wv) x hst hok hck (by omega)) hX (by omega) rfl rfl (Nat.le_of_ble_eq_true rfl) 369 6 36 rfl rfl rfl (by omega) (by omega) dL_learns_366 (fun r_56 u_57 hw_58 => ?_)
                    rcases u_57 with _ | ⟨lu1_59, C1_60, gr1_61, gs1_62, wd1_63, fd1_64, lt1_65, ph1_66, lh1_67, ks1_68, v_69⟩
                    · exfalso
                      dsimp only at hw_58
                      obtain ⟨E, hw_58, -⟩ := hw_58
                      rcases hw_58 with ⟨_, h9⟩ | ⟨_, _, h9⟩ <;> omega
                    dsimp only at hw_58
                    obtain ⟨hw_58, hv_70⟩ := hw_58
                    rw [hm] at hM
                    obtain ⟨f1, f2⟩ := LI_learn hLI hwb hSZ (show 1 ≤ L9 ∧ L9 ≤ 5 by omega) hSR hF32 hsr hw_58 (M := M) (qc' := qc3) (qg' := upd qg1_37 2 (nI (lu + 1))) (fun p hp => by have := hqc p hp; rw [Nat.sub_zero, hm] at this; exact this) hM (fun p => by have := hcw p; rw [Nat.sub_zero, hm] at this; exact this) ((upd_n _ _ (by decide)).trans (hG0.trans hg0)) ((upd_n _ _ (by decide)).trans (hG1.trans hg1)) (upd_s _ _ _)
                    rw [f1] at hv_70
                    refine V_toi (nI 1) (hv_70.2 (by decide)) ?_
                    refine V_iconst (v := nI 1) cx 370 rfl dL_learns_369 (by decide) ?_
                    refine V_icmp_ne cx 373 377 rfl dL_learns_370 (by decide) (fun c_370 => ?_) (fun c_370 => ?_)
                    · skip
                      exact absurd rfl c_370
                    · skip
                      refine V_iconst (v := nI 1) cx 374 rfl dL_learns_373 (by decide) ?_
                      refine V_goto cx 378 dL_learns_374 (by decide) ?_
                      exact V_zreturn cx hr (by first | rfl | exact bI_z _) (lu1_59, C1_60, wd1_63, gr1_61, gs1_62, qc3, vp_updL qw lu (lN (aK (fs 0) + M * 1099511627776)), upd qh lu (nI wv), upd qg1_37 2 (nI (lu + 1)), qa1_35, qd1_36, SZ (nI wv) 8, fd1_64, lt1_65, ph1_66, lh1_67, ks1_68) (⟨rfl, f2⟩) rfl (by omega) (by omega) dL_learns_378
                  · skip
                    have ej : 0 < j := nI_subnz c_269
                    rw [show nI j - nI 1 = nI (j - 1) from nI_subN (by omega)]
                    have hP9 := (b1 (m - j) (by omega)).1
                    have hlb := lrn_bd (c := lC x) (sl := fs 0) (m - j) (spP (fs 0) (m - j)) (hok.2.2.2.1 _ hP9).2
                    refine V_aload cx 274 rfl dL_learns_272 10 rfl ?_
                    refine V_iconst (v := nI 0) cx 275 rfl dL_learns_274 (by decide) ?_
                    refine V_laldN cx 0 (rfl) (by omega) (by decide) 26 rfl 276 rfl dL_learns_275 ?_
                    refine V_tol (lN (aK (fs 0))) (hA 0 (by omega)) ?_
                    refine V_bipush (v := nI 8) cx 278 rfl dL_learns_276 (by decide) ?_
                    refine V_iload cx 280 rfl dL_learns_278 0 rfl ?_
                    refine V_imul cx 281 rfl dL_learns_280 ?_
                    refine V_toi (nI (8 * (j - 1))) (nI_mulN _ _) ?_
                    refine V_iconst (v := nI 3) cx 282 rfl dL_learns_281 (by decide) ?_
                    refine V_iadd cx 283 rfl dL_learns_282 ?_
                    refine V_toi (nI ((8 * (j - 1)) + 3)) (nI_add _ _) ?_
                    refine V_lshr cx 284 rfl dL_learns_283 ?_
                    refine V_tol (lN (aK (fs 0) / 2 ^ (8 * (j - 1) + 3))) (l_shr (by omega) (by omega)) ?_
                    refine V_ldc2 cx 287 rfl dL_learns_284 cl_L_73 ?_
                    refine V_tol (lN 31) (by decide) ?_
                    refine V_land cx 288 rfl dL_learns_287 ?_
                    refine V_tol (lN (aK (fs 0) / 2 ^ (8 * (j - 1) + 3) % 32)) (l_land 5 32 (by decide) (by decide) (Nat.lt_of_le_of_lt (Nat.div_le_self _ _) (by omega))) ?_
                    refine V_l2i cx 289 rfl dL_learns_288 ?_
                    refine V_toi (nI (aK (fs 0) / 2 ^ (8 * (j - 1) + 3) % 32)) (lN_i _) ?_
                    refine V_iconst (v := nI 1) cx 290 rfl dL_learns_289 (by decide) ?_
                    refine V_isub cx 291 rfl dL_learns_290 ?_
                    refine V_toi (nI (spP (fs 0) (m - j))) (by rw [aK_pt b2 ej (by omega), ← hm]; exact nI_subN (by omega)) ?_
                    refine V_istore (lc1 := [(16, .int (nI (spP (fs 0) (m - j)))), (15, .int (nI (j - 1))), (13, .long (lN zc)), (12, .int (nI wv)), (0, .ref (h 0)), (1, .int z), (2, .ref (h 21)), (3, .ref (h 22)), (4, .ref (h 23)), (5, .ref (h 24)), (6, .ref (h 25)), (7, .ref (h 26)), (8, .ref (h 27)), (9, .ref (h 28)), (10, .ref (h 29)), (11, .ref (h 30))]) cx 293 rfl dL_learns_291 (by decide) rfl ?_
                    refine V_aload_n cx 294 rfl dL_learns_293 7 rfl ?_
                    refine V_iload cx 296 rfl dL_learns_294 0 rfl ?_
                    refine V_ialdN cx (spP (fs 0) (m - j)) (rfl) (by omega) (by decide) 22 rfl 297 rfl dL_learns_296 ?_
                    refine V_toi (nI ((lrn (lC x) (fs 0) (m - j)).1 (spP (fs 0) (m - j)))) (hqc _ (by omega)) ?_
                    refine V_sipush (v := nI 9999) cx 300 rfl dL_learns_297 (by decide) ?_
                    refine V_icmp_ne cx 303 306 rfl dL_learns_300 (by decide) (fun c_300 => ?_) (fun c_300 => ?_)
                    · skip
                      have n_300 : (lrn (lC x) (fs 0) (m - j)).1 (spP (fs 0) (m - j)) ≠ 9999 := N_ne_t (by omega) (by omega) c_300
                      refine V_aload_n cx 307 rfl dL_learns_306 7 rfl ?_
                      refine V_iload cx 309 rfl dL_learns_307 0 rfl ?_
                      refine V_dup2 cx 310 rfl dL_learns_309 rfl rfl ?_
                      refine V_ialdN cx (spP (fs 0) (m - j)) (rfl) (by omega) (by decide) 22 rfl 311 rfl dL_learns_310 ?_
                      refine V_toi (nI ((lrn (lC x) (fs 0) (m - j)).1 (spP (fs 0) (m - j)))) (hqc _ (by omega)) ?_
                      refine V_iconst (v := nI 1) cx 312 rfl dL_learns_311 (by decide) ?_
                      refine V_iadd cx 313 rfl dL_learns_312 ?_
                      refine V_toi (nI (((lrn (lC x) (fs 0) (m - j)).1 (spP (fs 0) (m - j))) + 1)) (nI_add _ _) ?_
                      refine V_iastN cx (spP (fs 0) (m - j)) (rfl) (by omega) (by decide) 22 rfl (cW G h np nl len fd lu tu T C F LT VV BB lt ph lh ks wd gr gs bl ie tw ++ (lW G h qt (upd qc3 (spP (fs 0) (m - j)) (nI (((lrn (lC x) (fs 0) (m - j)).1 (spP (fs 0) (m - j))) + 1))) qf qb ql qa1_35 qd1_36 qw qh qg1_37 ++ rs)) rfl 314 rfl dL_learns_313 ?_
                      have hzb : M * 2 ^ (40 + j) + 2 ^ (40 + (j - 1)) < 2 ^ 64 := zc_bd (by omega) hM (by omega) ej
                      refine V_lload cx 316 rfl dL_learns_314 2 rfl ?_
                      refine V_lconst (v := lN 1) cx 317 rfl dL_learns_316 (by decide) ?_
                      refine V_bipush (v := nI 40) cx 319 rfl dL_learns_317 (by decide) ?_
                      refine V_iload cx 321 rfl dL_learns_319 1 rfl ?_
                      refine V_iadd cx 322 rfl dL_learns_321 ?_
                      refine V_toi (nI (40 + (j - 1))) (nI_add _ _) ?_
                      refine V_lshl cx 323 rfl dL_learns_322 ?_
                      refine V_tol (lN (1 * 2 ^ (40 + (j - 1)))) (wb_shl _ (by omega)) ?_
                      refine V_lor cx 324 rfl dL_learns_323 ?_
                      refine V_tol (lN (M * 2 ^ (40 + j) + 2 ^ (40 + (j - 1)))) (by rw [hz, Nat.one_mul]; exact g_or (k := 40 + j) rfl (Nat.pow_lt_pow_right (by decide) (by omega)) hzb) ?_
                      refine V_lstore (lc1 := [(13, .long (lN (M * 2 ^ (40 + j) + 2 ^ (40 + (j - 1))))), (16, .int (nI (spP (fs 0) (m - j)))), (15, .int (nI (j - 1))), (12, .int (nI wv)), (0, .ref (h 0)), (1, .int z), (2, .ref (h 21)), (3, .ref (h 22)), (4, .ref (h 23)), (5, .ref (h 24)), (6, .ref (h 25)), (7, .ref (h 26)), (8, .ref (h 27)), (9, .ref (h 28)), (10, .ref (h 29)), (11, .ref (h 30))]) cx 326 rfl dL_learns_324 (by decide) rfl ?_
                      refine V_iinc (v := nI (j - 1) - nI 1) (lc1 := [(15, .int (nI (j - 1) - nI 1)), (13, .long (lN (M * 2 ^ (40 + j) + 2 ^ (40 + (j - 1))))), (16, .int (nI (spP (fs 0) (m - j)))), (12, .int (nI wv)), (0, .ref (h 0)), (1, .int z), (2, .ref (h 21)), (3, .ref (h 22)), (4, .ref (h 23)), (5, .ref (h 24)), (6, .ref (h 25)), (7, .ref (h 26)), (8, .ref (h 27)), (9, .ref (h 28)), (10, .ref (h 29)), (11, .ref (h 30))]) cx 329 rfl dL_learns_326 2 rfl (nI_decR (j - 1)) (by decide) rfl ?_
                      refine V_goto cx 267 dL_learns_329 (by decide) ?_
                      refine V.locs [0, 1, 3, 4, 5, 6, 7, 8, 9, 10, 11, 12, 13, 14, 15] rfl ?_
                      have kz : M * 2 ^ (40 + j) + 2 ^ (40 + (j - 1)) = (2 * M + 1) * 2 ^ (40 + (j - 1)) := zc_y ej
                      have kM : 2 * M + 1 < 2 ^ (m - (j - 1)) := zc_M ej hj hM (by decide)
                      have hs1 : m - (j - 1) = (m - j) + 1 := by omega
                      have kq : ∀ p, p < np → (upd qc3 (spP (fs 0) (m - j)) (nI (((lrn (lC x) (fs 0) (m - j)).1 (spP (fs 0) (m - j))) + 1))) p = nI ((lrn (lC x) (fs 0) (m - (j - 1))).1 p) := fun p hp => by
                        rw [hs1]
                        rw [lrn_y (by omega)]
                        by_cases g1 : p = spP (fs 0) (m - j)
                        · rw [if_pos g1, g1, upd_s]
                        · rw [if_neg g1, upd_n _ _ g1]; exact hqc p hp
                      have kc : ∀ p, cntW (2 * M + 1) ((fun i => spP (fs 0) (m - 1 - (i + (j - 1))))) p (m - (j - 1)) = (lrn (lC x) (fs 0) (m - (j - 1))).2 p := fun p => by
                        rw [hs1, cntW_sh (by decide)]
                        have g2 : cntW M (fun i => spP (fs 0) (m - 1 - (i + 1 + (j - 1)))) p (m - j) = (lrn (lC x) (fs 0) (m - j)).2 p := by
                          rw [← hcw p]; exact cntW_congr _ (fun i hi _ => by show spP (fs 0) (m - 1 - (i + 1 + (j - 1))) = spP (fs 0) (m - 1 - (i + j)); congr 1; omega)
                        rw [g2]
                        rw [show m - 1 - (0 + (j - 1)) = m - j by omega]
                        rw [lrn_y2 (by omega)]
                        by_cases g1 : p = spP (fs 0) (m - j)
                        · rw [if_pos g1, if_pos ⟨rfl, g1.symm⟩]
                        · rw [if_neg g1, if_neg (fun h9 => g1 h9.2.symm)]; rfl
                      exact ih_267 (j - 1) (2 * M + 1) (M * 2 ^ (40 + j) + 2 ^ (40 + (j - 1))) (upd qc3 (spP (fs 0) (m - j)) (nI (((lrn (lC x) (fs 0) (m - j)).1 (spP (fs 0) (m - j))) + 1))) (by omega) (by exact kz) (by exact kM) (by exact kq) (by exact kc) (by omega)
                    · skip
                      have n_300 : (lrn (lC x) (fs 0) (m - j)).1 (spP (fs 0) (m - j)) = 9999 := N_ne_f (by omega) (by omega) c_300
                      refine V_goto cx 326 dL_learns_303 (by decide) ?_
                      refine V_iinc (v := nI (j - 1) - nI 1) (lc1 := [(15, .int (nI (j - 1) - nI 1)), (16, .int (nI (spP (fs 0) (m - j)))), (13, .long (lN zc)), (12, .int (nI wv)), (0, .ref (h 0)), (1, .int z), (2, .ref (h 21)), (3, .ref (h 22)), (4, .ref (h 23)), (5, .ref (h 24)), (6, .ref (h 25)), (7, .ref (h 26)), (8, .ref (h 27)), (9, .ref (h 28)), (10, .ref (h 29)), (11, .ref (h 30))]) cx 329 rfl dL_learns_326 1 rfl (nI_decR (j - 1)) (by decide) rfl ?_
                      refine V_goto cx 267 dL_learns_329 (by decide) ?_
                      refine V.locs [0, 2, 3, 4, 5, 6, 7, 8, 9, 10, 11, 12, 13, 14, 15] rfl ?_
                      have kz : zc = (2 * M + 0) * 2 ^ (40 + (j - 1)) := hz.trans (zc_n ej)
                      have kM : 2 * M + 0 < 2 ^ (m - (j - 1)) := zc_M ej hj hM (by decide)
                      have hs1 : m - (j - 1) = (m - j) + 1 := by omega
                      have kq : ∀ p, p < np → (qc3) p = nI ((lrn (lC x) (fs 0) (m - (j - 1))).1 p) := fun p hp => by
                        rw [hs1]
                        rw [lrn_n (by omega)]; exact hqc p hp
                      have kc : ∀ p, cntW (2 * M + 0) ((fun i => spP (fs 0) (m - 1 - (i + (j - 1))))) p (m - (j - 1)) = (lrn (lC x) (fs 0) (m - (j - 1))).2 p := fun p => by
                        rw [hs1, cntW_sh (by decide)]
                        have g2 : cntW M (fun i => spP (fs 0) (m - 1 - (i + 1 + (j - 1)))) p (m - j) = (lrn (lC x) (fs 0) (m - j)).2 p := by
                          rw [← hcw p]; exact cntW_congr _ (fun i hi _ => by show spP (fs 0) (m - 1 - (i + 1 + (j - 1))) = spP (fs 0) (m - 1 - (i + j)); congr 1; omega)
                        rw [g2]
                        rw [show m - 1 - (0 + (j - 1)) = m - j by omega]
                        rw [lrn_n (by omega), if_neg (fun h9 => absurd h9.1 (by decide))]; rfl
                      exact ih_267 (j - 1) (2 * M + 0) zc qc3 (by omega) (by exact kz) (by exact kM) (by exact kq) (by exact kc) (by omega)
              refine V.locs [0, 1, 2, 3, 4, 5, 6, 7, 8, 9, 10, 11, 12, 13, 14] rfl ?_
              rw [← hm]
              exact loop_267 _ m 0 0 qc (by exact Nat.le_refl m) (by exact (Nat.zero_mul _).symm) (by exact Nat.pow_pos (by decide)) (by exact fun p hp => by rw [Nat.sub_self]; exact hq.2.1 p (by omega)) (by exact fun p => by rw [Nat.sub_self]; rfl) (Nat.lt_succ_self _)
            refine V_aload cx 210 rfl dL_learns_208 12 rfl ?_
            refine V_iconst (v := nI 3) cx 211 rfl dL_learns_210 (by decide) ?_
            refine V_ialdN cx 3 (rfl) (by omega) (by decide) 30 rfl 212 rfl dL_learns_211 ?_
            refine V_toi (nI F9) (hG3) ?_
            refine V_iconst (v := nI 1) cx 213 rfl dL_learns_212 (by decide) ?_
            refine V_icmp_le cx 216 253 rfl dL_learns_213 (by decide) (fun c_213 => ?_) (fun c_213 => ?_)
            · skip
              have n_213 : F9 ≤ 1 := N_le_t (by omega) (by omega) c_213
              refine V.locs [0, 1, 2, 3, 4, 5, 6, 7, 8, 9, 10, 11, 12] rfl ?_
              exact join_253  (by omega)
            · skip
              have n_213 : F9 > 1 := N_le_f (by omega) (by omega) c_213
              obtain ⟨b01, b02, b03, b04⟩ := SR_bd hok hd hSR (show 0 < F9 by omega)
              have b05 := cS_le x (fs 0)
              obtain ⟨b11, b12, b13, b14⟩ := SR_bd hok hd hSR (show 1 < F9 by omega)
              have b15 := cS_le x (fs 1)
              refine V_aload cx 218 rfl dL_learns_216 8 rfl ?_
              refine V_iconst (v := nI 1) cx 219 rfl dL_learns_218 (by decide) ?_
              refine V_laldN cx 1 (rfl) (by omega) (by decide) 26 rfl 220 rfl dL_learns_219 ?_
              refine V_tol (lN (aK (fs 1))) (hA 1 (by omega)) ?_
              refine V_aload_n cx 221 rfl dL_learns_220 4 rfl ?_
              refine V.swap ?_
              refine KL_80 (As := [.long (lN (aK (fs 1))), .ref (h 22)]) (rest := []) cx (kL_costOf (xl X) lo G _ h qt qc qf qb ql qa1_35 qd1_36 qw qh qg1_37 (aK (fs 1)) (fs 1) x rfl hok b11 (by omega) hq (by omega)) hX (by omega) rfl rfl (Nat.le_of_ble_eq_true rfl) 224 4 24 rfl rfl rfl (by omega) (by omega) dL_learns_221 (fun r_71 u_72 hw_73 => ?_)
              try dsimp only at hw_73
              subst hw_73
              refine V.swap ?_
              refine V_aload cx 226 rfl dL_learns_224 8 rfl ?_
              refine V_iconst (v := nI 0) cx 227 rfl dL_learns_226 (by decide) ?_
              refine V_laldN cx 0 (rfl) (by omega) (by decide) 26 rfl 228 rfl dL_learns_227 ?_
              refine V_tol (lN (aK (fs 0))) (hA 0 (by omega)) ?_
              refine V_aload_n cx 229 rfl dL_learns_228 4 rfl ?_
              refine V.swap ?_
              refine KL_80 (As := [.long (lN (aK (fs 0))), .ref (h 22)]) (rest := [.int (nI (cS x (fs 1) - 15))]) cx (kL_costOf (xl X) lo G _ h qt qc qf qb ql qa1_35 qd1_36 qw qh qg1_37 (aK (fs 0)) (fs 0) x rfl hok b01 (by omega) hq (by omega)) hX (by omega) rfl rfl (Nat.le_of_ble_eq_true rfl) 232 4 24 rfl rfl rfl (by omega) (by omega) dL_learns_229 (fun r_74 u_75 hw_76 => ?_)
              try dsimp only at hw_76
              subst hw_76
              refine V.swap ?_
              refine V_bipush (v := nI 20) cx 234 rfl dL_learns_232 (by decide) ?_
              refine V_iadd cx 235 rfl dL_learns_234 ?_
              refine V_toi (nI ((cS x (fs 0) - 15) + 20)) (nI_add _ _) ?_
              refine V_icmp_ge cx 238 253 rfl dL_learns_235 (by decide) (fun c_235 => ?_) (fun c_235 => ?_)
              · skip
                have n_235 : cS x (fs 1) - 15 ≥ cS x (fs 0) - 15 + 20 := N_ge_t (by omega) (by omega) c_235
                refine V.locs [0, 1, 2, 3, 4, 5, 6, 7, 8, 9, 10, 11, 12] rfl ?_
                exact join_253  (by omega)
              · skip
                have n_235 : cS x (fs 1) - 15 < cS x (fs 0) - 15 + 20 := N_ge_f (by omega) (by omega) c_235
                have hns : F9 = 0 ∨ (1 < F9 ∧ cS x (fs 1) - 15 < cS x (fs 0) - 15 + 20) := Or.inr ⟨by omega, n_235⟩
                refine V_aload_n cx 239 rfl dL_learns_238 1 rfl ?_
                refine V_iload cx 241 rfl dL_learns_239 0 rfl ?_
                refine KL_126 (As := [.ref (h 0), .int (nI wv)]) (rest := []) cx (kL_learn (xl X) lo G _ h np nl len fd lu tu T C F LT VV BB lt ph lh ks wd gr gs bl ie tw (nI wv) x hst hok hck (by omega)) hX (by omega) rfl rfl (Nat.le_of_ble_eq_true rfl) 244 6 36 rfl rfl rfl (by omega) (by omega) dL_learns_241 (fun r_77 u_78 hw_79 => ?_)
                rcases u_78 with _ | ⟨lu1_80, C1_81, gr1_82, gs1_83, wd1_84, fd1_85, lt1_86, ph1_87, lh1_88, ks1_89, v_90⟩
                · exfalso
                  dsimp only at hw_79
                  obtain ⟨E, hw_79, -⟩ := hw_79
                  rcases hw_79 with ⟨_, h9⟩ | ⟨_, _, h9⟩ <;> omega
                dsimp only at hw_79
                obtain ⟨hw_79, hv_91⟩ := hw_79
                obtain ⟨f1, f2, f3, f4, f5, f6⟩ := lrn_f (lu := lu) (C := C) (gr := gr) (gs := gs) (wd := wd) hwb hSZ hL8 hSR hF32 hns hw_79
                rw [f1] at hv_91
                refine V_toi (nI 0) (hv_91.1 rfl) ?_
                refine V_if_ne cx 247 251 rfl dL_learns_244 (by decide) (fun c_244 => ?_) (fun c_244 => ?_)
                · skip
                  exact absurd c_244 (by decide)
                · skip
                  refine V_iconst (v := nI 1) cx 248 rfl dL_learns_247 (by decide) ?_
                  refine V_goto cx 252 dL_learns_248 (by decide) ?_
                  exact V_zreturn cx hr (by first | rfl | exact bI_z _) (lu1_80, C1_81, wd1_84, gr1_82, gs1_83, qc, qw, qh, qg1_37, qa1_35, qd1_36, SZ (nI wv) 8, fd1_85, lt1_86, ph1_87, lh1_88, ks1_89) (⟨rfl, x, by rw [f2, f3, f4, f5, f6]; exact hLI.same hG0 hG1 hG2⟩) rfl (by omega) (by omega) dL_learns_252
        · skip
          have n_162 : lu = 50 := N_ne_f (by omega) (by omega) c_162
          refine V_aload_n cx 166 rfl dL_learns_165 1 rfl ?_
          refine V_iload cx 168 rfl dL_learns_166 0 rfl ?_
          refine KL_126 (As := [.ref (h 0), .int (nI wv)]) (rest := []) cx (kL_learn (xl X) lo G _ h np nl len fd lu tu T C F LT VV BB lt ph lh ks wd gr gs bl ie tw (nI wv) x hst hok hck (by omega)) hX (by omega) rfl rfl (Nat.le_of_ble_eq_true rfl) 171 6 36 rfl rfl rfl (by omega) (by omega) dL_learns_168 (fun r_92 u_93 hw_94 => ?_)
          rcases u_93 with _ | ⟨lu1_95, C1_96, gr1_97, gs1_98, wd1_99, fd1_100, lt1_101, ph1_102, lh1_103, ks1_104, v_105⟩
          rotate_left
          · exfalso
            dsimp only at hw_94
            obtain ⟨hw_94, -⟩ := hw_94
            obtain ⟨w9, _, _, _, h9, _⟩ := hw_94; omega
          dsimp only at hw_94
          have hv_r_92 : r_92 = (-73) := by
            obtain ⟨E, hw_94, hc⟩ := hw_94
            exact lrx_s (by omega) hw_94 hc
          subst hv_r_92
          refine V_bipush (v := (-73)) cx 173 rfl dL_learns_171 (by decide) ?_
          refine V_icmp_ne cx 176 180 rfl dL_learns_173 (by decide) (fun c_173 => ?_) (fun c_173 => ?_)
          · skip
            exact absurd rfl c_173
          · skip
            refine V_iconst (v := nI 1) cx 177 rfl dL_learns_176 (by decide) ?_
            refine V_goto cx 181 dL_learns_177 (by decide) ?_
            exact V_zreturn cx hr (by first | rfl | exact bI_z _) (lu, C, wd, gr, gs, qc, qw, qh, qg, qa, qd, len, fd, lt, ph, lh, ks) (⟨rfl, x, hLI⟩) rfl (by omega) (by omega) dL_learns_181
      · skip
        exact absurd rfl c_151
  · skip
    refine V_aload cx 9 rfl dL_learns_7 11 rfl ?_
    refine V_iconst (v := nI 2) cx 10 rfl dL_learns_9 (by decide) ?_
    refine V_ialdN cx 2 (rfl) (by omega) (by decide) 30 rfl 11 rfl dL_learns_10 ?_
    refine V_toi (nI lu) (hg2) ?_
    refine V_if_ne cx 14 29 rfl dL_learns_11 (by decide) (fun c_11 => ?_) (fun c_11 => ?_)
    · skip
      have n_11 : lu ≠ 0 := Z_ne_t (by omega) c_11
      obtain ⟨K, B, n, gv, k1, k2, k3, k4, k5, k6, k7, k8, y_, k9⟩ := LI_last hLI (show 0 < lu by omega)
      refine V_aload cx 31 rfl dL_learns_29 11 rfl ?_
      refine V_iconst (v := nI 2) cx 32 rfl dL_learns_31 (by decide) ?_
      refine V_dup2 cx 33 rfl dL_learns_32 rfl rfl ?_
      refine V_ialdN cx 2 (rfl) (by omega) (by decide) 30 rfl 34 rfl dL_learns_33 ?_
      refine V_toi (nI lu) (hg2) ?_
      refine V_iconst (v := nI 1) cx 35 rfl dL_learns_34 (by decide) ?_
      refine V_isub cx 36 rfl dL_learns_35 ?_
      refine V_toi (nI (lu - 1)) (nI_subN (by omega)) ?_
      refine V_iastN cx 2 (rfl) (by omega) (by decide) 30 rfl (cW G h np nl len fd lu tu T C F LT VV BB lt ph lh ks wd gr gs bl ie tw ++ (lW G h qt qc qf qb ql qa qd qw qh (upd qg 2 (nI (lu - 1))) ++ rs)) rfl 37 rfl dL_learns_36 ?_
      refine V_iconst (v := nI 0) cx 38 rfl dL_learns_37 (by decide) ?_
      refine V_istore (lc1 := [(12, .int (nI 0)), (0, .ref (h 0)), (1, .int z), (2, .ref (h 21)), (3, .ref (h 22)), (4, .ref (h 23)), (5, .ref (h 24)), (6, .ref (h 25)), (7, .ref (h 26)), (8, .ref (h 27)), (9, .ref (h 28)), (10, .ref (h 29)), (11, .ref (h 30))]) cx 40 rfl dL_learns_38 (by decide) rfl ?_
      have loop_40 : ∀ (fuel : Nat) (k : Nat) (qc2 : Nat → Int32), (k ≤ 5) → (∀ p, p < np → qc2 p = nI (lC x p - cntW B (byP K) p k)) → 5 - k < fuel → V X lo 17 G (Qi X lo G (fun (r : Int32) ((lu1, C1, wd1, gr1, gs1, qc1, qw1, qh1, qg1, qa1, qd1, len1, fd1, lt1, ph1, lh1, ks1) : (Nat) × (Nat → Int32) × (Nat → Int32) × (Nat → Int32) × (Nat → Int32) × (Nat → Int32) × (Nat → Int64) × (Nat → Int32) × (Nat → Int32) × (Nat → Int64) × (Nat → Int64) × (Nat) × (Nat) × (Nat → Int32) × (Nat → Int32) × (Nat → Int32) × (Nat → Int64)) => r = nI 1 ∧ (∃ y_, LI y_ np nl lu1 tu T C1 F LT VV BB wd1 gr1 gs1 bl ie qt qc1 qf qb ql qw1 qh1 qg1)) (fun ((lu1, C1, wd1, gr1, gs1, qc1, qw1, qh1, qg1, qa1, qd1, len1, fd1, lt1, ph1, lh1, ks1) : (Nat) × (Nat → Int32) × (Nat → Int32) × (Nat → Int32) × (Nat → Int32) × (Nat → Int32) × (Nat → Int64) × (Nat → Int32) × (Nat → Int32) × (Nat → Int64) × (Nat → Int64) × (Nat) × (Nat) × (Nat → Int32) × (Nat → Int32) × (Nat → Int32) × (Nat → Int64)) => cW G h np nl len1 fd1 lu1 tu T C1 F LT VV BB lt1 ph1 lh1 ks1 wd1 gr1 gs1 bl ie tw ++ (lW G h qt qc1 qf qb ql qa1 qd1 qw1 qh1 qg1 ++ rs)) 8 48) 0 0 (cW G h np nl len fd lu tu T C F LT VV BB lt ph lh ks wd gr gs bl ie tw ++ (lW G h qt qc2 qf qb ql qa qd qw qh (upd qg 2 (nI (lu - 1))) ++ rs)) [(12, .int (nI k)), (0, .ref (h 0)), (1, .int z), (2, .ref (h 21)), (3, .ref (h 22)), (4, .ref (h 23)), (5, .ref (h 24)), (6, .ref (h 25)), (7, .ref (h 26)), (8, .ref (h 27)), (9, .ref (h 28)), (10, .ref (h 29)), (11, .ref (h 30))] [] 40 := by
        intro fuel
        induction fuel with
        | zero => intro k qc2 hk hqc hmz; exact absurd hmz (Nat.not_lt_zero _)
        | succ fuel ih_40 =>
          intro k qc2 hk hqc hmz_40
          refine V_iload cx 42 rfl dL_learns_40 0 rfl ?_
          refine V_iconst (v := nI 5) cx 43 rfl dL_learns_42 (by decide) ?_
          refine V_icmp_ge cx 46 104 rfl dL_learns_43 (by decide) (fun c_43 => ?_) (fun c_43 => ?_)
          · skip
            have n_43 : k ≥ 5 := N_ge_t (by omega) (by omega) c_43
            refine V_aload_n cx 105 rfl dL_learns_104 1 rfl ?_
            refine KL_123 (As := [.ref (h 0)]) (rest := []) cx (kL_forget (xl X) lo G _ h np nl len fd lu tu T C F LT VV BB lt ph lh ks wd gr gs bl ie tw n gv hst (by omega) (fun _ => k6) (fun _ => k7)) hX (by omega) rfl rfl (Nat.le_of_ble_eq_true rfl) 108 1 6 rfl rfl rfl (by omega) (by omega) dL_learns_105 (fun r_106 u_107 hw_108 => ?_)
            rcases u_107 with _ | v_109
            · exfalso
              dsimp only at hw_108
              obtain ⟨E, hw_108, -⟩ := hw_108
              have := hw_108.2; omega
            dsimp only at hw_108
            obtain ⟨hw_108, hv_110⟩ := hw_108
            subst hv_110
            refine V_toi (wd (lu - 1)) (hw_108.2) ?_
            refine V_aload cx 110 rfl dL_learns_108 11 rfl ?_
            refine V_aload cx 112 rfl dL_learns_110 12 rfl ?_
            refine V_iconst (v := nI 2) cx 113 rfl dL_learns_112 (by decide) ?_
            refine V_ialdN cx 2 (rfl) (by omega) (by decide) 30 rfl 114 rfl dL_learns_113 ?_
            refine V_toi (nI (lu - 1)) (upd_s _ _ _) ?_
            refine V_ialdN cx (lu - 1) (rfl) (by omega) (by decide) 29 rfl 115 rfl dL_learns_114 ?_
            refine V_toi (wd (lu - 1)) (k8) ?_
            refine V_icmp_ne cx 118 122 rfl dL_learns_115 (by decide) (fun c_115 => ?_) (fun c_115 => ?_)
            · skip
              exact absurd rfl c_115
            · skip
              refine V_iconst (v := nI 1) cx 119 rfl dL_learns_118 (by decide) ?_
              refine V_goto cx 123 dL_learns_119 (by decide) ?_
              exact V_zreturn cx hr (by first | rfl | exact bI_z _) (lu - 1, tkb C gv n, wd, gr, gs, qc2, qw, qh, upd qg 2 (nI (lu - 1)), qa, qd, len, fd, lt, ph, lh, ks) (⟨rfl, y_, k9 qc2 _ (fun p hp => by rw [← show k = 5 by omega]; exact hqc p hp) ((upd_n _ _ (by decide)).trans hg0) ((upd_n _ _ (by decide)).trans hg1) (upd_s _ _ _)⟩) rfl (by omega) (by omega) dL_learns_123
          · skip
            have n_43 : k < 5 := N_ge_f (by omega) (by omega) c_43
            refine V_aload cx 48 rfl dL_learns_46 10 rfl ?_
            refine V_aload cx 50 rfl dL_learns_48 12 rfl ?_
            refine V_iconst (v := nI 2) cx 51 rfl dL_learns_50 (by decide) ?_
            refine V_ialdN cx 2 (rfl) (by omega) (by decide) 30 rfl 52 rfl dL_learns_51 ?_
            refine V_toi (nI (lu - 1)) (upd_s _ _ _) ?_
            refine V_laldN cx (lu - 1) (rfl) (by omega) (by decide) 28 rfl 53 rfl dL_learns_52 ?_
            refine V_tol (lN (K + B * 1099511627776)) (k1) ?_
            refine V_bipush (v := nI 8) cx 55 rfl dL_learns_53 (by decide) ?_
            refine V_iload cx 57 rfl dL_learns_55 0 rfl ?_
            refine V_imul cx 58 rfl dL_learns_57 ?_
            refine V_toi (nI (8 * k)) (nI_mulN _ _) ?_
            refine V_lshr cx 59 rfl dL_learns_58 ?_
            refine V_tol (lN ((K + B * 1099511627776) / 2 ^ (8 * k))) (l_shr (by omega) (by omega)) ?_
            refine V_ldc2 cx 62 rfl dL_learns_59 cl_L_71 ?_
            refine V_tol (lN 255) (by decide) ?_
            refine V_land cx 63 rfl dL_learns_62 ?_
            refine V_tol (lN ((K + B * 1099511627776) / 2 ^ (8 * k) % 256)) (l_land 8 256 (by decide) (by decide) (Nat.lt_of_le_of_lt (Nat.div_le_self _ _) (by omega))) ?_
            refine V_l2i cx 64 rfl dL_learns_63 ?_
            refine V_toi (nI (K / 256 ^ k % 256)) ((lN_i _).trans (congrArg nI (wk_byte n_43))) ?_
            refine V_istore (lc1 := [(13, .int (nI (K / 256 ^ k % 256))), (12, .int (nI k)), (0, .ref (h 0)), (1, .int z), (2, .ref (h 21)), (3, .ref (h 22)), (4, .ref (h 23)), (5, .ref (h 24)), (6, .ref (h 25)), (7, .ref (h 26)), (8, .ref (h 27)), (9, .ref (h 28)), (10, .ref (h 29)), (11, .ref (h 30))]) cx 66 rfl dL_learns_64 (by decide) rfl ?_
            refine V_aload cx 68 rfl dL_learns_66 11 rfl ?_
            refine V_aload cx 70 rfl dL_learns_68 13 rfl ?_
            refine V_iconst (v := nI 2) cx 71 rfl dL_learns_70 (by decide) ?_
            refine V_ialdN cx 2 (rfl) (by omega) (by decide) 30 rfl 72 rfl dL_learns_71 ?_
            refine V_toi (nI (lu - 1)) (upd_s _ _ _) ?_
            refine V_laldN cx (lu - 1) (rfl) (by omega) (by decide) 28 rfl 73 rfl dL_learns_72 ?_
            refine V_tol (lN (K + B * 1099511627776)) (k1) ?_
            refine V_bipush (v := nI 40) cx 75 rfl dL_learns_73 (by decide) ?_
            refine V_iload cx 77 rfl dL_learns_75 1 rfl ?_
            refine V_iadd cx 78 rfl dL_learns_77 ?_
            refine V_toi (nI (40 + k)) (nI_add _ _) ?_
            refine V_lshr cx 79 rfl dL_learns_78 ?_
            refine V_tol (lN ((K + B * 1099511627776) / 2 ^ (40 + k))) (l_shr (by omega) (by omega)) ?_
            refine V_lconst (v := lN 1) cx 80 rfl dL_learns_79 (by decide) ?_
            refine V_land cx 81 rfl dL_learns_80 ?_
            refine V_tol (lN ((K + B * 1099511627776) / 2 ^ (40 + k) % 2)) (l_land 1 2 (by decide) (by decide) (Nat.lt_of_le_of_lt (Nat.div_le_self _ _) (by omega))) ?_
            refine V_lconst (v := lN 1) cx 82 rfl dL_learns_81 (by decide) ?_
            refine V_lcmp cx 83 rfl dL_learns_82 ?_
            refine V_if_ne cx 86 98 rfl dL_learns_83 (by decide) (fun c_83 => ?_) (fun c_83 => ?_)
            · skip
              have n_83 : B.testBit k = false := by cases h9 : B.testBit k with | false => rfl | true => exact absurd (by rw [(wk_tb (B := B) k2 n_43).mpr h9]; exact lg_cmp_1) c_83
              refine V_iinc (v := nI (k + 1)) (lc1 := [(12, .int (nI (k + 1))), (13, .int (nI (K / 256 ^ k % 256))), (0, .ref (h 0)), (1, .int z), (2, .ref (h 21)), (3, .ref (h 22)), (4, .ref (h 23)), (5, .ref (h 24)), (6, .ref (h 25)), (7, .ref (h 26)), (8, .ref (h 27)), (9, .ref (h 28)), (10, .ref (h 29)), (11, .ref (h 30))]) cx 101 rfl dL_learns_98 1 rfl (nI_inc k 1) (by decide) rfl ?_
              refine V_goto cx 40 dL_learns_101 (by decide) ?_
              refine V.locs [0, 2, 3, 4, 5, 6, 7, 8, 9, 10, 11, 12, 13] rfl ?_
              have kq : ∀ p, p < np → (qc2) p = nI (lC x p - cntW B (byP K) p (k + 1)) := fun p hp => by
                rw [cntW_n (fun h9 => by rw [n_83] at h9; cases h9.1)]; exact hqc p hp
              exact ih_40 (k + 1) qc2 (by omega) (by exact kq) (by omega)
            · skip
              have n_83 : B.testBit k = true := (wk_tb k2 n_43).mp (lN_inj (Nat.lt_trans (Nat.mod_lt _ (by decide)) (by decide)) (by decide) (lg_eq0 c_83))
              obtain ⟨j1, j2⟩ := k4 k n_43 n_83
              have j3 := cntW_t (ps := byP K) n_83
              have j4 := cntW_mono B (byP K) (byP K k) (show k + 1 ≤ 5 by omega)
              have j5 := k5 (byP K k) j2
              refine V_aload_n cx 87 rfl dL_learns_86 5 rfl ?_
              refine V_iload cx 89 rfl dL_learns_87 0 rfl ?_
              refine V_iconst (v := nI 3) cx 90 rfl dL_learns_89 (by decide) ?_
              refine V_ishr cx 91 rfl dL_learns_90 ?_
              refine V_toi (nI (K / 256 ^ k % 256 / 8)) (i_shr (by omega) (by omega)) ?_
              refine V_iconst (v := nI 1) cx 92 rfl dL_learns_91 (by decide) ?_
              refine V_isub cx 93 rfl dL_learns_92 ?_
              refine V_toi (nI ((K / 256 ^ k % 256 / 8) - 1)) (nI_subN (by omega)) ?_
              refine V_toi (nI (byP K k)) (rfl) ?_
              refine V_dup2 cx 94 rfl dL_learns_93 rfl rfl ?_
              refine V_ialdN cx (byP K k) (rfl) (by omega) (by decide) 22 rfl 95 rfl dL_learns_94 ?_
              refine V_toi (nI (lC x (byP K k) - cntW B (byP K) (byP K k) k)) (hqc _ j2) ?_
              refine V_iconst (v := nI 1) cx 96 rfl dL_learns_95 (by decide) ?_
              refine V_isub cx 97 rfl dL_learns_96 ?_
              refine V_toi (nI ((lC x (byP K k) - cntW B (byP K) (byP K k) k) - 1)) (nI_subN (by omega)) ?_
              refine V_iastN cx (byP K k) (rfl) (by omega) (by decide) 22 rfl (cW G h np nl len fd lu tu T C F LT VV BB lt ph lh ks wd gr gs bl ie tw ++ (lW G h qt (upd qc2 (byP K k) (nI ((lC x (byP K k) - cntW B (byP K) (byP K k) k) - 1))) qf qb ql qa qd qw qh (upd qg 2 (nI (lu - 1))) ++ rs)) rfl 98 rfl dL_learns_97 ?_
              refine V_iinc (v := nI (k + 1)) (lc1 := [(12, .int (nI (k + 1))), (13, .int (nI (K / 256 ^ k % 256))), (0, .ref (h 0)), (1, .int z), (2, .ref (h 21)), (3, .ref (h 22)), (4, .ref (h 23)), (5, .ref (h 24)), (6, .ref (h 25)), (7, .ref (h 26)), (8, .ref (h 27)), (9, .ref (h 28)), (10, .ref (h 29)), (11, .ref (h 30))]) cx 101 rfl dL_learns_98 1 rfl (nI_inc k 1) (by decide) rfl ?_
              refine V_goto cx 40 dL_learns_101 (by decide) ?_
              refine V.locs [0, 2, 3, 4, 5, 6, 7, 8, 9, 10, 11, 12, 13] rfl ?_
              have kq : ∀ p, p < np → (upd qc2 (byP K k) (nI ((lC x (byP K k) - cntW B (byP K) (byP K k) k) - 1))) p = nI (lC x p - cntW B (byP K) p (k + 1)) := fun p hp => by
                by_cases g1 : p = byP K k
                · rw [g1, upd_s, cntW_t n_83]; exact congrArg nI (by omega)
                · rw [upd_n _ _ g1, cntW_n (fun h9 => g1 h9.2.symm)]; exact hqc p hp
              exact ih_40 (k + 1) (upd qc2 (byP K k) (nI ((lC x (byP K k) - cntW B (byP K) (byP K k) k) - 1))) (by omega) (by exact kq) (by omega)
      refine V.locs [0, 1, 2, 3, 4, 5, 6, 7, 8, 9, 10, 11, 12] rfl ?_
      exact loop_40 _ 0 qc (by omega) (by exact fun p hp => hq.2.1 p (by omega)) (Nat.lt_succ_self _)
    · skip
      have n_11 : lu = 0 := Z_ne_f (by omega) c_11
      refine V_aload_n cx 15 rfl dL_learns_14 0 rfl ?_
      refine KL_123 (As := [.ref (h 0)]) (rest := []) cx (kL_forget (xl X) lo G _ h np nl len fd lu tu T C F LT VV BB lt ph lh ks wd gr gs bl ie tw 0 (fun _ => 0) hst (by omega) (fun h9 => by omega) (fun h9 => by omega)) hX (by omega) rfl rfl (Nat.le_of_ble_eq_true rfl) 18 1 6 rfl rfl rfl (by omega) (by omega) dL_learns_15 (fun r_111 u_112 hw_113 => ?_)
      rcases u_112 with _ | v_114
      rotate_left
      · exfalso
        dsimp only at hw_113
        obtain ⟨hw_113, -⟩ := hw_113
        have := hw_113.1; omega
      dsimp only at hw_113
      have hv_r_111 : r_111 = (-73) := by
        obtain ⟨E, hw_113, hc⟩ := hw_113
        exact hc.2
      subst hv_r_111
      refine V_bipush (v := (-73)) cx 20 rfl dL_learns_18 (by decide) ?_
      refine V_icmp_ne cx 23 27 rfl dL_learns_20 (by decide) (fun c_20 => ?_) (fun c_20 => ?_)
      · skip
        exact absurd rfl c_20
      · skip
        refine V_iconst (v := nI 1) cx 24 rfl dL_learns_23 (by decide) ?_
        refine V_goto cx 28 dL_learns_24 (by decide) ?_
        exact V_zreturn cx hr (by first | rfl | exact bI_z _) (lu, C, wd, gr, gs, qc, qw, qh, qg, qa, qd, len, fd, lt, ph, lh, ks) (⟨rfl, x, hLI⟩) rfl (by omega) (by omega) dL_learns_28
