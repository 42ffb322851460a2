theorem gath_ck {x : LX} {u : Int32} {w len fd : Nat} {lt ph lh : Nat → Int32} {ks : Nat → Int64} (g : gath x u w len fd lt ph lh ks) : ckP x (cEn x (dgt w len) len) ks fd ∧ fd ≤ 513 := by
  obtain ⟨g1, g2, g3, g4, g5, g6, g7, g8⟩ := g
  have h1 := CS_ckP g8
  have h2 := ecOK_of x (dgt w len) len g4 (fun k => dgt_lt w len k)
  rw [← g7] at h1 h2
  exact ⟨h1, h2⟩
/-- what a split that was asked for is -/
def cAsk (x : LX) (u k : Int32) (o : Option SP) (ph lh : Nat → Int32) : Prop := ∃ w, u = nI w ∧ w < 200000000 ∧ 0 < SZ u 8 ∧ ¬ k < 0 ∧ selR x (mEn x (dgt w (SZ u 8)) (SZ u 8)) k o ∧ (∀ b, b < SZ u 8 → phOK x (SZ u 8) (dgt w (SZ u 8)) ph lh b)
theorem ckl_cos {x : LX} {L : Nat} {d : Nat → Nat} {l : SP} (hL : L ≤ 8) (h : valS x L d l 0 none) : ckl x l / 17592186044416 = costL x l ∧ ckl x l / 1099511627776 % 16 = l.length ∧ ckl x l < 9223372036854775808 := by
  have h1 := (mkey_div (fun k => ko (lC x (spP l k))) (spO l) l.length (fun k hk => (valS_bd l 0 none h k hk).1)).1
  have h2 := valS_len l 0 none h
  have h3 := ckl_cost (x := x) (l := l) (by omega) (fun k hk => (valS_bd l 0 none h k hk).1)
  have h4 := ckl_lt (x := x) (l := l) (by omega) (fun k hk => (valS_bd l 0 none h k hk).1)
  refine ⟨?_, h3.2, h4⟩
  rw [h3.1]
  unfold costL mkl
  rw [h1]
  show kS (fun k => ko (lC x (spP l k))) (spO l) l.length - 15 = _
  omega
theorem nI_lk (a b : Nat) : nI a + (nI b - nI 1) + nI 1 = nI (a + b) := by
  rw [← nI_add, Int32.add_assoc, Int32.sub_add_cancel]
set_option maxHeartbeats 4000000 in
set_option maxRecDepth 100000 in
theorem kX4_splitOf (l : Launch) (lo : Nat) (G : vG) (rs : va_W) (h : Nat → Nat) (np : Nat) (nl : Nat) (len : Nat) (fd : Nat) (lu : Nat) (tu : Nat) (T : Nat → Int32) (C : Nat → Int32) (F : Nat → Int32) (LT : Nat → Int32) (VV : Nat → Int32) (BB : Nat → Int32) (lt : Nat → Int32) (ph : Nat → Int32) (lh : Nat → Int32) (ks : Nat → Int64) (wd : Nat → Int32) (gr : Nat → Int32) (gs : Nat → Int32) (bl : Nat → Int32) (ie : Nat → Int32) (tw : Nat → Int32) (u : Int32) (k : Int32) (x : LX) (hst : l.stackTraces = false) (hok : lxOK x) (hck : cOK x np nl T C F LT VV BB) : Xl l yX4_splitOf (.code yX4_splitOf prog_1_method_23_code 3 (some .long)) 22 2 12 lo G [.ref (h 0), .int u, .int k] (cW G h np nl len fd lu tu T C F LT VV BB lt ph lh ks wd gr gs bl ie tw ++ rs) (fun E => E = EIAE ∧ (SZ u 8 = 0 ∨ k < 0)) (fun (r : Int64) ((fd1, lt1, ph1, lh1, ks1) : (Nat) × (Nat → Int32) × (Nat → Int32) × (Nat → Int32) × (Nat → Int64)) => ∃ o, cAsk x u k o ph1 lh1 ∧ r = cselV x o) (fun ((fd1, lt1, ph1, lh1, ks1) : (Nat) × (Nat → Int32) × (Nat → Int32) × (Nat → Int32) × (Nat → Int64)) => cW G h np nl (SZ u 8) fd1 lu tu T C F LT VV BB lt1 ph1 lh1 ks1 wd gr gs bl ie tw ++ rs) := by
  refine Xl_of (lc := [(0, .ref (h 0)), (1, .int u), (2, .int k)]) (by decide +kernel) (Nat.le_of_ble_eq_true rfl) rfl ?_
  intro X cx hXR hXl hr hout
  subst hXl
  have hX := RmX.of hXR
  refine V_iload_n cx 1 rfl dX4_splitOf_0 1 rfl ?_
  refine V_bipush (v := nI 8) cx 3 rfl dX4_splitOf_1 (by decide) ?_
  refine KXX4_32 (As := [.int u, .int (nI 8)]) (rest := []) cx (kX4_needText (xl X) lo G _ u 8 hst (by omega)) hX (by omega) rfl rfl (Nat.le_of_ble_eq_true rfl) 6 1 6 rfl rfl rfl (by omega) (by omega) dX4_splitOf_3 (vx_leave cx hout (fun E h => ⟨h.1, Or.inl (by have := SZ_le u 8; omega)⟩) (by omega) (by omega)) (fun u_2 hw_3 => ?_)
  try dsimp only at hw_3
  have hsz := hw_3
  refine V_iload_n cx 7 rfl dX4_splitOf_6 2 rfl ?_
  refine V_if_ge cx 10 20 rfl dX4_splitOf_7 (by decide) (fun c_7 => ?_) (fun c_7 => ?_)
  · skip
    refine V_aload_n cx 21 rfl dX4_splitOf_20 0 rfl ?_
    refine GX4_21 cx 0 rfl rfl 24 rfl dX4_splitOf_21 ?_
    refine V_iload_n cx 25 rfl dX4_splitOf_24 1 rfl ?_
    refine KX4_115 (As := [.int u]) (rest := []) cx (kX2_gather (xl X) lo G _ h np nl len fd lu tu T C F LT VV BB lt ph lh ks wd gr gs bl ie tw u x hok hck (ecOK_of x) (by omega)) hX (by omega) 2 rfl rfl rfl (Nat.le_of_ble_eq_true rfl) 28 1 6 rfl rfl rfl (by omega) (by omega) dX4_splitOf_25 (fun u_5 hw_6 => ?_)
    obtain ⟨fd1_7, lt1_8, ph1_9, lh1_10, ks1_11⟩ := u_5
    try dsimp only at hw_6
    obtain ⟨w, hg⟩ := hw_6
    obtain ⟨hck1, hfd5⟩ := gath_ck hg
    obtain ⟨g1, g2, g3, g4, g5, g6, g7, g8⟩ := hg
    refine V_aload_n cx 29 rfl dX4_splitOf_28 0 rfl ?_
    refine GX4_21 cx 0 rfl rfl 32 rfl dX4_splitOf_29 ?_
    refine V_iload_n cx 33 rfl dX4_splitOf_32 2 rfl ?_
    refine KX4_155 (As := [.int k]) (rest := []) cx (kX2_keyAt (xl X) lo G _ h np nl (SZ u 8) fd1_7 lu tu T C F LT VV BB lt1_8 ph1_9 lh1_10 ks1_11 wd gr gs bl ie tw k (by omega)) hX (by omega) 2 rfl rfl rfl (Nat.le_of_ble_eq_true rfl) 36 1 6 rfl rfl rfl (by omega) (by omega) dX4_splitOf_33 (fun r_12 u_13 hw_14 => ?_)
    obtain ⟨ks1_15, rfl⟩ : ∃ z, z = u_13 := ⟨_, rfl⟩
    try dsimp only at hw_14
    exact V_lreturnX cx hr (fd1_7, lt1_8, ph1_9, lh1_10, ks1_15) (by obtain ⟨⟨o, k1, k2⟩, k3⟩ := key_sel hok g4 (fun k => dgt_lt w _ k) hck1 hw_14; exact ⟨o, ⟨w, g1, g2, by omega, Int32.not_lt.mpr c_7, k1, g6⟩, k2⟩) rfl (by omega) (by omega) dX4_splitOf_36
  · skip
    exact V_throwS (text := "k is below 0") cx hst kl_X4_36 ini_IAE (by decide +kernel) (by decide +kernel) hat2_IAE hatN_IAE hgd_IAE hout hX (by decide) (by omega) (by omega) (⟨rfl, Or.inr (Int32.not_le.mp c_7)⟩) rfl dX4_splitOf_10 dX4_splitOf_13 dX4_splitOf_14 dX4_splitOf_16 dX4_splitOf_19
set_option maxHeartbeats 4000000 in
set_option maxRecDepth 100000 in
theorem kX4_cost (l : Launch) (lo : Nat) (G : vG) (rs : va_W) (h : Nat → Nat) (np : Nat) (nl : Nat) (len : Nat) (fd : Nat) (lu : Nat) (tu : Nat) (T : Nat → Int32) (C : Nat → Int32) (F : Nat → Int32) (LT : Nat → Int32) (VV : Nat → Int32) (BB : Nat → Int32) (lt : Nat → Int32) (ph : Nat → Int32) (lh : Nat → Int32) (ks : Nat → Int64) (wd : Nat → Int32) (gr : Nat → Int32) (gs : Nat → Int32) (bl : Nat → Int32) (ie : Nat → Int32) (tw : Nat → Int32) (u : Int32) (k : Int32) (x : LX) (hst : l.stackTraces = false) (hok : lxOK x) (hck : cOK x np nl T C F LT VV BB) : Xi l yX4_cost (.code yX4_cost prog_1_method_13_code 5 (some .int)) 23 2 12 lo G [.ref (h 0), .int u, .int k] (cW G h np nl len fd lu tu T C F LT VV BB lt ph lh ks wd gr gs bl ie tw ++ rs) (fun E => E = EIAE ∧ (SZ u 8 = 0 ∨ k < 0)) (fun (r : Int32) ((fd1, lt1, ph1, lh1, ks1) : (Nat) × (Nat → Int32) × (Nat → Int32) × (Nat → Int32) × (Nat → Int64)) => askK x u k 0 (fun o => r = cosV x o)) (fun ((fd1, lt1, ph1, lh1, ks1) : (Nat) × (Nat → Int32) × (Nat → Int32) × (Nat → Int32) × (Nat → Int64)) => cW G h np nl (SZ u 8) fd1 lu tu T C F LT VV BB lt1 ph1 lh1 ks1 wd gr gs bl ie tw ++ rs) := by
  refine Xi_of (lc := [(0, .ref (h 0)), (1, .int u), (2, .int k)]) (by decide +kernel) (Nat.le_of_ble_eq_true rfl) rfl ?_
  intro X cx hXR hXl hr hout
  subst hXl
  have hX := RmX.of hXR
  refine V_aload_n cx 1 rfl dX4_cost_0 0 rfl ?_
  refine V_iload_n cx 2 rfl dX4_cost_1 1 rfl ?_
  refine V_iload_n cx 3 rfl dX4_cost_2 2 rfl ?_
  refine KXX4_121 (As := [.int u, .int k]) (rest := []) cx (kX4_splitOf (xl X) lo G _ h np nl len fd lu tu T C F LT VV BB lt ph lh ks wd gr gs bl ie tw u k x hst hok hck) hX (by omega) 0 rfl rfl rfl (Nat.le_of_ble_eq_true rfl) 6 2 12 rfl rfl rfl (by omega) (by omega) dX4_cost_3 (vx_leave cx hout (fun E h => h) (by omega) (by omega)) (fun r_1 u_2 hw_3 => ?_)
  obtain ⟨fd1_4, lt1_5, ph1_6, lh1_7, ks1_8⟩ := u_2
  try dsimp only at hw_3
  obtain ⟨o, hask, hr0⟩ := hw_3
  have hL8 := SZ_le u 8
  subst hr0
  obtain ⟨w, a1, a2, a3, a4, hsel, hph⟩ := id hask
  cases o with
  | none =>
    refine V_tol (-1) (rfl) ?_
    refine V_lstore_n (lc1 := [(3, .long (-1)), (0, .ref (h 0)), (1, .int u), (2, .int k)]) cx 7 rfl dX4_cost_6 (by decide) rfl ?_
    refine V_lload_n cx 8 rfl dX4_cost_7 0 rfl ?_
    refine V_ldc2 cx 11 rfl dX4_cost_8 cl_X4_125 ?_
    refine V_lcmp cx 12 rfl dX4_cost_11 ?_
    refine V_if_ne cx 15 19 rfl dX4_cost_12 (by decide) (fun c_12 => ?_) (fun c_12 => ?_)
    · skip
      exact absurd (by decide) c_12
    · skip
      refine V_iconst (v := (-1)) cx 16 rfl dX4_cost_15 (by decide) ?_
      refine V_goto cx 23 dX4_cost_16 (by decide) ?_
      exact V_ireturnX cx hr (fd1_4, lt1_5, ph1_6, lh1_7, ks1_8) (Or.inr ⟨w, none, a1, a2, a3, a4, rfl, hsel, rfl⟩) rfl (by omega) (by omega) dX4_cost_23
  | some sl =>
    have hvs := (mem_mEn hL8).mp hsel.1
    obtain ⟨hcs, hcz, hKb⟩ := ckl_cos hL8 hvs
    have hbd := valS_bd sl 0 none hvs
    have hln := valS_len sl 0 none hvs
    refine V_tol (lN (ckl x sl)) (rfl) ?_
    refine V_lstore_n (lc1 := [(3, .long (lN (ckl x sl))), (0, .ref (h 0)), (1, .int u), (2, .int k)]) cx 7 rfl dX4_cost_6 (by decide) rfl ?_
    refine V_lload_n cx 8 rfl dX4_cost_7 0 rfl ?_
    refine V_ldc2 cx 11 rfl dX4_cost_8 cl_X4_125 ?_
    refine V_lcmp cx 12 rfl dX4_cost_11 ?_
    refine V_if_ne cx 15 19 rfl dX4_cost_12 (by decide) (fun c_12 => ?_) (fun c_12 => ?_)
    · skip
      refine V_lload_n cx 20 rfl dX4_cost_19 0 rfl ?_
      refine KX4_127 (As := [.long (lN (ckl x sl))]) (rest := []) cx (kX2_costIn (xl X) lo G _ (ckl x sl) hKb) hX (by omega) rfl rfl (Nat.le_of_ble_eq_true rfl) 23 2 12 rfl rfl rfl (by omega) (by omega) dX4_cost_20 (fun r_9 u_10 hw_11 => ?_)
      try dsimp only at hw_11
      subst hw_11
      refine V_toi (nI (costL x sl)) (by rw [hcs]) ?_
      exact V_ireturnX cx hr (fd1_4, lt1_5, ph1_6, lh1_7, ks1_8) (Or.inr ⟨w, (some sl), a1, a2, a3, a4, rfl, hsel, rfl⟩) rfl (by omega) (by omega) dX4_cost_23
    · skip
      exact absurd (lg_eq0 c_12) (lN_nem1 hKb)
set_option maxHeartbeats 4000000 in
set_option maxRecDepth 100000 in
theorem kX4_size (l : Launch) (lo : Nat) (G : vG) (rs : va_W) (h : Nat → Nat) (np : Nat) (nl : Nat) (len : Nat) (fd : Nat) (lu : Nat) (tu : Nat) (T : Nat → Int32) (C : Nat → Int32) (F : Nat → Int32) (LT : Nat → Int32) (VV : Nat → Int32) (BB : Nat → Int32) (lt : Nat → Int32) (ph : Nat → Int32) (lh : Nat → Int32) (ks : Nat → Int64) (wd : Nat → Int32) (gr : Nat → Int32) (gs : Nat → Int32) (bl : Nat → Int32) (ie : Nat → Int32) (tw : Nat → Int32) (u : Int32) (k : Int32) (x : LX) (hst : l.stackTraces = false) (hok : lxOK x) (hck : cOK x np nl T C F LT VV BB) : Xi l yX4_size (.code yX4_size prog_1_method_14_code 5 (some .int)) 23 2 12 lo G [.ref (h 0), .int u, .int k] (cW G h np nl len fd lu tu T C F LT VV BB lt ph lh ks wd gr gs bl ie tw ++ rs) (fun E => E = EIAE ∧ (SZ u 8 = 0 ∨ k < 0)) (fun (r : Int32) ((fd1, lt1, ph1, lh1, ks1) : (Nat) × (Nat → Int32) × (Nat → Int32) × (Nat → Int32) × (Nat → Int64)) => askK x u k 0 (fun o => r = sizV o)) (fun ((fd1, lt1, ph1, lh1, ks1) : (Nat) × (Nat → Int32) × (Nat → Int32) × (Nat → Int32) × (Nat → Int64)) => cW G h np nl (SZ u 8) fd1 lu tu T C F LT VV BB lt1 ph1 lh1 ks1 wd gr gs bl ie tw ++ rs) := by
  refine Xi_of (lc := [(0, .ref (h 0)), (1, .int u), (2, .int k)]) (by decide +kernel) (Nat.le_of_ble_eq_true rfl) rfl ?_
  intro X cx hXR hXl hr hout
  subst hXl
  have hX := RmX.of hXR
  refine V_aload_n cx 1 rfl dX4_size_0 0 rfl ?_
  refine V_iload_n cx 2 rfl dX4_size_1 1 rfl ?_
  refine V_iload_n cx 3 rfl dX4_size_2 2 rfl ?_
  refine KXX4_121 (As := [.int u, .int k]) (rest := []) cx (kX4_splitOf (xl X) lo G _ h np nl len fd lu tu T C F LT VV BB lt ph lh ks wd gr gs bl ie tw u k x hst hok hck) hX (by omega) 0 rfl rfl rfl (Nat.le_of_ble_eq_true rfl) 6 2 12 rfl rfl rfl (by omega) (by omega) dX4_size_3 (vx_leave cx hout (fun E h => h) (by omega) (by omega)) (fun r_1 u_2 hw_3 => ?_)
  obtain ⟨fd1_4, lt1_5, ph1_6, lh1_7, ks1_8⟩ := u_2
  try dsimp only at hw_3
  obtain ⟨o, hask, hr0⟩ := hw_3
  have hL8 := SZ_le u 8
  subst hr0
  obtain ⟨w, a1, a2, a3, a4, hsel, hph⟩ := id hask
  cases o with
  | none =>
    refine V_tol (-1) (rfl) ?_
    refine V_lstore_n (lc1 := [(3, .long (-1)), (0, .ref (h 0)), (1, .int u), (2, .int k)]) cx 7 rfl dX4_size_6 (by decide) rfl ?_
    refine V_lload_n cx 8 rfl dX4_size_7 0 rfl ?_
    refine V_ldc2 cx 11 rfl dX4_size_8 cl_X4_125 ?_
    refine V_lcmp cx 12 rfl dX4_size_11 ?_
    refine V_if_ne cx 15 19 rfl dX4_size_12 (by decide) (fun c_12 => ?_) (fun c_12 => ?_)
    · skip
      exact absurd (by decide) c_12
    · skip
      refine V_iconst (v := (-1)) cx 16 rfl dX4_size_15 (by decide) ?_
      refine V_goto cx 23 dX4_size_16 (by decide) ?_
      exact V_ireturnX cx hr (fd1_4, lt1_5, ph1_6, lh1_7, ks1_8) (Or.inr ⟨w, none, a1, a2, a3, a4, rfl, hsel, rfl⟩) rfl (by omega) (by omega) dX4_size_23
  | some sl =>
    have hvs := (mem_mEn hL8).mp hsel.1
    obtain ⟨hcs, hcz, hKb⟩ := ckl_cos hL8 hvs
    have hbd := valS_bd sl 0 none hvs
    have hln := valS_len sl 0 none hvs
    refine V_tol (lN (ckl x sl)) (rfl) ?_
    refine V_lstore_n (lc1 := [(3, .long (lN (ckl x sl))), (0, .ref (h 0)), (1, .int u), (2, .int k)]) cx 7 rfl dX4_size_6 (by decide) rfl ?_
    refine V_lload_n cx 8 rfl dX4_size_7 0 rfl ?_
    refine V_ldc2 cx 11 rfl dX4_size_8 cl_X4_125 ?_
    refine V_lcmp cx 12 rfl dX4_size_11 ?_
    refine V_if_ne cx 15 19 rfl dX4_size_12 (by decide) (fun c_12 => ?_) (fun c_12 => ?_)
    · skip
      refine V_lload_n cx 20 rfl dX4_size_19 0 rfl ?_
      refine KX4_131 (As := [.long (lN (ckl x sl))]) (rest := []) cx (kX2_placesIn (xl X) lo G _ (ckl x sl) hKb) hX (by omega) rfl rfl (Nat.le_of_ble_eq_true rfl) 23 2 12 rfl rfl rfl (by omega) (by omega) dX4_size_20 (fun r_9 u_10 hw_11 => ?_)
      try dsimp only at hw_11
      subst hw_11
      refine V_toi (nI sl.length) (by rw [hcz]) ?_
      exact V_ireturnX cx hr (fd1_4, lt1_5, ph1_6, lh1_7, ks1_8) (Or.inr ⟨w, (some sl), a1, a2, a3, a4, rfl, hsel, rfl⟩) rfl (by omega) (by omega) dX4_size_23
    · skip
      exact absurd (lg_eq0 c_12) (lN_nem1 hKb)
set_option maxHeartbeats 4000000 in
set_option maxRecDepth 100000 in
theorem kX4_partAt (l : Launch) (lo : Nat) (G : vG) (rs : va_W) (h : Nat → Nat) (np : Nat) (nl : Nat) (len : Nat) (fd : Nat) (lu : Nat) (tu : Nat) (T : Nat → Int32) (C : Nat → Int32) (F : Nat → Int32) (LT : Nat → Int32) (VV : Nat → Int32) (BB : Nat → Int32) (lt : Nat → Int32) (ph : Nat → Int32) (lh : Nat → Int32) (ks : Nat → Int64) (wd : Nat → Int32) (gr : Nat → Int32) (gs : Nat → Int32) (bl : Nat → Int32) (ie : Nat → Int32) (tw : Nat → Int32) (u : Int32) (k : Int32) (j : Int32) (x : LX) (hst : l.stackTraces = false) (hok : lxOK x) (hck : cOK x np nl T C F LT VV BB) : Xi l yX4_partAt (.code yX4_partAt prog_1_method_15_code 6 (some .int)) 23 2 12 lo G [.ref (h 0), .int u, .int k, .int j] (cW G h np nl len fd lu tu T C F LT VV BB lt ph lh ks wd gr gs bl ie tw ++ rs) (fun E => E = EIAE ∧ (j < 0 ∨ (SZ u 8 = 0 ∨ k < 0))) (fun (r : Int32) ((fd1, lt1, ph1, lh1, ks1) : (Nat) × (Nat → Int32) × (Nat → Int32) × (Nat → Int32) × (Nat → Int64)) => ¬ j < 0 ∧ askK x u k 0 (patP j r)) (fun ((fd1, lt1, ph1, lh1, ks1) : (Nat) × (Nat → Int32) × (Nat → Int32) × (Nat → Int32) × (Nat → Int64)) => cW G h np nl (SZ u 8) fd1 lu tu T C F LT VV BB lt1 ph1 lh1 ks1 wd gr gs bl ie tw ++ rs) := by
  refine Xi_of (lc := [(0, .ref (h 0)), (1, .int u), (2, .int k), (3, .int j)]) (by decide +kernel) (Nat.le_of_ble_eq_true rfl) rfl ?_
  intro X cx hXR hXl hr hout
  subst hXl
  have hX := RmX.of hXR
  refine V_iload_n cx 1 rfl dX4_partAt_0 3 rfl ?_
  refine V_if_ge cx 4 14 rfl dX4_partAt_1 (by decide) (fun c_1 => ?_) (fun c_1 => ?_)
  · skip
    have hj0 := Int32.not_lt.mpr c_1
    obtain ⟨jn, hjn, ej⟩ := nI_of hj0
    subst ej
    refine V_aload_n cx 15 rfl dX4_partAt_14 0 rfl ?_
    refine V_iload_n cx 16 rfl dX4_partAt_15 1 rfl ?_
    refine V_iload_n cx 17 rfl dX4_partAt_16 2 rfl ?_
    refine KXX4_121 (As := [.int u, .int k]) (rest := []) cx (kX4_splitOf (xl X) lo G _ h np nl len fd lu tu T C F LT VV BB lt ph lh ks wd gr gs bl ie tw u k x hst hok hck) hX (by omega) 0 rfl rfl rfl (Nat.le_of_ble_eq_true rfl) 20 2 12 rfl rfl rfl (by omega) (by omega) dX4_partAt_17 (vx_leave cx hout (fun E h => ⟨h.1, Or.inr h.2⟩) (by omega) (by omega)) (fun r_1 u_2 hw_3 => ?_)
    obtain ⟨fd1_4, lt1_5, ph1_6, lh1_7, ks1_8⟩ := u_2
    try dsimp only at hw_3
    obtain ⟨o, hask, hr0⟩ := hw_3
    have hL8 := SZ_le u 8
    subst hr0
    obtain ⟨w, a1, a2, a3, a4, hsel, hph⟩ := id hask
    cases o with
    | none =>
      refine V_tol (-1) (rfl) ?_
      refine V_lstore (lc1 := [(4, .long (-1)), (0, .ref (h 0)), (1, .int u), (2, .int k), (3, .int (nI jn))]) cx 22 rfl dX4_partAt_20 (by decide) rfl ?_
      refine V_lload cx 24 rfl dX4_partAt_22 0 rfl ?_
      refine V_ldc2 cx 27 rfl dX4_partAt_24 cl_X4_125 ?_
      refine V_lcmp cx 28 rfl dX4_partAt_27 ?_
      refine V_if_eq cx 31 40 rfl dX4_partAt_28 (by decide) (fun c_28 => ?_) (fun c_28 => ?_)
      · skip
        refine V_iconst (v := (-1)) cx 41 rfl dX4_partAt_40 (by decide) ?_
        exact V_ireturnX cx hr (fd1_4, lt1_5, ph1_6, lh1_7, ks1_8) (⟨hj0, Or.inr ⟨w, none, a1, a2, a3, a4, rfl, hsel, rfl⟩⟩) rfl (by omega) (by omega) dX4_partAt_41
      · skip
        exact absurd (by decide) c_28
    | some sl =>
      have hvs := (mem_mEn hL8).mp hsel.1
      obtain ⟨hcs, hcz, hKb⟩ := ckl_cos hL8 hvs
      have hbd := valS_bd sl 0 none hvs
      have hln := valS_len sl 0 none hvs
      refine V_tol (lN (ckl x sl)) (rfl) ?_
      refine V_lstore (lc1 := [(4, .long (lN (ckl x sl))), (0, .ref (h 0)), (1, .int u), (2, .int k), (3, .int (nI jn))]) cx 22 rfl dX4_partAt_20 (by decide) rfl ?_
      refine V_lload cx 24 rfl dX4_partAt_22 0 rfl ?_
      refine V_ldc2 cx 27 rfl dX4_partAt_24 cl_X4_125 ?_
      refine V_lcmp cx 28 rfl dX4_partAt_27 ?_
      refine V_if_eq cx 31 40 rfl dX4_partAt_28 (by decide) (fun c_28 => ?_) (fun c_28 => ?_)
      · skip
        exact absurd (lg_eq0 c_28) (lN_nem1 hKb)
      · skip
        refine V_iload_n cx 32 rfl dX4_partAt_31 4 rfl ?_
        refine V_lload cx 34 rfl dX4_partAt_32 0 rfl ?_
        refine KX4_131 (As := [.long (lN (ckl x sl))]) (rest := [.int (nI jn)]) cx (kX2_placesIn (xl X) lo G _ (ckl x sl) hKb) hX (by omega) rfl rfl (Nat.le_of_ble_eq_true rfl) 37 2 12 rfl rfl rfl (by omega) (by omega) dX4_partAt_34 (fun r_9 u_10 hw_11 => ?_)
        try dsimp only at hw_11
        subst hw_11
        refine V_toi (nI sl.length) (by rw [hcz]) ?_
        refine V_icmp_lt cx 40 42 rfl dX4_partAt_37 (by decide) (fun c_37 => ?_) (fun c_37 => ?_)
        · skip
          have n_37 : jn < sl.length := N_lt_t (by omega) (by omega) c_37
          refine V_bipush (v := nI 10) cx 44 rfl dX4_partAt_42 (by decide) ?_
          refine V_aload_n cx 45 rfl dX4_partAt_44 1 rfl ?_
          refine GX4_21 cx 0 rfl rfl 48 rfl dX4_partAt_45 ?_
          refine V_lload cx 50 rfl dX4_partAt_48 0 rfl ?_
          refine V_iload_n cx 51 rfl dX4_partAt_50 4 rfl ?_
          refine KX4_136 (As := [.long (lN (ckl x sl)), .int (nI jn)]) (rest := [.int (nI 10)]) cx (kX2_partIn (xl X) lo G _ h np nl (SZ u 8) fd1_4 lu tu T C F LT VV BB lt1_5 ph1_6 lh1_7 ks1_8 wd gr gs bl ie tw (ckl x sl) jn x (dgt w (SZ u 8)) x sl hok hck hL8 hph (fun k => dgt_lt w _ k) rfl hvs (by omega)) hX (by omega) 2 rfl rfl rfl (Nat.le_of_ble_eq_true rfl) 54 2 12 rfl rfl rfl (by omega) (by omega) dX4_partAt_51 (fun r_12 u_13 hw_14 => ?_)
          try dsimp only at hw_14
          subst hw_14
          refine V_imul cx 55 rfl dX4_partAt_54 ?_
          refine V_toi (nI (10 * (spP sl jn))) (nI_mulN _ _) ?_
          refine V_lload cx 57 rfl dX4_partAt_55 0 rfl ?_
          refine V_iload_n cx 58 rfl dX4_partAt_57 4 rfl ?_
          refine KX4_140 (As := [.long (lN (ckl x sl)), .int (nI jn)]) (rest := [.int (nI (10 * (spP sl jn)))]) cx (kX2_linkIn (xl X) lo G _ (ckl x sl) jn hKb (by omega)) hX (by omega) rfl rfl (Nat.le_of_ble_eq_true rfl) 61 2 12 rfl rfl rfl (by omega) (by omega) dX4_partAt_58 (fun r_15 u_16 hw_17 => ?_)
          try dsimp only at hw_17
          subst hw_17
          refine V_toi (nI (spO sl jn % 7) - nI 1) (by rw [ckl_link (by omega) (fun k hk => (hbd k hk).1) n_37]) ?_
          refine V_iadd cx 62 rfl dX4_partAt_61 ?_
          refine V_toi (nI (10 * spP sl jn) + (nI (spO sl jn % 7) - nI 1)) (rfl) ?_
          refine V_iconst (v := nI 1) cx 63 rfl dX4_partAt_62 (by decide) ?_
          refine V_iadd cx 64 rfl dX4_partAt_63 ?_
          refine V_toi (nI (10 * spP sl jn + spO sl jn % 7)) (nI_lk _ _) ?_
          exact V_ireturnX cx hr (fd1_4, lt1_5, ph1_6, lh1_7, ks1_8) (⟨hj0, Or.inr ⟨w, some sl, a1, a2, a3, a4, rfl, hsel, Or.inr ⟨jn, n_37, rfl, rfl⟩⟩⟩) rfl (by omega) (by omega) dX4_partAt_64
        · skip
          have n_37 : jn ≥ sl.length := N_lt_f (by omega) (by omega) c_37
          refine V_iconst (v := (-1)) cx 41 rfl dX4_partAt_40 (by decide) ?_
          exact V_ireturnX cx hr (fd1_4, lt1_5, ph1_6, lh1_7, ks1_8) (⟨hj0, Or.inr ⟨w, some sl, a1, a2, a3, a4, rfl, hsel, Or.inl ⟨nI_le n_37 (by omega), rfl⟩⟩⟩) rfl (by omega) (by omega) dX4_partAt_41
  · skip
    exact V_throwS (text := "place is below 0") cx hst kl_X4_36 ini_IAE (by decide +kernel) (by decide +kernel) hat2_IAE hatN_IAE hgd_IAE hout hX (by decide) (by omega) (by omega) (⟨rfl, Or.inl (Int32.not_le.mp c_1)⟩) rfl dX4_partAt_4 dX4_partAt_7 dX4_partAt_8 dX4_partAt_10 dX4_partAt_13
set_option maxHeartbeats 4000000 in
set_option maxRecDepth 100000 in
theorem kX4_head (l : Launch) (lo : Nat) (G : vG) (rs : va_W) (h : Nat → Nat) (np : Nat) (nl : Nat) (len : Nat) (fd : Nat) (lu : Nat) (tu : Nat) (T : Nat → Int32) (C : Nat → Int32) (F : Nat → Int32) (LT : Nat → Int32) (VV : Nat → Int32) (BB : Nat → Int32) (lt : Nat → Int32) (ph : Nat → Int32) (lh : Nat → Int32) (ks : Nat → Int64) (wd : Nat → Int32) (gr : Nat → Int32) (gs : Nat → Int32) (bl : Nat → Int32) (ie : Nat → Int32) (tw : Nat → Int32) (u : Int32) (x : LX) (hst : l.stackTraces = false) (hok : lxOK x) (hck : cOK x np nl T C F LT VV BB) : Xi l yX4_head (.code yX4_head prog_1_method_16_code 4 (some .int)) 23 2 12 lo G [.ref (h 0), .int u] (cW G h np nl len fd lu tu T C F LT VV BB lt ph lh ks wd gr gs bl ie tw ++ rs) (fun E => E = EIAE ∧ SZ u 8 = 0) (fun (r : Int32) ((fd1, lt1, ph1, lh1, ks1) : (Nat) × (Nat → Int32) × (Nat → Int32) × (Nat → Int32) × (Nat → Int64)) => askK x u (nI 0) 0 (fun o => r = hedV o)) (fun ((fd1, lt1, ph1, lh1, ks1) : (Nat) × (Nat → Int32) × (Nat → Int32) × (Nat → Int32) × (Nat → Int64)) => cW G h np nl (SZ u 8) fd1 lu tu T C F LT VV BB lt1 ph1 lh1 ks1 wd gr gs bl ie tw ++ rs) := by
  refine Xi_of (lc := [(0, .ref (h 0)), (1, .int u)]) (by decide +kernel) (Nat.le_of_ble_eq_true rfl) rfl ?_
  intro X cx hXR hXl hr hout
  subst hXl
  have hX := RmX.of hXR
  refine V_aload_n cx 1 rfl dX4_head_0 0 rfl ?_
  refine V_iload_n cx 2 rfl dX4_head_1 1 rfl ?_
  refine V_iconst (v := nI 0) cx 3 rfl dX4_head_2 (by decide) ?_
  refine KXX4_121 (As := [.int u, .int (nI 0)]) (rest := []) cx (kX4_splitOf (xl X) lo G _ h np nl len fd lu tu T C F LT VV BB lt ph lh ks wd gr gs bl ie tw u (nI 0) x hst hok hck) hX (by omega) 0 rfl rfl rfl (Nat.le_of_ble_eq_true rfl) 6 2 12 rfl rfl rfl (by omega) (by omega) dX4_head_3 (vx_leave cx hout (fun E h => ⟨h.1, by rcases h.2 with g | g; exact g; exact absurd g (by decide)⟩) (by omega) (by omega)) (fun r_1 u_2 hw_3 => ?_)
  obtain ⟨fd1_4, lt1_5, ph1_6, lh1_7, ks1_8⟩ := u_2
  try dsimp only at hw_3
  obtain ⟨o, hask, hr0⟩ := hw_3
  have hL8 := SZ_le u 8
  subst hr0
  obtain ⟨w, a1, a2, a3, a4, hsel, hph⟩ := id hask
  cases o with
  | none =>
    refine V_tol (-1) (rfl) ?_
    refine V_lstore_n (lc1 := [(2, .long (-1)), (0, .ref (h 0)), (1, .int u)]) cx 7 rfl dX4_head_6 (by decide) rfl ?_
    refine V_lload_n cx 8 rfl dX4_head_7 0 rfl ?_
    refine V_ldc2 cx 11 rfl dX4_head_8 cl_X4_125 ?_
    refine V_lcmp cx 12 rfl dX4_head_11 ?_
    refine V_if_ne cx 15 19 rfl dX4_head_12 (by decide) (fun c_12 => ?_) (fun c_12 => ?_)
    · skip
      exact absurd (by decide) c_12
    · skip
      refine V_iconst (v := (-1)) cx 16 rfl dX4_head_15 (by decide) ?_
      refine V_goto cx 33 dX4_head_16 (by decide) ?_
      exact V_ireturnX cx hr (fd1_4, lt1_5, ph1_6, lh1_7, ks1_8) (Or.inr ⟨w, none, a1, a2, a3, a4, rfl, hsel, rfl⟩) rfl (by omega) (by omega) dX4_head_33
  | some sl =>
    have hvs := (mem_mEn hL8).mp hsel.1
    obtain ⟨hcs, hcz, hKb⟩ := ckl_cos hL8 hvs
    have hbd := valS_bd sl 0 none hvs
    have hln := valS_len sl 0 none hvs
    refine V_tol (lN (ckl x sl)) (rfl) ?_
    refine V_lstore_n (lc1 := [(2, .long (lN (ckl x sl))), (0, .ref (h 0)), (1, .int u)]) cx 7 rfl dX4_head_6 (by decide) rfl ?_
    refine V_lload_n cx 8 rfl dX4_head_7 0 rfl ?_
    refine V_ldc2 cx 11 rfl dX4_head_8 cl_X4_125 ?_
    refine V_lcmp cx 12 rfl dX4_head_11 ?_
    refine V_if_ne cx 15 19 rfl dX4_head_12 (by decide) (fun c_12 => ?_) (fun c_12 => ?_)
    · skip
      refine V_aload_n cx 20 rfl dX4_head_19 1 rfl ?_
      refine GX4_21 cx 0 rfl rfl 23 rfl dX4_head_20 ?_
      refine V_lload_n cx 24 rfl dX4_head_23 0 rfl ?_
      refine V_lload_n cx 25 rfl dX4_head_24 0 rfl ?_
      refine KX4_131 (As := [.long (lN (ckl x sl))]) (rest := [.long (lN (ckl x sl)), .ref (h 2)]) cx (kX2_placesIn (xl X) lo G _ (ckl x sl) hKb) hX (by omega) rfl rfl (Nat.le_of_ble_eq_true rfl) 28 2 12 rfl rfl rfl (by omega) (by omega) dX4_head_25 (fun r_9 u_10 hw_11 => ?_)
      try dsimp only at hw_11
      subst hw_11
      refine V_toi (nI sl.length) (by rw [hcz]) ?_
      refine V_iconst (v := nI 1) cx 29 rfl dX4_head_28 (by decide) ?_
      refine V_isub cx 30 rfl dX4_head_29 ?_
      refine V_toi (nI (sl.length - 1)) (nI_subN (by omega)) ?_
      refine KX4_136 (As := [.long (lN (ckl x sl)), .int (nI (sl.length - 1))]) (rest := []) cx (kX2_partIn (xl X) lo G _ h np nl (SZ u 8) fd1_4 lu tu T C F LT VV BB lt1_5 ph1_6 lh1_7 ks1_8 wd gr gs bl ie tw (ckl x sl) (sl.length - 1) x (dgt w (SZ u 8)) x sl hok hck hL8 hph (fun k => dgt_lt w _ k) rfl hvs (by omega)) hX (by omega) 2 rfl rfl rfl (Nat.le_of_ble_eq_true rfl) 33 2 12 rfl rfl rfl (by omega) (by omega) dX4_head_30 (fun r_12 u_13 hw_14 => ?_)
      try dsimp only at hw_14
      subst hw_14
      exact V_ireturnX cx hr (fd1_4, lt1_5, ph1_6, lh1_7, ks1_8) (Or.inr ⟨w, (some sl), a1, a2, a3, a4, rfl, hsel, rfl⟩) rfl (by omega) (by omega) dX4_head_33
    · skip
      exact absurd (lg_eq0 c_12) (lN_nem1 hKb)
set_option maxHeartbeats 4000000 in
set_option maxRecDepth 100000 in
theorem kX4_splits (l : Launch) (lo : Nat) (G : vG) (rs : va_W) (h : Nat → Nat) (np : Nat) (nl : Nat) (len : Nat) (fd : Nat) (lu : Nat) (tu : Nat) (T : Nat → Int32) (C : Nat → Int32) (F : Nat → Int32) (LT : Nat → Int32) (VV : Nat → Int32) (BB : Nat → Int32) (lt : Nat → Int32) (ph : Nat → Int32) (lh : Nat → Int32) (ks : Nat → Int64) (wd : Nat → Int32) (gr : Nat → Int32) (gs : Nat → Int32) (bl : Nat → Int32) (ie : Nat → Int32) (tw : Nat → Int32) (u : Int32) (x : LX) (hst : l.stackTraces = false) (hok : lxOK x) (hck : cOK x np nl T C F LT VV BB) : Xi l yX4_splits (.code yX4_splits prog_1_method_12_code 2 (some .int)) 23 1 6 lo G [.ref (h 0), .int u] (cW G h np nl len fd lu tu T C F LT VV BB lt ph lh ks wd gr gs bl ie tw ++ rs) (fun E => E = EIAE ∧ SZ u 8 = 0) (fun (r : Int32) ((fd1, lt1, ph1, lh1, ks1) : (Nat) × (Nat → Int32) × (Nat → Int32) × (Nat → Int32) × (Nat → Int64)) => ∃ w, u = nI w ∧ w < 200000000 ∧ 0 < SZ u 8 ∧ r = nI (mEn x (dgt w (SZ u 8)) (SZ u 8)).length) (fun ((fd1, lt1, ph1, lh1, ks1) : (Nat) × (Nat → Int32) × (Nat → Int32) × (Nat → Int32) × (Nat → Int64)) => cW G h np nl (SZ u 8) fd1 lu tu T C F LT VV BB lt1 ph1 lh1 ks1 wd gr gs bl ie tw ++ rs) := by
  refine Xi_of (lc := [(0, .ref (h 0)), (1, .int u)]) (by decide +kernel) (Nat.le_of_ble_eq_true rfl) rfl ?_
  intro X cx hXR hXl hr hout
  subst hXl
  have hX := RmX.of hXR
  refine V_iload_n cx 1 rfl dX4_splits_0 1 rfl ?_
  refine V_bipush (v := nI 8) cx 3 rfl dX4_splits_1 (by decide) ?_
  refine KXX4_32 (As := [.int u, .int (nI 8)]) (rest := []) cx (kX4_needText (xl X) lo G _ u 8 hst (by omega)) hX (by omega) rfl rfl (Nat.le_of_ble_eq_true rfl) 6 1 6 rfl rfl rfl (by omega) (by omega) dX4_splits_3 (vx_leave cx hout (fun E h => ⟨h.1, by have := SZ_le u 8; omega⟩) (by omega) (by omega)) (fun u_2 hw_3 => ?_)
  try dsimp only at hw_3
  have hsz := hw_3
  refine V_aload_n cx 7 rfl dX4_splits_6 0 rfl ?_
  refine GX4_21 cx 0 rfl rfl 10 rfl dX4_splits_7 ?_
  refine V_iload_n cx 11 rfl dX4_splits_10 1 rfl ?_
  refine KX4_115 (As := [.int u]) (rest := []) cx (kX2_gather (xl X) lo G _ h np nl len fd lu tu T C F LT VV BB lt ph lh ks wd gr gs bl ie tw u x hok hck (ecOK_of x) (by omega)) hX (by omega) 2 rfl rfl rfl (Nat.le_of_ble_eq_true rfl) 14 1 6 rfl rfl rfl (by omega) (by omega) dX4_splits_11 (fun u_5 hw_6 => ?_)
  obtain ⟨fd1_7, lt1_8, ph1_9, lh1_10, ks1_11⟩ := u_5
  try dsimp only at hw_6
  obtain ⟨w, hg⟩ := hw_6
  obtain ⟨hck1, hfd5⟩ := gath_ck hg
  obtain ⟨g1, g2, g3, g4, g5, g6, g7, g8⟩ := hg
  have hpm := cEn_perm hok (fun k => dgt_lt w (SZ u 8) k) g4
  refine V_aload_n cx 15 rfl dX4_splits_14 0 rfl ?_
  refine GX4_21 cx 0 rfl rfl 18 rfl dX4_splits_15 ?_
  refine GX4_118 cx 2 rfl rfl 21 rfl dX4_splits_18 ?_
  exact V_ireturnX cx hr (fd1_7, lt1_8, ph1_9, lh1_10, ks1_11) (⟨w, g1, g2, by omega, by rw [g7, hpm.length_eq]⟩) rfl (by omega) (by omega) dX4_splits_21
