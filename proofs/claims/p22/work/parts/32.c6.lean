def cEn (x : LX) (d : Nat → Nat) (L : Nat) : List SP := ec x L d 8 0 none
/-- a word's splits, gathered -/
def gath (x : LX) (u : Int32) (w len fd : Nat) (lt ph lh : Nat → Int32) (ks : Nat → Int64) : Prop := u = nI w ∧ w < 200000000 ∧ 1 ≤ len ∧ len ≤ 8 ∧ len = SZ u 8 ∧ (∀ b, b < len → phOK x len (dgt w len) ph lh b) ∧ fd = (cEn x (dgt w len) len).length ∧ CS x [] ks 0 (cEn x (dgt w len) len)
def ecOK (x : LX) : Prop := ∀ (d : Nat → Nat) (L : Nat), L ≤ 8 → (∀ k, d k ≤ 9) → (cEn x d L).length ≤ 513
set_option maxHeartbeats 4000000 in
set_option maxRecDepth 100000 in
theorem kX2_gather (l : Launch) (lo : Nat) (G : vG) (rs : va_W) (h : Nat → Nat) (np : Nat) (nl : Nat) (len : Nat) (fd : Nat) (lu : Nat) (tu : Nat) (T : Nat → Int32) (C : Nat → Int32) (F : Nat → Int32) (LT : Nat → Int32) (VV : Nat → Int32) (BB : Nat → Int32) (lt : Nat → Int32) (ph : Nat → Int32) (lh : Nat → Int32) (ks : Nat → Int64) (wd : Nat → Int32) (gr : Nat → Int32) (gs : Nat → Int32) (bl : Nat → Int32) (ie : Nat → Int32) (tw : Nat → Int32) (u : Int32) (x : LX) (hok : lxOK x) (hck : cOK x np nl T C F LT VV BB) (hE : ecOK x) (hu : 0 < SZ u 8) : Mv l yX2_gather (.code yX2_gather prog_4_method_2_code 3 none) 21 0 0 lo G [.ref (h 2), .int u] (cW G h np nl len fd lu tu T C F LT VV BB lt ph lh ks wd gr gs bl ie tw ++ rs) (fun ((fd1, lt1, ph1, lh1, ks1) : (Nat) × (Nat → Int32) × (Nat → Int32) × (Nat → Int32) × (Nat → Int64)) => ∃ w, gath x u w (SZ u 8) fd1 lt1 ph1 lh1 ks1) (fun ((fd1, lt1, ph1, lh1, ks1) : (Nat) × (Nat → Int32) × (Nat → Int32) × (Nat → Int32) × (Nat → Int64)) => cW G h np nl (SZ u 8) fd1 lu tu T C F LT VV BB lt1 ph1 lh1 ks1 wd gr gs bl ie tw ++ rs) := by
  refine Mv_of (lc := [(0, .ref (h 2)), (1, .int u)]) (by decide +kernel) (Nat.le_of_ble_eq_true rfl) rfl ?_
  intro X cx hXR hXl hr hin
  subst hXl
  have hX := RmX.of hXR
  obtain ⟨w, hw0, _, _, _, hw5⟩ := SZ_szN (by decide) hu
  have hL8 := SZ_le u 8
  have hEE := hE (dgt w (SZ u 8)) (SZ u 8) hL8 (fun k => dgt_lt w _ k)
  refine V_aload_n cx 1 rfl dX2_gather_0 0 rfl ?_
  refine V_iload_n cx 2 rfl dX2_gather_1 1 rfl ?_
  refine KX2_29 (As := [.int u]) (rest := []) cx (kX2_readLetters (xl X) lo G _ h np nl len fd lu tu T C F LT VV BB lt ph lh ks wd gr gs bl ie tw u w (fun _ => ⟨hw0, by omega⟩)) hX (by omega) 2 rfl rfl rfl (Nat.le_of_ble_eq_true rfl) 5 0 0 rfl rfl rfl (by omega) (by omega) dX2_gather_2 (fun u_2 hw_3 => ?_)
  obtain ⟨lt1_4, rfl⟩ : ∃ z, z = u_2 := ⟨_, rfl⟩
  try dsimp only at hw_3
  have hlw := hw_3
  refine V_iconst (v := nI 0) cx 6 rfl dX2_gather_5 (by decide) ?_
  refine V_istore_n (lc1 := [(2, .int (nI 0)), (0, .ref (h 2)), (1, .int u)]) cx 7 rfl dX2_gather_6 (by decide) rfl ?_
  have loop_7 : ∀ (fuel : Nat) (a : Nat) (ph2 : Nat → Int32) (lh2 : Nat → Int32), (a ≤ SZ u 8) → (∀ b, b < a → phOK x (SZ u 8) (dgt w (SZ u 8)) ph2 lh2 b) → SZ u 8 - a < fuel → V X lo 3 G (Qv X lo G (fun ((fd1, lt1, ph1, lh1, ks1) : (Nat) × (Nat → Int32) × (Nat → Int32) × (Nat → Int32) × (Nat → Int64)) => ∃ w, gath x u w (SZ u 8) fd1 lt1 ph1 lh1 ks1) (fun ((fd1, lt1, ph1, lh1, ks1) : (Nat) × (Nat → Int32) × (Nat → Int32) × (Nat → Int32) × (Nat → Int64)) => cW G h np nl (SZ u 8) fd1 lu tu T C F LT VV BB lt1 ph1 lh1 ks1 wd gr gs bl ie tw ++ rs) 0 0) 0 0 (cW G h np nl (SZ u 8) fd lu tu T C F LT VV BB lt1_4 ph2 lh2 ks wd gr gs bl ie tw ++ rs) [(2, .int (nI a)), (0, .ref (h 2)), (1, .int u)] [] 7 := by
    intro fuel
    induction fuel with
    | zero => intro a ph2 lh2 ha hq hmz; exact absurd hmz (Nat.not_lt_zero _)
    | succ fuel ih_7 =>
      intro a ph2 lh2 ha hq hmz_7
      refine V_iload_n cx 8 rfl dX2_gather_7 0 rfl ?_
      refine V_aload_n cx 9 rfl dX2_gather_8 1 rfl ?_
      refine GX2_33 cx 2 rfl rfl 12 rfl dX2_gather_9 ?_
      refine V_icmp_ge cx 15 26 rfl dX2_gather_12 (by decide) (fun c_12 => ?_) (fun c_12 => ?_)
      · skip
        have n_12 : a ≥ SZ u 8 := N_ge_t (by omega) (by omega) c_12
        have hph2 : ∀ b, b < SZ u 8 → phOK x (SZ u 8) (dgt w (SZ u 8)) ph2 lh2 b := fun b hb => hq b (by omega)
        refine V_aload_n cx 27 rfl dX2_gather_26 1 rfl ?_
        refine V_iconst (v := nI 0) cx 28 rfl dX2_gather_27 (by decide) ?_
        refine PX2_40 cx 2 rfl (Nat.le_of_ble_eq_true rfl) (cW G h np nl (SZ u 8) 0 lu tu T C F LT VV BB lt1_4 ph2 lh2 ks wd gr gs bl ie tw ++ rs) rfl 31 rfl dX2_gather_28 ?_
        refine V_aload_n cx 32 rfl dX2_gather_31 1 rfl ?_
        refine V_iconst (v := nI 0) cx 33 rfl dX2_gather_32 (by decide) ?_
        refine V_iconst (v := (-1)) cx 34 rfl dX2_gather_33 (by decide) ?_
        refine V_iconst (v := nI 0) cx 35 rfl dX2_gather_34 (by decide) ?_
        refine V_iconst (v := nI 0) cx 36 rfl dX2_gather_35 (by decide) ?_
        refine V_lconst (v := lN 0) cx 37 rfl dX2_gather_36 (by decide) ?_
        refine KX2_43 (As := [.int (nI 0), .int (-1), .int (nI 0), .int (nI 0), .long (lN 0)]) (rest := []) cx ((tp_all 8) (xl X) lo G _ h np nl (SZ u 8) 0 lu tu T C F LT VV BB lt1_4 ph2 lh2 ks wd gr gs bl ie tw 0 (-1) 0 0 0 x (dgt w (SZ u 8)) none ([]) hok hck (by omega) hph2 (by omega) (by omega) rfl (by omega) (Or.inl ⟨rfl, rfl⟩) rfl rfl rfl cRm_0 (by rw [Nat.zero_add]; exact hEE)) hX (by omega) 2 rfl rfl rfl (Nat.le_of_ble_eq_true rfl) 40 0 0 rfl rfl rfl (by omega) (by omega) dX2_gather_37 (fun u_6 hw_7 => ?_)
        obtain ⟨ks1_8, rfl⟩ : ∃ z, z = u_6 := ⟨_, rfl⟩
        try dsimp only at hw_7
        exact V_vreturn cx hr (0 + (ec x (SZ u 8) (dgt w (SZ u 8)) 8 0 none).length, lt1_4, ph2, lh2, ks1_8) (⟨w, hw0, hw5, hu, hL8, rfl, hph2, Nat.zero_add _, (hw_7).2⟩) rfl (by omega) (by omega) dX2_gather_40
      · skip
        have n_12 : a < SZ u 8 := N_ge_f (by omega) (by omega) c_12
        refine V_aload_n cx 16 rfl dX2_gather_15 1 rfl ?_
        refine V_iload_n cx 17 rfl dX2_gather_16 0 rfl ?_
        refine KX2_37 (As := [.int (nI a)]) (rest := []) cx (kX2_findFrom (xl X) lo G _ h np nl (SZ u 8) fd lu tu T C F LT VV BB lt1_4 ph2 lh2 ks wd gr gs bl ie tw a x (dgt w (SZ u 8)) hok hck (by omega) hlw (fun k => dgt_lt w _ k) (by omega)) hX (by omega) 2 rfl rfl rfl (Nat.le_of_ble_eq_true rfl) 20 0 0 rfl rfl rfl (by omega) (by omega) dX2_gather_17 (fun u_10 hw_11 => ?_)
        obtain ⟨ph1_12, lh1_13⟩ := u_10
        try dsimp only at hw_11
        obtain ⟨j1, j2, j3⟩ := hw_11
        refine V_iinc (v := nI (a + 1)) (lc1 := [(2, .int (nI (a + 1))), (0, .ref (h 2)), (1, .int u)]) cx 23 rfl dX2_gather_20 0 rfl (nI_inc a 1) (by decide) rfl ?_
        refine V_goto cx 7 dX2_gather_23 (by decide) ?_
        refine V.locs [0, 1, 2] rfl ?_
        exact ih_7 (a + 1) ph1_12 lh1_13 (by omega) (by intro b hb; rcases Nat.lt_or_ge b a with h1 | h1; (exact ⟨fun s s1 s2 s3 => (j2 _ (Or.inl (by omega))).trans ((hq b h1).1 s s1 s2 s3), fun s s1 s2 s3 => (j3 _ (Or.inl (by omega))).trans ((hq b h1).2 s s1 s2 s3)⟩); (rw [show b = a by omega]; exact j1)) (by omega)
  refine V.locs [0, 1, 2] rfl ?_
  exact loop_7 _ 0 ph lh (by omega) (by intro b hb; omega) (Nat.lt_succ_self _)
set_option maxHeartbeats 4000000 in
set_option maxRecDepth 100000 in
theorem kX2_partIn (l : Launch) (lo : Nat) (G : vG) (rs : va_W) (h : Nat → Nat) (np : Nat) (nl : Nat) (len : Nat) (fd : Nat) (lu : Nat) (tu : Nat) (T : Nat → Int32) (C : Nat → Int32) (F : Nat → Int32) (LT : Nat → Int32) (VV : Nat → Int32) (BB : Nat → Int32) (lt : Nat → Int32) (ph : Nat → Int32) (lh : Nat → Int32) (ks : Nat → Int64) (wd : Nat → Int32) (gr : Nat → Int32) (gs : Nat → Int32) (bl : Nat → Int32) (ie : Nat → Int32) (tw : Nat → Int32) (K : Nat) (i : Nat) (x : LX) (d : Nat → Nat) (y : LX) (sq : SP) (hok : lxOK x) (hck : cOK x np nl T C F LT VV BB) (hll : len ≤ 8) (hph : ∀ b, b < len → phOK x len d ph lh b) (hd : ∀ k, d k ≤ 9) (hK : K = ckl y sq) (hv : valS x len d sq 0 none) (hi : i < sq.length) : Mi l yX2_partIn (.code yX2_partIn prog_4_method_13_code 6 (some .int)) 4 0 0 lo G [.ref (h 2), .long (lN K), .int (nI i)] (cW G h np nl len fd lu tu T C F LT VV BB lt ph lh ks wd gr gs bl ie tw ++ rs) (fun (r : Int32) (_ : Unit) => r = nI (spP sq i)) (fun (_ : Unit) => cW G h np nl len fd lu tu T C F LT VV BB lt ph lh ks wd gr gs bl ie tw ++ rs) := by
  refine Mi_of (lc := [(0, .ref (h 2)), (1, .long (lN K)), (3, .int (nI i))]) (by decide +kernel) (Nat.le_of_ble_eq_true rfl) rfl ?_
  intro X cx hXR hXl hr hin
  subst hXl
  have hX := RmX.of hXR
  obtain ⟨hnp, hnl, hT, hC, hF, hLT, hVV, hBB⟩ := id hck
  have hnp16 : np ≤ 16 := by rw [hnp]; exact hok.1
  have hnl6 : nl ≤ 6 := by rw [hnl]; exact hok.2.1
  obtain ⟨hl8, hl1⟩ := valS_len sq 0 none hv
  have hsb := valS_bd sq 0 none hv
  have hs8 : sq.length ≤ 8 := by omega
  have hs28 : ∀ k, k < sq.length → spO sq k < 28 := fun k hk => (hsb k hk).1
  have hKb : K < 9223372036854775808 := by rw [hK]; exact ckl_lt hs8 hs28
  refine V_iconst (v := nI 0) cx 1 rfl dX2_partIn_0 (by decide) ?_
  refine V_istore (lc1 := [(4, .int (nI 0)), (0, .ref (h 2)), (1, .long (lN K)), (3, .int (nI i))]) cx 3 rfl dX2_partIn_1 (by decide) rfl ?_
  refine V_iconst (v := nI 0) cx 4 rfl dX2_partIn_3 (by decide) ?_
  refine V_istore (lc1 := [(5, .int (nI 0)), (4, .int (nI 0)), (0, .ref (h 2)), (1, .long (lN K)), (3, .int (nI i))]) cx 6 rfl dX2_partIn_4 (by decide) rfl ?_
  have loop_6 : ∀ (fuel : Nat) (j : Nat) (a : Nat) (pv : Option Nat) (rest : SP), (j ≤ i) → (j + rest.length = sq.length) → (∀ k, k < rest.length → spO rest k = spO sq (j + k) ∧ spP rest k = spP sq (j + k)) → (a < len ∧ valS x len d rest a pv) → i - j < fuel → V X lo 6 G (Qi X lo G (fun (r : Int32) (_ : Unit) => r = nI (spP sq i)) (fun (_ : Unit) => cW G h np nl len fd lu tu T C F LT VV BB lt ph lh ks wd gr gs bl ie tw ++ rs) 0 0) 0 0 (cW G h np nl len fd lu tu T C F LT VV BB lt ph lh ks wd gr gs bl ie tw ++ rs) [(5, .int (nI j)), (4, .int (nI a)), (0, .ref (h 2)), (1, .long (lN K)), (3, .int (nI i))] [] 6 := by
    intro fuel
    induction fuel with
    | zero => intro j a pv rest hj hjr hrest hval hmz; exact absurd hmz (Nat.not_lt_zero _)
    | succ fuel ih_6 =>
      intro j a pv rest hj hjr hrest hval hmz_6
      refine V_iload cx 8 rfl dX2_partIn_6 0 rfl ?_
      refine V_iload_n cx 9 rfl dX2_partIn_8 4 rfl ?_
      refine V_icmp_ge cx 12 43 rfl dX2_partIn_9 (by decide) (fun c_9 => ?_) (fun c_9 => ?_)
      · skip
        have n_9 : j ≥ i := N_ge_t (by omega) (by omega) c_9
        obtain ⟨hal, hval⟩ := hval
        cases rest with
        | nil => exact absurd hval (fun h => h)
        | cons y l2 =>
          obtain ⟨o, p⟩ := y
          obtain ⟨ho28, e, hst, hvv⟩ := hval
          obtain ⟨hwp, hee⟩ := stp_e hst
          have hbb := stp_bd hst (by omega)
          have h00 := hrest 0 (by simp)
          have hoe : o = spO sq j := h00.1
          have hpe : p = spP sq j := h00.2
          have hwb := (wAt_some hwp).1
          refine V_lload_n cx 44 rfl dX2_partIn_43 3 rfl ?_
          refine V_iload_n cx 45 rfl dX2_partIn_44 4 rfl ?_
          refine KX2_96 (As := [.long (lN K), .int (nI i)]) (rest := []) cx (kX2_lettersAt (xl X) lo G _ K i (by omega) (by omega)) hX (by omega) rfl rfl (Nat.le_of_ble_eq_true rfl) 48 0 0 rfl rfl rfl (by omega) (by omega) dX2_partIn_45 (fun r_1 u_2 hw_3 => ?_)
          try dsimp only at hw_3
          subst hw_3
          refine V_toi (nI (4 - o / 7)) (by rw [hK, ckl_part hs8 hs28 hi, show i = j by omega, ← hoe]) ?_
          refine V_istore (lc1 := [(5, .int (nI (4 - o / 7))), (4, .int (nI a)), (0, .ref (h 2)), (1, .long (lN K)), (3, .int (nI i))]) cx 50 rfl dX2_partIn_48 (by decide) rfl ?_
          refine V_iload cx 52 rfl dX2_partIn_50 1 rfl ?_
          refine V_iload cx 54 rfl dX2_partIn_52 0 rfl ?_
          refine V_iadd cx 55 rfl dX2_partIn_54 ?_
          refine V_toi (nI (a + (4 - o / 7))) (nI_add _ _) ?_
          refine V_aload_n cx 56 rfl dX2_partIn_55 2 rfl ?_
          refine GX2_33 cx 2 rfl rfl 59 rfl dX2_partIn_56 ?_
          refine V_icmp_le cx 62 66 rfl dX2_partIn_59 (by decide) (fun c_59 => ?_) (fun c_59 => ?_)
          · skip
            have n_59 : a + (4 - o / 7) ≤ len := N_le_t (by omega) (by omega) c_59
            refine V_aload_n cx 67 rfl dX2_partIn_66 2 rfl ?_
            refine GX2_15 cx 2 rfl rfl 70 rfl dX2_partIn_67 ?_
            refine V_iload cx 72 rfl dX2_partIn_70 1 rfl ?_
            refine V_iconst (v := nI 4) cx 73 rfl dX2_partIn_72 (by decide) ?_
            refine V_imul cx 74 rfl dX2_partIn_73 ?_
            refine V_toi (nI (a * 4)) (nI_mulN _ _) ?_
            refine V_iload cx 76 rfl dX2_partIn_74 0 rfl ?_
            refine V_iadd cx 77 rfl dX2_partIn_76 ?_
            refine V_toi (nI ((a * 4) + (4 - o / 7))) (nI_add _ _) ?_
            refine V_iconst (v := nI 1) cx 78 rfl dX2_partIn_77 (by decide) ?_
            refine V_isub cx 79 rfl dX2_partIn_78 ?_
            refine V_toi (nI (((a * 4) + (4 - o / 7)) - 1)) (nI_subN (by omega)) ?_
            refine V_ialdN cx (((a * 4) + (4 - o / 7)) - 1) (rfl) (by omega) (by decide) 12 rfl 80 rfl dX2_partIn_79 ?_
            refine V_toi (nI p) (by rw [(hph a hal).1 (4 - o / 7) (by omega) (by omega) hwb, hwp]; rfl) ?_
            exact V_ireturn cx hr () (by rw [hpe, show i = j by omega]) rfl (by omega) (by omega) dX2_partIn_80
          · skip
            have n_59 : a + (4 - o / 7) > len := N_le_f (by omega) (by omega) c_59
            omega
      · skip
        have n_9 : j < i := N_ge_f (by omega) (by omega) c_9
        obtain ⟨hal, hval⟩ := hval
        cases rest with
        | nil => exact absurd hval (fun h => h)
        | cons y l2 =>
          obtain ⟨o, p⟩ := y
          obtain ⟨ho28, e, hst, hvv⟩ := hval
          obtain ⟨hwp, hee⟩ := stp_e hst
          have hbb := stp_bd hst (by omega)
          have h00 := hrest 0 (by simp)
          have hoe : o = spO sq j := h00.1
          have hpe : p = spP sq j := h00.2
          have hwb := (wAt_some hwp).1
          have hvv2 : e < len ∧ valS x len d l2 e (some p) := by rcases hvv with ⟨_, h1⟩ | h1; (rw [h1] at hjr; simp at hjr; omega); exact h1
          refine V_iload cx 14 rfl dX2_partIn_12 1 rfl ?_
          refine V_lload_n cx 15 rfl dX2_partIn_14 3 rfl ?_
          refine V_iload cx 17 rfl dX2_partIn_15 0 rfl ?_
          refine KX2_96 (As := [.long (lN K), .int (nI j)]) (rest := [.int (nI a)]) cx (kX2_lettersAt (xl X) lo G _ K j (by omega) (by omega)) hX (by omega) rfl rfl (Nat.le_of_ble_eq_true rfl) 20 0 0 rfl rfl rfl (by omega) (by omega) dX2_partIn_17 (fun r_4 u_5 hw_6 => ?_)
          try dsimp only at hw_6
          subst hw_6
          refine V_toi (nI (4 - o / 7)) (by rw [hK, ckl_part hs8 hs28 (by omega), ← hoe]) ?_
          refine V_aload_n cx 21 rfl dX2_partIn_20 2 rfl ?_
          refine GX2_25 cx 2 rfl rfl 24 rfl dX2_partIn_21 ?_
          refine V_lload_n cx 25 rfl dX2_partIn_24 3 rfl ?_
          refine V_iload cx 27 rfl dX2_partIn_25 0 rfl ?_
          refine KX2_100 (As := [.long (lN K), .int (nI j)]) (rest := [.ref (h 1), .int (nI (4 - o / 7)), .int (nI a)]) cx (kX2_linkIn (xl X) lo G _ K j (by omega) (by omega)) hX (by omega) rfl rfl (Nat.le_of_ble_eq_true rfl) 30 0 0 rfl rfl rfl (by omega) (by omega) dX2_partIn_27 (fun r_7 u_8 hw_9 => ?_)
          try dsimp only at hw_9
          subst hw_9
          refine V_toi (nI (o % 7) - nI 1) (by rw [hK, ckl_link hs8 hs28 (by omega), ← hoe]) ?_
          refine KX2_103 (As := [.int (nI (o % 7) - nI 1)]) (rest := [.int (nI (4 - o / 7)), .int (nI a)]) cx (kX1_lettersOfLink (xl X) lo G _ h np nl len fd lu tu T C F LT VV BB lt ph lh ks wd gr gs bl ie tw (nI (o % 7) - nI 1) (o % 7) (by omega) rfl (by omega)) hX (by omega) 1 rfl rfl rfl (Nat.le_of_ble_eq_true rfl) 33 0 0 rfl rfl rfl (by omega) (by omega) dX2_partIn_30 (fun r_10 u_11 hw_12 => ?_)
          try dsimp only at hw_12
          subst hw_12
          refine V_toi (nI (e - a - (4 - o / 7))) (by congr 1; rcases hee with ⟨g1, g2⟩ | ⟨g1, g2, g3, g4⟩; (rw [if_pos g1]; omega); (rw [if_neg (by omega), if_pos (by omega), hLT _ (by omega), show SZ (nI (lU x (o % 7 - 1))) 8 = szN (lU x (o % 7 - 1)) from rfl]; omega)) ?_
          refine V_iadd cx 34 rfl dX2_partIn_33 ?_
          refine V_toi (nI ((4 - o / 7) + (e - a - (4 - o / 7)))) (nI_add _ _) ?_
          refine V_iadd cx 35 rfl dX2_partIn_34 ?_
          refine V_toi (nI (a + ((4 - o / 7) + (e - a - (4 - o / 7))))) (nI_add _ _) ?_
          refine V_toi (nI e) (by rw [show a + (4 - o / 7 + (e - a - (4 - o / 7))) = e by rcases hee with ⟨g1, g2⟩ | ⟨g1, g2, g3, g4⟩ <;> omega]) ?_
          refine V_istore (lc1 := [(4, .int (nI e)), (5, .int (nI j)), (0, .ref (h 2)), (1, .long (lN K)), (3, .int (nI i))]) cx 37 rfl dX2_partIn_35 (by decide) rfl ?_
          refine V_iinc (v := nI (j + 1)) (lc1 := [(5, .int (nI (j + 1))), (4, .int (nI e)), (0, .ref (h 2)), (1, .long (lN K)), (3, .int (nI i))]) cx 40 rfl dX2_partIn_37 1 rfl (nI_inc j 1) (by decide) rfl ?_
          refine V_goto cx 6 dX2_partIn_40 (by decide) ?_
          refine V.locs [0, 1, 2, 3, 4] rfl ?_
          exact ih_6 (j + 1) e (some p) l2 (by omega) (by rw [List.length_cons] at hjr; omega) (by intro k hk; have := hrest (k + 1) (by simpa using hk); rw [show j + 1 + k = j + (k + 1) by omega]; exact this) (by exact hvv2) (by omega)
  refine V.locs [0, 1, 2, 3, 4] rfl ?_
  exact loop_6 _ 0 0 none sq (by omega) (by omega) (by intro k hk; rw [Nat.zero_add]; exact ⟨rfl, rfl⟩) (by exact ⟨by omega, hv⟩) (Nat.lt_succ_self _)
