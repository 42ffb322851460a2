theorem lg_ltt {a b : Int64} (h : lg_cmp a b < 0) : a < b := lg_lt (fun h2 => absurd h (Int32.not_lt.mpr h2))
theorem lg_ltf {a b : Int64} (h : ¬ lg_cmp a b < 0) : ¬ a < b := lg_ge (Int32.not_lt.mp h)
theorem lt_of_skI {n top left : Nat} {ks g : Nat → Int64} {ky : Int64} {a : Nat} (h : skI n top left ks g ky a) : top ≤ a ∧ a < left := ⟨h.1, h.2.1⟩
/-- a row that is another one over again, and the same from some place on: its front's keys stand in the other one's front -/
theorem heap_rest {f g : Nat → Int64} {n left : Nat} (hl : left ≤ n) (hp : (rows64 f n).Perm (rows64 g n)) (ho : ∀ i, left ≤ i → f i = g i) : ∀ j, j < left → ∃ j2, j2 < left ∧ f j = g j2 := by
  have h0 : ∀ h : Nat → Int64, rows64 h n = rows64 h left ++ (List.range' left (n - left)).map h := by
    intro h
    unfold rows64
    have e := List.range'_append_1 (s := 0) (m := left) (n := n - left)
    rw [Nat.zero_add, show left + (n - left) = n by omega] at e
    rw [← List.map_append, List.range_eq_range', List.range_eq_range', e]
  have h1 : (List.range' left (n - left)).map f = (List.range' left (n - left)).map g := List.map_congr_left (fun i hi => ho i (by have := List.mem_range'_1.mp hi; omega))
  rw [h0 f, h0 g, h1] at hp
  have h2 := (List.perm_append_right_iff _).mp hp
  intro j hj
  have h3 : f j ∈ rows64 f left := List.mem_map.mpr ⟨j, List.mem_range.mpr hj, rfl⟩
  obtain ⟨j2, h4, h5⟩ := List.mem_map.mp (h2.mem_iff.mp h3)
  exact ⟨j2, List.mem_range.mp h4, h5.symm⟩
set_option maxHeartbeats 4000000 in
set_option maxRecDepth 100000 in
theorem kX2_sink (l : Launch) (lo : Nat) (G : vG) (rs : va_W) (h : Nat → Nat) (np : Nat) (nl : Nat) (len : Nat) (fd : Nat) (lu : Nat) (tu : Nat) (T : Nat → Int32) (C : Nat → Int32) (F : Nat → Int32) (LT : Nat → Int32) (VV : Nat → Int32) (BB : Nat → Int32) (lt : Nat → Int32) (ph : Nat → Int32) (lh : Nat → Int32) (ks : Nat → Int64) (wd : Nat → Int32) (gr : Nat → Int32) (gs : Nat → Int32) (bl : Nat → Int32) (ie : Nat → Int32) (tw : Nat → Int32) (top : Nat) (left : Nat) (n : Nat) (htl : top < left) (hln : left ≤ n) (hn : n ≤ 513) (hh : ∀ i, top < i → i < left → HPP ks i left) : Mv l yX2_sink (.code yX2_sink prog_4_method_10_code 7 none) 1 0 0 lo G [.ref (h 2), .int (nI top), .int (nI left)] (cW G h np nl len fd lu tu T C F LT VV BB lt ph lh ks wd gr gs bl ie tw ++ rs) (fun (ks1 : (Nat → Int64)) => (rows64 ks1 n).Perm (rows64 ks n) ∧ (∀ i, i < top ∨ left ≤ i → ks1 i = ks i) ∧ (∀ i, top ≤ i → i < left → HPP ks1 i left)) (fun (ks1 : (Nat → Int64)) => cW G h np nl len fd lu tu T C F LT VV BB lt ph lh ks1 wd gr gs bl ie tw ++ rs) := by
  refine Mv_of (lc := [(0, .ref (h 2)), (1, .int (nI top)), (2, .int (nI left))]) (by decide +kernel) (Nat.le_of_ble_eq_true rfl) rfl ?_
  intro X cx hXR hXl hr hin
  subst hXl
  have hX := RmX.of hXR
  refine V_aload_n cx 1 rfl dX2_sink_0 0 rfl ?_
  refine GX2_21 cx 2 rfl rfl 4 rfl dX2_sink_1 ?_
  refine V_iload_n cx 5 rfl dX2_sink_4 1 rfl ?_
  refine V_laldN cx top (rfl) (by omega) (by decide) 14 rfl 6 rfl dX2_sink_5 ?_
  refine V_lstore_n (lc1 := [(3, .long (ks top)), (0, .ref (h 2)), (1, .int (nI top)), (2, .int (nI left))]) cx 7 rfl dX2_sink_6 (by decide) rfl ?_
  refine V_iload_n cx 8 rfl dX2_sink_7 2 rfl ?_
  refine V_istore (lc1 := [(5, .int (nI top)), (3, .long (ks top)), (0, .ref (h 2)), (1, .int (nI top)), (2, .int (nI left))]) cx 10 rfl dX2_sink_8 (by decide) rfl ?_
  refine V_iconst (v := nI 2) cx 11 rfl dX2_sink_10 (by decide) ?_
  refine V_iload cx 13 rfl dX2_sink_11 0 rfl ?_
  refine V_imul cx 14 rfl dX2_sink_13 ?_
  refine V_toi (nI (2 * top)) (nI_mulN _ _) ?_
  refine V_iconst (v := nI 1) cx 15 rfl dX2_sink_14 (by decide) ?_
  refine V_iadd cx 16 rfl dX2_sink_15 ?_
  refine V_toi (nI ((2 * top) + 1)) (nI_add _ _) ?_
  refine V_istore (lc1 := [(6, .int (nI ((2 * top) + 1))), (5, .int (nI top)), (3, .long (ks top)), (0, .ref (h 2)), (1, .int (nI top)), (2, .int (nI left))]) cx 18 rfl dX2_sink_16 (by decide) rfl ?_
  have loop_18 : ∀ (fuel : Nat) (a : Nat) (g2 : Nat → Int64), (skI n top left ks g2 (ks top) a) → left - a < fuel → V X lo 7 G (Qv X lo G (fun (ks1 : (Nat → Int64)) => (rows64 ks1 n).Perm (rows64 ks n) ∧ (∀ i, i < top ∨ left ≤ i → ks1 i = ks i) ∧ (∀ i, top ≤ i → i < left → HPP ks1 i left)) (fun (ks1 : (Nat → Int64)) => cW G h np nl len fd lu tu T C F LT VV BB lt ph lh ks1 wd gr gs bl ie tw ++ rs) 0 0) 0 0 (cW G h np nl len fd lu tu T C F LT VV BB lt ph lh g2 wd gr gs bl ie tw ++ rs) [(6, .int (nI (2 * a + 1))), (5, .int (nI a)), (3, .long (ks top)), (0, .ref (h 2)), (1, .int (nI top)), (2, .int (nI left))] [] 18 := by
    intro fuel
    induction fuel with
    | zero => intro a g2 hI hmz; exact absurd hmz (Nat.not_lt_zero _)
    | succ fuel ih_18 =>
      intro a g2 hI hmz_18
      refine V_iload cx 20 rfl dX2_sink_18 0 rfl ?_
      refine V_iload_n cx 21 rfl dX2_sink_20 5 rfl ?_
      refine V_icmp_ge cx 24 99 rfl dX2_sink_21 (by decide) (fun c_21 => ?_) (fun c_21 => ?_)
      · skip
        have hai := lt_of_skI hI
        have n_21 : 2 * a + 1 ≥ left := N_ge_t (by omega) (by omega) c_21
        have hE := skI_end hI (fun q h1 h2 => by omega)
        refine V_aload_n cx 100 rfl dX2_sink_99 3 rfl ?_
        refine GX2_21 cx 2 rfl rfl 103 rfl dX2_sink_100 ?_
        refine V_iload cx 105 rfl dX2_sink_103 1 rfl ?_
        refine V_lload_n cx 106 rfl dX2_sink_105 2 rfl ?_
        refine V_lastN cx a (rfl) (by omega) (by decide) 14 rfl (cW G h np nl len fd lu tu T C F LT VV BB lt ph lh (vp_updL g2 a (ks top)) wd gr gs bl ie tw ++ rs) rfl 107 rfl dX2_sink_106 ?_
        exact V_vreturn cx hr (vp_updL g2 a (ks top)) (hE) rfl (by omega) (by omega) dX2_sink_107
      · skip
        have hai := lt_of_skI hI
        have n_21 : 2 * a + 1 < left := N_ge_f (by omega) (by omega) c_21
        have join_55 : ∀ (b : Nat), ((b = 2 * a + 1 ∨ b = 2 * a + 2) ∧ b < left) → (∀ q, (q = 2 * a + 1 ∨ q = 2 * a + 2) → q < left → (g2 b).toInt ≤ (g2 q).toInt) → V X lo 7 G (Qv X lo G (fun (ks1 : (Nat → Int64)) => (rows64 ks1 n).Perm (rows64 ks n) ∧ (∀ i, i < top ∨ left ≤ i → ks1 i = ks i) ∧ (∀ i, top ≤ i → i < left → HPP ks1 i left)) (fun (ks1 : (Nat → Int64)) => cW G h np nl len fd lu tu T C F LT VV BB lt ph lh ks1 wd gr gs bl ie tw ++ rs) 0 0) 0 0 (cW G h np nl len fd lu tu T C F LT VV BB lt ph lh g2 wd gr gs bl ie tw ++ rs) [(5, .int (nI a)), (3, .long (ks top)), (0, .ref (h 2)), (1, .int (nI top)), (2, .int (nI left)), (6, .int (nI b))] [] 55 := by
          intro b hb hmin
          refine V_aload_n cx 56 rfl dX2_sink_55 2 rfl ?_
          refine GX2_21 cx 2 rfl rfl 59 rfl dX2_sink_56 ?_
          refine V_iload cx 61 rfl dX2_sink_59 5 rfl ?_
          refine V_laldN cx b (rfl) (by omega) (by decide) 14 rfl 62 rfl dX2_sink_61 ?_
          refine V_lload_n cx 63 rfl dX2_sink_62 1 rfl ?_
          refine V_lcmp cx 64 rfl dX2_sink_63 ?_
          refine V_if_lt cx 67 70 rfl dX2_sink_64 (by decide) (fun c_64 => ?_) (fun c_64 => ?_)
          · skip
            have g_64 : g2 b < ks top := lg_ltt c_64
            have hI2 := skI_step hln hI hb.1 hb.2 hmin (Int64.lt_iff_toInt_lt.mp g_64)
            refine V_aload_n cx 71 rfl dX2_sink_70 2 rfl ?_
            refine GX2_21 cx 2 rfl rfl 74 rfl dX2_sink_71 ?_
            refine V_iload cx 76 rfl dX2_sink_74 0 rfl ?_
            refine V_aload_n cx 77 rfl dX2_sink_76 2 rfl ?_
            refine GX2_21 cx 2 rfl rfl 80 rfl dX2_sink_77 ?_
            refine V_iload cx 82 rfl dX2_sink_80 5 rfl ?_
            refine V_laldN cx b (rfl) (by omega) (by decide) 14 rfl 83 rfl dX2_sink_82 ?_
            refine V_lastN cx a (rfl) (by omega) (by decide) 14 rfl (cW G h np nl len fd lu tu T C F LT VV BB lt ph lh (vp_updL g2 a (g2 b)) wd gr gs bl ie tw ++ rs) rfl 84 rfl dX2_sink_83 ?_
            refine V_iload cx 86 rfl dX2_sink_84 5 rfl ?_
            refine V_istore (lc1 := [(5, .int (nI b)), (3, .long (ks top)), (0, .ref (h 2)), (1, .int (nI top)), (2, .int (nI left)), (6, .int (nI b))]) cx 88 rfl dX2_sink_86 (by decide) rfl ?_
            refine V_iconst (v := nI 2) cx 89 rfl dX2_sink_88 (by decide) ?_
            refine V_iload cx 91 rfl dX2_sink_89 0 rfl ?_
            refine V_imul cx 92 rfl dX2_sink_91 ?_
            refine V_toi (nI (2 * b)) (nI_mulN _ _) ?_
            refine V_iconst (v := nI 1) cx 93 rfl dX2_sink_92 (by decide) ?_
            refine V_iadd cx 94 rfl dX2_sink_93 ?_
            refine V_toi (nI ((2 * b) + 1)) (nI_add _ _) ?_
            refine V_istore (lc1 := [(6, .int (nI ((2 * b) + 1))), (5, .int (nI b)), (3, .long (ks top)), (0, .ref (h 2)), (1, .int (nI top)), (2, .int (nI left))]) cx 96 rfl dX2_sink_94 (by decide) rfl ?_
            refine V_goto cx 18 dX2_sink_96 (by decide) ?_
            refine V.locs [0, 1, 2, 3, 4, 5] rfl ?_
            exact ih_18 b (vp_updL g2 a (g2 b)) (by exact hI2) (by have := hI.2.1; omega)
          · skip
            have g_64 : ¬ g2 b < ks top := lg_ltf c_64
            have hE := skI_end hI (fun q h1 h2 => Int.le_trans (Int.not_lt.mp (fun h3 => g_64 (Int64.lt_iff_toInt_lt.mpr h3))) (hmin q h1 h2))
            refine V_goto cx 99 dX2_sink_67 (by decide) ?_
            refine V_aload_n cx 100 rfl dX2_sink_99 2 rfl ?_
            refine GX2_21 cx 2 rfl rfl 103 rfl dX2_sink_100 ?_
            refine V_iload cx 105 rfl dX2_sink_103 0 rfl ?_
            refine V_lload_n cx 106 rfl dX2_sink_105 1 rfl ?_
            refine V_lastN cx a (rfl) (by omega) (by decide) 14 rfl (cW G h np nl len fd lu tu T C F LT VV BB lt ph lh (vp_updL g2 a (ks top)) wd gr gs bl ie tw ++ rs) rfl 107 rfl dX2_sink_106 ?_
            exact V_vreturn cx hr (vp_updL g2 a (ks top)) (hE) rfl (by omega) (by omega) dX2_sink_107
        refine V_iload cx 26 rfl dX2_sink_24 0 rfl ?_
        refine V_iconst (v := nI 1) cx 27 rfl dX2_sink_26 (by decide) ?_
        refine V_iadd cx 28 rfl dX2_sink_27 ?_
        refine V_toi (nI (2 * a + 2)) (nI_add _ _) ?_
        refine V_iload_n cx 29 rfl dX2_sink_28 5 rfl ?_
        refine V_icmp_ge cx 32 55 rfl dX2_sink_29 (by decide) (fun c_29 => ?_) (fun c_29 => ?_)
        · skip
          have n_29 : 2 * a + 2 ≥ left := N_ge_t (by omega) (by omega) c_29
          refine V.locs [1, 2, 3, 4, 5, 0] rfl ?_
          exact join_55 (2 * a + 1) (by omega) (by intro q h1 h2; rw [show q = 2 * a + 1 by omega]; exact Int.le_refl _)
        · skip
          have n_29 : 2 * a + 2 < left := N_ge_f (by omega) (by omega) c_29
          refine V_aload_n cx 33 rfl dX2_sink_32 3 rfl ?_
          refine GX2_21 cx 2 rfl rfl 36 rfl dX2_sink_33 ?_
          refine V_iload cx 38 rfl dX2_sink_36 0 rfl ?_
          refine V_iconst (v := nI 1) cx 39 rfl dX2_sink_38 (by decide) ?_
          refine V_iadd cx 40 rfl dX2_sink_39 ?_
          refine V_toi (nI (2 * a + 2)) (nI_add _ _) ?_
          refine V_laldN cx (2 * a + 2) (rfl) (by omega) (by decide) 14 rfl 41 rfl dX2_sink_40 ?_
          refine V_aload_n cx 42 rfl dX2_sink_41 3 rfl ?_
          refine GX2_21 cx 2 rfl rfl 45 rfl dX2_sink_42 ?_
          refine V_iload cx 47 rfl dX2_sink_45 0 rfl ?_
          refine V_laldN cx (2 * a + 1) (rfl) (by omega) (by decide) 14 rfl 48 rfl dX2_sink_47 ?_
          refine V_lcmp cx 49 rfl dX2_sink_48 ?_
          refine V_if_ge cx 52 55 rfl dX2_sink_49 (by decide) (fun c_49 => ?_) (fun c_49 => ?_)
          · skip
            have g_49 := lg_ge c_49
            refine V.locs [1, 2, 3, 4, 5, 0] rfl ?_
            exact join_55 (2 * a + 1) (by omega) (by intro q h1 h2; rcases h1 with h1 | h1; (rw [h1]; exact Int.le_refl _); (rw [h1]; exact Int.not_lt.mp (fun h3 => g_49 (Int64.lt_iff_toInt_lt.mpr h3))))
          · skip
            have g_49 := lg_lt c_49
            refine V_iinc (v := nI (2 * a + 2)) (lc1 := [(6, .int (nI (2 * a + 2))), (5, .int (nI a)), (3, .long (ks top)), (0, .ref (h 2)), (1, .int (nI top)), (2, .int (nI left))]) cx 55 rfl dX2_sink_52 0 rfl (nI_inc (2 * a + 1) 1) (by decide) rfl ?_
            refine V.locs [1, 2, 3, 4, 5, 0] rfl ?_
            exact join_55 (2 * a + 2) (by omega) (by intro q h1 h2; rcases h1 with h1 | h1; (rw [h1]; exact Int.le_of_lt (Int64.lt_iff_toInt_lt.mp g_49)); (rw [h1]; exact Int.le_refl _))
  refine V.locs [0, 1, 2, 3, 4, 5] rfl ?_
  exact loop_18 _ top ks (by exact skI_init htl hh) (Nat.lt_succ_self _)
set_option maxHeartbeats 4000000 in
set_option maxRecDepth 100000 in
theorem kX2_keyAt (l : Launch) (lo : Nat) (G : vG) (rs : va_W) (h : Nat → Nat) (np : Nat) (nl : Nat) (len : Nat) (fd : Nat) (lu : Nat) (tu : Nat) (T : Nat → Int32) (C : Nat → Int32) (F : Nat → Int32) (LT : Nat → Int32) (VV : Nat → Int32) (BB : Nat → Int32) (lt : Nat → Int32) (ph : Nat → Int32) (lh : Nat → Int32) (ks : Nat → Int64) (wd : Nat → Int32) (gr : Nat → Int32) (gs : Nat → Int32) (bl : Nat → Int32) (ie : Nat → Int32) (tw : Nat → Int32) (k : Int32) (hfd : fd ≤ 513) : Ml l yX2_keyAt (.code yX2_keyAt prog_4_method_9_code 6 (some .long)) 2 0 0 lo G [.ref (h 2), .int k] (cW G h np nl len fd lu tu T C F LT VV BB lt ph lh ks wd gr gs bl ie tw ++ rs) (fun (r : Int64) (ks1 : (Nat → Int64)) => ((k < 0 ∨ nI fd ≤ k) ∧ r = -1 ∧ ks1 = ks) ∨ (∃ kn, k = nI kn ∧ kn < fd ∧ r = ks1 0 ∧ (rows64 ks1 fd).Perm (rows64 ks fd) ∧ (∀ i, i < fd - kn → (ks1 0).toInt ≤ (ks1 i).toInt) ∧ (∀ i, fd - kn ≤ i → i < fd → (ks1 i).toInt ≤ (ks1 0).toInt))) (fun (ks1 : (Nat → Int64)) => cW G h np nl len fd lu tu T C F LT VV BB lt ph lh ks1 wd gr gs bl ie tw ++ rs) := by
  refine Ml_of (lc := [(0, .ref (h 2)), (1, .int k)]) (by decide +kernel) (Nat.le_of_ble_eq_true rfl) rfl ?_
  intro X cx hXR hXl hr hin
  subst hXl
  have hX := RmX.of hXR
  refine V_iload_n cx 1 rfl dX2_keyAt_0 1 rfl ?_
  refine V_if_lt cx 4 24 rfl dX2_keyAt_1 (by decide) (fun c_1 => ?_) (fun c_1 => ?_)
  · skip
    refine V_ldc2 cx 27 rfl dX2_keyAt_24 cl_X2_90 ?_
    exact V_lreturn cx hr (ks) (Or.inl ⟨Or.inl c_1, rfl, rfl⟩) rfl (by omega) (by omega) dX2_keyAt_27
  · skip
    obtain ⟨kn, hkn, ek⟩ := nI_of c_1
    refine V_iload_n cx 5 rfl dX2_keyAt_4 1 rfl ?_
    refine V_aload_n cx 6 rfl dX2_keyAt_5 0 rfl ?_
    refine GX2_40 cx 2 rfl rfl 9 rfl dX2_keyAt_6 ?_
    refine V_icmp_ge cx 12 24 rfl dX2_keyAt_9 (by decide) (fun c_9 => ?_) (fun c_9 => ?_)
    · skip
      have c_9k := c_9
      rw [ek] at c_9k
      have n_9 : kn ≥ fd := N_ge_t (by omega) (by omega) c_9k
      refine V_ldc2 cx 27 rfl dX2_keyAt_24 cl_X2_90 ?_
      exact V_lreturn cx hr (ks) (Or.inl ⟨Or.inr c_9, rfl, rfl⟩) rfl (by omega) (by omega) dX2_keyAt_27
    · skip
      have c_9k := c_9
      rw [ek] at c_9k
      have n_9 : kn < fd := N_ge_f (by omega) (by omega) c_9k
      refine V_aload_n cx 13 rfl dX2_keyAt_12 0 rfl ?_
      refine GX2_40 cx 2 rfl rfl 16 rfl dX2_keyAt_13 ?_
      refine V_aload_n cx 17 rfl dX2_keyAt_16 0 rfl ?_
      refine GX2_21 cx 2 rfl rfl 20 rfl dX2_keyAt_17 ?_
      refine V_alenJ cx 14 rfl 21 rfl dX2_keyAt_20 ?_
      refine V_icmp_le cx 24 28 rfl dX2_keyAt_21 (by decide) (fun c_21 => ?_) (fun c_21 => ?_)
      · skip
        have n_21 : fd ≤ 513 := N_le_t (by omega) (by omega) c_21
        refine V_aload_n cx 29 rfl dX2_keyAt_28 0 rfl ?_
        refine GX2_40 cx 2 rfl rfl 32 rfl dX2_keyAt_29 ?_
        refine V_iconst (v := nI 2) cx 33 rfl dX2_keyAt_32 (by decide) ?_
        refine V_idiv cx 34 rfl dX2_keyAt_33 (by decide) ?_
        refine V_toi (nI (fd / 2)) (nI_div (by omega) (by omega)) ?_
        refine V_iconst (v := nI 1) cx 35 rfl dX2_keyAt_34 (by decide) ?_
        refine V_isub cx 36 rfl dX2_keyAt_35 ?_
        refine V_istore_n (lc1 := [(2, .int ((nI (fd / 2)) - (nI 1))), (0, .ref (h 2)), (1, .int k)]) cx 37 rfl dX2_keyAt_36 (by decide) rfl ?_
        have loop_37 : ∀ (fuel : Nat) (j : Nat) (g2 : Nat → Int64), (j ≤ fd / 2) → ((rows64 g2 fd).Perm (rows64 ks fd)) → (∀ i, j ≤ i → i < fd → HPP g2 i fd) → j < fuel → V X lo 6 G (Ql X lo G (fun (r : Int64) (ks1 : (Nat → Int64)) => ((k < 0 ∨ nI fd ≤ k) ∧ r = -1 ∧ ks1 = ks) ∨ (∃ kn, k = nI kn ∧ kn < fd ∧ r = ks1 0 ∧ (rows64 ks1 fd).Perm (rows64 ks fd) ∧ (∀ i, i < fd - kn → (ks1 0).toInt ≤ (ks1 i).toInt) ∧ (∀ i, fd - kn ≤ i → i < fd → (ks1 i).toInt ≤ (ks1 0).toInt))) (fun (ks1 : (Nat → Int64)) => cW G h np nl len fd lu tu T C F LT VV BB lt ph lh ks1 wd gr gs bl ie tw ++ rs) 0 0) 0 0 (cW G h np nl len fd lu tu T C F LT VV BB lt ph lh g2 wd gr gs bl ie tw ++ rs) [(2, .int (nI j - nI 1)), (0, .ref (h 2)), (1, .int k)] [] 37 := by
          intro fuel
          induction fuel with
          | zero => intro j g2 hj hp hh hmz; exact absurd hmz (Nat.not_lt_zero _)
          | succ fuel ih_37 =>
            intro j g2 hj hp hh hmz_37
            refine V_iload_n cx 38 rfl dX2_keyAt_37 0 rfl ?_
            refine V_if_lt cx 41 56 rfl dX2_keyAt_38 (by decide) (fun c_38 => ?_) (fun c_38 => ?_)
            · skip
              have ej : j = 0 := nI_subz (by omega) c_38
              refine V_aload_n cx 57 rfl dX2_keyAt_56 1 rfl ?_
              refine GX2_40 cx 2 rfl rfl 60 rfl dX2_keyAt_57 ?_
              refine V_istore_n (lc1 := [(2, .int (nI fd)), (0, .ref (h 2)), (1, .int k)]) cx 61 rfl dX2_keyAt_60 (by decide) rfl ?_
              refine V_iconst (v := nI 0) cx 62 rfl dX2_keyAt_61 (by decide) ?_
              refine V_istore_n (lc1 := [(3, .int (nI 0)), (2, .int (nI fd)), (0, .ref (h 2)), (1, .int k)]) cx 63 rfl dX2_keyAt_62 (by decide) rfl ?_
              have loop_63 : ∀ (fuel : Nat) (t : Nat) (g4 : Nat → Int64), (t ≤ kn) → ((rows64 g4 fd).Perm (rows64 ks fd)) → (∀ i, i < fd - t → HPP g4 i (fd - t)) → (∀ i j, fd - t ≤ i → i < fd → j < fd - t → (g4 i).toInt ≤ (g4 j).toInt) → kn - t < fuel → V X lo 6 G (Ql X lo G (fun (r : Int64) (ks1 : (Nat → Int64)) => ((k < 0 ∨ nI fd ≤ k) ∧ r = -1 ∧ ks1 = ks) ∨ (∃ kn, k = nI kn ∧ kn < fd ∧ r = ks1 0 ∧ (rows64 ks1 fd).Perm (rows64 ks fd) ∧ (∀ i, i < fd - kn → (ks1 0).toInt ≤ (ks1 i).toInt) ∧ (∀ i, fd - kn ≤ i → i < fd → (ks1 i).toInt ≤ (ks1 0).toInt))) (fun (ks1 : (Nat → Int64)) => cW G h np nl len fd lu tu T C F LT VV BB lt ph lh ks1 wd gr gs bl ie tw ++ rs) 0 0) 0 0 (cW G h np nl len fd lu tu T C F LT VV BB lt ph lh g4 wd gr gs bl ie tw ++ rs) [(3, .int (nI t)), (2, .int (nI (fd - t))), (0, .ref (h 2)), (1, .int k)] [] 63 := by
                intro fuel
                induction fuel with
                | zero => intro t g4 ht hp4 hh4 ho4 hmz; exact absurd hmz (Nat.not_lt_zero _)
                | succ fuel ih_63 =>
                  intro t g4 ht hp4 hh4 ho4 hmz_63
                  refine V_iload_n cx 64 rfl dX2_keyAt_63 0 rfl ?_
                  refine V_iload_n cx 65 rfl dX2_keyAt_64 3 rfl ?_
                  refine V_icmp_ge cx 68 111 rfl dX2_keyAt_65 (by decide) (fun c_65 => ?_) (fun c_65 => ?_)
                  · skip
                    rw [ek] at c_65
                    have n_65 : t ≥ kn := N_ge_t (by omega) (by omega) c_65
                    refine V_aload_n cx 112 rfl dX2_keyAt_111 2 rfl ?_
                    refine GX2_21 cx 2 rfl rfl 115 rfl dX2_keyAt_112 ?_
                    refine V_iconst (v := nI 0) cx 116 rfl dX2_keyAt_115 (by decide) ?_
                    refine V_laldN cx 0 (rfl) (by omega) (by decide) 14 rfl 117 rfl dX2_keyAt_116 ?_
                    exact V_lreturn cx hr (g4) (Or.inr ⟨kn, ek, n_9, rfl, hp4, fun i h => heap_min hh4 i (by omega), fun i h1 h2 => ho4 i 0 (by omega) h2 (by omega)⟩) rfl (by omega) (by omega) dX2_keyAt_117
                  · skip
                    rw [ek] at c_65
                    have n_65 : t < kn := N_ge_f (by omega) (by omega) c_65
                    refine V_iinc (v := nI ((fd - t) - 1)) (lc1 := [(2, .int (nI ((fd - t) - 1))), (3, .int (nI t)), (0, .ref (h 2)), (1, .int k)]) cx 71 rfl dX2_keyAt_68 1 rfl (nI_dec (fd - t) 1 (by omega)) (by decide) rfl ?_
                    refine V_aload_n cx 72 rfl dX2_keyAt_71 2 rfl ?_
                    refine GX2_21 cx 2 rfl rfl 75 rfl dX2_keyAt_72 ?_
                    refine V_iconst (v := nI 0) cx 76 rfl dX2_keyAt_75 (by decide) ?_
                    refine V_laldN cx 0 (rfl) (by omega) (by decide) 14 rfl 77 rfl dX2_keyAt_76 ?_
                    refine V_lstore (lc1 := [(4, .long (g4 0)), (2, .int (nI ((fd - t) - 1))), (3, .int (nI t)), (0, .ref (h 2)), (1, .int k)]) cx 79 rfl dX2_keyAt_77 (by decide) rfl ?_
                    refine V_aload_n cx 80 rfl dX2_keyAt_79 3 rfl ?_
                    refine GX2_21 cx 2 rfl rfl 83 rfl dX2_keyAt_80 ?_
                    refine V_iconst (v := nI 0) cx 84 rfl dX2_keyAt_83 (by decide) ?_
                    refine V_aload_n cx 85 rfl dX2_keyAt_84 3 rfl ?_
                    refine GX2_21 cx 2 rfl rfl 88 rfl dX2_keyAt_85 ?_
                    refine V_iload_n cx 89 rfl dX2_keyAt_88 1 rfl ?_
                    refine V_laldN cx ((fd - t) - 1) (rfl) (by omega) (by decide) 14 rfl 90 rfl dX2_keyAt_89 ?_
                    refine V_lastN cx 0 (rfl) (by omega) (by decide) 14 rfl (cW G h np nl len fd lu tu T C F LT VV BB lt ph lh (vp_updL g4 0 (g4 ((fd - t) - 1))) wd gr gs bl ie tw ++ rs) rfl 91 rfl dX2_keyAt_90 ?_
                    refine V_aload_n cx 92 rfl dX2_keyAt_91 3 rfl ?_
                    refine GX2_21 cx 2 rfl rfl 95 rfl dX2_keyAt_92 ?_
                    refine V_iload_n cx 96 rfl dX2_keyAt_95 1 rfl ?_
                    refine V_lload cx 98 rfl dX2_keyAt_96 0 rfl ?_
                    refine V_lastN cx ((fd - t) - 1) (rfl) (by omega) (by decide) 14 rfl (cW G h np nl len fd lu tu T C F LT VV BB lt ph lh (vp_updL (vp_updL g4 0 (g4 ((fd - t) - 1))) ((fd - t) - 1) (g4 0)) wd gr gs bl ie tw ++ rs) rfl 99 rfl dX2_keyAt_98 ?_
                    obtain ⟨gw, hgw⟩ : ∃ gw : Nat → Int64, gw = vp_updL (vp_updL g4 0 (g4 ((fd - t) - 1))) ((fd - t) - 1) (g4 0) := ⟨_, rfl⟩
                    rw [← hgw]
                    have hm := heap_min hh4
                    have gw0 : gw 0 = g4 (fd - t - 1) := by rw [hgw]; unfold vp_updL; by_cases h0 : 0 = fd - t - 1; (rw [if_pos h0, ← h0]); (rw [if_neg h0, if_pos rfl])
                    have gwl : gw (fd - t - 1) = g4 0 := by rw [hgw]; exact updL_s _ _ _
                    have gwo : ∀ i, i ≠ 0 → i ≠ fd - t - 1 → gw i = g4 i := fun i h1 h2 => by rw [hgw, updL_n _ _ h2, updL_n _ _ h1]
                    have hpw : (rows64 gw fd).Perm (rows64 ks fd) := (List.Perm.trans (List.Perm.of_eq (rows_congr (fun i hi => by by_cases e1 : i = fd - t - 1; (rw [if_pos e1, e1]; exact gwl); (rw [if_neg e1]; by_cases e2 : i = 0; (rw [if_pos e2, e2]; exact gw0); (rw [if_neg e2]; exact gwo i e2 e1))))) (perm_sw (n := fd) g4 (i := 0) (j := fd - t - 1) (by omega) (by omega))).trans hp4
                    have hh3 : ∀ i, 0 < i → i < fd - t - 1 → HPP gw i (fd - t - 1) := fun i h1 h2 q hq1 hq2 => by rw [gwo i (by omega) (by omega), gwo q (by omega) (by omega)]; exact hh4 i (by omega) q hq1 (by omega)
                    refine V_aload_n cx 100 rfl dX2_keyAt_99 3 rfl ?_
                    refine V_iconst (v := nI 0) cx 101 rfl dX2_keyAt_100 (by decide) ?_
                    refine V_iload_n cx 102 rfl dX2_keyAt_101 1 rfl ?_
                    refine KX2_92 (As := [.int (nI 0), .int (nI ((fd - t) - 1))]) (rest := []) cx (kX2_sink (xl X) lo G _ h np nl len fd lu tu T C F LT VV BB lt ph lh gw wd gr gs bl ie tw 0 ((fd - t) - 1) fd (by omega) (by omega) (by omega) hh3) hX (by omega) 2 rfl rfl rfl (Nat.le_of_ble_eq_true rfl) 105 0 0 rfl rfl rfl (by omega) (by omega) dX2_keyAt_102 (fun u_2 hw_3 => ?_)
                    obtain ⟨ks1_4, rfl⟩ : ∃ z, z = u_2 := ⟨_, rfl⟩
                    try dsimp only at hw_3
                    obtain ⟨q1, q2, q3⟩ := hw_3
                    have hv := heap_rest (n := fd) (left := fd - t - 1) (by omega) q1 (fun i hi => q2 i (Or.inr hi))
                    have ho5 : ∀ i j, fd - (t + 1) ≤ i → i < fd → j < fd - (t + 1) → (ks1_4 i).toInt ≤ (ks1_4 j).toInt := by
                      intro i j h1 h2 h3
                      obtain ⟨j2, hj2, ej2⟩ := hv j (by omega)
                      rw [ej2, q2 i (Or.inr (by omega))]
                      have gj : ∃ j3, j3 < fd - t ∧ gw j2 = g4 j3 := by
                        by_cases e0 : j2 = 0
                        · exact ⟨fd - t - 1, by omega, by rw [e0]; exact gw0⟩
                        · exact ⟨j2, by omega, gwo j2 e0 (by omega)⟩
                      obtain ⟨j3, hj3, ej3⟩ := gj
                      rw [ej3]
                      by_cases e1 : i = fd - t - 1
                      · rw [e1, gwl]; exact hm j3 hj3
                      · rw [gwo i (by omega) e1]; exact ho4 i j3 (by omega) h2 hj3
                    refine V_iinc (v := nI (t + 1)) (lc1 := [(3, .int (nI (t + 1))), (4, .long (g4 0)), (2, .int (nI ((fd - t) - 1))), (0, .ref (h 2)), (1, .int k)]) cx 108 rfl dX2_keyAt_105 2 rfl (nI_inc t 1) (by decide) rfl ?_
                    refine V_goto cx 63 dX2_keyAt_108 (by decide) ?_
                    refine V.locs [0, 2, 3, 4] rfl ?_
                    exact ih_63 (t + 1) ks1_4 (by omega) (by exact q1.trans hpw) (by exact fun i h => by have := q3 i (Nat.zero_le i) (by omega); rw [show fd - (t + 1) = fd - t - 1 by omega]; exact this) (by exact ho5) (by omega)
              refine V.locs [0, 1, 2, 3] rfl ?_
              exact loop_63 _ 0 g2 (by omega) (by exact hp) (by exact fun i h => hh i (by omega) (by omega)) (by intro i j h1 h2 h3; omega) (Nat.lt_succ_self _)
            · skip
              have ej : 0 < j := nI_subnz c_38
              rw [nI_subN ej]
              refine V_aload_n cx 42 rfl dX2_keyAt_41 1 rfl ?_
              refine V_iload_n cx 43 rfl dX2_keyAt_42 0 rfl ?_
              refine V_aload_n cx 44 rfl dX2_keyAt_43 1 rfl ?_
              refine GX2_40 cx 2 rfl rfl 47 rfl dX2_keyAt_44 ?_
              refine KX2_92 (As := [.int (nI (j - 1)), .int (nI fd)]) (rest := []) cx (kX2_sink (xl X) lo G _ h np nl len fd lu tu T C F LT VV BB lt ph lh g2 wd gr gs bl ie tw (j - 1) fd fd (by omega) (by omega) (by omega) (fun i h1 h2 => hh i (by omega) h2)) hX (by omega) 2 rfl rfl rfl (Nat.le_of_ble_eq_true rfl) 50 0 0 rfl rfl rfl (by omega) (by omega) dX2_keyAt_47 (fun u_6 hw_7 => ?_)
              obtain ⟨ks1_8, rfl⟩ : ∃ z, z = u_6 := ⟨_, rfl⟩
              try dsimp only at hw_7
              obtain ⟨g1, g2x, g3⟩ := hw_7
              refine V_iinc (v := nI (j - 1) - nI 1) (lc1 := [(2, .int (nI (j - 1) - nI 1)), (0, .ref (h 2)), (1, .int k)]) cx 53 rfl dX2_keyAt_50 0 rfl (nI_decR (j - 1)) (by decide) rfl ?_
              refine V_goto cx 37 dX2_keyAt_53 (by decide) ?_
              refine V.locs [0, 1, 2] rfl ?_
              exact ih_37 (j - 1) ks1_8 (by omega) (by exact g1.trans hp) (by exact fun i h1 h2 => g3 i h1 h2) (by omega)
        refine V.locs [0, 1, 2] rfl ?_
        exact loop_37 _ (fd / 2) ks (by omega) (by exact List.Perm.refl _) (by exact fun i h1 h2 c hc hc2 => by omega) (Nat.lt_succ_self _)
      · skip
        have n_21 : fd > 513 := N_le_f (by omega) (by omega) c_21
        omega
