def goodC (text count flags : Int32) : Prop := (1 ≤ SZ text 8 ∧ SZ text 8 ≤ 4) ∧ (nI 1 ≤ count ∧ count ≤ nI 9999) ∧ (nI 1 ≤ flags ∧ flags ≤ nI 7)
def cAddPart (np : Nat) (T : Nat → Int32) (W : Nat → Prop) (text count flags r : Int32) (tu tu1 : Nat) (bl1 ie1 : Nat → Int32) : Prop := goodC text count flags ∧ np < 16 ∧ oI (pwI T text np) = -1 ∧ r = nI np ∧ ∃ t, text = nI t ∧ szN t = SZ text 8 ∧ 10 ^ szN t ≤ t ∧ t < 2 * 10 ^ szN t ∧ (∃ ch nd, TR ch nd bl1 ie1 tu1 (wAdd W t) (wAdd W t)) ∧ tu1 ≤ tu + 4
def xAddPart (np : Nat) (T : Nat → Int32) (text count flags : Int32) (E : String) : Prop := (E = EIAE ∧ ¬ goodC text count flags) ∨ (E = EISE ∧ goodC text count flags ∧ (np = 16 ∨ ¬ oI (pwI T text np) = -1))
def cIsP (np : Nat) (p : Int32) : Prop := ∃ q, q < np ∧ p = nI q
set_option maxHeartbeats 4000000 in
set_option maxRecDepth 100000 in
theorem kX4_addPart (l : Launch) (lo : Nat) (G : vG) (rs : va_W) (h : Nat → Nat) (np : Nat) (nl : Nat) (len : Nat) (fd : Nat) (lu : Nat) (tu : Nat) (T : Nat → Int32) (C : Nat → Int32) (F : Nat → Int32) (LT : Nat → Int32) (VV : Nat → Int32) (BB : Nat → Int32) (lt : Nat → Int32) (ph : Nat → Int32) (lh : Nat → Int32) (ks : Nat → Int64) (wd : Nat → Int32) (gr : Nat → Int32) (gs : Nat → Int32) (bl : Nat → Int32) (ie : Nat → Int32) (tw : Nat → Int32) (text : Int32) (count : Int32) (flags : Int32) (W : Nat → Prop) (hst : l.stackTraces = false) (hnp : np ≤ 16) (htu : tu ≤ 1 + 4 * np) (hT : ∃ ch nd, TR ch nd bl ie tu W W) : Xi l yX4_addPart (.code yX4_addPart prog_1_method_2_code 4 (some .int)) 9 2 12 lo G [.ref (h 0), .int text, .int count, .int flags] (cW G h np nl len fd lu tu T C F LT VV BB lt ph lh ks wd gr gs bl ie tw ++ rs) (xAddPart np T text count flags) (fun (r : Int32) ((tu1, bl1, ie1) : (Nat) × (Nat → Int32) × (Nat → Int32)) => cAddPart np T W text count flags r tu tu1 bl1 ie1) (fun ((tu1, bl1, ie1) : (Nat) × (Nat → Int32) × (Nat → Int32)) => cW G h (np + 1) nl len fd lu tu1 (upd T np text) (upd C np count) (upd F np flags) LT VV BB lt ph lh ks wd gr gs bl1 ie1 tw ++ rs) := by
  refine Xi_of (lc := [(0, .ref (h 0)), (1, .int text), (2, .int count), (3, .int flags)]) (by decide +kernel) (Nat.le_of_ble_eq_true rfl) rfl ?_
  intro X cx hXR hXl hr hout
  subst hXl
  have hX := RmX.of hXR
  refine V_iload_n cx 1 rfl dX4_addPart_0 1 rfl ?_
  refine V_iconst (v := nI 4) cx 2 rfl dX4_addPart_1 (by decide) ?_
  refine KXX4_32 (As := [.int text, .int (nI 4)]) (rest := []) cx (kX4_needText (xl X) lo G _ text 4 hst (by omega)) hX (by omega) rfl rfl (Nat.le_of_ble_eq_true rfl) 5 1 6 rfl rfl rfl (by omega) (by omega) dX4_addPart_2 (vx_leave cx hout (fun E h => Or.inl ⟨h.1, fun g => h.2 g.1⟩) (by omega) (by omega)) (fun u_2 hw_3 => ?_)
  try dsimp only at hw_3
  have hsz := hw_3
  obtain ⟨t, ht0, ht1, ht2, ht3, ht4⟩ := SZ_szN (m := 8) (by decide) (show 0 < SZ text 8 by omega)
  subst ht0
  refine V_iload_n cx 6 rfl dX4_addPart_5 2 rfl ?_
  refine V_iconst (v := nI 1) cx 7 rfl dX4_addPart_6 (by decide) ?_
  refine V_icmp_lt cx 10 17 rfl dX4_addPart_7 (by decide) (fun c_7 => ?_) (fun c_7 => ?_)
  · skip
    exact V_throwS (text := "count is not 1 to 9999") cx hst kl_X4_36 ini_IAE (by decide +kernel) (by decide +kernel) hat2_IAE hatN_IAE hgd_IAE hout hX (by decide) (by omega) (by omega) (Or.inl ⟨rfl, fun g => by first | exact absurd g.2.1.1 (Int32.not_le.mpr c_7) | exact c_14 g.2.1.2 | exact absurd g.2.2.1 (Int32.not_le.mpr c_29) | exact c_35 g.2.2.2⟩) rfl dX4_addPart_17 dX4_addPart_20 dX4_addPart_21 dX4_addPart_23 dX4_addPart_26
  · skip
    refine V_iload_n cx 11 rfl dX4_addPart_10 2 rfl ?_
    refine V_sipush (v := nI 9999) cx 14 rfl dX4_addPart_11 (by decide) ?_
    refine V_icmp_le cx 17 27 rfl dX4_addPart_14 (by decide) (fun c_14 => ?_) (fun c_14 => ?_)
    · skip
      refine V_iload_n cx 28 rfl dX4_addPart_27 3 rfl ?_
      refine V_iconst (v := nI 1) cx 29 rfl dX4_addPart_28 (by decide) ?_
      refine V_icmp_lt cx 32 38 rfl dX4_addPart_29 (by decide) (fun c_29 => ?_) (fun c_29 => ?_)
      · skip
        exact V_throwS (text := "flags are not 1 to 7") cx hst kl_X4_36 ini_IAE (by decide +kernel) (by decide +kernel) hat2_IAE hatN_IAE hgd_IAE hout hX (by decide) (by omega) (by omega) (Or.inl ⟨rfl, fun g => by first | exact absurd g.2.1.1 (Int32.not_le.mpr c_7) | exact c_14 g.2.1.2 | exact absurd g.2.2.1 (Int32.not_le.mpr c_29) | exact c_35 g.2.2.2⟩) rfl dX4_addPart_38 dX4_addPart_41 dX4_addPart_42 dX4_addPart_44 dX4_addPart_47
      · skip
        refine V_iload_n cx 33 rfl dX4_addPart_32 3 rfl ?_
        refine V_bipush (v := nI 7) cx 35 rfl dX4_addPart_33 (by decide) ?_
        refine V_icmp_le cx 38 48 rfl dX4_addPart_35 (by decide) (fun c_35 => ?_) (fun c_35 => ?_)
        · skip
          refine V_aload_n cx 49 rfl dX4_addPart_48 0 rfl ?_
          refine GX4_12 cx 0 rfl rfl 52 rfl dX4_addPart_49 ?_
          refine GX4_45 cx 1 rfl rfl 55 rfl dX4_addPart_52 ?_
          refine V_bipush (v := nI 16) cx 57 rfl dX4_addPart_55 (by decide) ?_
          refine V_icmp_lt cx 60 70 rfl dX4_addPart_57 (by decide) (fun c_57 => ?_) (fun c_57 => ?_)
          · skip
            have n_57 : np < 16 := N_lt_t (by omega) (by omega) c_57
            refine V_aload_n cx 71 rfl dX4_addPart_70 0 rfl ?_
            refine GX4_12 cx 0 rfl rfl 74 rfl dX4_addPart_71 ?_
            refine V_iload_n cx 75 rfl dX4_addPart_74 1 rfl ?_
            refine KX4_54 (As := [.int (nI t)]) (rest := []) cx (kX1_partWith (xl X) lo G _ h np nl len fd lu tu T C F LT VV BB lt ph lh ks wd gr gs bl ie tw (nI t) (by omega)) hX (by omega) 1 rfl rfl rfl (Nat.le_of_ble_eq_true rfl) 78 1 6 rfl rfl rfl (by omega) (by omega) dX4_addPart_75 (fun r_4 u_5 hw_6 => ?_)
            try dsimp only at hw_6
            subst hw_6
            refine V_iconst (v := (-1)) cx 79 rfl dX4_addPart_78 (by decide) ?_
            refine V_icmp_eq cx 82 92 rfl dX4_addPart_79 (by decide) (fun c_79 => ?_) (fun c_79 => ?_)
            · skip
              refine V_aload_n cx 93 rfl dX4_addPart_92 0 rfl ?_
              refine GX4_12 cx 0 rfl rfl 96 rfl dX4_addPart_93 ?_
              refine V_iload_n cx 97 rfl dX4_addPart_96 1 rfl ?_
              refine V_iload_n cx 98 rfl dX4_addPart_97 2 rfl ?_
              refine V_iload_n cx 99 rfl dX4_addPart_98 3 rfl ?_
              refine KX4_60 (As := [.int (nI t), .int count, .int flags]) (rest := []) cx (kX1_enterPart (xl X) lo G _ h np nl len fd lu tu T C F LT VV BB lt ph lh ks wd gr gs bl ie tw t count flags W (by omega) ⟨by omega, by omega⟩ ht2 ht3 (by omega) hT) hX (by omega) 1 rfl rfl rfl (Nat.le_of_ble_eq_true rfl) 102 1 6 rfl rfl rfl (by omega) (by omega) dX4_addPart_99 (fun r_7 u_8 hw_9 => ?_)
              obtain ⟨tu1_10, bl1_11, ie1_12⟩ := u_8
              try dsimp only at hw_9
              obtain ⟨hw_9, hp_13⟩ := hw_9
              subst hw_9
              exact V_ireturnX cx hr (tu1_10, bl1_11, ie1_12) (⟨⟨hsz, ⟨Int32.not_lt.mp c_7, c_14⟩, ⟨Int32.not_lt.mp c_29, c_35⟩⟩, n_57, c_79, rfl, t, rfl, ht1, ht2, ht3, hp_13⟩) rfl (by omega) (by omega) dX4_addPart_102
            · skip
              exact V_throwS (text := "there is a part with these letters") cx hst kl_X4_49 ini_ISE (by decide +kernel) (by decide +kernel) hat2_ISE hatN_ISE hgd_ISE hout hX (by decide) (by omega) (by omega) (Or.inr ⟨rfl, ⟨hsz, ⟨Int32.not_lt.mp c_7, c_14⟩, ⟨Int32.not_lt.mp c_29, c_35⟩⟩, Or.inr c_79⟩) rfl dX4_addPart_82 dX4_addPart_85 dX4_addPart_86 dX4_addPart_88 dX4_addPart_91
          · skip
            have n_57 : np ≥ 16 := N_lt_f (by omega) (by omega) c_57
            exact V_throwS (text := "there are 16 parts") cx hst kl_X4_49 ini_ISE (by decide +kernel) (by decide +kernel) hat2_ISE hatN_ISE hgd_ISE hout hX (by decide) (by omega) (by omega) (Or.inr ⟨rfl, ⟨hsz, ⟨Int32.not_lt.mp c_7, c_14⟩, ⟨Int32.not_lt.mp c_29, c_35⟩⟩, Or.inl (by omega)⟩) rfl dX4_addPart_60 dX4_addPart_63 dX4_addPart_64 dX4_addPart_66 dX4_addPart_69
        · skip
          exact V_throwS (text := "flags are not 1 to 7") cx hst kl_X4_36 ini_IAE (by decide +kernel) (by decide +kernel) hat2_IAE hatN_IAE hgd_IAE hout hX (by decide) (by omega) (by omega) (Or.inl ⟨rfl, fun g => by first | exact absurd g.2.1.1 (Int32.not_le.mpr c_7) | exact c_14 g.2.1.2 | exact absurd g.2.2.1 (Int32.not_le.mpr c_29) | exact c_35 g.2.2.2⟩) rfl dX4_addPart_38 dX4_addPart_41 dX4_addPart_42 dX4_addPart_44 dX4_addPart_47
    · skip
      exact V_throwS (text := "count is not 1 to 9999") cx hst kl_X4_36 ini_IAE (by decide +kernel) (by decide +kernel) hat2_IAE hatN_IAE hgd_IAE hout hX (by decide) (by omega) (by omega) (Or.inl ⟨rfl, fun g => by first | exact absurd g.2.1.1 (Int32.not_le.mpr c_7) | exact c_14 g.2.1.2 | exact absurd g.2.2.1 (Int32.not_le.mpr c_29) | exact c_35 g.2.2.2⟩) rfl dX4_addPart_17 dX4_addPart_20 dX4_addPart_21 dX4_addPart_23 dX4_addPart_26
set_option maxHeartbeats 4000000 in
set_option maxRecDepth 100000 in
theorem kX4_setFlags (l : Launch) (lo : Nat) (G : vG) (rs : va_W) (h : Nat → Nat) (np : Nat) (nl : Nat) (len : Nat) (fd : Nat) (lu : Nat) (tu : Nat) (T : Nat → Int32) (C : Nat → Int32) (F : Nat → Int32) (LT : Nat → Int32) (VV : Nat → Int32) (BB : Nat → Int32) (lt : Nat → Int32) (ph : Nat → Int32) (lh : Nat → Int32) (ks : Nat → Int64) (wd : Nat → Int32) (gr : Nat → Int32) (gs : Nat → Int32) (bl : Nat → Int32) (ie : Nat → Int32) (tw : Nat → Int32) (part : Int32) (flags : Int32) (hst : l.stackTraces = false) (hnp : np ≤ 16) : Xi l yX4_setFlags (.code yX4_setFlags prog_1_method_3_code 4 (some .int)) 9 2 12 lo G [.ref (h 0), .int part, .int flags] (cW G h np nl len fd lu tu T C F LT VV BB lt ph lh ks wd gr gs bl ie tw ++ rs) (fun E => (E = EIOB ∧ ¬ cIsP np part) ∨ (E = EIAE ∧ cIsP np part ∧ ¬ (nI 0 ≤ flags ∧ flags ≤ nI 7))) (fun (r : Int32) (F1 : (Nat → Int32)) => ∃ q, q < np ∧ part = nI q ∧ (nI 0 ≤ flags ∧ flags ≤ nI 7) ∧ r = F q ∧ F1 = upd F q flags) (fun (F1 : (Nat → Int32)) => cW G h np nl len fd lu tu T C F1 LT VV BB lt ph lh ks wd gr gs bl ie tw ++ rs) := by
  refine Xi_of (lc := [(0, .ref (h 0)), (1, .int part), (2, .int flags)]) (by decide +kernel) (Nat.le_of_ble_eq_true rfl) rfl ?_
  intro X cx hXR hXl hr hout
  subst hXl
  have hX := RmX.of hXR
  refine V_aload_n cx 1 rfl dX4_setFlags_0 0 rfl ?_
  refine V_iload_n cx 2 rfl dX4_setFlags_1 1 rfl ?_
  refine KXX4_64 (As := [.int part]) (rest := []) cx (kX4_needPart (xl X) lo G _ h np nl len fd lu tu T C F LT VV BB lt ph lh ks wd gr gs bl ie tw part hst (by omega)) hX (by omega) 0 rfl rfl rfl (Nat.le_of_ble_eq_true rfl) 5 1 6 rfl rfl rfl (by omega) (by omega) dX4_setFlags_2 (vx_leave cx hout (fun E h => Or.inl h) (by omega) (by omega)) (fun u_2 hw_3 => ?_)
  try dsimp only at hw_3
  obtain ⟨q, hq, eq⟩ := hw_3
  subst eq
  refine V_iload_n cx 6 rfl dX4_setFlags_5 2 rfl ?_
  refine V_if_lt cx 9 15 rfl dX4_setFlags_6 (by decide) (fun c_6 => ?_) (fun c_6 => ?_)
  · skip
    exact V_throwS (text := "flags are not 0 to 7") cx hst kl_X4_36 ini_IAE (by decide +kernel) (by decide +kernel) hat2_IAE hatN_IAE hgd_IAE hout hX (by decide) (by omega) (by omega) (Or.inr ⟨rfl, ⟨q, hq, rfl⟩, fun g => by first | exact absurd g.1 (Int32.not_le.mpr c_6) | exact c_12 g.2⟩) rfl dX4_setFlags_15 dX4_setFlags_18 dX4_setFlags_19 dX4_setFlags_21 dX4_setFlags_24
  · skip
    refine V_iload_n cx 10 rfl dX4_setFlags_9 2 rfl ?_
    refine V_bipush (v := nI 7) cx 12 rfl dX4_setFlags_10 (by decide) ?_
    refine V_icmp_le cx 15 25 rfl dX4_setFlags_12 (by decide) (fun c_12 => ?_) (fun c_12 => ?_)
    · skip
      refine V_aload_n cx 26 rfl dX4_setFlags_25 0 rfl ?_
      refine GX4_12 cx 0 rfl rfl 29 rfl dX4_setFlags_26 ?_
      refine GX4_70 cx 1 rfl rfl 32 rfl dX4_setFlags_29 ?_
      refine V_iload_n cx 33 rfl dX4_setFlags_32 1 rfl ?_
      refine V_ialdN cx q (rfl) (by omega) (by decide) 7 rfl 34 rfl dX4_setFlags_33 ?_
      refine V_istore_n (lc1 := [(3, .int (F q)), (0, .ref (h 0)), (1, .int (nI q)), (2, .int flags)]) cx 35 rfl dX4_setFlags_34 (by decide) rfl ?_
      refine V_aload_n cx 36 rfl dX4_setFlags_35 1 rfl ?_
      refine GX4_12 cx 0 rfl rfl 39 rfl dX4_setFlags_36 ?_
      refine GX4_70 cx 1 rfl rfl 42 rfl dX4_setFlags_39 ?_
      refine V_iload_n cx 43 rfl dX4_setFlags_42 2 rfl ?_
      refine V_iload_n cx 44 rfl dX4_setFlags_43 3 rfl ?_
      refine V_iastN cx q (rfl) (by omega) (by decide) 7 rfl (cW G h np nl len fd lu tu T C (upd F q flags) LT VV BB lt ph lh ks wd gr gs bl ie tw ++ rs) rfl 45 rfl dX4_setFlags_44 ?_
      refine V_iload_n cx 46 rfl dX4_setFlags_45 0 rfl ?_
      exact V_ireturnX cx hr (upd F q flags) (⟨q, hq, rfl, ⟨Int32.not_lt.mp c_6, c_12⟩, rfl, rfl⟩) rfl (by omega) (by omega) dX4_setFlags_46
    · skip
      exact V_throwS (text := "flags are not 0 to 7") cx hst kl_X4_36 ini_IAE (by decide +kernel) (by decide +kernel) hat2_IAE hatN_IAE hgd_IAE hout hX (by decide) (by omega) (by omega) (Or.inr ⟨rfl, ⟨q, hq, rfl⟩, fun g => by first | exact absurd g.1 (Int32.not_le.mpr c_6) | exact c_12 g.2⟩) rfl dX4_setFlags_15 dX4_setFlags_18 dX4_setFlags_19 dX4_setFlags_21 dX4_setFlags_24
set_option maxHeartbeats 4000000 in
set_option maxRecDepth 100000 in
theorem kX4_addLink (l : Launch) (lo : Nat) (G : vG) (rs : va_W) (h : Nat → Nat) (np : Nat) (nl : Nat) (len : Nat) (fd : Nat) (lu : Nat) (tu : Nat) (T : Nat → Int32) (C : Nat → Int32) (F : Nat → Int32) (LT : Nat → Int32) (VV : Nat → Int32) (BB : Nat → Int32) (lt : Nat → Int32) (ph : Nat → Int32) (lh : Nat → Int32) (ks : Nat → Int64) (wd : Nat → Int32) (gr : Nat → Int32) (gs : Nat → Int32) (bl : Nat → Int32) (ie : Nat → Int32) (tw : Nat → Int32) (text : Int32) (hst : l.stackTraces = false) (hnl : nl ≤ 6) : Xi l yX4_addLink (.code yX4_addLink prog_1_method_4_code 2 (some .int)) 9 2 12 lo G [.ref (h 0), .int text] (cW G h np nl len fd lu tu T C F LT VV BB lt ph lh ks wd gr gs bl ie tw ++ rs) (fun E => (E = EIAE ∧ ¬ (1 ≤ SZ text 8 ∧ SZ text 8 ≤ 2)) ∨ (E = EISE ∧ (1 ≤ SZ text 8 ∧ SZ text 8 ≤ 2) ∧ (nl = 6 ∨ ¬ oI (pwI LT text nl) = -1))) (fun (r : Int32) (_ : Unit) => (1 ≤ SZ text 8 ∧ SZ text 8 ≤ 2) ∧ nl < 6 ∧ oI (pwI LT text nl) = -1 ∧ r = nI nl) (fun (_ : Unit) => cW G h np (nl + 1) len fd lu tu T C F (upd LT nl text) VV BB lt ph lh ks wd gr gs bl ie tw ++ rs) := by
  refine Xi_of (lc := [(0, .ref (h 0)), (1, .int text)]) (by decide +kernel) (Nat.le_of_ble_eq_true rfl) rfl ?_
  intro X cx hXR hXl hr hout
  subst hXl
  have hX := RmX.of hXR
  refine V_iload_n cx 1 rfl dX4_addLink_0 1 rfl ?_
  refine V_iconst (v := nI 2) cx 2 rfl dX4_addLink_1 (by decide) ?_
  refine KXX4_32 (As := [.int text, .int (nI 2)]) (rest := []) cx (kX4_needText (xl X) lo G _ text 2 hst (by omega)) hX (by omega) rfl rfl (Nat.le_of_ble_eq_true rfl) 5 1 6 rfl rfl rfl (by omega) (by omega) dX4_addLink_2 (vx_leave cx hout (fun E h => Or.inl h) (by omega) (by omega)) (fun u_2 hw_3 => ?_)
  try dsimp only at hw_3
  have hsz := hw_3
  refine V_aload_n cx 6 rfl dX4_addLink_5 0 rfl ?_
  refine GX4_12 cx 0 rfl rfl 9 rfl dX4_addLink_6 ?_
  refine GX4_74 cx 1 rfl rfl 12 rfl dX4_addLink_9 ?_
  refine V_bipush (v := nI 6) cx 14 rfl dX4_addLink_12 (by decide) ?_
  refine V_icmp_lt cx 17 27 rfl dX4_addLink_14 (by decide) (fun c_14 => ?_) (fun c_14 => ?_)
  · skip
    have n_14 : nl < 6 := N_lt_t (by omega) (by omega) c_14
    refine V_aload_n cx 28 rfl dX4_addLink_27 0 rfl ?_
    refine GX4_12 cx 0 rfl rfl 31 rfl dX4_addLink_28 ?_
    refine V_iload_n cx 32 rfl dX4_addLink_31 1 rfl ?_
    refine KX4_79 (As := [.int text]) (rest := []) cx (kX1_linkWith (xl X) lo G _ h np nl len fd lu tu T C F LT VV BB lt ph lh ks wd gr gs bl ie tw text (by omega)) hX (by omega) 1 rfl rfl rfl (Nat.le_of_ble_eq_true rfl) 35 1 6 rfl rfl rfl (by omega) (by omega) dX4_addLink_32 (fun r_4 u_5 hw_6 => ?_)
    try dsimp only at hw_6
    subst hw_6
    refine V_iconst (v := (-1)) cx 36 rfl dX4_addLink_35 (by decide) ?_
    refine V_icmp_eq cx 39 49 rfl dX4_addLink_36 (by decide) (fun c_36 => ?_) (fun c_36 => ?_)
    · skip
      refine V_aload_n cx 50 rfl dX4_addLink_49 0 rfl ?_
      refine GX4_12 cx 0 rfl rfl 53 rfl dX4_addLink_50 ?_
      refine V_iload_n cx 54 rfl dX4_addLink_53 1 rfl ?_
      refine KX4_84 (As := [.int text]) (rest := []) cx (kX1_enterLink (xl X) lo G _ h np nl len fd lu tu T C F LT VV BB lt ph lh ks wd gr gs bl ie tw text (by omega)) hX (by omega) 1 rfl rfl rfl (Nat.le_of_ble_eq_true rfl) 57 1 6 rfl rfl rfl (by omega) (by omega) dX4_addLink_54 (fun r_7 u_8 hw_9 => ?_)
      try dsimp only at hw_9
      subst hw_9
      exact V_ireturnX cx hr () (⟨hsz, n_14, c_36, rfl⟩) rfl (by omega) (by omega) dX4_addLink_57
    · skip
      exact V_throwS (text := "there is a link with these letters") cx hst kl_X4_49 ini_ISE (by decide +kernel) (by decide +kernel) hat2_ISE hatN_ISE hgd_ISE hout hX (by decide) (by omega) (by omega) (Or.inr ⟨rfl, hsz, Or.inr c_36⟩) rfl dX4_addLink_39 dX4_addLink_42 dX4_addLink_43 dX4_addLink_45 dX4_addLink_48
  · skip
    have n_14 : nl ≥ 6 := N_lt_f (by omega) (by omega) c_14
    exact V_throwS (text := "there are 6 links") cx hst kl_X4_49 ini_ISE (by decide +kernel) (by decide +kernel) hat2_ISE hatN_ISE hgd_ISE hout hX (by decide) (by omega) (by omega) (Or.inr ⟨rfl, hsz, Or.inl (by omega)⟩) rfl dX4_addLink_17 dX4_addLink_20 dX4_addLink_21 dX4_addLink_23 dX4_addLink_26
set_option maxHeartbeats 4000000 in
set_option maxRecDepth 100000 in
theorem kX4_veto (l : Launch) (lo : Nat) (G : vG) (rs : va_W) (h : Nat → Nat) (np : Nat) (nl : Nat) (len : Nat) (fd : Nat) (lu : Nat) (tu : Nat) (T : Nat → Int32) (C : Nat → Int32) (F : Nat → Int32) (LT : Nat → Int32) (VV : Nat → Int32) (BB : Nat → Int32) (lt : Nat → Int32) (ph : Nat → Int32) (lh : Nat → Int32) (ks : Nat → Int64) (wd : Nat → Int32) (gr : Nat → Int32) (gs : Nat → Int32) (bl : Nat → Int32) (ie : Nat → Int32) (tw : Nat → Int32) (part : Int32) (next : Int32) (b : Bool) (hst : l.stackTraces = false) (hnp : np ≤ 16) (hz : ∀ i, ∃ bb : Bool, VV i = bI bb) : Xi l yX4_veto (.code yX4_veto prog_1_method_5_code 6 (some .boolean)) 9 2 12 lo G [.ref (h 0), .int part, .int next, .int (bI b)] (cW G h np nl len fd lu tu T C F LT VV BB lt ph lh ks wd gr gs bl ie tw ++ rs) (fun E => E = EIOB ∧ ¬ (cIsP np part ∧ cIsP np next)) (fun (r : Int32) (VV1 : (Nat → Int32)) => ∃ p q, p < np ∧ q < np ∧ part = nI p ∧ next = nI q ∧ r = VV (p * 16 + q) ∧ VV1 = upd VV (p * 16 + q) (bI b)) (fun (VV1 : (Nat → Int32)) => cW G h np nl len fd lu tu T C F LT VV1 BB lt ph lh ks wd gr gs bl ie tw ++ rs) := by
  refine Xi_of (lc := [(0, .ref (h 0)), (1, .int part), (2, .int next), (3, .int (bI b))]) (by decide +kernel) (Nat.le_of_ble_eq_true rfl) rfl ?_
  intro X cx hXR hXl hr hout
  subst hXl
  have hX := RmX.of hXR
  refine V_aload_n cx 1 rfl dX4_veto_0 0 rfl ?_
  refine V_iload_n cx 2 rfl dX4_veto_1 1 rfl ?_
  refine KXX4_64 (As := [.int part]) (rest := []) cx (kX4_needPart (xl X) lo G _ h np nl len fd lu tu T C F LT VV BB lt ph lh ks wd gr gs bl ie tw part hst (by omega)) hX (by omega) 0 rfl rfl rfl (Nat.le_of_ble_eq_true rfl) 5 1 6 rfl rfl rfl (by omega) (by omega) dX4_veto_2 (vx_leave cx hout (fun E h => ⟨h.1, fun g => h.2 g.1⟩) (by omega) (by omega)) (fun u_2 hw_3 => ?_)
  try dsimp only at hw_3
  obtain ⟨p, hp, ep⟩ := hw_3
  subst ep
  refine V_aload_n cx 6 rfl dX4_veto_5 0 rfl ?_
  refine V_iload_n cx 7 rfl dX4_veto_6 2 rfl ?_
  refine KXX4_64 (As := [.int next]) (rest := []) cx (kX4_needPart (xl X) lo G _ h np nl len fd lu tu T C F LT VV BB lt ph lh ks wd gr gs bl ie tw next hst (by omega)) hX (by omega) 0 rfl rfl rfl (Nat.le_of_ble_eq_true rfl) 10 2 12 rfl rfl rfl (by omega) (by omega) dX4_veto_7 (vx_leave cx hout (fun E h => ⟨h.1, fun g => h.2 g.2⟩) (by omega) (by omega)) (fun u_5 hw_6 => ?_)
  try dsimp only at hw_6
  obtain ⟨q, hq, eq⟩ := hw_6
  subst eq
  refine V_iload_n cx 11 rfl dX4_veto_10 1 rfl ?_
  refine V_bipush (v := nI 16) cx 13 rfl dX4_veto_11 (by decide) ?_
  refine V_imul cx 14 rfl dX4_veto_13 ?_
  refine V_toi (nI (p * 16)) (nI_mulN _ _) ?_
  refine V_iload_n cx 15 rfl dX4_veto_14 2 rfl ?_
  refine V_iadd cx 16 rfl dX4_veto_15 ?_
  refine V_toi (nI ((p * 16) + q)) (nI_add _ _) ?_
  refine V_istore (lc1 := [(4, .int (nI ((p * 16) + q))), (0, .ref (h 0)), (1, .int (nI p)), (2, .int (nI q)), (3, .int (bI b))]) cx 18 rfl dX4_veto_16 (by decide) rfl ?_
  refine V_aload_n cx 19 rfl dX4_veto_18 1 rfl ?_
  refine GX4_12 cx 0 rfl rfl 22 rfl dX4_veto_19 ?_
  refine GX4_87 cx 1 rfl rfl 25 rfl dX4_veto_22 ?_
  refine V_iload cx 27 rfl dX4_veto_25 0 rfl ?_
  refine V_zaldN cx ((p * 16) + q) (rfl) (by omega) (by decide) 9 rfl 28 rfl dX4_veto_27 ?_
  refine V_istore (lc1 := [(5, .int (VV ((p * 16) + q))), (4, .int (nI ((p * 16) + q))), (0, .ref (h 0)), (1, .int (nI p)), (2, .int (nI q)), (3, .int (bI b))]) cx 30 rfl dX4_veto_28 (by decide) rfl ?_
  refine V_aload_n cx 31 rfl dX4_veto_30 2 rfl ?_
  refine GX4_12 cx 0 rfl rfl 34 rfl dX4_veto_31 ?_
  refine GX4_87 cx 1 rfl rfl 37 rfl dX4_veto_34 ?_
  refine V_iload cx 39 rfl dX4_veto_37 1 rfl ?_
  refine V_iload_n cx 40 rfl dX4_veto_39 5 rfl ?_
  refine V_zastN cx ((p * 16) + q) (rfl) (by exact bI_nar _) (by omega) (by decide) 9 rfl (cW G h np nl len fd lu tu T C F LT (upd VV ((p * 16) + q) (bI b)) BB lt ph lh ks wd gr gs bl ie tw ++ rs) rfl 41 rfl dX4_veto_40 ?_
  refine V_iload cx 43 rfl dX4_veto_41 0 rfl ?_
  exact V_zreturnX cx hr (by obtain ⟨bb, hbb⟩ := hz (p * 16 + q); rw [hbb]; exact bI_z _) (upd VV ((p * 16) + q) (bI b)) (⟨p, q, hp, hq, rfl, rfl, rfl, rfl⟩) rfl (by omega) (by omega) dX4_veto_43
set_option maxHeartbeats 4000000 in
set_option maxRecDepth 100000 in
theorem kX4_bar (l : Launch) (lo : Nat) (G : vG) (rs : va_W) (h : Nat → Nat) (np : Nat) (nl : Nat) (len : Nat) (fd : Nat) (lu : Nat) (tu : Nat) (T : Nat → Int32) (C : Nat → Int32) (F : Nat → Int32) (LT : Nat → Int32) (VV : Nat → Int32) (BB : Nat → Int32) (lt : Nat → Int32) (ph : Nat → Int32) (lh : Nat → Int32) (ks : Nat → Int64) (wd : Nat → Int32) (gr : Nat → Int32) (gs : Nat → Int32) (bl : Nat → Int32) (ie : Nat → Int32) (tw : Nat → Int32) (part : Int32) (next : Int32) (b : Bool) (hst : l.stackTraces = false) (hnp : np ≤ 16) (hnl : nl ≤ 6) (hz : ∀ i, ∃ bb : Bool, BB i = bI bb) : Xi l yX4_bar (.code yX4_bar prog_1_method_6_code 6 (some .boolean)) 9 2 12 lo G [.ref (h 0), .int part, .int next, .int (bI b)] (cW G h np nl len fd lu tu T C F LT VV BB lt ph lh ks wd gr gs bl ie tw ++ rs) (fun E => E = EIOB ∧ ¬ (cIsP np part ∧ cIsP nl next)) (fun (r : Int32) (BB1 : (Nat → Int32)) => ∃ p q, p < np ∧ q < nl ∧ part = nI p ∧ next = nI q ∧ r = BB (p * 6 + q) ∧ BB1 = upd BB (p * 6 + q) (bI b)) (fun (BB1 : (Nat → Int32)) => cW G h np nl len fd lu tu T C F LT VV BB1 lt ph lh ks wd gr gs bl ie tw ++ rs) := by
  refine Xi_of (lc := [(0, .ref (h 0)), (1, .int part), (2, .int next), (3, .int (bI b))]) (by decide +kernel) (Nat.le_of_ble_eq_true rfl) rfl ?_
  intro X cx hXR hXl hr hout
  subst hXl
  have hX := RmX.of hXR
  refine V_aload_n cx 1 rfl dX4_bar_0 0 rfl ?_
  refine V_iload_n cx 2 rfl dX4_bar_1 1 rfl ?_
  refine KXX4_64 (As := [.int part]) (rest := []) cx (kX4_needPart (xl X) lo G _ h np nl len fd lu tu T C F LT VV BB lt ph lh ks wd gr gs bl ie tw part hst (by omega)) hX (by omega) 0 rfl rfl rfl (Nat.le_of_ble_eq_true rfl) 5 1 6 rfl rfl rfl (by omega) (by omega) dX4_bar_2 (vx_leave cx hout (fun E h => ⟨h.1, fun g => h.2 g.1⟩) (by omega) (by omega)) (fun u_2 hw_3 => ?_)
  try dsimp only at hw_3
  obtain ⟨p, hp, ep⟩ := hw_3
  subst ep
  refine V_iload_n cx 6 rfl dX4_bar_5 2 rfl ?_
  refine V_if_lt cx 9 20 rfl dX4_bar_6 (by decide) (fun c_6 => ?_) (fun c_6 => ?_)
  · skip
    exact V_throwS (text := "no such link") cx hst kl_X4_91 ini_IOB (by decide +kernel) (by decide +kernel) hat2_IOB hatN_IOB hgd_IOB hout hX (by decide) (by omega) (by omega) (⟨rfl, fun g => by obtain ⟨q2, g1, g2⟩ := g.2; rw [g2] at c_6; exact nI_pos (show q2 < 2 ^ 31 by omega) c_6⟩) rfl dX4_bar_20 dX4_bar_23 dX4_bar_24 dX4_bar_26 dX4_bar_29
  · skip
    obtain ⟨q, hq, eq⟩ := nI_of c_6
    subst eq
    refine V_iload_n cx 10 rfl dX4_bar_9 2 rfl ?_
    refine V_aload_n cx 11 rfl dX4_bar_10 0 rfl ?_
    refine GX4_12 cx 0 rfl rfl 14 rfl dX4_bar_11 ?_
    refine GX4_74 cx 1 rfl rfl 17 rfl dX4_bar_14 ?_
    refine V_icmp_lt cx 20 30 rfl dX4_bar_17 (by decide) (fun c_17 => ?_) (fun c_17 => ?_)
    · skip
      have n_17 : q < nl := N_lt_t (by omega) (by omega) c_17
      refine V_iload_n cx 31 rfl dX4_bar_30 1 rfl ?_
      refine V_bipush (v := nI 6) cx 33 rfl dX4_bar_31 (by decide) ?_
      refine V_imul cx 34 rfl dX4_bar_33 ?_
      refine V_toi (nI (p * 6)) (nI_mulN _ _) ?_
      refine V_iload_n cx 35 rfl dX4_bar_34 2 rfl ?_
      refine V_iadd cx 36 rfl dX4_bar_35 ?_
      refine V_toi (nI ((p * 6) + q)) (nI_add _ _) ?_
      refine V_istore (lc1 := [(4, .int (nI ((p * 6) + q))), (0, .ref (h 0)), (1, .int (nI p)), (2, .int (nI q)), (3, .int (bI b))]) cx 38 rfl dX4_bar_36 (by decide) rfl ?_
      refine V_aload_n cx 39 rfl dX4_bar_38 1 rfl ?_
      refine GX4_12 cx 0 rfl rfl 42 rfl dX4_bar_39 ?_
      refine GX4_96 cx 1 rfl rfl 45 rfl dX4_bar_42 ?_
      refine V_iload cx 47 rfl dX4_bar_45 0 rfl ?_
      refine V_zaldN cx ((p * 6) + q) (rfl) (by omega) (by decide) 10 rfl 48 rfl dX4_bar_47 ?_
      refine V_istore (lc1 := [(5, .int (BB ((p * 6) + q))), (4, .int (nI ((p * 6) + q))), (0, .ref (h 0)), (1, .int (nI p)), (2, .int (nI q)), (3, .int (bI b))]) cx 50 rfl dX4_bar_48 (by decide) rfl ?_
      refine V_aload_n cx 51 rfl dX4_bar_50 2 rfl ?_
      refine GX4_12 cx 0 rfl rfl 54 rfl dX4_bar_51 ?_
      refine GX4_96 cx 1 rfl rfl 57 rfl dX4_bar_54 ?_
      refine V_iload cx 59 rfl dX4_bar_57 1 rfl ?_
      refine V_iload_n cx 60 rfl dX4_bar_59 5 rfl ?_
      refine V_zastN cx ((p * 6) + q) (rfl) (by exact bI_nar _) (by omega) (by decide) 10 rfl (cW G h np nl len fd lu tu T C F LT VV (upd BB ((p * 6) + q) (bI b)) lt ph lh ks wd gr gs bl ie tw ++ rs) rfl 61 rfl dX4_bar_60 ?_
      refine V_iload cx 63 rfl dX4_bar_61 0 rfl ?_
      exact V_zreturnX cx hr (by obtain ⟨bb, hbb⟩ := hz (p * 6 + q); rw [hbb]; exact bI_z _) (upd BB ((p * 6) + q) (bI b)) (⟨p, q, hp, n_17, rfl, rfl, rfl, rfl⟩) rfl (by omega) (by omega) dX4_bar_63
    · skip
      have n_17 : q ≥ nl := N_lt_f (by omega) (by omega) c_17
      exact V_throwS (text := "no such link") cx hst kl_X4_91 ini_IOB (by decide +kernel) (by decide +kernel) hat2_IOB hatN_IOB hgd_IOB hout hX (by decide) (by omega) (by omega) (⟨rfl, fun g => by obtain ⟨q2, g1, g2⟩ := g.2; have := nI_inj (by omega) (by omega) g2; omega⟩) rfl dX4_bar_20 dX4_bar_23 dX4_bar_24 dX4_bar_26 dX4_bar_29
set_option maxHeartbeats 4000000 in
set_option maxRecDepth 100000 in
theorem kX4_parts (l : Launch) (lo : Nat) (G : vG) (rs : va_W) (h : Nat → Nat) (np : Nat) (nl : Nat) (len : Nat) (fd : Nat) (lu : Nat) (tu : Nat) (T : Nat → Int32) (C : Nat → Int32) (F : Nat → Int32) (LT : Nat → Int32) (VV : Nat → Int32) (BB : Nat → Int32) (lt : Nat → Int32) (ph : Nat → Int32) (lh : Nat → Int32) (ks : Nat → Int64) (wd : Nat → Int32) (gr : Nat → Int32) (gs : Nat → Int32) (bl : Nat → Int32) (ie : Nat → Int32) (tw : Nat → Int32) : Mi l yX4_parts (.code yX4_parts prog_1_method_7_code 1 (some .int)) 9 0 0 lo G [.ref (h 0)] (cW G h np nl len fd lu tu T C F LT VV BB lt ph lh ks wd gr gs bl ie tw ++ rs) (fun (r : Int32) (_ : Unit) => r = nI np) (fun (_ : Unit) => cW G h np nl len fd lu tu T C F LT VV BB lt ph lh ks wd gr gs bl ie tw ++ rs) := by
  refine Mi_of (lc := [(0, .ref (h 0))]) (by decide +kernel) (Nat.le_of_ble_eq_true rfl) rfl ?_
  intro X cx hXR hXl hr hin
  subst hXl
  have hX := RmX.of hXR
  refine V_aload_n cx 1 rfl dX4_parts_0 0 rfl ?_
  refine GX4_12 cx 0 rfl rfl 4 rfl dX4_parts_1 ?_
  refine GX4_45 cx 1 rfl rfl 7 rfl dX4_parts_4 ?_
  exact V_ireturn cx hr () (by first | rfl | trivial) rfl (by omega) (by omega) dX4_parts_7
set_option maxHeartbeats 4000000 in
set_option maxRecDepth 100000 in
theorem kX4_learned (l : Launch) (lo : Nat) (G : vG) (rs : va_W) (h : Nat → Nat) (np : Nat) (nl : Nat) (len : Nat) (fd : Nat) (lu : Nat) (tu : Nat) (T : Nat → Int32) (C : Nat → Int32) (F : Nat → Int32) (LT : Nat → Int32) (VV : Nat → Int32) (BB : Nat → Int32) (lt : Nat → Int32) (ph : Nat → Int32) (lh : Nat → Int32) (ks : Nat → Int64) (wd : Nat → Int32) (gr : Nat → Int32) (gs : Nat → Int32) (bl : Nat → Int32) (ie : Nat → Int32) (tw : Nat → Int32) : Mi l yX4_learned (.code yX4_learned prog_1_method_20_code 1 (some .int)) 9 0 0 lo G [.ref (h 0)] (cW G h np nl len fd lu tu T C F LT VV BB lt ph lh ks wd gr gs bl ie tw ++ rs) (fun (r : Int32) (_ : Unit) => r = nI lu) (fun (_ : Unit) => cW G h np nl len fd lu tu T C F LT VV BB lt ph lh ks wd gr gs bl ie tw ++ rs) := by
  refine Mi_of (lc := [(0, .ref (h 0))]) (by decide +kernel) (Nat.le_of_ble_eq_true rfl) rfl ?_
  intro X cx hXR hXl hr hin
  subst hXl
  have hX := RmX.of hXR
  refine V_aload_n cx 1 rfl dX4_learned_0 0 rfl ?_
  refine GX4_28 cx 0 rfl rfl 4 rfl dX4_learned_1 ?_
  refine GX4_150 cx 3 rfl rfl 7 rfl dX4_learned_4 ?_
  exact V_ireturn cx hr () (by first | rfl | trivial) rfl (by omega) (by omega) dX4_learned_7
set_option maxHeartbeats 4000000 in
set_option maxRecDepth 100000 in
theorem kX4_count (l : Launch) (lo : Nat) (G : vG) (rs : va_W) (h : Nat → Nat) (np : Nat) (nl : Nat) (len : Nat) (fd : Nat) (lu : Nat) (tu : Nat) (T : Nat → Int32) (C : Nat → Int32) (F : Nat → Int32) (LT : Nat → Int32) (VV : Nat → Int32) (BB : Nat → Int32) (lt : Nat → Int32) (ph : Nat → Int32) (lh : Nat → Int32) (ks : Nat → Int64) (wd : Nat → Int32) (gr : Nat → Int32) (gs : Nat → Int32) (bl : Nat → Int32) (ie : Nat → Int32) (tw : Nat → Int32) (part : Int32) (hst : l.stackTraces = false) (hnp : np ≤ 16) : Xi l yX4_count (.code yX4_count prog_1_method_8_code 2 (some .int)) 9 1 6 lo G [.ref (h 0), .int part] (cW G h np nl len fd lu tu T C F LT VV BB lt ph lh ks wd gr gs bl ie tw ++ rs) (fun E => E = EIOB ∧ ¬ cIsP np part) (fun (r : Int32) (_ : Unit) => ∃ q, q < np ∧ part = nI q ∧ r = C q) (fun (_ : Unit) => cW G h np nl len fd lu tu T C F LT VV BB lt ph lh ks wd gr gs bl ie tw ++ rs) := by
  refine Xi_of (lc := [(0, .ref (h 0)), (1, .int part)]) (by decide +kernel) (Nat.le_of_ble_eq_true rfl) rfl ?_
  intro X cx hXR hXl hr hout
  subst hXl
  have hX := RmX.of hXR
  refine V_aload_n cx 1 rfl dX4_count_0 0 rfl ?_
  refine V_iload_n cx 2 rfl dX4_count_1 1 rfl ?_
  refine KXX4_64 (As := [.int part]) (rest := []) cx (kX4_needPart (xl X) lo G _ h np nl len fd lu tu T C F LT VV BB lt ph lh ks wd gr gs bl ie tw part hst (by omega)) hX (by omega) 0 rfl rfl rfl (Nat.le_of_ble_eq_true rfl) 5 1 6 rfl rfl rfl (by omega) (by omega) dX4_count_2 (vx_leave cx hout (fun E h => h) (by omega) (by omega)) (fun u_2 hw_3 => ?_)
  try dsimp only at hw_3
  obtain ⟨q, hq, eq⟩ := hw_3
  subst eq
  refine V_aload_n cx 6 rfl dX4_count_5 0 rfl ?_
  refine GX4_12 cx 0 rfl rfl 9 rfl dX4_count_6 ?_
  refine GX4_99 cx 1 rfl rfl 12 rfl dX4_count_9 ?_
  refine V_iload_n cx 13 rfl dX4_count_12 1 rfl ?_
  refine V_ialdN cx q (rfl) (by omega) (by decide) 6 rfl 14 rfl dX4_count_13 ?_
  exact V_ireturnX cx hr () (⟨q, hq, rfl, rfl⟩) rfl (by omega) (by omega) dX4_count_14
set_option maxHeartbeats 4000000 in
set_option maxRecDepth 100000 in
theorem kX4_costOf (l : Launch) (lo : Nat) (G : vG) (rs : va_W) (h : Nat → Nat) (np : Nat) (nl : Nat) (len : Nat) (fd : Nat) (lu : Nat) (tu : Nat) (T : Nat → Int32) (C : Nat → Int32) (F : Nat → Int32) (LT : Nat → Int32) (VV : Nat → Int32) (BB : Nat → Int32) (lt : Nat → Int32) (ph : Nat → Int32) (lh : Nat → Int32) (ks : Nat → Int64) (wd : Nat → Int32) (gr : Nat → Int32) (gs : Nat → Int32) (bl : Nat → Int32) (ie : Nat → Int32) (tw : Nat → Int32) (part : Int32) (cn : Nat → Nat) (hst : l.stackTraces = false) (hnp : np ≤ 16) (hC : ∀ i, i < np → C i = nI (cn i) ∧ 1 ≤ cn i ∧ cn i ≤ 9999) : Xi l yX4_costOf (.code yX4_costOf prog_1_method_9_code 2 (some .int)) 9 1 6 lo G [.ref (h 0), .int part] (cW G h np nl len fd lu tu T C F LT VV BB lt ph lh ks wd gr gs bl ie tw ++ rs) (fun E => E = EIOB ∧ ¬ cIsP np part) (fun (r : Int32) (_ : Unit) => ∃ q, q < np ∧ part = nI q ∧ r = nI (ko (cn q))) (fun (_ : Unit) => cW G h np nl len fd lu tu T C F LT VV BB lt ph lh ks wd gr gs bl ie tw ++ rs) := by
  refine Xi_of (lc := [(0, .ref (h 0)), (1, .int part)]) (by decide +kernel) (Nat.le_of_ble_eq_true rfl) rfl ?_
  intro X cx hXR hXl hr hout
  subst hXl
  have hX := RmX.of hXR
  refine V_aload_n cx 1 rfl dX4_costOf_0 0 rfl ?_
  refine V_iload_n cx 2 rfl dX4_costOf_1 1 rfl ?_
  refine KXX4_64 (As := [.int part]) (rest := []) cx (kX4_needPart (xl X) lo G _ h np nl len fd lu tu T C F LT VV BB lt ph lh ks wd gr gs bl ie tw part hst (by omega)) hX (by omega) 0 rfl rfl rfl (Nat.le_of_ble_eq_true rfl) 5 1 6 rfl rfl rfl (by omega) (by omega) dX4_costOf_2 (vx_leave cx hout (fun E h => h) (by omega) (by omega)) (fun u_2 hw_3 => ?_)
  try dsimp only at hw_3
  obtain ⟨q, hq, eq⟩ := hw_3
  subst eq
  refine V_aload_n cx 6 rfl dX4_costOf_5 0 rfl ?_
  refine GX4_12 cx 0 rfl rfl 9 rfl dX4_costOf_6 ?_
  refine GX4_99 cx 1 rfl rfl 12 rfl dX4_costOf_9 ?_
  refine V_iload_n cx 13 rfl dX4_costOf_12 1 rfl ?_
  refine V_ialdN cx q (rfl) (by omega) (by decide) 6 rfl 14 rfl dX4_costOf_13 ?_
  refine V_toi (nI (cn q)) ((hC q hq).1) ?_
  refine KX4_102 (As := [.int (nI (cn q))]) (rest := []) cx (kX1_costOfCount (xl X) lo G _ (cn q) (hC q hq).2) hX (by omega) rfl rfl (Nat.le_of_ble_eq_true rfl) 17 1 6 rfl rfl rfl (by omega) (by omega) dX4_costOf_14 (fun r_4 u_5 hw_6 => ?_)
  try dsimp only at hw_6
  subst hw_6
  exact V_ireturnX cx hr () (⟨q, hq, rfl, rfl⟩) rfl (by omega) (by omega) dX4_costOf_17
set_option maxHeartbeats 4000000 in
set_option maxRecDepth 100000 in
theorem kX4_find (l : Launch) (lo : Nat) (G : vG) (rs : va_W) (h : Nat → Nat) (np : Nat) (nl : Nat) (len : Nat) (fd : Nat) (lu : Nat) (tu : Nat) (T : Nat → Int32) (C : Nat → Int32) (F : Nat → Int32) (LT : Nat → Int32) (VV : Nat → Int32) (BB : Nat → Int32) (lt : Nat → Int32) (ph : Nat → Int32) (lh : Nat → Int32) (ks : Nat → Int64) (wd : Nat → Int32) (gr : Nat → Int32) (gs : Nat → Int32) (bl : Nat → Int32) (ie : Nat → Int32) (tw : Nat → Int32) (text : Int32) (hst : l.stackTraces = false) (hnp : np ≤ 16) : Xi l yX4_find (.code yX4_find prog_1_method_10_code 2 (some .int)) 9 1 6 lo G [.ref (h 0), .int text] (cW G h np nl len fd lu tu T C F LT VV BB lt ph lh ks wd gr gs bl ie tw ++ rs) (fun E => E = EIAE ∧ SZ text 8 = 0) (fun (r : Int32) (_ : Unit) => 0 < SZ text 8 ∧ r = oI (pwI T text np)) (fun (_ : Unit) => cW G h np nl len fd lu tu T C F LT VV BB lt ph lh ks wd gr gs bl ie tw ++ rs) := by
  refine Xi_of (lc := [(0, .ref (h 0)), (1, .int text)]) (by decide +kernel) (Nat.le_of_ble_eq_true rfl) rfl ?_
  intro X cx hXR hXl hr hout
  subst hXl
  have hX := RmX.of hXR
  refine V_iload_n cx 1 rfl dX4_find_0 1 rfl ?_
  refine V_bipush (v := nI 8) cx 3 rfl dX4_find_1 (by decide) ?_
  refine KXX4_32 (As := [.int text, .int (nI 8)]) (rest := []) cx (kX4_needText (xl X) lo G _ text 8 hst (by omega)) hX (by omega) rfl rfl (Nat.le_of_ble_eq_true rfl) 6 1 6 rfl rfl rfl (by omega) (by omega) dX4_find_3 (vx_leave cx hout (fun E h => ⟨h.1, by have := SZ_le text 8; omega⟩) (by omega) (by omega)) (fun u_2 hw_3 => ?_)
  try dsimp only at hw_3
  have hsz := hw_3
  refine V_aload_n cx 7 rfl dX4_find_6 0 rfl ?_
  refine GX4_12 cx 0 rfl rfl 10 rfl dX4_find_7 ?_
  refine V_iload_n cx 11 rfl dX4_find_10 1 rfl ?_
  refine KX4_54 (As := [.int text]) (rest := []) cx (kX1_partWith (xl X) lo G _ h np nl len fd lu tu T C F LT VV BB lt ph lh ks wd gr gs bl ie tw text (by omega)) hX (by omega) 1 rfl rfl rfl (Nat.le_of_ble_eq_true rfl) 14 1 6 rfl rfl rfl (by omega) (by omega) dX4_find_11 (fun r_4 u_5 hw_6 => ?_)
  try dsimp only at hw_6
  subst hw_6
  exact V_ireturnX cx hr () (⟨by omega, rfl⟩) rfl (by omega) (by omega) dX4_find_14
set_option maxHeartbeats 4000000 in
set_option maxRecDepth 100000 in
theorem kX4_nodes (l : Launch) (lo : Nat) (G : vG) (rs : va_W) (h : Nat → Nat) (np : Nat) (nl : Nat) (len : Nat) (fd : Nat) (lu : Nat) (tu : Nat) (T : Nat → Int32) (C : Nat → Int32) (F : Nat → Int32) (LT : Nat → Int32) (VV : Nat → Int32) (BB : Nat → Int32) (lt : Nat → Int32) (ph : Nat → Int32) (lh : Nat → Int32) (ks : Nat → Int64) (wd : Nat → Int32) (gr : Nat → Int32) (gs : Nat → Int32) (bl : Nat → Int32) (ie : Nat → Int32) (tw : Nat → Int32) (ch : Nat → Nat → Nat) (hnp : np ≤ 16) (htu : tu ≤ 65) (hch : chOK ch bl tu) (htu1 : 1 ≤ tu) : Mi l yX4_nodes (.code yX4_nodes prog_1_method_11_code 1 (some .int)) 9 0 0 lo G [.ref (h 0)] (cW G h np nl len fd lu tu T C F LT VV BB lt ph lh ks wd gr gs bl ie tw ++ rs) (fun (r : Int32) (tw1 : (Nat → Int32)) => (np = 0 ∧ r = nI 0) ∨ (0 < np ∧ (∀ i, i < tu → twP ch ie tw1 tu i) ∧ r = nI (cntT tw1 0 tu))) (fun (tw1 : (Nat → Int32)) => cW G h np nl len fd lu tu T C F LT VV BB lt ph lh ks wd gr gs bl ie tw1 ++ rs) := by
  refine Mi_of (lc := [(0, .ref (h 0))]) (by decide +kernel) (Nat.le_of_ble_eq_true rfl) rfl ?_
  intro X cx hXR hXl hr hin
  subst hXl
  have hX := RmX.of hXR
  refine V_aload_n cx 1 rfl dX4_nodes_0 0 rfl ?_
  refine GX4_12 cx 0 rfl rfl 4 rfl dX4_nodes_1 ?_
  refine GX4_45 cx 1 rfl rfl 7 rfl dX4_nodes_4 ?_
  refine V_if_ne cx 10 14 rfl dX4_nodes_7 (by decide) (fun c_7 => ?_) (fun c_7 => ?_)
  · skip
    have n_7 : np ≠ 0 := Z_ne_t (by omega) c_7
    refine V_aload_n cx 15 rfl dX4_nodes_14 0 rfl ?_
    refine GX4_12 cx 0 rfl rfl 18 rfl dX4_nodes_15 ?_
    refine GX4_105 cx 1 rfl rfl 21 rfl dX4_nodes_18 ?_
    refine KX4_109 (As := []) (rest := []) cx (kX3_differentNodes (xl X) lo G _ h np nl len fd lu tu T C F LT VV BB lt ph lh ks wd gr gs bl ie tw ch (by omega) hch (by omega)) hX (by omega) 4 rfl rfl rfl (Nat.le_of_ble_eq_true rfl) 24 0 0 rfl rfl rfl (by omega) (by omega) dX4_nodes_21 (fun r_1 u_2 hw_3 => ?_)
    obtain ⟨tw1_4, rfl⟩ : ∃ z, z = u_2 := ⟨_, rfl⟩
    try dsimp only at hw_3
    exact V_ireturn cx hr (tw1_4) (Or.inr ⟨by omega, hw_3⟩) rfl (by omega) (by omega) dX4_nodes_24
  · skip
    have n_7 : np = 0 := Z_ne_f (by omega) c_7
    refine V_iconst (v := nI 0) cx 11 rfl dX4_nodes_10 (by decide) ?_
    refine V_goto cx 24 dX4_nodes_11 (by decide) ?_
    exact V_ireturn cx hr (tw) (Or.inl ⟨by omega, rfl⟩) rfl (by omega) (by omega) dX4_nodes_24
