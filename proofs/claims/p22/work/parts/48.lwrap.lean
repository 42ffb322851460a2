/-! the law's wrappers -/
set_option maxHeartbeats 4000000 in
set_option maxRecDepth 100000 in
theorem kL_addPart (l : Launch) (lo : Nat) (G : vG) (rs : va_W) (h : Nat → Nat) (np : Nat) (nl : Nat) (len : Nat) (fd : Nat) (lu : Nat) (tu : Nat) (T : Nat → Int32) (C : Nat → Int32) (F : Nat → Int32) (LT : Nat → Int32) (VV : Nat → Int32) (BB : Nat → Int32) (lt : Nat → Int32) (ph : Nat → Int32) (lh : Nat → Int32) (ks : Nat → Int64) (wd : Nat → Int32) (gr : Nat → Int32) (gs : Nat → Int32) (bl : Nat → Int32) (ie : Nat → Int32) (tw : Nat → Int32) (text : Int32) (count : Int32) (flags : Int32) (W : Nat → Prop) (hst : l.stackTraces = false) (hnp : np ≤ 16) (htu : tu ≤ 1 + 4 * np) (hT : ∃ ch nd, TR ch nd bl ie tu W W) : Mi l yL_addPart (.codeWith yL_addPart method_4_code 6 (some .int) [(0, 9, 12, 14), (0, 9, 17, 16)]) 10 2 12 lo G [.ref (h 0), .int text, .int count, .int flags] (cW G h np nl len fd lu tu T C F LT VV BB lt ph lh ks wd gr gs bl ie tw ++ rs) (fun (r : Int32) (uu : Option ((Nat) × (Nat → Int32) × (Nat → Int32) × Int32)) => match uu with | none => ∃ E, (xAddPart np T text count flags) E ∧ ((E = EIAE ∧ r = (-72)) ∨ (E = EISE ∧ r = (-73))) | some (tu1, bl1, ie1, v) => (cAddPart np T W text count flags v tu tu1 bl1 ie1) ∧ r = v) (fun (uu : Option ((Nat) × (Nat → Int32) × (Nat → Int32) × Int32)) => match uu with | none => cW G h np nl len fd lu tu T C F LT VV BB lt ph lh ks wd gr gs bl ie tw ++ rs | some (tu1, bl1, ie1, v) => cW G h (np + 1) nl len fd lu tu1 (upd T np text) (upd C np count) (upd F np flags) LT VV BB lt ph lh ks wd gr gs bl1 ie1 tw ++ rs) := by
  refine MiW_of (lc := [(0, .ref (h 0)), (1, .int text), (2, .int count), (3, .int flags)]) (by decide +kernel) (Nat.le_of_ble_eq_true rfl) rfl ?_
  intro X cx hXR hXl hr htab
  subst hXl
  have hX := RmX.of hXR
  refine V_aload_n cx 1 rfl dL_addPart_0 0 rfl ?_
  refine V_iload_n cx 2 rfl dL_addPart_1 1 rfl ?_
  refine V_iload_n cx 3 rfl dL_addPart_2 2 rfl ?_
  refine V_iload_n cx 4 rfl dL_addPart_3 3 rfl ?_
  refine KXL_8 (As := [.int text, .int count, .int flags]) (rest := []) cx (kX4_addPart (xl X) lo G rs h np nl len fd lu tu T C F LT VV BB lt ph lh ks wd gr gs bl ie tw text count flags W hst hnp htu hT) hX (by omega) 0 rfl rfl rfl (Nat.le_of_ble_eq_true rfl) 7 2 12 rfl rfl rfl (by omega) (by omega) dL_addPart_4 ?_ ?_
  · intro E ce q9 H1 locs1 ls he hP hD hS hl h1 h2 h3
    rcases he with he0 | he0
    · skip
      obtain ⟨hE, _⟩ := id he0
      subst hE
      have hcont : V X lo 6 G (Qi X lo G (fun (r : Int32) (uu : Option ((Nat) × (Nat → Int32) × (Nat → Int32) × Int32)) => match uu with | none => ∃ E, (xAddPart np T text count flags) E ∧ ((E = EIAE ∧ r = (-72)) ∨ (E = EISE ∧ r = (-73))) | some (tu1, bl1, ie1, v) => (cAddPart np T W text count flags v tu tu1 bl1 ie1) ∧ r = v) (fun (uu : Option ((Nat) × (Nat → Int32) × (Nat → Int32) × Int32)) => match uu with | none => cW G h np nl len fd lu tu T C F LT VV BB lt ph lh ks wd gr gs bl ie tw ++ rs | some (tu1, bl1, ie1, v) => cW G h (np + 1) nl len fd lu tu1 (upd T np text) (upd C np count) (upd F np flags) LT VV BB lt ph lh ks wd gr gs bl1 ie1 tw ++ rs) 2 12) 2 12 (cW G h np nl len fd lu tu T C F LT VV BB lt ph lh ks wd gr gs bl ie tw ++ rs) [(0, .ref (h 0)), (1, .int text), (2, .int count), (3, .int flags)] [.ref q9] 12 := by
        refine V_astore (lc1 := [(5, .ref q9), (0, .ref (h 0)), (1, .int text), (2, .int count), (3, .int flags)]) cx 14 rfl dL_addPart_12 (by decide) rfl ?_
        refine V_bipush (v := (-72)) cx 16 rfl dL_addPart_14 (by decide) ?_
        exact V_ireturn cx hr none ⟨_, Or.inl he0, Or.inl ⟨rfl, rfl⟩⟩ rfl (by omega) (by omega) dL_addPart_16
      exact vx_catch (own := RL) (name := EIAE) cx.2.2.2.1 [] ⟨0, 9, 12, 14⟩ [⟨0, 9, 17, 16⟩] htab (fun z hz => by cases hz) (by decide) (by decide) (cx.word kl_L_14) (cst_IAE cx) h1 h2 h3 (hcont H1 locs1 ls hP hD hS hl)
    · skip
      obtain ⟨hE, _⟩ := id he0
      subst hE
      have hcont : V X lo 6 G (Qi X lo G (fun (r : Int32) (uu : Option ((Nat) × (Nat → Int32) × (Nat → Int32) × Int32)) => match uu with | none => ∃ E, (xAddPart np T text count flags) E ∧ ((E = EIAE ∧ r = (-72)) ∨ (E = EISE ∧ r = (-73))) | some (tu1, bl1, ie1, v) => (cAddPart np T W text count flags v tu tu1 bl1 ie1) ∧ r = v) (fun (uu : Option ((Nat) × (Nat → Int32) × (Nat → Int32) × Int32)) => match uu with | none => cW G h np nl len fd lu tu T C F LT VV BB lt ph lh ks wd gr gs bl ie tw ++ rs | some (tu1, bl1, ie1, v) => cW G h (np + 1) nl len fd lu tu1 (upd T np text) (upd C np count) (upd F np flags) LT VV BB lt ph lh ks wd gr gs bl1 ie1 tw ++ rs) 2 12) 2 12 (cW G h np nl len fd lu tu T C F LT VV BB lt ph lh ks wd gr gs bl ie tw ++ rs) [(0, .ref (h 0)), (1, .int text), (2, .int count), (3, .int flags)] [.ref q9] 17 := by
        refine V_astore (lc1 := [(5, .ref q9), (0, .ref (h 0)), (1, .int text), (2, .int count), (3, .int flags)]) cx 19 rfl dL_addPart_17 (by decide) rfl ?_
        refine V_bipush (v := (-73)) cx 21 rfl dL_addPart_19 (by decide) ?_
        exact V_ireturn cx hr none ⟨_, Or.inr he0, Or.inr ⟨rfl, rfl⟩⟩ rfl (by omega) (by omega) dL_addPart_21
      exact vx_catch (own := RL) (name := EISE) cx.2.2.2.1 [⟨0, 9, 12, 14⟩] ⟨0, 9, 17, 16⟩ [] htab (fun z hz => by rw [List.mem_singleton] at hz; subst hz; exact Or.inr ⟨by decide, EIAE, cx.word kl_L_14, cx.2.2.2.2.2.2.1.2.1.2.1⟩) (by decide) (by decide) (cx.word kl_L_16) (cst_ISE cx) h1 h2 h3 (hcont H1 locs1 ls hP hD hS hl)
  · intro v uu hw
    obtain ⟨tu1, bl1, ie1⟩ := uu
    try dsimp only at hw
    refine V_istore (lc1 := [(4, .int v), (0, .ref (h 0)), (1, .int text), (2, .int count), (3, .int flags)]) cx 9 rfl dL_addPart_7 (by decide) rfl ?_
    refine V_goto cx 22 dL_addPart_9 (by decide) ?_
    refine V_iload cx 24 rfl dL_addPart_22 0 rfl ?_
    exact V_ireturn cx hr (some (tu1, bl1, ie1, v)) ⟨hw, rfl⟩ rfl (by omega) (by omega) dL_addPart_24
set_option maxHeartbeats 4000000 in
set_option maxRecDepth 100000 in
theorem kL_setFlags (l : Launch) (lo : Nat) (G : vG) (rs : va_W) (h : Nat → Nat) (np : Nat) (nl : Nat) (len : Nat) (fd : Nat) (lu : Nat) (tu : Nat) (T : Nat → Int32) (C : Nat → Int32) (F : Nat → Int32) (LT : Nat → Int32) (VV : Nat → Int32) (BB : Nat → Int32) (lt : Nat → Int32) (ph : Nat → Int32) (lh : Nat → Int32) (ks : Nat → Int64) (wd : Nat → Int32) (gr : Nat → Int32) (gs : Nat → Int32) (bl : Nat → Int32) (ie : Nat → Int32) (tw : Nat → Int32) (part : Int32) (flags : Int32) (hst : l.stackTraces = false) (hnp : np ≤ 16) : Mi l yL_setFlags (.codeWith yL_setFlags method_5_code 5 (some .int) [(0, 7, 10, 22), (0, 7, 15, 14)]) 10 2 12 lo G [.ref (h 0), .int part, .int flags] (cW G h np nl len fd lu tu T C F LT VV BB lt ph lh ks wd gr gs bl ie tw ++ rs) (fun (r : Int32) (uu : Option ((Nat → Int32) × Int32)) => match uu with | none => ∃ E, (fun E => (E = EIOB ∧ ¬ cIsP np part) ∨ (E = EIAE ∧ cIsP np part ∧ ¬ (nI 0 ≤ flags ∧ flags ≤ nI 7))) E ∧ ((E = EIOB ∧ r = (-71)) ∨ (E = EIAE ∧ r = (-72))) | some (F1, v) => (∃ q, q < np ∧ part = nI q ∧ (nI 0 ≤ flags ∧ flags ≤ nI 7) ∧ v = F q ∧ F1 = upd F q flags) ∧ r = v) (fun (uu : Option ((Nat → Int32) × Int32)) => match uu with | none => cW G h np nl len fd lu tu T C F LT VV BB lt ph lh ks wd gr gs bl ie tw ++ rs | some (F1, v) => cW G h np nl len fd lu tu T C F1 LT VV BB lt ph lh ks wd gr gs bl ie tw ++ rs) := by
  refine MiW_of (lc := [(0, .ref (h 0)), (1, .int part), (2, .int flags)]) (by decide +kernel) (Nat.le_of_ble_eq_true rfl) rfl ?_
  intro X cx hXR hXl hr htab
  subst hXl
  have hX := RmX.of hXR
  refine V_aload_n cx 1 rfl dL_setFlags_0 0 rfl ?_
  refine V_iload_n cx 2 rfl dL_setFlags_1 1 rfl ?_
  refine V_iload_n cx 3 rfl dL_setFlags_2 2 rfl ?_
  refine KXL_18 (As := [.int part, .int flags]) (rest := []) cx (kX4_setFlags (xl X) lo G rs h np nl len fd lu tu T C F LT VV BB lt ph lh ks wd gr gs bl ie tw part flags hst hnp) hX (by omega) 0 rfl rfl rfl (Nat.le_of_ble_eq_true rfl) 6 2 12 rfl rfl rfl (by omega) (by omega) dL_setFlags_3 ?_ ?_
  · intro E ce q9 H1 locs1 ls he hP hD hS hl h1 h2 h3
    rcases he with he0 | he0
    · skip
      obtain ⟨hE, _⟩ := id he0
      subst hE
      have hcont : V X lo 5 G (Qi X lo G (fun (r : Int32) (uu : Option ((Nat → Int32) × Int32)) => match uu with | none => ∃ E, (fun E => (E = EIOB ∧ ¬ cIsP np part) ∨ (E = EIAE ∧ cIsP np part ∧ ¬ (nI 0 ≤ flags ∧ flags ≤ nI 7))) E ∧ ((E = EIOB ∧ r = (-71)) ∨ (E = EIAE ∧ r = (-72))) | some (F1, v) => (∃ q, q < np ∧ part = nI q ∧ (nI 0 ≤ flags ∧ flags ≤ nI 7) ∧ v = F q ∧ F1 = upd F q flags) ∧ r = v) (fun (uu : Option ((Nat → Int32) × Int32)) => match uu with | none => cW G h np nl len fd lu tu T C F LT VV BB lt ph lh ks wd gr gs bl ie tw ++ rs | some (F1, v) => cW G h np nl len fd lu tu T C F1 LT VV BB lt ph lh ks wd gr gs bl ie tw ++ rs) 2 12) 2 12 (cW G h np nl len fd lu tu T C F LT VV BB lt ph lh ks wd gr gs bl ie tw ++ rs) [(0, .ref (h 0)), (1, .int part), (2, .int flags)] [.ref q9] 10 := by
        refine V_astore (lc1 := [(4, .ref q9), (0, .ref (h 0)), (1, .int part), (2, .int flags)]) cx 12 rfl dL_setFlags_10 (by decide) rfl ?_
        refine V_bipush (v := (-71)) cx 14 rfl dL_setFlags_12 (by decide) ?_
        exact V_ireturn cx hr none ⟨_, Or.inl he0, Or.inl ⟨rfl, rfl⟩⟩ rfl (by omega) (by omega) dL_setFlags_14
      exact vx_catch (own := RL) (name := EIOB) cx.2.2.2.1 [] ⟨0, 7, 10, 22⟩ [⟨0, 7, 15, 14⟩] htab (fun z hz => by cases hz) (by decide) (by decide) (cx.word kl_L_22) (cst_IOB cx) h1 h2 h3 (hcont H1 locs1 ls hP hD hS hl)
    · skip
      obtain ⟨hE, _⟩ := id he0
      subst hE
      have hcont : V X lo 5 G (Qi X lo G (fun (r : Int32) (uu : Option ((Nat → Int32) × Int32)) => match uu with | none => ∃ E, (fun E => (E = EIOB ∧ ¬ cIsP np part) ∨ (E = EIAE ∧ cIsP np part ∧ ¬ (nI 0 ≤ flags ∧ flags ≤ nI 7))) E ∧ ((E = EIOB ∧ r = (-71)) ∨ (E = EIAE ∧ r = (-72))) | some (F1, v) => (∃ q, q < np ∧ part = nI q ∧ (nI 0 ≤ flags ∧ flags ≤ nI 7) ∧ v = F q ∧ F1 = upd F q flags) ∧ r = v) (fun (uu : Option ((Nat → Int32) × Int32)) => match uu with | none => cW G h np nl len fd lu tu T C F LT VV BB lt ph lh ks wd gr gs bl ie tw ++ rs | some (F1, v) => cW G h np nl len fd lu tu T C F1 LT VV BB lt ph lh ks wd gr gs bl ie tw ++ rs) 2 12) 2 12 (cW G h np nl len fd lu tu T C F LT VV BB lt ph lh ks wd gr gs bl ie tw ++ rs) [(0, .ref (h 0)), (1, .int part), (2, .int flags)] [.ref q9] 15 := by
        refine V_astore (lc1 := [(4, .ref q9), (0, .ref (h 0)), (1, .int part), (2, .int flags)]) cx 17 rfl dL_setFlags_15 (by decide) rfl ?_
        refine V_bipush (v := (-72)) cx 19 rfl dL_setFlags_17 (by decide) ?_
        exact V_ireturn cx hr none ⟨_, Or.inr he0, Or.inr ⟨rfl, rfl⟩⟩ rfl (by omega) (by omega) dL_setFlags_19
      exact vx_catch (own := RL) (name := EIAE) cx.2.2.2.1 [⟨0, 7, 10, 22⟩] ⟨0, 7, 15, 14⟩ [] htab (fun z hz => by rw [List.mem_singleton] at hz; subst hz; exact Or.inr ⟨by decide, EIOB, cx.word kl_L_22, cx.2.2.2.2.2.2.1.2.1.2.2⟩) (by decide) (by decide) (cx.word kl_L_14) (cst_IAE cx) h1 h2 h3 (hcont H1 locs1 ls hP hD hS hl)
  · intro v uu hw
    obtain ⟨F1, rfl⟩ : ∃ z, z = uu := ⟨_, rfl⟩
    try dsimp only at hw
    refine V_istore_n (lc1 := [(3, .int v), (0, .ref (h 0)), (1, .int part), (2, .int flags)]) cx 7 rfl dL_setFlags_6 (by decide) rfl ?_
    refine V_goto cx 20 dL_setFlags_7 (by decide) ?_
    refine V_iload_n cx 21 rfl dL_setFlags_20 0 rfl ?_
    exact V_ireturn cx hr (some (F1, v)) ⟨hw, rfl⟩ rfl (by omega) (by omega) dL_setFlags_21
set_option maxHeartbeats 4000000 in
set_option maxRecDepth 100000 in
theorem kL_addLink (l : Launch) (lo : Nat) (G : vG) (rs : va_W) (h : Nat → Nat) (np : Nat) (nl : Nat) (len : Nat) (fd : Nat) (lu : Nat) (tu : Nat) (T : Nat → Int32) (C : Nat → Int32) (F : Nat → Int32) (LT : Nat → Int32) (VV : Nat → Int32) (BB : Nat → Int32) (lt : Nat → Int32) (ph : Nat → Int32) (lh : Nat → Int32) (ks : Nat → Int64) (wd : Nat → Int32) (gr : Nat → Int32) (gs : Nat → Int32) (bl : Nat → Int32) (ie : Nat → Int32) (tw : Nat → Int32) (text : Int32) (hst : l.stackTraces = false) (hnl : nl ≤ 6) : Mi l yL_addLink (.codeWith yL_addLink method_6_code 4 (some .int) [(0, 6, 9, 14), (0, 6, 13, 16)]) 10 2 12 lo G [.ref (h 0), .int text] (cW G h np nl len fd lu tu T C F LT VV BB lt ph lh ks wd gr gs bl ie tw ++ rs) (fun (r : Int32) (uu : Option (Int32)) => match uu with | none => ∃ E, (fun E => (E = EIAE ∧ ¬ (1 ≤ SZ text 8 ∧ SZ text 8 ≤ 2)) ∨ (E = EISE ∧ (1 ≤ SZ text 8 ∧ SZ text 8 ≤ 2) ∧ (nl = 6 ∨ ¬ oI (pwI LT text nl) = -1))) E ∧ ((E = EIAE ∧ r = (-72)) ∨ (E = EISE ∧ r = (-73))) | some v => ((1 ≤ SZ text 8 ∧ SZ text 8 ≤ 2) ∧ nl < 6 ∧ oI (pwI LT text nl) = -1 ∧ v = nI nl) ∧ r = v) (fun (uu : Option (Int32)) => match uu with | none => cW G h np nl len fd lu tu T C F LT VV BB lt ph lh ks wd gr gs bl ie tw ++ rs | some v => cW G h np (nl + 1) len fd lu tu T C F (upd LT nl text) VV BB lt ph lh ks wd gr gs bl ie tw ++ rs) := by
  refine MiW_of (lc := [(0, .ref (h 0)), (1, .int text)]) (by decide +kernel) (Nat.le_of_ble_eq_true rfl) rfl ?_
  intro X cx hXR hXl hr htab
  subst hXl
  have hX := RmX.of hXR
  refine V_aload_n cx 1 rfl dL_addLink_0 0 rfl ?_
  refine V_iload_n cx 2 rfl dL_addLink_1 1 rfl ?_
  refine KXL_24 (As := [.int text]) (rest := []) cx (kX4_addLink (xl X) lo G rs h np nl len fd lu tu T C F LT VV BB lt ph lh ks wd gr gs bl ie tw text hst hnl) hX (by omega) 0 rfl rfl rfl (Nat.le_of_ble_eq_true rfl) 5 2 12 rfl rfl rfl (by omega) (by omega) dL_addLink_2 ?_ ?_
  · intro E ce q9 H1 locs1 ls he hP hD hS hl h1 h2 h3
    rcases he with he0 | he0
    · skip
      obtain ⟨hE, _⟩ := id he0
      subst hE
      have hcont : V X lo 4 G (Qi X lo G (fun (r : Int32) (uu : Option (Int32)) => match uu with | none => ∃ E, (fun E => (E = EIAE ∧ ¬ (1 ≤ SZ text 8 ∧ SZ text 8 ≤ 2)) ∨ (E = EISE ∧ (1 ≤ SZ text 8 ∧ SZ text 8 ≤ 2) ∧ (nl = 6 ∨ ¬ oI (pwI LT text nl) = -1))) E ∧ ((E = EIAE ∧ r = (-72)) ∨ (E = EISE ∧ r = (-73))) | some v => ((1 ≤ SZ text 8 ∧ SZ text 8 ≤ 2) ∧ nl < 6 ∧ oI (pwI LT text nl) = -1 ∧ v = nI nl) ∧ r = v) (fun (uu : Option (Int32)) => match uu with | none => cW G h np nl len fd lu tu T C F LT VV BB lt ph lh ks wd gr gs bl ie tw ++ rs | some v => cW G h np (nl + 1) len fd lu tu T C F (upd LT nl text) VV BB lt ph lh ks wd gr gs bl ie tw ++ rs) 2 12) 2 12 (cW G h np nl len fd lu tu T C F LT VV BB lt ph lh ks wd gr gs bl ie tw ++ rs) [(0, .ref (h 0)), (1, .int text)] [.ref q9] 9 := by
        refine V_astore_n (lc1 := [(3, .ref q9), (0, .ref (h 0)), (1, .int text)]) cx 10 rfl dL_addLink_9 (by decide) rfl ?_
        refine V_bipush (v := (-72)) cx 12 rfl dL_addLink_10 (by decide) ?_
        exact V_ireturn cx hr none ⟨_, Or.inl he0, Or.inl ⟨rfl, rfl⟩⟩ rfl (by omega) (by omega) dL_addLink_12
      exact vx_catch (own := RL) (name := EIAE) cx.2.2.2.1 [] ⟨0, 6, 9, 14⟩ [⟨0, 6, 13, 16⟩] htab (fun z hz => by cases hz) (by decide) (by decide) (cx.word kl_L_14) (cst_IAE cx) h1 h2 h3 (hcont H1 locs1 ls hP hD hS hl)
    · skip
      obtain ⟨hE, _⟩ := id he0
      subst hE
      have hcont : V X lo 4 G (Qi X lo G (fun (r : Int32) (uu : Option (Int32)) => match uu with | none => ∃ E, (fun E => (E = EIAE ∧ ¬ (1 ≤ SZ text 8 ∧ SZ text 8 ≤ 2)) ∨ (E = EISE ∧ (1 ≤ SZ text 8 ∧ SZ text 8 ≤ 2) ∧ (nl = 6 ∨ ¬ oI (pwI LT text nl) = -1))) E ∧ ((E = EIAE ∧ r = (-72)) ∨ (E = EISE ∧ r = (-73))) | some v => ((1 ≤ SZ text 8 ∧ SZ text 8 ≤ 2) ∧ nl < 6 ∧ oI (pwI LT text nl) = -1 ∧ v = nI nl) ∧ r = v) (fun (uu : Option (Int32)) => match uu with | none => cW G h np nl len fd lu tu T C F LT VV BB lt ph lh ks wd gr gs bl ie tw ++ rs | some v => cW G h np (nl + 1) len fd lu tu T C F (upd LT nl text) VV BB lt ph lh ks wd gr gs bl ie tw ++ rs) 2 12) 2 12 (cW G h np nl len fd lu tu T C F LT VV BB lt ph lh ks wd gr gs bl ie tw ++ rs) [(0, .ref (h 0)), (1, .int text)] [.ref q9] 13 := by
        refine V_astore_n (lc1 := [(3, .ref q9), (0, .ref (h 0)), (1, .int text)]) cx 14 rfl dL_addLink_13 (by decide) rfl ?_
        refine V_bipush (v := (-73)) cx 16 rfl dL_addLink_14 (by decide) ?_
        exact V_ireturn cx hr none ⟨_, Or.inr he0, Or.inr ⟨rfl, rfl⟩⟩ rfl (by omega) (by omega) dL_addLink_16
      exact vx_catch (own := RL) (name := EISE) cx.2.2.2.1 [⟨0, 6, 9, 14⟩] ⟨0, 6, 13, 16⟩ [] htab (fun z hz => by rw [List.mem_singleton] at hz; subst hz; exact Or.inr ⟨by decide, EIAE, cx.word kl_L_14, cx.2.2.2.2.2.2.1.2.1.2.1⟩) (by decide) (by decide) (cx.word kl_L_16) (cst_ISE cx) h1 h2 h3 (hcont H1 locs1 ls hP hD hS hl)
  · intro v uu hw
    try dsimp only at hw
    refine V_istore_n (lc1 := [(2, .int v), (0, .ref (h 0)), (1, .int text)]) cx 6 rfl dL_addLink_5 (by decide) rfl ?_
    refine V_goto cx 17 dL_addLink_6 (by decide) ?_
    refine V_iload_n cx 18 rfl dL_addLink_17 0 rfl ?_
    exact V_ireturn cx hr (some v) ⟨hw, rfl⟩ rfl (by omega) (by omega) dL_addLink_18
set_option maxHeartbeats 4000000 in
set_option maxRecDepth 100000 in
theorem kL_veto (l : Launch) (lo : Nat) (G : vG) (rs : va_W) (h : Nat → Nat) (np : Nat) (nl : Nat) (len : Nat) (fd : Nat) (lu : Nat) (tu : Nat) (T : Nat → Int32) (C : Nat → Int32) (F : Nat → Int32) (LT : Nat → Int32) (VV : Nat → Int32) (BB : Nat → Int32) (lt : Nat → Int32) (ph : Nat → Int32) (lh : Nat → Int32) (ks : Nat → Int64) (wd : Nat → Int32) (gr : Nat → Int32) (gs : Nat → Int32) (bl : Nat → Int32) (ie : Nat → Int32) (tw : Nat → Int32) (part : Int32) (next : Int32) (b : Bool) (hst : l.stackTraces = false) (hnp : np ≤ 16) (hz : ∀ i, ∃ bb : Bool, VV i = bI bb) : Mi l yL_veto (.codeWith yL_veto method_7_code 6 (some .int) [(0, 9, 12, 22)]) 10 2 12 lo G [.ref (h 0), .int part, .int next, .int (bI b)] (cW G h np nl len fd lu tu T C F LT VV BB lt ph lh ks wd gr gs bl ie tw ++ rs) (fun (r : Int32) (uu : Option ((Nat → Int32) × Int32)) => match uu with | none => ∃ E, (fun E => E = EIOB ∧ ¬ (cIsP np part ∧ cIsP np next)) E ∧ ((E = EIOB ∧ r = (-71))) | some (VV1, v) => (∃ p q, p < np ∧ q < np ∧ part = nI p ∧ next = nI q ∧ v = VV (p * 16 + q) ∧ VV1 = upd VV (p * 16 + q) (bI b)) ∧ (v = 0 → r = nI 0) ∧ (¬ v = 0 → r = nI 1)) (fun (uu : Option ((Nat → Int32) × Int32)) => match uu with | none => cW G h np nl len fd lu tu T C F LT VV BB lt ph lh ks wd gr gs bl ie tw ++ rs | some (VV1, v) => cW G h np nl len fd lu tu T C F LT VV1 BB lt ph lh ks wd gr gs bl ie tw ++ rs) := by
  refine MiW_of (lc := [(0, .ref (h 0)), (1, .int part), (2, .int next), (3, .int (bI b))]) (by decide +kernel) (Nat.le_of_ble_eq_true rfl) rfl ?_
  intro X cx hXR hXl hr htab
  subst hXl
  have hX := RmX.of hXR
  refine V_aload_n cx 1 rfl dL_veto_0 0 rfl ?_
  refine V_iload_n cx 2 rfl dL_veto_1 1 rfl ?_
  refine V_iload_n cx 3 rfl dL_veto_2 2 rfl ?_
  refine V_iload_n cx 4 rfl dL_veto_3 3 rfl ?_
  refine KXL_28 (As := [.int part, .int next, .int (bI b)]) (rest := []) cx (kX4_veto (xl X) lo G rs h np nl len fd lu tu T C F LT VV BB lt ph lh ks wd gr gs bl ie tw part next b hst hnp hz) hX (by omega) 0 rfl rfl rfl (Nat.le_of_ble_eq_true rfl) 7 2 12 rfl rfl rfl (by omega) (by omega) dL_veto_4 ?_ ?_
  · intro E ce q9 H1 locs1 ls he hP hD hS hl h1 h2 h3
    have he0 := he
    obtain ⟨hE, _⟩ := id he0
    subst hE
    have hcont : V X lo 6 G (Qi X lo G (fun (r : Int32) (uu : Option ((Nat → Int32) × Int32)) => match uu with | none => ∃ E, (fun E => E = EIOB ∧ ¬ (cIsP np part ∧ cIsP np next)) E ∧ ((E = EIOB ∧ r = (-71))) | some (VV1, v) => (∃ p q, p < np ∧ q < np ∧ part = nI p ∧ next = nI q ∧ v = VV (p * 16 + q) ∧ VV1 = upd VV (p * 16 + q) (bI b)) ∧ (v = 0 → r = nI 0) ∧ (¬ v = 0 → r = nI 1)) (fun (uu : Option ((Nat → Int32) × Int32)) => match uu with | none => cW G h np nl len fd lu tu T C F LT VV BB lt ph lh ks wd gr gs bl ie tw ++ rs | some (VV1, v) => cW G h np nl len fd lu tu T C F LT VV1 BB lt ph lh ks wd gr gs bl ie tw ++ rs) 2 12) 2 12 (cW G h np nl len fd lu tu T C F LT VV BB lt ph lh ks wd gr gs bl ie tw ++ rs) [(0, .ref (h 0)), (1, .int part), (2, .int next), (3, .int (bI b))] [.ref q9] 12 := by
      refine V_astore (lc1 := [(5, .ref q9), (0, .ref (h 0)), (1, .int part), (2, .int next), (3, .int (bI b))]) cx 14 rfl dL_veto_12 (by decide) rfl ?_
      refine V_bipush (v := (-71)) cx 16 rfl dL_veto_14 (by decide) ?_
      exact V_ireturn cx hr none ⟨_, he0, ⟨rfl, rfl⟩⟩ rfl (by omega) (by omega) dL_veto_16
    exact vx_catch (own := RL) (name := EIOB) cx.2.2.2.1 [] ⟨0, 9, 12, 22⟩ [] htab (fun z hz => by cases hz) (by decide) (by decide) (cx.word kl_L_22) (cst_IOB cx) h1 h2 h3 (hcont H1 locs1 ls hP hD hS hl)
  · intro v uu hw
    obtain ⟨VV1, rfl⟩ : ∃ z, z = uu := ⟨_, rfl⟩
    try dsimp only at hw
    refine V_istore (lc1 := [(4, .int v), (0, .ref (h 0)), (1, .int part), (2, .int next), (3, .int (bI b))]) cx 9 rfl dL_veto_7 (by decide) rfl ?_
    refine V_goto cx 17 dL_veto_9 (by decide) ?_
    refine V_iload cx 19 rfl dL_veto_17 0 rfl ?_
    refine V_if_eq cx 22 26 rfl dL_veto_19 (by decide) (fun c0 => ?_) (fun c0 => ?_)
    · skip
      refine V_iconst (v := nI 0) cx 27 rfl dL_veto_26 (by decide) ?_
      exact V_ireturn cx hr (some (VV1, v)) ⟨hw, ⟨fun _ => rfl, fun h0 => absurd c0 h0⟩⟩ rfl (by omega) (by omega) dL_veto_27
    · skip
      refine V_iconst (v := nI 1) cx 23 rfl dL_veto_22 (by decide) ?_
      refine V_goto cx 27 dL_veto_23 (by decide) ?_
      exact V_ireturn cx hr (some (VV1, v)) ⟨hw, ⟨fun h0 => absurd h0 c0, fun _ => rfl⟩⟩ rfl (by omega) (by omega) dL_veto_27
set_option maxHeartbeats 4000000 in
set_option maxRecDepth 100000 in
theorem kL_bar (l : Launch) (lo : Nat) (G : vG) (rs : va_W) (h : Nat → Nat) (np : Nat) (nl : Nat) (len : Nat) (fd : Nat) (lu : Nat) (tu : Nat) (T : Nat → Int32) (C : Nat → Int32) (F : Nat → Int32) (LT : Nat → Int32) (VV : Nat → Int32) (BB : Nat → Int32) (lt : Nat → Int32) (ph : Nat → Int32) (lh : Nat → Int32) (ks : Nat → Int64) (wd : Nat → Int32) (gr : Nat → Int32) (gs : Nat → Int32) (bl : Nat → Int32) (ie : Nat → Int32) (tw : Nat → Int32) (part : Int32) (next : Int32) (b : Bool) (hst : l.stackTraces = false) (hnp : np ≤ 16) (hnl : nl ≤ 6) (hz : ∀ i, ∃ bb : Bool, BB i = bI bb) : Mi l yL_bar (.codeWith yL_bar method_8_code 6 (some .int) [(0, 9, 12, 22)]) 10 2 12 lo G [.ref (h 0), .int part, .int next, .int (bI b)] (cW G h np nl len fd lu tu T C F LT VV BB lt ph lh ks wd gr gs bl ie tw ++ rs) (fun (r : Int32) (uu : Option ((Nat → Int32) × Int32)) => match uu with | none => ∃ E, (fun E => E = EIOB ∧ ¬ (cIsP np part ∧ cIsP nl next)) E ∧ ((E = EIOB ∧ r = (-71))) | some (BB1, v) => (∃ p q, p < np ∧ q < nl ∧ part = nI p ∧ next = nI q ∧ v = BB (p * 6 + q) ∧ BB1 = upd BB (p * 6 + q) (bI b)) ∧ (v = 0 → r = nI 0) ∧ (¬ v = 0 → r = nI 1)) (fun (uu : Option ((Nat → Int32) × Int32)) => match uu with | none => cW G h np nl len fd lu tu T C F LT VV BB lt ph lh ks wd gr gs bl ie tw ++ rs | some (BB1, v) => cW G h np nl len fd lu tu T C F LT VV BB1 lt ph lh ks wd gr gs bl ie tw ++ rs) := by
  refine MiW_of (lc := [(0, .ref (h 0)), (1, .int part), (2, .int next), (3, .int (bI b))]) (by decide +kernel) (Nat.le_of_ble_eq_true rfl) rfl ?_
  intro X cx hXR hXl hr htab
  subst hXl
  have hX := RmX.of hXR
  refine V_aload_n cx 1 rfl dL_bar_0 0 rfl ?_
  refine V_iload_n cx 2 rfl dL_bar_1 1 rfl ?_
  refine V_iload_n cx 3 rfl dL_bar_2 2 rfl ?_
  refine V_iload_n cx 4 rfl dL_bar_3 3 rfl ?_
  refine KXL_32 (As := [.int part, .int next, .int (bI b)]) (rest := []) cx (kX4_bar (xl X) lo G rs h np nl len fd lu tu T C F LT VV BB lt ph lh ks wd gr gs bl ie tw part next b hst hnp hnl hz) hX (by omega) 0 rfl rfl rfl (Nat.le_of_ble_eq_true rfl) 7 2 12 rfl rfl rfl (by omega) (by omega) dL_bar_4 ?_ ?_
  · intro E ce q9 H1 locs1 ls he hP hD hS hl h1 h2 h3
    have he0 := he
    obtain ⟨hE, _⟩ := id he0
    subst hE
    have hcont : V X lo 6 G (Qi X lo G (fun (r : Int32) (uu : Option ((Nat → Int32) × Int32)) => match uu with | none => ∃ E, (fun E => E = EIOB ∧ ¬ (cIsP np part ∧ cIsP nl next)) E ∧ ((E = EIOB ∧ r = (-71))) | some (BB1, v) => (∃ p q, p < np ∧ q < nl ∧ part = nI p ∧ next = nI q ∧ v = BB (p * 6 + q) ∧ BB1 = upd BB (p * 6 + q) (bI b)) ∧ (v = 0 → r = nI 0) ∧ (¬ v = 0 → r = nI 1)) (fun (uu : Option ((Nat → Int32) × Int32)) => match uu with | none => cW G h np nl len fd lu tu T C F LT VV BB lt ph lh ks wd gr gs bl ie tw ++ rs | some (BB1, v) => cW G h np nl len fd lu tu T C F LT VV BB1 lt ph lh ks wd gr gs bl ie tw ++ rs) 2 12) 2 12 (cW G h np nl len fd lu tu T C F LT VV BB lt ph lh ks wd gr gs bl ie tw ++ rs) [(0, .ref (h 0)), (1, .int part), (2, .int next), (3, .int (bI b))] [.ref q9] 12 := by
      refine V_astore (lc1 := [(5, .ref q9), (0, .ref (h 0)), (1, .int part), (2, .int next), (3, .int (bI b))]) cx 14 rfl dL_bar_12 (by decide) rfl ?_
      refine V_bipush (v := (-71)) cx 16 rfl dL_bar_14 (by decide) ?_
      exact V_ireturn cx hr none ⟨_, he0, ⟨rfl, rfl⟩⟩ rfl (by omega) (by omega) dL_bar_16
    exact vx_catch (own := RL) (name := EIOB) cx.2.2.2.1 [] ⟨0, 9, 12, 22⟩ [] htab (fun z hz => by cases hz) (by decide) (by decide) (cx.word kl_L_22) (cst_IOB cx) h1 h2 h3 (hcont H1 locs1 ls hP hD hS hl)
  · intro v uu hw
    obtain ⟨BB1, rfl⟩ : ∃ z, z = uu := ⟨_, rfl⟩
    try dsimp only at hw
    refine V_istore (lc1 := [(4, .int v), (0, .ref (h 0)), (1, .int part), (2, .int next), (3, .int (bI b))]) cx 9 rfl dL_bar_7 (by decide) rfl ?_
    refine V_goto cx 17 dL_bar_9 (by decide) ?_
    refine V_iload cx 19 rfl dL_bar_17 0 rfl ?_
    refine V_if_eq cx 22 26 rfl dL_bar_19 (by decide) (fun c0 => ?_) (fun c0 => ?_)
    · skip
      refine V_iconst (v := nI 0) cx 27 rfl dL_bar_26 (by decide) ?_
      exact V_ireturn cx hr (some (BB1, v)) ⟨hw, ⟨fun _ => rfl, fun h0 => absurd c0 h0⟩⟩ rfl (by omega) (by omega) dL_bar_27
    · skip
      refine V_iconst (v := nI 1) cx 23 rfl dL_bar_22 (by decide) ?_
      refine V_goto cx 27 dL_bar_23 (by decide) ?_
      exact V_ireturn cx hr (some (BB1, v)) ⟨hw, ⟨fun h0 => absurd h0 c0, fun _ => rfl⟩⟩ rfl (by omega) (by omega) dL_bar_27
set_option maxHeartbeats 4000000 in
set_option maxRecDepth 100000 in
theorem kL_count (l : Launch) (lo : Nat) (G : vG) (rs : va_W) (h : Nat → Nat) (np : Nat) (nl : Nat) (len : Nat) (fd : Nat) (lu : Nat) (tu : Nat) (T : Nat → Int32) (C : Nat → Int32) (F : Nat → Int32) (LT : Nat → Int32) (VV : Nat → Int32) (BB : Nat → Int32) (lt : Nat → Int32) (ph : Nat → Int32) (lh : Nat → Int32) (ks : Nat → Int64) (wd : Nat → Int32) (gr : Nat → Int32) (gs : Nat → Int32) (bl : Nat → Int32) (ie : Nat → Int32) (tw : Nat → Int32) (part : Int32) (hst : l.stackTraces = false) (hnp : np ≤ 16) : Mi l yL_count (.codeWith yL_count method_9_code 4 (some .int) [(0, 6, 9, 22)]) 10 1 6 lo G [.ref (h 0), .int part] (cW G h np nl len fd lu tu T C F LT VV BB lt ph lh ks wd gr gs bl ie tw ++ rs) (fun (r : Int32) (uu : Option (Int32)) => match uu with | none => ∃ E, (fun E => E = EIOB ∧ ¬ cIsP np part) E ∧ ((E = EIOB ∧ r = (-71))) | some v => (∃ q, q < np ∧ part = nI q ∧ v = C q) ∧ r = v) (fun (uu : Option (Int32)) => match uu with | none => cW G h np nl len fd lu tu T C F LT VV BB lt ph lh ks wd gr gs bl ie tw ++ rs | some v => cW G h np nl len fd lu tu T C F LT VV BB lt ph lh ks wd gr gs bl ie tw ++ rs) := by
  refine MiW_of (lc := [(0, .ref (h 0)), (1, .int part)]) (by decide +kernel) (Nat.le_of_ble_eq_true rfl) rfl ?_
  intro X cx hXR hXl hr htab
  subst hXl
  have hX := RmX.of hXR
  refine V_aload_n cx 1 rfl dL_count_0 0 rfl ?_
  refine V_iload_n cx 2 rfl dL_count_1 1 rfl ?_
  refine KXL_35 (As := [.int part]) (rest := []) cx (kX4_count (xl X) lo G rs h np nl len fd lu tu T C F LT VV BB lt ph lh ks wd gr gs bl ie tw part hst hnp) hX (by omega) 0 rfl rfl rfl (Nat.le_of_ble_eq_true rfl) 5 1 6 rfl rfl rfl (by omega) (by omega) dL_count_2 ?_ ?_
  · intro E ce q9 H1 locs1 ls he hP hD hS hl h1 h2 h3
    have he0 := he
    obtain ⟨hE, _⟩ := id he0
    subst hE
    have hcont : V X lo 4 G (Qi X lo G (fun (r : Int32) (uu : Option (Int32)) => match uu with | none => ∃ E, (fun E => E = EIOB ∧ ¬ cIsP np part) E ∧ ((E = EIOB ∧ r = (-71))) | some v => (∃ q, q < np ∧ part = nI q ∧ v = C q) ∧ r = v) (fun (uu : Option (Int32)) => match uu with | none => cW G h np nl len fd lu tu T C F LT VV BB lt ph lh ks wd gr gs bl ie tw ++ rs | some v => cW G h np nl len fd lu tu T C F LT VV BB lt ph lh ks wd gr gs bl ie tw ++ rs) 1 6) 1 6 (cW G h np nl len fd lu tu T C F LT VV BB lt ph lh ks wd gr gs bl ie tw ++ rs) [(0, .ref (h 0)), (1, .int part)] [.ref q9] 9 := by
      refine V_astore_n (lc1 := [(3, .ref q9), (0, .ref (h 0)), (1, .int part)]) cx 10 rfl dL_count_9 (by decide) rfl ?_
      refine V_bipush (v := (-71)) cx 12 rfl dL_count_10 (by decide) ?_
      exact V_ireturn cx hr none ⟨_, he0, ⟨rfl, rfl⟩⟩ rfl (by omega) (by omega) dL_count_12
    exact vx_catch (own := RL) (name := EIOB) cx.2.2.2.1 [] ⟨0, 6, 9, 22⟩ [] htab (fun z hz => by cases hz) (by decide) (by decide) (cx.word kl_L_22) (cst_IOB cx) h1 h2 h3 (hcont H1 locs1 ls hP hD hS hl)
  · intro v uu hw
    try dsimp only at hw
    refine V_istore_n (lc1 := [(2, .int v), (0, .ref (h 0)), (1, .int part)]) cx 6 rfl dL_count_5 (by decide) rfl ?_
    refine V_goto cx 13 dL_count_6 (by decide) ?_
    refine V_iload_n cx 14 rfl dL_count_13 0 rfl ?_
    exact V_ireturn cx hr (some v) ⟨hw, rfl⟩ rfl (by omega) (by omega) dL_count_14
set_option maxHeartbeats 4000000 in
set_option maxRecDepth 100000 in
theorem kL_find (l : Launch) (lo : Nat) (G : vG) (rs : va_W) (h : Nat → Nat) (np : Nat) (nl : Nat) (len : Nat) (fd : Nat) (lu : Nat) (tu : Nat) (T : Nat → Int32) (C : Nat → Int32) (F : Nat → Int32) (LT : Nat → Int32) (VV : Nat → Int32) (BB : Nat → Int32) (lt : Nat → Int32) (ph : Nat → Int32) (lh : Nat → Int32) (ks : Nat → Int64) (wd : Nat → Int32) (gr : Nat → Int32) (gs : Nat → Int32) (bl : Nat → Int32) (ie : Nat → Int32) (tw : Nat → Int32) (text : Int32) (hst : l.stackTraces = false) (hnp : np ≤ 16) : Mi l yL_find (.codeWith yL_find method_10_code 4 (some .int) [(0, 6, 9, 14)]) 10 1 6 lo G [.ref (h 0), .int text] (cW G h np nl len fd lu tu T C F LT VV BB lt ph lh ks wd gr gs bl ie tw ++ rs) (fun (r : Int32) (uu : Option (Int32)) => match uu with | none => ∃ E, (fun E => E = EIAE ∧ SZ text 8 = 0) E ∧ ((E = EIAE ∧ r = (-72))) | some v => (0 < SZ text 8 ∧ v = oI (pwI T text np)) ∧ r = v) (fun (uu : Option (Int32)) => match uu with | none => cW G h np nl len fd lu tu T C F LT VV BB lt ph lh ks wd gr gs bl ie tw ++ rs | some v => cW G h np nl len fd lu tu T C F LT VV BB lt ph lh ks wd gr gs bl ie tw ++ rs) := by
  refine MiW_of (lc := [(0, .ref (h 0)), (1, .int text)]) (by decide +kernel) (Nat.le_of_ble_eq_true rfl) rfl ?_
  intro X cx hXR hXl hr htab
  subst hXl
  have hX := RmX.of hXR
  refine V_aload_n cx 1 rfl dL_find_0 0 rfl ?_
  refine V_iload_n cx 2 rfl dL_find_1 1 rfl ?_
  refine KXL_38 (As := [.int text]) (rest := []) cx (kX4_find (xl X) lo G rs h np nl len fd lu tu T C F LT VV BB lt ph lh ks wd gr gs bl ie tw text hst hnp) hX (by omega) 0 rfl rfl rfl (Nat.le_of_ble_eq_true rfl) 5 1 6 rfl rfl rfl (by omega) (by omega) dL_find_2 ?_ ?_
  · intro E ce q9 H1 locs1 ls he hP hD hS hl h1 h2 h3
    have he0 := he
    obtain ⟨hE, _⟩ := id he0
    subst hE
    have hcont : V X lo 4 G (Qi X lo G (fun (r : Int32) (uu : Option (Int32)) => match uu with | none => ∃ E, (fun E => E = EIAE ∧ SZ text 8 = 0) E ∧ ((E = EIAE ∧ r = (-72))) | some v => (0 < SZ text 8 ∧ v = oI (pwI T text np)) ∧ r = v) (fun (uu : Option (Int32)) => match uu with | none => cW G h np nl len fd lu tu T C F LT VV BB lt ph lh ks wd gr gs bl ie tw ++ rs | some v => cW G h np nl len fd lu tu T C F LT VV BB lt ph lh ks wd gr gs bl ie tw ++ rs) 1 6) 1 6 (cW G h np nl len fd lu tu T C F LT VV BB lt ph lh ks wd gr gs bl ie tw ++ rs) [(0, .ref (h 0)), (1, .int text)] [.ref q9] 9 := by
      refine V_astore_n (lc1 := [(3, .ref q9), (0, .ref (h 0)), (1, .int text)]) cx 10 rfl dL_find_9 (by decide) rfl ?_
      refine V_bipush (v := (-72)) cx 12 rfl dL_find_10 (by decide) ?_
      exact V_ireturn cx hr none ⟨_, he0, ⟨rfl, rfl⟩⟩ rfl (by omega) (by omega) dL_find_12
    exact vx_catch (own := RL) (name := EIAE) cx.2.2.2.1 [] ⟨0, 6, 9, 14⟩ [] htab (fun z hz => by cases hz) (by decide) (by decide) (cx.word kl_L_14) (cst_IAE cx) h1 h2 h3 (hcont H1 locs1 ls hP hD hS hl)
  · intro v uu hw
    try dsimp only at hw
    refine V_istore_n (lc1 := [(2, .int v), (0, .ref (h 0)), (1, .int text)]) cx 6 rfl dL_find_5 (by decide) rfl ?_
    refine V_goto cx 13 dL_find_6 (by decide) ?_
    refine V_iload_n cx 14 rfl dL_find_13 0 rfl ?_
    exact V_ireturn cx hr (some v) ⟨hw, rfl⟩ rfl (by omega) (by omega) dL_find_14
set_option maxHeartbeats 4000000 in
set_option maxRecDepth 100000 in
theorem kL_splits (l : Launch) (lo : Nat) (G : vG) (rs : va_W) (h : Nat → Nat) (np : Nat) (nl : Nat) (len : Nat) (fd : Nat) (lu : Nat) (tu : Nat) (T : Nat → Int32) (C : Nat → Int32) (F : Nat → Int32) (LT : Nat → Int32) (VV : Nat → Int32) (BB : Nat → Int32) (lt : Nat → Int32) (ph : Nat → Int32) (lh : Nat → Int32) (ks : Nat → Int64) (wd : Nat → Int32) (gr : Nat → Int32) (gs : Nat → Int32) (bl : Nat → Int32) (ie : Nat → Int32) (tw : Nat → Int32) (u : Int32) (x : LX) (hst : l.stackTraces = false) (hok : lxOK x) (hck : cOK x np nl T C F LT VV BB) : Mi l yL_splits (.codeWith yL_splits method_11_code 4 (some .int) [(0, 6, 9, 14)]) 24 1 6 lo G [.ref (h 0), .int u] (cW G h np nl len fd lu tu T C F LT VV BB lt ph lh ks wd gr gs bl ie tw ++ rs) (fun (r : Int32) (uu : Option ((Nat) × (Nat → Int32) × (Nat → Int32) × (Nat → Int32) × (Nat → Int64) × Int32)) => match uu with | none => ∃ E, (fun E => E = EIAE ∧ SZ u 8 = 0) E ∧ ((E = EIAE ∧ r = (-72))) | some (fd1, lt1, ph1, lh1, ks1, v) => (∃ w, u = nI w ∧ w < 200000000 ∧ 0 < SZ u 8 ∧ v = nI (mEn x (dgt w (SZ u 8)) (SZ u 8)).length) ∧ r = v) (fun (uu : Option ((Nat) × (Nat → Int32) × (Nat → Int32) × (Nat → Int32) × (Nat → Int64) × Int32)) => match uu with | none => cW G h np nl len fd lu tu T C F LT VV BB lt ph lh ks wd gr gs bl ie tw ++ rs | some (fd1, lt1, ph1, lh1, ks1, v) => cW G h np nl (SZ u 8) fd1 lu tu T C F LT VV BB lt1 ph1 lh1 ks1 wd gr gs bl ie tw ++ rs) := by
  refine MiW_of (lc := [(0, .ref (h 0)), (1, .int u)]) (by decide +kernel) (Nat.le_of_ble_eq_true rfl) rfl ?_
  intro X cx hXR hXl hr htab
  subst hXl
  have hX := RmX.of hXR
  refine V_aload_n cx 1 rfl dL_splits_0 0 rfl ?_
  refine V_iload_n cx 2 rfl dL_splits_1 1 rfl ?_
  refine KXL_41 (As := [.int u]) (rest := []) cx (kX4_splits (xl X) lo G rs h np nl len fd lu tu T C F LT VV BB lt ph lh ks wd gr gs bl ie tw u x hst hok hck) hX (by omega) 0 rfl rfl rfl (Nat.le_of_ble_eq_true rfl) 5 1 6 rfl rfl rfl (by omega) (by omega) dL_splits_2 ?_ ?_
  · intro E ce q9 H1 locs1 ls he hP hD hS hl h1 h2 h3
    have he0 := he
    obtain ⟨hE, _⟩ := id he0
    subst hE
    have hcont : V X lo 4 G (Qi X lo G (fun (r : Int32) (uu : Option ((Nat) × (Nat → Int32) × (Nat → Int32) × (Nat → Int32) × (Nat → Int64) × Int32)) => match uu with | none => ∃ E, (fun E => E = EIAE ∧ SZ u 8 = 0) E ∧ ((E = EIAE ∧ r = (-72))) | some (fd1, lt1, ph1, lh1, ks1, v) => (∃ w, u = nI w ∧ w < 200000000 ∧ 0 < SZ u 8 ∧ v = nI (mEn x (dgt w (SZ u 8)) (SZ u 8)).length) ∧ r = v) (fun (uu : Option ((Nat) × (Nat → Int32) × (Nat → Int32) × (Nat → Int32) × (Nat → Int64) × Int32)) => match uu with | none => cW G h np nl len fd lu tu T C F LT VV BB lt ph lh ks wd gr gs bl ie tw ++ rs | some (fd1, lt1, ph1, lh1, ks1, v) => cW G h np nl (SZ u 8) fd1 lu tu T C F LT VV BB lt1 ph1 lh1 ks1 wd gr gs bl ie tw ++ rs) 1 6) 1 6 (cW G h np nl len fd lu tu T C F LT VV BB lt ph lh ks wd gr gs bl ie tw ++ rs) [(0, .ref (h 0)), (1, .int u)] [.ref q9] 9 := by
      refine V_astore_n (lc1 := [(3, .ref q9), (0, .ref (h 0)), (1, .int u)]) cx 10 rfl dL_splits_9 (by decide) rfl ?_
      refine V_bipush (v := (-72)) cx 12 rfl dL_splits_10 (by decide) ?_
      exact V_ireturn cx hr none ⟨_, he0, ⟨rfl, rfl⟩⟩ rfl (by omega) (by omega) dL_splits_12
    exact vx_catch (own := RL) (name := EIAE) cx.2.2.2.1 [] ⟨0, 6, 9, 14⟩ [] htab (fun z hz => by cases hz) (by decide) (by decide) (cx.word kl_L_14) (cst_IAE cx) h1 h2 h3 (hcont H1 locs1 ls hP hD hS hl)
  · intro v uu hw
    obtain ⟨fd1, lt1, ph1, lh1, ks1⟩ := uu
    try dsimp only at hw
    refine V_istore_n (lc1 := [(2, .int v), (0, .ref (h 0)), (1, .int u)]) cx 6 rfl dL_splits_5 (by decide) rfl ?_
    refine V_goto cx 13 dL_splits_6 (by decide) ?_
    refine V_iload_n cx 14 rfl dL_splits_13 0 rfl ?_
    exact V_ireturn cx hr (some (fd1, lt1, ph1, lh1, ks1, v)) ⟨hw, rfl⟩ rfl (by omega) (by omega) dL_splits_14
set_option maxHeartbeats 4000000 in
set_option maxRecDepth 100000 in
theorem kL_cost (l : Launch) (lo : Nat) (G : vG) (rs : va_W) (h : Nat → Nat) (np : Nat) (nl : Nat) (len : Nat) (fd : Nat) (lu : Nat) (tu : Nat) (T : Nat → Int32) (C : Nat → Int32) (F : Nat → Int32) (LT : Nat → Int32) (VV : Nat → Int32) (BB : Nat → Int32) (lt : Nat → Int32) (ph : Nat → Int32) (lh : Nat → Int32) (ks : Nat → Int64) (wd : Nat → Int32) (gr : Nat → Int32) (gs : Nat → Int32) (bl : Nat → Int32) (ie : Nat → Int32) (tw : Nat → Int32) (u : Int32) (k : Int32) (x : LX) (hst : l.stackTraces = false) (hok : lxOK x) (hck : cOK x np nl T C F LT VV BB) : Mi l yL_cost (.codeWith yL_cost method_12_code 5 (some .int) [(0, 7, 10, 14)]) 24 2 12 lo G [.ref (h 0), .int u, .int k] (cW G h np nl len fd lu tu T C F LT VV BB lt ph lh ks wd gr gs bl ie tw ++ rs) (fun (r : Int32) (uu : Option ((Nat) × (Nat → Int32) × (Nat → Int32) × (Nat → Int32) × (Nat → Int64) × Int32)) => match uu with | none => ∃ E, (fun E => E = EIAE ∧ (SZ u 8 = 0 ∨ k < 0)) E ∧ ((E = EIAE ∧ r = (-72))) | some (fd1, lt1, ph1, lh1, ks1, v) => (askK x u k 0 (fun o => v = cosV x o)) ∧ r = v) (fun (uu : Option ((Nat) × (Nat → Int32) × (Nat → Int32) × (Nat → Int32) × (Nat → Int64) × Int32)) => match uu with | none => cW G h np nl len fd lu tu T C F LT VV BB lt ph lh ks wd gr gs bl ie tw ++ rs | some (fd1, lt1, ph1, lh1, ks1, v) => cW G h np nl (SZ u 8) fd1 lu tu T C F LT VV BB lt1 ph1 lh1 ks1 wd gr gs bl ie tw ++ rs) := by
  refine MiW_of (lc := [(0, .ref (h 0)), (1, .int u), (2, .int k)]) (by decide +kernel) (Nat.le_of_ble_eq_true rfl) rfl ?_
  intro X cx hXR hXl hr htab
  subst hXl
  have hX := RmX.of hXR
  refine V_aload_n cx 1 rfl dL_cost_0 0 rfl ?_
  refine V_iload_n cx 2 rfl dL_cost_1 1 rfl ?_
  refine V_iload_n cx 3 rfl dL_cost_2 2 rfl ?_
  refine KXL_44 (As := [.int u, .int k]) (rest := []) cx (kX4_cost (xl X) lo G rs h np nl len fd lu tu T C F LT VV BB lt ph lh ks wd gr gs bl ie tw u k x hst hok hck) hX (by omega) 0 rfl rfl rfl (Nat.le_of_ble_eq_true rfl) 6 2 12 rfl rfl rfl (by omega) (by omega) dL_cost_3 ?_ ?_
  · intro E ce q9 H1 locs1 ls he hP hD hS hl h1 h2 h3
    have he0 := he
    obtain ⟨hE, _⟩ := id he0
    subst hE
    have hcont : V X lo 5 G (Qi X lo G (fun (r : Int32) (uu : Option ((Nat) × (Nat → Int32) × (Nat → Int32) × (Nat → Int32) × (Nat → Int64) × Int32)) => match uu with | none => ∃ E, (fun E => E = EIAE ∧ (SZ u 8 = 0 ∨ k < 0)) E ∧ ((E = EIAE ∧ r = (-72))) | some (fd1, lt1, ph1, lh1, ks1, v) => (askK x u k 0 (fun o => v = cosV x o)) ∧ r = v) (fun (uu : Option ((Nat) × (Nat → Int32) × (Nat → Int32) × (Nat → Int32) × (Nat → Int64) × Int32)) => match uu with | none => cW G h np nl len fd lu tu T C F LT VV BB lt ph lh ks wd gr gs bl ie tw ++ rs | some (fd1, lt1, ph1, lh1, ks1, v) => cW G h np nl (SZ u 8) fd1 lu tu T C F LT VV BB lt1 ph1 lh1 ks1 wd gr gs bl ie tw ++ rs) 2 12) 2 12 (cW G h np nl len fd lu tu T C F LT VV BB lt ph lh ks wd gr gs bl ie tw ++ rs) [(0, .ref (h 0)), (1, .int u), (2, .int k)] [.ref q9] 10 := by
      refine V_astore (lc1 := [(4, .ref q9), (0, .ref (h 0)), (1, .int u), (2, .int k)]) cx 12 rfl dL_cost_10 (by decide) rfl ?_
      refine V_bipush (v := (-72)) cx 14 rfl dL_cost_12 (by decide) ?_
      exact V_ireturn cx hr none ⟨_, he0, ⟨rfl, rfl⟩⟩ rfl (by omega) (by omega) dL_cost_14
    exact vx_catch (own := RL) (name := EIAE) cx.2.2.2.1 [] ⟨0, 7, 10, 14⟩ [] htab (fun z hz => by cases hz) (by decide) (by decide) (cx.word kl_L_14) (cst_IAE cx) h1 h2 h3 (hcont H1 locs1 ls hP hD hS hl)
  · intro v uu hw
    obtain ⟨fd1, lt1, ph1, lh1, ks1⟩ := uu
    try dsimp only at hw
    refine V_istore_n (lc1 := [(3, .int v), (0, .ref (h 0)), (1, .int u), (2, .int k)]) cx 7 rfl dL_cost_6 (by decide) rfl ?_
    refine V_goto cx 15 dL_cost_7 (by decide) ?_
    refine V_iload_n cx 16 rfl dL_cost_15 0 rfl ?_
    exact V_ireturn cx hr (some (fd1, lt1, ph1, lh1, ks1, v)) ⟨hw, rfl⟩ rfl (by omega) (by omega) dL_cost_16
set_option maxHeartbeats 4000000 in
set_option maxRecDepth 100000 in
theorem kL_partAt (l : Launch) (lo : Nat) (G : vG) (rs : va_W) (h : Nat → Nat) (np : Nat) (nl : Nat) (len : Nat) (fd : Nat) (lu : Nat) (tu : Nat) (T : Nat → Int32) (C : Nat → Int32) (F : Nat → Int32) (LT : Nat → Int32) (VV : Nat → Int32) (BB : Nat → Int32) (lt : Nat → Int32) (ph : Nat → Int32) (lh : Nat → Int32) (ks : Nat → Int64) (wd : Nat → Int32) (gr : Nat → Int32) (gs : Nat → Int32) (bl : Nat → Int32) (ie : Nat → Int32) (tw : Nat → Int32) (u : Int32) (k : Int32) (j : Int32) (x : LX) (hst : l.stackTraces = false) (hok : lxOK x) (hck : cOK x np nl T C F LT VV BB) : Mi l yL_partAt (.codeWith yL_partAt method_13_code 6 (some .int) [(0, 9, 12, 14)]) 24 2 12 lo G [.ref (h 0), .int u, .int k, .int j] (cW G h np nl len fd lu tu T C F LT VV BB lt ph lh ks wd gr gs bl ie tw ++ rs) (fun (r : Int32) (uu : Option ((Nat) × (Nat → Int32) × (Nat → Int32) × (Nat → Int32) × (Nat → Int64) × Int32)) => match uu with | none => ∃ E, (fun E => E = EIAE ∧ (j < 0 ∨ (SZ u 8 = 0 ∨ k < 0))) E ∧ ((E = EIAE ∧ r = (-72))) | some (fd1, lt1, ph1, lh1, ks1, v) => (¬ j < 0 ∧ askK x u k 0 (patP j v)) ∧ r = v) (fun (uu : Option ((Nat) × (Nat → Int32) × (Nat → Int32) × (Nat → Int32) × (Nat → Int64) × Int32)) => match uu with | none => cW G h np nl len fd lu tu T C F LT VV BB lt ph lh ks wd gr gs bl ie tw ++ rs | some (fd1, lt1, ph1, lh1, ks1, v) => cW G h np nl (SZ u 8) fd1 lu tu T C F LT VV BB lt1 ph1 lh1 ks1 wd gr gs bl ie tw ++ rs) := by
  refine MiW_of (lc := [(0, .ref (h 0)), (1, .int u), (2, .int k), (3, .int j)]) (by decide +kernel) (Nat.le_of_ble_eq_true rfl) rfl ?_
  intro X cx hXR hXl hr htab
  subst hXl
  have hX := RmX.of hXR
  refine V_aload_n cx 1 rfl dL_partAt_0 0 rfl ?_
  refine V_iload_n cx 2 rfl dL_partAt_1 1 rfl ?_
  refine V_iload_n cx 3 rfl dL_partAt_2 2 rfl ?_
  refine V_iload_n cx 4 rfl dL_partAt_3 3 rfl ?_
  refine KXL_47 (As := [.int u, .int k, .int j]) (rest := []) cx (kX4_partAt (xl X) lo G rs h np nl len fd lu tu T C F LT VV BB lt ph lh ks wd gr gs bl ie tw u k j x hst hok hck) hX (by omega) 0 rfl rfl rfl (Nat.le_of_ble_eq_true rfl) 7 2 12 rfl rfl rfl (by omega) (by omega) dL_partAt_4 ?_ ?_
  · intro E ce q9 H1 locs1 ls he hP hD hS hl h1 h2 h3
    have he0 := he
    obtain ⟨hE, _⟩ := id he0
    subst hE
    have hcont : V X lo 6 G (Qi X lo G (fun (r : Int32) (uu : Option ((Nat) × (Nat → Int32) × (Nat → Int32) × (Nat → Int32) × (Nat → Int64) × Int32)) => match uu with | none => ∃ E, (fun E => E = EIAE ∧ (j < 0 ∨ (SZ u 8 = 0 ∨ k < 0))) E ∧ ((E = EIAE ∧ r = (-72))) | some (fd1, lt1, ph1, lh1, ks1, v) => (¬ j < 0 ∧ askK x u k 0 (patP j v)) ∧ r = v) (fun (uu : Option ((Nat) × (Nat → Int32) × (Nat → Int32) × (Nat → Int32) × (Nat → Int64) × Int32)) => match uu with | none => cW G h np nl len fd lu tu T C F LT VV BB lt ph lh ks wd gr gs bl ie tw ++ rs | some (fd1, lt1, ph1, lh1, ks1, v) => cW G h np nl (SZ u 8) fd1 lu tu T C F LT VV BB lt1 ph1 lh1 ks1 wd gr gs bl ie tw ++ rs) 2 12) 2 12 (cW G h np nl len fd lu tu T C F LT VV BB lt ph lh ks wd gr gs bl ie tw ++ rs) [(0, .ref (h 0)), (1, .int u), (2, .int k), (3, .int j)] [.ref q9] 12 := by
      refine V_astore (lc1 := [(5, .ref q9), (0, .ref (h 0)), (1, .int u), (2, .int k), (3, .int j)]) cx 14 rfl dL_partAt_12 (by decide) rfl ?_
      refine V_bipush (v := (-72)) cx 16 rfl dL_partAt_14 (by decide) ?_
      exact V_ireturn cx hr none ⟨_, he0, ⟨rfl, rfl⟩⟩ rfl (by omega) (by omega) dL_partAt_16
    exact vx_catch (own := RL) (name := EIAE) cx.2.2.2.1 [] ⟨0, 9, 12, 14⟩ [] htab (fun z hz => by cases hz) (by decide) (by decide) (cx.word kl_L_14) (cst_IAE cx) h1 h2 h3 (hcont H1 locs1 ls hP hD hS hl)
  · intro v uu hw
    obtain ⟨fd1, lt1, ph1, lh1, ks1⟩ := uu
    try dsimp only at hw
    refine V_istore (lc1 := [(4, .int v), (0, .ref (h 0)), (1, .int u), (2, .int k), (3, .int j)]) cx 9 rfl dL_partAt_7 (by decide) rfl ?_
    refine V_goto cx 17 dL_partAt_9 (by decide) ?_
    refine V_iload cx 19 rfl dL_partAt_17 0 rfl ?_
    exact V_ireturn cx hr (some (fd1, lt1, ph1, lh1, ks1, v)) ⟨hw, rfl⟩ rfl (by omega) (by omega) dL_partAt_19
set_option maxHeartbeats 4000000 in
set_option maxRecDepth 100000 in
theorem kL_learn (l : Launch) (lo : Nat) (G : vG) (rs : va_W) (h : Nat → Nat) (np : Nat) (nl : Nat) (len : Nat) (fd : Nat) (lu : Nat) (tu : Nat) (T : Nat → Int32) (C : Nat → Int32) (F : Nat → Int32) (LT : Nat → Int32) (VV : Nat → Int32) (BB : Nat → Int32) (lt : Nat → Int32) (ph : Nat → Int32) (lh : Nat → Int32) (ks : Nat → Int64) (wd : Nat → Int32) (gr : Nat → Int32) (gs : Nat → Int32) (bl : Nat → Int32) (ie : Nat → Int32) (tw : Nat → Int32) (u : Int32) (x : LX) (hst : l.stackTraces = false) (hok : lxOK x) (hck : cOK x np nl T C F LT VV BB) (hlu : lu ≤ 50) : Mi l yL_learn (.codeWith yL_learn method_14_code 4 (some .int) [(0, 6, 9, 14), (0, 6, 13, 16)]) 24 2 12 lo G [.ref (h 0), .int u] (cW G h np nl len fd lu tu T C F LT VV BB lt ph lh ks wd gr gs bl ie tw ++ rs) (fun (r : Int32) (uu : Option ((Nat) × (Nat → Int32) × (Nat → Int32) × (Nat → Int32) × (Nat → Int32) × (Nat) × (Nat → Int32) × (Nat → Int32) × (Nat → Int32) × (Nat → Int64) × Int32)) => match uu with | none => ∃ E, (fun E => (E = EIAE ∧ SZ u 8 = 0) ∨ (E = EISE ∧ 0 < SZ u 8 ∧ lu = 50)) E ∧ ((E = EIAE ∧ r = (-72)) ∨ (E = EISE ∧ r = (-73))) | some (lu1, C1, gr1, gs1, wd1, fd1, lt1, ph1, lh1, ks1, v) => (cLearn x np u v lu C gr gs wd lu1 C1 gr1 gs1 wd1) ∧ (v = 0 → r = nI 0) ∧ (¬ v = 0 → r = nI 1)) (fun (uu : Option ((Nat) × (Nat → Int32) × (Nat → Int32) × (Nat → Int32) × (Nat → Int32) × (Nat) × (Nat → Int32) × (Nat → Int32) × (Nat → Int32) × (Nat → Int64) × Int32)) => match uu with | none => cW G h np nl len fd lu tu T C F LT VV BB lt ph lh ks wd gr gs bl ie tw ++ rs | some (lu1, C1, gr1, gs1, wd1, fd1, lt1, ph1, lh1, ks1, v) => cW G h np nl (SZ u 8) fd1 lu1 tu T C1 F LT VV BB lt1 ph1 lh1 ks1 wd1 gr1 gs1 bl ie tw ++ rs) := by
  refine MiW_of (lc := [(0, .ref (h 0)), (1, .int u)]) (by decide +kernel) (Nat.le_of_ble_eq_true rfl) rfl ?_
  intro X cx hXR hXl hr htab
  subst hXl
  have hX := RmX.of hXR
  refine V_aload_n cx 1 rfl dL_learn_0 0 rfl ?_
  refine V_iload_n cx 2 rfl dL_learn_1 1 rfl ?_
  refine KXL_50 (As := [.int u]) (rest := []) cx (kX4_learn (xl X) lo G rs h np nl len fd lu tu T C F LT VV BB lt ph lh ks wd gr gs bl ie tw u x hst hok hck hlu) hX (by omega) 0 rfl rfl rfl (Nat.le_of_ble_eq_true rfl) 5 2 12 rfl rfl rfl (by omega) (by omega) dL_learn_2 ?_ ?_
  · intro E ce q9 H1 locs1 ls he hP hD hS hl h1 h2 h3
    rcases he with he0 | he0
    · skip
      obtain ⟨hE, _⟩ := id he0
      subst hE
      have hcont : V X lo 4 G (Qi X lo G (fun (r : Int32) (uu : Option ((Nat) × (Nat → Int32) × (Nat → Int32) × (Nat → Int32) × (Nat → Int32) × (Nat) × (Nat → Int32) × (Nat → Int32) × (Nat → Int32) × (Nat → Int64) × Int32)) => match uu with | none => ∃ E, (fun E => (E = EIAE ∧ SZ u 8 = 0) ∨ (E = EISE ∧ 0 < SZ u 8 ∧ lu = 50)) E ∧ ((E = EIAE ∧ r = (-72)) ∨ (E = EISE ∧ r = (-73))) | some (lu1, C1, gr1, gs1, wd1, fd1, lt1, ph1, lh1, ks1, v) => (cLearn x np u v lu C gr gs wd lu1 C1 gr1 gs1 wd1) ∧ (v = 0 → r = nI 0) ∧ (¬ v = 0 → r = nI 1)) (fun (uu : Option ((Nat) × (Nat → Int32) × (Nat → Int32) × (Nat → Int32) × (Nat → Int32) × (Nat) × (Nat → Int32) × (Nat → Int32) × (Nat → Int32) × (Nat → Int64) × Int32)) => match uu with | none => cW G h np nl len fd lu tu T C F LT VV BB lt ph lh ks wd gr gs bl ie tw ++ rs | some (lu1, C1, gr1, gs1, wd1, fd1, lt1, ph1, lh1, ks1, v) => cW G h np nl (SZ u 8) fd1 lu1 tu T C1 F LT VV BB lt1 ph1 lh1 ks1 wd1 gr1 gs1 bl ie tw ++ rs) 2 12) 2 12 (cW G h np nl len fd lu tu T C F LT VV BB lt ph lh ks wd gr gs bl ie tw ++ rs) [(0, .ref (h 0)), (1, .int u)] [.ref q9] 9 := by
        refine V_astore_n (lc1 := [(3, .ref q9), (0, .ref (h 0)), (1, .int u)]) cx 10 rfl dL_learn_9 (by decide) rfl ?_
        refine V_bipush (v := (-72)) cx 12 rfl dL_learn_10 (by decide) ?_
        exact V_ireturn cx hr none ⟨_, Or.inl he0, Or.inl ⟨rfl, rfl⟩⟩ rfl (by omega) (by omega) dL_learn_12
      exact vx_catch (own := RL) (name := EIAE) cx.2.2.2.1 [] ⟨0, 6, 9, 14⟩ [⟨0, 6, 13, 16⟩] htab (fun z hz => by cases hz) (by decide) (by decide) (cx.word kl_L_14) (cst_IAE cx) h1 h2 h3 (hcont H1 locs1 ls hP hD hS hl)
    · skip
      obtain ⟨hE, _⟩ := id he0
      subst hE
      have hcont : V X lo 4 G (Qi X lo G (fun (r : Int32) (uu : Option ((Nat) × (Nat → Int32) × (Nat → Int32) × (Nat → Int32) × (Nat → Int32) × (Nat) × (Nat → Int32) × (Nat → Int32) × (Nat → Int32) × (Nat → Int64) × Int32)) => match uu with | none => ∃ E, (fun E => (E = EIAE ∧ SZ u 8 = 0) ∨ (E = EISE ∧ 0 < SZ u 8 ∧ lu = 50)) E ∧ ((E = EIAE ∧ r = (-72)) ∨ (E = EISE ∧ r = (-73))) | some (lu1, C1, gr1, gs1, wd1, fd1, lt1, ph1, lh1, ks1, v) => (cLearn x np u v lu C gr gs wd lu1 C1 gr1 gs1 wd1) ∧ (v = 0 → r = nI 0) ∧ (¬ v = 0 → r = nI 1)) (fun (uu : Option ((Nat) × (Nat → Int32) × (Nat → Int32) × (Nat → Int32) × (Nat → Int32) × (Nat) × (Nat → Int32) × (Nat → Int32) × (Nat → Int32) × (Nat → Int64) × Int32)) => match uu with | none => cW G h np nl len fd lu tu T C F LT VV BB lt ph lh ks wd gr gs bl ie tw ++ rs | some (lu1, C1, gr1, gs1, wd1, fd1, lt1, ph1, lh1, ks1, v) => cW G h np nl (SZ u 8) fd1 lu1 tu T C1 F LT VV BB lt1 ph1 lh1 ks1 wd1 gr1 gs1 bl ie tw ++ rs) 2 12) 2 12 (cW G h np nl len fd lu tu T C F LT VV BB lt ph lh ks wd gr gs bl ie tw ++ rs) [(0, .ref (h 0)), (1, .int u)] [.ref q9] 13 := by
        refine V_astore_n (lc1 := [(3, .ref q9), (0, .ref (h 0)), (1, .int u)]) cx 14 rfl dL_learn_13 (by decide) rfl ?_
        refine V_bipush (v := (-73)) cx 16 rfl dL_learn_14 (by decide) ?_
        exact V_ireturn cx hr none ⟨_, Or.inr he0, Or.inr ⟨rfl, rfl⟩⟩ rfl (by omega) (by omega) dL_learn_16
      exact vx_catch (own := RL) (name := EISE) cx.2.2.2.1 [⟨0, 6, 9, 14⟩] ⟨0, 6, 13, 16⟩ [] htab (fun z hz => by rw [List.mem_singleton] at hz; subst hz; exact Or.inr ⟨by decide, EIAE, cx.word kl_L_14, cx.2.2.2.2.2.2.1.2.1.2.1⟩) (by decide) (by decide) (cx.word kl_L_16) (cst_ISE cx) h1 h2 h3 (hcont H1 locs1 ls hP hD hS hl)
  · intro v uu hw
    obtain ⟨lu1, C1, gr1, gs1, wd1, fd1, lt1, ph1, lh1, ks1⟩ := uu
    try dsimp only at hw
    refine V_istore_n (lc1 := [(2, .int v), (0, .ref (h 0)), (1, .int u)]) cx 6 rfl dL_learn_5 (by decide) rfl ?_
    refine V_goto cx 17 dL_learn_6 (by decide) ?_
    refine V_iload_n cx 18 rfl dL_learn_17 0 rfl ?_
    refine V_if_eq cx 21 25 rfl dL_learn_18 (by decide) (fun c0 => ?_) (fun c0 => ?_)
    · skip
      refine V_iconst (v := nI 0) cx 26 rfl dL_learn_25 (by decide) ?_
      exact V_ireturn cx hr (some (lu1, C1, gr1, gs1, wd1, fd1, lt1, ph1, lh1, ks1, v)) ⟨hw, ⟨fun _ => rfl, fun h0 => absurd c0 h0⟩⟩ rfl (by omega) (by omega) dL_learn_26
    · skip
      refine V_iconst (v := nI 1) cx 22 rfl dL_learn_21 (by decide) ?_
      refine V_goto cx 26 dL_learn_22 (by decide) ?_
      exact V_ireturn cx hr (some (lu1, C1, gr1, gs1, wd1, fd1, lt1, ph1, lh1, ks1, v)) ⟨hw, ⟨fun h0 => absurd h0 c0, fun _ => rfl⟩⟩ rfl (by omega) (by omega) dL_learn_26
set_option maxHeartbeats 4000000 in
set_option maxRecDepth 100000 in
theorem kL_forget (l : Launch) (lo : Nat) (G : vG) (rs : va_W) (h : Nat → Nat) (np : Nat) (nl : Nat) (len : Nat) (fd : Nat) (lu : Nat) (tu : Nat) (T : Nat → Int32) (C : Nat → Int32) (F : Nat → Int32) (LT : Nat → Int32) (VV : Nat → Int32) (BB : Nat → Int32) (lt : Nat → Int32) (ph : Nat → Int32) (lh : Nat → Int32) (ks : Nat → Int64) (wd : Nat → Int32) (gr : Nat → Int32) (gs : Nat → Int32) (bl : Nat → Int32) (ie : Nat → Int32) (tw : Nat → Int32) (n : Nat) (gv : Nat → Nat) (hst : l.stackTraces = false) (hlu : lu ≤ 50) (hg : 0 < lu → gs (lu - 1) = nI n ∧ n ≤ 8) (hgr : 0 < lu → ∀ i, i < n → gr ((lu - 1) * 8 + i) = nI (gv i) ∧ gv i < 16) : Mi l yL_forget (.codeWith yL_forget method_15_code 3 (some .int) [(0, 5, 8, 16)]) 10 1 6 lo G [.ref (h 0)] (cW G h np nl len fd lu tu T C F LT VV BB lt ph lh ks wd gr gs bl ie tw ++ rs) (fun (r : Int32) (uu : Option (Int32)) => match uu with | none => ∃ E, (fun E => E = EISE ∧ lu = 0) E ∧ ((E = EISE ∧ r = (-73))) | some v => (0 < lu ∧ v = wd (lu - 1)) ∧ r = v) (fun (uu : Option (Int32)) => match uu with | none => cW G h np nl len fd lu tu T C F LT VV BB lt ph lh ks wd gr gs bl ie tw ++ rs | some v => cW G h np nl len fd (lu - 1) tu T (tkb C gv n) F LT VV BB lt ph lh ks wd gr gs bl ie tw ++ rs) := by
  refine MiW_of (lc := [(0, .ref (h 0))]) (by decide +kernel) (Nat.le_of_ble_eq_true rfl) rfl ?_
  intro X cx hXR hXl hr htab
  subst hXl
  have hX := RmX.of hXR
  refine V_aload_n cx 1 rfl dL_forget_0 0 rfl ?_
  refine KXL_54 (As := []) (rest := []) cx (kX4_forget (xl X) lo G rs h np nl len fd lu tu T C F LT VV BB lt ph lh ks wd gr gs bl ie tw n gv hst hlu hg hgr) hX (by omega) 0 rfl rfl rfl (Nat.le_of_ble_eq_true rfl) 4 1 6 rfl rfl rfl (by omega) (by omega) dL_forget_1 ?_ ?_
  · intro E ce q9 H1 locs1 ls he hP hD hS hl h1 h2 h3
    have he0 := he
    obtain ⟨hE, _⟩ := id he0
    subst hE
    have hcont : V X lo 3 G (Qi X lo G (fun (r : Int32) (uu : Option (Int32)) => match uu with | none => ∃ E, (fun E => E = EISE ∧ lu = 0) E ∧ ((E = EISE ∧ r = (-73))) | some v => (0 < lu ∧ v = wd (lu - 1)) ∧ r = v) (fun (uu : Option (Int32)) => match uu with | none => cW G h np nl len fd lu tu T C F LT VV BB lt ph lh ks wd gr gs bl ie tw ++ rs | some v => cW G h np nl len fd (lu - 1) tu T (tkb C gv n) F LT VV BB lt ph lh ks wd gr gs bl ie tw ++ rs) 1 6) 1 6 (cW G h np nl len fd lu tu T C F LT VV BB lt ph lh ks wd gr gs bl ie tw ++ rs) [(0, .ref (h 0))] [.ref q9] 8 := by
      refine V_astore_n (lc1 := [(2, .ref q9), (0, .ref (h 0))]) cx 9 rfl dL_forget_8 (by decide) rfl ?_
      refine V_bipush (v := (-73)) cx 11 rfl dL_forget_9 (by decide) ?_
      exact V_ireturn cx hr none ⟨_, he0, ⟨rfl, rfl⟩⟩ rfl (by omega) (by omega) dL_forget_11
    exact vx_catch (own := RL) (name := EISE) cx.2.2.2.1 [] ⟨0, 5, 8, 16⟩ [] htab (fun z hz => by cases hz) (by decide) (by decide) (cx.word kl_L_16) (cst_ISE cx) h1 h2 h3 (hcont H1 locs1 ls hP hD hS hl)
  · intro v uu hw
    try dsimp only at hw
    refine V_istore_n (lc1 := [(1, .int v), (0, .ref (h 0))]) cx 5 rfl dL_forget_4 (by decide) rfl ?_
    refine V_goto cx 12 dL_forget_5 (by decide) ?_
    refine V_iload_n cx 13 rfl dL_forget_12 0 rfl ?_
    exact V_ireturn cx hr (some v) ⟨hw, rfl⟩ rfl (by omega) (by omega) dL_forget_13
