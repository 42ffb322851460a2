/-! the law's wrappers -/
theorem V.rot {X : vX} {lo nL : Nat} {G : vG} {Q : State → Prop} {k n : Nat} {a b : va_W} {lc : List (Nat × Value)} {st : List Value} {pc : Nat} (kk : V X lo nL G Q k n (b ++ a) lc st pc) : V X lo nL G Q k n (a ++ b) lc st pc := by
  have h := V.swap (a := a) (b := b) (c := []) (X := X) (lo := lo) (nL := nL) (G := G) (Q := Q) (k := k) (n := n) (lc := lc) (st := st) (pc := pc) (by rw [List.append_nil]; exact kk)
  rw [List.append_nil] at h
  exact h
theorem V.toM {X : vX} {lo nL : Nat} {G : vG} {Q : State → Prop} {k n : Nat} {a o m : va_W} {lc : List (Nat × Value)} {st : List Value} {pc : Nat} (kk : V X lo nL G Q k n (m ++ (a ++ o)) lc st pc) : V X lo nL G Q k n (a ++ (o ++ m)) lc st pc := by
  rw [← List.append_assoc]
  exact V.rot kk
theorem V.toC {X : vX} {lo nL : Nat} {G : vG} {Q : State → Prop} {k n : Nat} {a o m : va_W} {lc : List (Nat × Value)} {st : List Value} {pc : Nat} (kk : V X lo nL G Q k n (a ++ (o ++ m)) lc st pc) : V X lo nL G Q k n (m ++ (a ++ o)) lc st pc := by
  refine V.rot ?_
  rw [List.append_assoc]
  exact kk
theorem Met_ofWH {l : Launch} {y : MethodName} {ws ws' : List Cond} {rm : Room} {Pc : Array Value → State → Prop} {Qc : Array Value → State → Outcome → State → Prop} {mc ms : Nat} {free : Addr → Prop} {cc : ByteArray} {maxL : Nat} {ret : Option FieldType} {hh : List (Nat × Nat × Nat × Nat)}
    (hy : plainName y.cls = true) (hw : ws = Cond.codeWith y cc maxL ret hh :: ws')
    (body : ∀ p e s m args below meth c s₁, BodyLoose p l y (headSpec ws rm) cc maxL ret e s m args below meth c s₁ → c.maxLocals = maxL → Pc args s →
      W p l e (headSpec ws rm).room s m args below meth c s.heap [] 0 0 (MQ below Qc args s mc ms free) (entryFrame m args maxL)) : Met l y ws rm Pc Qc mc ms free := by
  refine MetFree.of_bodyS (code := cc) (maxLocals := maxL) (ret := ret) hy ?_ ?_
  · intro args s m h hn
    obtain ⟨m9, meth, c, hn9, h1, h2, h3, h4, -, h5, h6, -⟩ := Cond.codeWith_spec (atoms_spec (ws := ws) h _ (by rw [hw]; exact List.mem_cons_self))
    cases hn.symm.trans hn9
    exact ⟨meth, c, h1, h2, h3, h4, h5, h6⟩
  · intro p e s m args below meth c s₁ B hml hP _
    have hh0 : s₁.heap = s.heap := by rw [B.state]; rfl
    obtain ⟨t, a1, o, b1, b2, b3⟩ := body p e s m args below meth c s₁ B hml hP s₁ hh0 (Stand.of_body B)
    exact ⟨t, o, a1, b1, b2, b3⟩
theorem MiW_of {l : Launch} {y : MethodName} {cc : ByteArray} {maxL d mc ms lo : Nat} {ret : Option FieldType} {hh : List (Nat × Nat × Nat × Nat)} {G : vG} {av : List Value} {wi : va_W} {S : Type} {post : Int32 → S → Prop} {wo : S → va_W} {lc : List (Nat × Value)} (hy : plainName y.cls = true) (hlen : (lg_sl av).length ≤ maxL) (hav : lv_args 0 av = lc)
    (body : ∀ X : vX, Cx X lo maxL G cc y.cls → xR X = rmD d mc ms → xl X = l → (xh X).sig.returnType = ret → (xc X).exceptionTable.toList = tableOf hh → V X lo maxL G (Qi X lo G post wo mc ms) 0 0 wi lc [] 0) : Mi l y (.codeWith y cc maxL ret hh) d mc ms lo G av wi post wo := by
  refine Met_ofWH (cc := cc) (maxL := maxL) (ret := ret) (hh := hh) hy rfl ?_
  intro p e s m args below meth c s₁ B hml hv
  obtain ⟨rfl, hlo, hP, hD, hK, hG⟩ := hv
  rw [lg_entry_eq]
  have hts := atoms_spec (ws := Cond.codeWith y cc maxL ret hh :: WA) B.pre
  exact body (p, l, e, rmD d mc ms, s, m, _, below, meth, c) ⟨B.exec, B.bytes, hml, findClass_of_methodNamed B.named, fun w hw => hts w (List.mem_cons_of_mem _ hw), hK, hG, hlo, B.notSynchronized⟩ rfl rfl B.returns (vx_table (x := y) B (hts _ List.mem_cons_self)) s.heap [] _ hP hD va_S.rf (hav ▸ lv_entry av hlen)
section LW
variable {X : vX} {lo nL : Nat} {G : vG} {Q : State → Prop} {k n : Nat} {ws : va_W} {lc : List (Nat × Value)} {st : List Value} {pc : Nat} {cc : ByteArray} {own : String}
theorem V_runSW (C : Cx X lo nL G cc own) {y : MethodName} {bytes : ByteArray} {maxL d mc ms index nA : Nat} {ret : Option FieldType} {hh : List (Nat × Nat × Nat × Nat)} {As rest : List Value} {Qc : Array Value → State → Outcome → State → Prop} (hM : Met (xl X) y (Cond.codeWith y bytes maxL ret hh :: WA) (rmD d mc ms) (va_Pc As (BI lo G ws)) Qc mc ms (Lo lo)) (hw : Cond.methodLink own index y ∈ WA ∧ Cond.static y ∈ WA ∧ Cond.initialized y.cls ∈ WA ∧ Cond.codeWith y bytes maxL ret hh ∈ WA) (hd : y.cls ≠ "java/lang/invoke/MethodHandle" ∧ y.cls ≠ "java/lang/invoke/VarHandle" ∧ (parseMethodDescriptor y.desc).map (fun d => d.parameters.length) = some nA) (hR : (rmD d mc ms).frames + 1 ≤ (xR X).frames ∧ 8 + (maxL + 11) + (rmD d mc ms).locals ≤ (xR X).locals) (hn : As.length = nA) (hst : st = As.reverse ++ rest) (hrest : (rest.map fun v => v.category).sum ≤ 8) (hf : k + mc ≤ (xR X).cells ∧ n + ms ≤ (xR X).slots) (d : decode cc pc = .ok (.invokestatic index, 3)) : VRun X lo nL G k n mc ms ws lc st rest pc (Qc As.toArray) := fun H locs ls hP hD hS hl =>
  vx_runSW (As := As) (rest := rest) ⟨C.1, C.2.1, C.2.2.1, C.2.2.2.1, C.2.2.2.2.1⟩ hM (vx_cwSW nA C.2.2.2.2.1 (good_S hw.1 hw.2.1 hw.2.2.1 hw.2.2.2) rfl rfl rfl hd hR) ⟨bi_blind _ lo G ws, fun U hU hW => ⟨rfl, C.bi hP hD hS U hU hW⟩⟩ rfl hn hl.1 hst (lg_room hrest) d hf
theorem cst_IAE (C : Cx X lo nL G cc own) : (Cond.castable EIAE EIAE).before (xa X) (xs X) = true := va_Nw.use rfl (C.2.2.2.2.2.2.1.1 _ (by decide +kernel))
theorem cst_ISE (C : Cx X lo nL G cc own) : (Cond.castable EISE EISE).before (xa X) (xs X) = true := va_Nw.use rfl (C.2.2.2.2.2.2.1.1 _ (by decide +kernel))
theorem cst_IOB (C : Cx X lo nL G cc own) : (Cond.castable EIOB EIOB).before (xa X) (xs X) = true := va_Nw.use rfl (C.2.2.2.2.2.2.1.1 _ (by decide +kernel))
end LW
set_option maxHeartbeats 4000000 in
set_option maxRecDepth 100000 in
theorem kL_addPart (l : Launch) (lo : Nat) (G : vG) (rs : va_W) (h : Nat → Nat) (np : Nat) (nl : Nat) (len : Nat) (fd : Nat) (lu : Nat) (tu : Nat) (T : Nat → Int32) (C : Nat → Int32) (F : Nat → Int32) (LT : Nat → Int32) (VV : Nat → Int32) (BB : Nat → Int32) (lt : Nat → Int32) (ph : Nat → Int32) (lh : Nat → Int32) (ks : Nat → Int64) (wd : Nat → Int32) (gr : Nat → Int32) (gs : Nat → Int32) (bl : Nat → Int32) (ie : Nat → Int32) (tw : Nat → Int32) (oa : Nat) (ov : Nat → Int64) (text : Int32) (count : Int32) (flags : Int32) (W : Nat → Prop) (hst : l.stackTraces = false) (hnp : np ≤ 16) (htu : tu ≤ 1 + 4 * np) (hT : ∃ ch nd, TR ch nd bl ie tu W W) : Mi l yL_addPart (.codeWith yL_addPart method_3_code 6 (some .int) [(0, 12, 15, 13), (0, 12, 19, 15)]) 10 2 12 lo G [.ref (h 0), .int text, .int count, .int flags, .ref oa] (cW G h np nl len fd lu tu T C F LT VV BB lt ph lh ks wd gr gs bl ie tw ++ ([(oa, .inl (G.2.2.1, 1, .inr (.inl ov)))] ++ rs)) (fun (r : Int32) (uu : Option ((Nat) × (Nat → Int32) × (Nat → Int32) × Int32 × Int64)) => match uu with | none => ∃ E, (xAddPart np T text count flags) E ∧ ((E = EIAE ∧ r = nI 1) ∨ (E = EISE ∧ r = nI 2)) | some (tu1, bl1, ie1, v, z) => (cAddPart np T W text count flags v tu tu1 bl1 ie1) ∧ r = nI 0 ∧ z = v.toInt64) (fun (uu : Option ((Nat) × (Nat → Int32) × (Nat → Int32) × Int32 × Int64)) => match uu with | none => cW G h np nl len fd lu tu T C F LT VV BB lt ph lh ks wd gr gs bl ie tw ++ ([(oa, .inl (G.2.2.1, 1, .inr (.inl ov)))] ++ rs) | some (tu1, bl1, ie1, v, z) => cW G h (np + 1) nl len fd lu tu1 (upd T np text) (upd C np count) (upd F np flags) LT VV BB lt ph lh ks wd gr gs bl1 ie1 tw ++ ([(oa, .inl (G.2.2.1, 1, .inr (.inl (vp_updL ov 0 z))))] ++ rs)) := by
  refine MiW_of (lc := [(0, .ref (h 0)), (1, .int text), (2, .int count), (3, .int flags), (4, .ref oa)]) (by decide +kernel) (Nat.le_of_ble_eq_true rfl) rfl ?_
  intro X cx hXR hXl hr htab
  subst hXl
  have hX := RmX.of hXR
  refine V_aload cx 2 rfl dL_addPart_0 4 rfl ?_
  refine V_iconst (v := nI 0) cx 3 rfl dL_addPart_2 (by decide) ?_
  refine V_aload_n cx 4 rfl dL_addPart_3 0 rfl ?_
  refine V_iload_n cx 5 rfl dL_addPart_4 1 rfl ?_
  refine V_iload_n cx 6 rfl dL_addPart_5 2 rfl ?_
  refine V_iload_n cx 7 rfl dL_addPart_6 3 rfl ?_
  refine KXL_7 (As := [.int text, .int count, .int flags]) (rest := [.int (nI 0), .ref oa]) cx (kX4_addPart (xl X) lo G ([(oa, .inl (G.2.2.1, 1, .inr (.inl ov)))] ++ rs) h np nl len fd lu tu T C F LT VV BB lt ph lh ks wd gr gs bl ie tw text count flags W hst hnp htu hT) hX (by omega) 0 rfl rfl rfl (Nat.le_of_ble_eq_true rfl) 10 2 12 rfl rfl rfl (by omega) (by omega) dL_addPart_7 ?_ ?_
  · intro E ce q9 H1 locs1 ls he hP hD hS hl h1 h2 h3
    rcases he with he0 | he0
    · skip
      obtain ⟨hE, _⟩ := id he0
      subst hE
      have hcont : V X lo 6 G (Qi X lo G (fun (r : Int32) (uu : Option ((Nat) × (Nat → Int32) × (Nat → Int32) × Int32 × Int64)) => match uu with | none => ∃ E, (xAddPart np T text count flags) E ∧ ((E = EIAE ∧ r = nI 1) ∨ (E = EISE ∧ r = nI 2)) | some (tu1, bl1, ie1, v, z) => (cAddPart np T W text count flags v tu tu1 bl1 ie1) ∧ r = nI 0 ∧ z = v.toInt64) (fun (uu : Option ((Nat) × (Nat → Int32) × (Nat → Int32) × Int32 × Int64)) => match uu with | none => cW G h np nl len fd lu tu T C F LT VV BB lt ph lh ks wd gr gs bl ie tw ++ ([(oa, .inl (G.2.2.1, 1, .inr (.inl ov)))] ++ rs) | some (tu1, bl1, ie1, v, z) => cW G h (np + 1) nl len fd lu tu1 (upd T np text) (upd C np count) (upd F np flags) LT VV BB lt ph lh ks wd gr gs bl1 ie1 tw ++ ([(oa, .inl (G.2.2.1, 1, .inr (.inl (vp_updL ov 0 z))))] ++ rs)) 2 12) 2 12 (cW G h np nl len fd lu tu T C F LT VV BB lt ph lh ks wd gr gs bl ie tw ++ ([(oa, .inl (G.2.2.1, 1, .inr (.inl ov)))] ++ rs)) [(0, .ref (h 0)), (1, .int text), (2, .int count), (3, .int flags), (4, .ref oa)] [.ref q9] 15 := by
        refine V_astore (lc1 := [(5, .ref q9), (0, .ref (h 0)), (1, .int text), (2, .int count), (3, .int flags), (4, .ref oa)]) cx 17 rfl dL_addPart_15 (by decide) rfl ?_
        refine V_iconst (v := nI 1) cx 18 rfl dL_addPart_17 (by decide) ?_
        exact V_ireturn cx hr none ⟨_, Or.inl he0, Or.inl ⟨rfl, rfl⟩⟩ rfl (by omega) (by omega) dL_addPart_18
      exact vx_catch (own := RL) (name := EIAE) cx.2.2.2.1 [] ⟨0, 12, 15, 13⟩ [⟨0, 12, 19, 15⟩] htab (fun z hz => by cases hz) (by decide) (by decide) (cx.word kl_L_13) (cst_IAE cx) h1 h2 h3 (hcont H1 locs1 ls hP hD hS hl)
    · skip
      obtain ⟨hE, _⟩ := id he0
      subst hE
      have hcont : V X lo 6 G (Qi X lo G (fun (r : Int32) (uu : Option ((Nat) × (Nat → Int32) × (Nat → Int32) × Int32 × Int64)) => match uu with | none => ∃ E, (xAddPart np T text count flags) E ∧ ((E = EIAE ∧ r = nI 1) ∨ (E = EISE ∧ r = nI 2)) | some (tu1, bl1, ie1, v, z) => (cAddPart np T W text count flags v tu tu1 bl1 ie1) ∧ r = nI 0 ∧ z = v.toInt64) (fun (uu : Option ((Nat) × (Nat → Int32) × (Nat → Int32) × Int32 × Int64)) => match uu with | none => cW G h np nl len fd lu tu T C F LT VV BB lt ph lh ks wd gr gs bl ie tw ++ ([(oa, .inl (G.2.2.1, 1, .inr (.inl ov)))] ++ rs) | some (tu1, bl1, ie1, v, z) => cW G h (np + 1) nl len fd lu tu1 (upd T np text) (upd C np count) (upd F np flags) LT VV BB lt ph lh ks wd gr gs bl1 ie1 tw ++ ([(oa, .inl (G.2.2.1, 1, .inr (.inl (vp_updL ov 0 z))))] ++ rs)) 2 12) 2 12 (cW G h np nl len fd lu tu T C F LT VV BB lt ph lh ks wd gr gs bl ie tw ++ ([(oa, .inl (G.2.2.1, 1, .inr (.inl ov)))] ++ rs)) [(0, .ref (h 0)), (1, .int text), (2, .int count), (3, .int flags), (4, .ref oa)] [.ref q9] 19 := by
        refine V_astore (lc1 := [(5, .ref q9), (0, .ref (h 0)), (1, .int text), (2, .int count), (3, .int flags), (4, .ref oa)]) cx 21 rfl dL_addPart_19 (by decide) rfl ?_
        refine V_iconst (v := nI 2) cx 22 rfl dL_addPart_21 (by decide) ?_
        exact V_ireturn cx hr none ⟨_, Or.inr he0, Or.inr ⟨rfl, rfl⟩⟩ rfl (by omega) (by omega) dL_addPart_22
      exact vx_catch (own := RL) (name := EISE) cx.2.2.2.1 [⟨0, 12, 15, 13⟩] ⟨0, 12, 19, 15⟩ [] htab (fun z hz => by rw [List.mem_singleton] at hz; subst hz; exact Or.inr ⟨by decide, EIAE, cx.word kl_L_13, cx.2.2.2.2.2.2.1.2.1.2.1⟩) (by decide) (by decide) (cx.word kl_L_15) (cst_ISE cx) h1 h2 h3 (hcont H1 locs1 ls hP hD hS hl)
  · intro v uu hw
    obtain ⟨tu1, bl1, ie1⟩ := uu
    try dsimp only at hw
    refine V_i2l cx 11 rfl dL_addPart_10 ?_
    refine V_lastN cx 0 rfl (by decide) (by decide) 21 rfl (cW G h (np + 1) nl len fd lu tu1 (upd T np text) (upd C np count) (upd F np flags) LT VV BB lt ph lh ks wd gr gs bl1 ie1 tw ++ ([(oa, .inl (G.2.2.1, 1, .inr (.inl (vp_updL ov 0 v.toInt64))))] ++ rs)) rfl 12 rfl dL_addPart_11 ?_
    refine V_goto cx 23 dL_addPart_12 (by decide) ?_
    refine V_iconst (v := nI 0) cx 24 rfl dL_addPart_23 (by decide) ?_
    exact V_ireturn cx hr (some (tu1, bl1, ie1, v, v.toInt64)) ⟨hw, rfl, rfl⟩ rfl (by omega) (by omega) dL_addPart_24
set_option maxHeartbeats 4000000 in
set_option maxRecDepth 100000 in
theorem kL_setFlags (l : Launch) (lo : Nat) (G : vG) (rs : va_W) (h : Nat → Nat) (np : Nat) (nl : Nat) (len : Nat) (fd : Nat) (lu : Nat) (tu : Nat) (T : Nat → Int32) (C : Nat → Int32) (F : Nat → Int32) (LT : Nat → Int32) (VV : Nat → Int32) (BB : Nat → Int32) (lt : Nat → Int32) (ph : Nat → Int32) (lh : Nat → Int32) (ks : Nat → Int64) (wd : Nat → Int32) (gr : Nat → Int32) (gs : Nat → Int32) (bl : Nat → Int32) (ie : Nat → Int32) (tw : Nat → Int32) (oa : Nat) (ov : Nat → Int64) (part : Int32) (flags : Int32) (hst : l.stackTraces = false) (hnp : np ≤ 16) : Mi l yL_setFlags (.codeWith yL_setFlags method_4_code 5 (some .int) [(0, 10, 13, 21), (0, 10, 17, 13)]) 10 2 12 lo G [.ref (h 0), .int part, .int flags, .ref oa] (cW G h np nl len fd lu tu T C F LT VV BB lt ph lh ks wd gr gs bl ie tw ++ ([(oa, .inl (G.2.2.1, 1, .inr (.inl ov)))] ++ rs)) (fun (r : Int32) (uu : Option ((Nat → Int32) × Int32 × Int64)) => match uu with | none => ∃ E, (fun E => (E = EIOB ∧ ¬ cIsP np part) ∨ (E = EIAE ∧ cIsP np part ∧ ¬ (nI 0 ≤ flags ∧ flags ≤ nI 7))) E ∧ ((E = EIOB ∧ r = nI 1) ∨ (E = EIAE ∧ r = nI 2)) | some (F1, v, z) => (∃ q, q < np ∧ part = nI q ∧ (nI 0 ≤ flags ∧ flags ≤ nI 7) ∧ v = F q ∧ F1 = upd F q flags) ∧ r = nI 0 ∧ z = v.toInt64) (fun (uu : Option ((Nat → Int32) × Int32 × Int64)) => match uu with | none => cW G h np nl len fd lu tu T C F LT VV BB lt ph lh ks wd gr gs bl ie tw ++ ([(oa, .inl (G.2.2.1, 1, .inr (.inl ov)))] ++ rs) | some (F1, v, z) => cW G h np nl len fd lu tu T C F1 LT VV BB lt ph lh ks wd gr gs bl ie tw ++ ([(oa, .inl (G.2.2.1, 1, .inr (.inl (vp_updL ov 0 z))))] ++ rs)) := by
  refine MiW_of (lc := [(0, .ref (h 0)), (1, .int part), (2, .int flags), (3, .ref oa)]) (by decide +kernel) (Nat.le_of_ble_eq_true rfl) rfl ?_
  intro X cx hXR hXl hr htab
  subst hXl
  have hX := RmX.of hXR
  refine V_aload_n cx 1 rfl dL_setFlags_0 3 rfl ?_
  refine V_iconst (v := nI 0) cx 2 rfl dL_setFlags_1 (by decide) ?_
  refine V_aload_n cx 3 rfl dL_setFlags_2 0 rfl ?_
  refine V_iload_n cx 4 rfl dL_setFlags_3 1 rfl ?_
  refine V_iload_n cx 5 rfl dL_setFlags_4 2 rfl ?_
  refine KXL_17 (As := [.int part, .int flags]) (rest := [.int (nI 0), .ref oa]) cx (kX4_setFlags (xl X) lo G ([(oa, .inl (G.2.2.1, 1, .inr (.inl ov)))] ++ rs) h np nl len fd lu tu T C F LT VV BB lt ph lh ks wd gr gs bl ie tw part flags hst hnp) hX (by omega) 0 rfl rfl rfl (Nat.le_of_ble_eq_true rfl) 8 2 12 rfl rfl rfl (by omega) (by omega) dL_setFlags_5 ?_ ?_
  · intro E ce q9 H1 locs1 ls he hP hD hS hl h1 h2 h3
    rcases he with he0 | he0
    · skip
      obtain ⟨hE, _⟩ := id he0
      subst hE
      have hcont : V X lo 5 G (Qi X lo G (fun (r : Int32) (uu : Option ((Nat → Int32) × Int32 × Int64)) => match uu with | none => ∃ E, (fun E => (E = EIOB ∧ ¬ cIsP np part) ∨ (E = EIAE ∧ cIsP np part ∧ ¬ (nI 0 ≤ flags ∧ flags ≤ nI 7))) E ∧ ((E = EIOB ∧ r = nI 1) ∨ (E = EIAE ∧ r = nI 2)) | some (F1, v, z) => (∃ q, q < np ∧ part = nI q ∧ (nI 0 ≤ flags ∧ flags ≤ nI 7) ∧ v = F q ∧ F1 = upd F q flags) ∧ r = nI 0 ∧ z = v.toInt64) (fun (uu : Option ((Nat → Int32) × Int32 × Int64)) => match uu with | none => cW G h np nl len fd lu tu T C F LT VV BB lt ph lh ks wd gr gs bl ie tw ++ ([(oa, .inl (G.2.2.1, 1, .inr (.inl ov)))] ++ rs) | some (F1, v, z) => cW G h np nl len fd lu tu T C F1 LT VV BB lt ph lh ks wd gr gs bl ie tw ++ ([(oa, .inl (G.2.2.1, 1, .inr (.inl (vp_updL ov 0 z))))] ++ rs)) 2 12) 2 12 (cW G h np nl len fd lu tu T C F LT VV BB lt ph lh ks wd gr gs bl ie tw ++ ([(oa, .inl (G.2.2.1, 1, .inr (.inl ov)))] ++ rs)) [(0, .ref (h 0)), (1, .int part), (2, .int flags), (3, .ref oa)] [.ref q9] 13 := by
        refine V_astore (lc1 := [(4, .ref q9), (0, .ref (h 0)), (1, .int part), (2, .int flags), (3, .ref oa)]) cx 15 rfl dL_setFlags_13 (by decide) rfl ?_
        refine V_iconst (v := nI 1) cx 16 rfl dL_setFlags_15 (by decide) ?_
        exact V_ireturn cx hr none ⟨_, Or.inl he0, Or.inl ⟨rfl, rfl⟩⟩ rfl (by omega) (by omega) dL_setFlags_16
      exact vx_catch (own := RL) (name := EIOB) cx.2.2.2.1 [] ⟨0, 10, 13, 21⟩ [⟨0, 10, 17, 13⟩] htab (fun z hz => by cases hz) (by decide) (by decide) (cx.word kl_L_21) (cst_IOB cx) h1 h2 h3 (hcont H1 locs1 ls hP hD hS hl)
    · skip
      obtain ⟨hE, _⟩ := id he0
      subst hE
      have hcont : V X lo 5 G (Qi X lo G (fun (r : Int32) (uu : Option ((Nat → Int32) × Int32 × Int64)) => match uu with | none => ∃ E, (fun E => (E = EIOB ∧ ¬ cIsP np part) ∨ (E = EIAE ∧ cIsP np part ∧ ¬ (nI 0 ≤ flags ∧ flags ≤ nI 7))) E ∧ ((E = EIOB ∧ r = nI 1) ∨ (E = EIAE ∧ r = nI 2)) | some (F1, v, z) => (∃ q, q < np ∧ part = nI q ∧ (nI 0 ≤ flags ∧ flags ≤ nI 7) ∧ v = F q ∧ F1 = upd F q flags) ∧ r = nI 0 ∧ z = v.toInt64) (fun (uu : Option ((Nat → Int32) × Int32 × Int64)) => match uu with | none => cW G h np nl len fd lu tu T C F LT VV BB lt ph lh ks wd gr gs bl ie tw ++ ([(oa, .inl (G.2.2.1, 1, .inr (.inl ov)))] ++ rs) | some (F1, v, z) => cW G h np nl len fd lu tu T C F1 LT VV BB lt ph lh ks wd gr gs bl ie tw ++ ([(oa, .inl (G.2.2.1, 1, .inr (.inl (vp_updL ov 0 z))))] ++ rs)) 2 12) 2 12 (cW G h np nl len fd lu tu T C F LT VV BB lt ph lh ks wd gr gs bl ie tw ++ ([(oa, .inl (G.2.2.1, 1, .inr (.inl ov)))] ++ rs)) [(0, .ref (h 0)), (1, .int part), (2, .int flags), (3, .ref oa)] [.ref q9] 17 := by
        refine V_astore (lc1 := [(4, .ref q9), (0, .ref (h 0)), (1, .int part), (2, .int flags), (3, .ref oa)]) cx 19 rfl dL_setFlags_17 (by decide) rfl ?_
        refine V_iconst (v := nI 2) cx 20 rfl dL_setFlags_19 (by decide) ?_
        exact V_ireturn cx hr none ⟨_, Or.inr he0, Or.inr ⟨rfl, rfl⟩⟩ rfl (by omega) (by omega) dL_setFlags_20
      exact vx_catch (own := RL) (name := EIAE) cx.2.2.2.1 [⟨0, 10, 13, 21⟩] ⟨0, 10, 17, 13⟩ [] htab (fun z hz => by rw [List.mem_singleton] at hz; subst hz; exact Or.inr ⟨by decide, EIOB, cx.word kl_L_21, cx.2.2.2.2.2.2.1.2.1.2.2⟩) (by decide) (by decide) (cx.word kl_L_13) (cst_IAE cx) h1 h2 h3 (hcont H1 locs1 ls hP hD hS hl)
  · intro v uu hw
    obtain ⟨F1, rfl⟩ : ∃ z, z = uu := ⟨_, rfl⟩
    try dsimp only at hw
    refine V_i2l cx 9 rfl dL_setFlags_8 ?_
    refine V_lastN cx 0 rfl (by decide) (by decide) 21 rfl (cW G h np nl len fd lu tu T C F1 LT VV BB lt ph lh ks wd gr gs bl ie tw ++ ([(oa, .inl (G.2.2.1, 1, .inr (.inl (vp_updL ov 0 v.toInt64))))] ++ rs)) rfl 10 rfl dL_setFlags_9 ?_
    refine V_goto cx 21 dL_setFlags_10 (by decide) ?_
    refine V_iconst (v := nI 0) cx 22 rfl dL_setFlags_21 (by decide) ?_
    exact V_ireturn cx hr (some (F1, v, v.toInt64)) ⟨hw, rfl, rfl⟩ rfl (by omega) (by omega) dL_setFlags_22
set_option maxHeartbeats 4000000 in
set_option maxRecDepth 100000 in
theorem kL_addLink (l : Launch) (lo : Nat) (G : vG) (rs : va_W) (h : Nat → Nat) (np : Nat) (nl : Nat) (len : Nat) (fd : Nat) (lu : Nat) (tu : Nat) (T : Nat → Int32) (C : Nat → Int32) (F : Nat → Int32) (LT : Nat → Int32) (VV : Nat → Int32) (BB : Nat → Int32) (lt : Nat → Int32) (ph : Nat → Int32) (lh : Nat → Int32) (ks : Nat → Int64) (wd : Nat → Int32) (gr : Nat → Int32) (gs : Nat → Int32) (bl : Nat → Int32) (ie : Nat → Int32) (tw : Nat → Int32) (oa : Nat) (ov : Nat → Int64) (text : Int32) (hst : l.stackTraces = false) (hnl : nl ≤ 6) : Mi l yL_addLink (.codeWith yL_addLink method_5_code 4 (some .int) [(0, 9, 12, 13), (0, 9, 15, 15)]) 10 2 12 lo G [.ref (h 0), .int text, .ref oa] (cW G h np nl len fd lu tu T C F LT VV BB lt ph lh ks wd gr gs bl ie tw ++ ([(oa, .inl (G.2.2.1, 1, .inr (.inl ov)))] ++ rs)) (fun (r : Int32) (uu : Option (Int32 × Int64)) => match uu with | none => ∃ E, (fun E => (E = EIAE ∧ ¬ (1 ≤ SZ text 8 ∧ SZ text 8 ≤ 2)) ∨ (E = EISE ∧ (1 ≤ SZ text 8 ∧ SZ text 8 ≤ 2) ∧ (nl = 6 ∨ ¬ oI (pwI LT text nl) = -1))) E ∧ ((E = EIAE ∧ r = nI 1) ∨ (E = EISE ∧ r = nI 2)) | some (v, z) => ((1 ≤ SZ text 8 ∧ SZ text 8 ≤ 2) ∧ nl < 6 ∧ oI (pwI LT text nl) = -1 ∧ v = nI nl) ∧ r = nI 0 ∧ z = v.toInt64) (fun (uu : Option (Int32 × Int64)) => match uu with | none => cW G h np nl len fd lu tu T C F LT VV BB lt ph lh ks wd gr gs bl ie tw ++ ([(oa, .inl (G.2.2.1, 1, .inr (.inl ov)))] ++ rs) | some (v, z) => cW G h np (nl + 1) len fd lu tu T C F (upd LT nl text) VV BB lt ph lh ks wd gr gs bl ie tw ++ ([(oa, .inl (G.2.2.1, 1, .inr (.inl (vp_updL ov 0 z))))] ++ rs)) := by
  refine MiW_of (lc := [(0, .ref (h 0)), (1, .int text), (2, .ref oa)]) (by decide +kernel) (Nat.le_of_ble_eq_true rfl) rfl ?_
  intro X cx hXR hXl hr htab
  subst hXl
  have hX := RmX.of hXR
  refine V_aload_n cx 1 rfl dL_addLink_0 2 rfl ?_
  refine V_iconst (v := nI 0) cx 2 rfl dL_addLink_1 (by decide) ?_
  refine V_aload_n cx 3 rfl dL_addLink_2 0 rfl ?_
  refine V_iload_n cx 4 rfl dL_addLink_3 1 rfl ?_
  refine KXL_23 (As := [.int text]) (rest := [.int (nI 0), .ref oa]) cx (kX4_addLink (xl X) lo G ([(oa, .inl (G.2.2.1, 1, .inr (.inl ov)))] ++ rs) h np nl len fd lu tu T C F LT VV BB lt ph lh ks wd gr gs bl ie tw text hst hnl) hX (by omega) 0 rfl rfl rfl (Nat.le_of_ble_eq_true rfl) 7 2 12 rfl rfl rfl (by omega) (by omega) dL_addLink_4 ?_ ?_
  · intro E ce q9 H1 locs1 ls he hP hD hS hl h1 h2 h3
    rcases he with he0 | he0
    · skip
      obtain ⟨hE, _⟩ := id he0
      subst hE
      have hcont : V X lo 4 G (Qi X lo G (fun (r : Int32) (uu : Option (Int32 × Int64)) => match uu with | none => ∃ E, (fun E => (E = EIAE ∧ ¬ (1 ≤ SZ text 8 ∧ SZ text 8 ≤ 2)) ∨ (E = EISE ∧ (1 ≤ SZ text 8 ∧ SZ text 8 ≤ 2) ∧ (nl = 6 ∨ ¬ oI (pwI LT text nl) = -1))) E ∧ ((E = EIAE ∧ r = nI 1) ∨ (E = EISE ∧ r = nI 2)) | some (v, z) => ((1 ≤ SZ text 8 ∧ SZ text 8 ≤ 2) ∧ nl < 6 ∧ oI (pwI LT text nl) = -1 ∧ v = nI nl) ∧ r = nI 0 ∧ z = v.toInt64) (fun (uu : Option (Int32 × Int64)) => match uu with | none => cW G h np nl len fd lu tu T C F LT VV BB lt ph lh ks wd gr gs bl ie tw ++ ([(oa, .inl (G.2.2.1, 1, .inr (.inl ov)))] ++ rs) | some (v, z) => cW G h np (nl + 1) len fd lu tu T C F (upd LT nl text) VV BB lt ph lh ks wd gr gs bl ie tw ++ ([(oa, .inl (G.2.2.1, 1, .inr (.inl (vp_updL ov 0 z))))] ++ rs)) 2 12) 2 12 (cW G h np nl len fd lu tu T C F LT VV BB lt ph lh ks wd gr gs bl ie tw ++ ([(oa, .inl (G.2.2.1, 1, .inr (.inl ov)))] ++ rs)) [(0, .ref (h 0)), (1, .int text), (2, .ref oa)] [.ref q9] 12 := by
        refine V_astore_n (lc1 := [(3, .ref q9), (0, .ref (h 0)), (1, .int text), (2, .ref oa)]) cx 13 rfl dL_addLink_12 (by decide) rfl ?_
        refine V_iconst (v := nI 1) cx 14 rfl dL_addLink_13 (by decide) ?_
        exact V_ireturn cx hr none ⟨_, Or.inl he0, Or.inl ⟨rfl, rfl⟩⟩ rfl (by omega) (by omega) dL_addLink_14
      exact vx_catch (own := RL) (name := EIAE) cx.2.2.2.1 [] ⟨0, 9, 12, 13⟩ [⟨0, 9, 15, 15⟩] htab (fun z hz => by cases hz) (by decide) (by decide) (cx.word kl_L_13) (cst_IAE cx) h1 h2 h3 (hcont H1 locs1 ls hP hD hS hl)
    · skip
      obtain ⟨hE, _⟩ := id he0
      subst hE
      have hcont : V X lo 4 G (Qi X lo G (fun (r : Int32) (uu : Option (Int32 × Int64)) => match uu with | none => ∃ E, (fun E => (E = EIAE ∧ ¬ (1 ≤ SZ text 8 ∧ SZ text 8 ≤ 2)) ∨ (E = EISE ∧ (1 ≤ SZ text 8 ∧ SZ text 8 ≤ 2) ∧ (nl = 6 ∨ ¬ oI (pwI LT text nl) = -1))) E ∧ ((E = EIAE ∧ r = nI 1) ∨ (E = EISE ∧ r = nI 2)) | some (v, z) => ((1 ≤ SZ text 8 ∧ SZ text 8 ≤ 2) ∧ nl < 6 ∧ oI (pwI LT text nl) = -1 ∧ v = nI nl) ∧ r = nI 0 ∧ z = v.toInt64) (fun (uu : Option (Int32 × Int64)) => match uu with | none => cW G h np nl len fd lu tu T C F LT VV BB lt ph lh ks wd gr gs bl ie tw ++ ([(oa, .inl (G.2.2.1, 1, .inr (.inl ov)))] ++ rs) | some (v, z) => cW G h np (nl + 1) len fd lu tu T C F (upd LT nl text) VV BB lt ph lh ks wd gr gs bl ie tw ++ ([(oa, .inl (G.2.2.1, 1, .inr (.inl (vp_updL ov 0 z))))] ++ rs)) 2 12) 2 12 (cW G h np nl len fd lu tu T C F LT VV BB lt ph lh ks wd gr gs bl ie tw ++ ([(oa, .inl (G.2.2.1, 1, .inr (.inl ov)))] ++ rs)) [(0, .ref (h 0)), (1, .int text), (2, .ref oa)] [.ref q9] 15 := by
        refine V_astore_n (lc1 := [(3, .ref q9), (0, .ref (h 0)), (1, .int text), (2, .ref oa)]) cx 16 rfl dL_addLink_15 (by decide) rfl ?_
        refine V_iconst (v := nI 2) cx 17 rfl dL_addLink_16 (by decide) ?_
        exact V_ireturn cx hr none ⟨_, Or.inr he0, Or.inr ⟨rfl, rfl⟩⟩ rfl (by omega) (by omega) dL_addLink_17
      exact vx_catch (own := RL) (name := EISE) cx.2.2.2.1 [⟨0, 9, 12, 13⟩] ⟨0, 9, 15, 15⟩ [] htab (fun z hz => by rw [List.mem_singleton] at hz; subst hz; exact Or.inr ⟨by decide, EIAE, cx.word kl_L_13, cx.2.2.2.2.2.2.1.2.1.2.1⟩) (by decide) (by decide) (cx.word kl_L_15) (cst_ISE cx) h1 h2 h3 (hcont H1 locs1 ls hP hD hS hl)
  · intro v uu hw
    try dsimp only at hw
    refine V_i2l cx 8 rfl dL_addLink_7 ?_
    refine V_lastN cx 0 rfl (by decide) (by decide) 21 rfl (cW G h np (nl + 1) len fd lu tu T C F (upd LT nl text) VV BB lt ph lh ks wd gr gs bl ie tw ++ ([(oa, .inl (G.2.2.1, 1, .inr (.inl (vp_updL ov 0 v.toInt64))))] ++ rs)) rfl 9 rfl dL_addLink_8 ?_
    refine V_goto cx 18 dL_addLink_9 (by decide) ?_
    refine V_iconst (v := nI 0) cx 19 rfl dL_addLink_18 (by decide) ?_
    exact V_ireturn cx hr (some (v, v.toInt64)) ⟨hw, rfl, rfl⟩ rfl (by omega) (by omega) dL_addLink_19
set_option maxHeartbeats 4000000 in
set_option maxRecDepth 100000 in
theorem kL_veto (l : Launch) (lo : Nat) (G : vG) (rs : va_W) (h : Nat → Nat) (np : Nat) (nl : Nat) (len : Nat) (fd : Nat) (lu : Nat) (tu : Nat) (T : Nat → Int32) (C : Nat → Int32) (F : Nat → Int32) (LT : Nat → Int32) (VV : Nat → Int32) (BB : Nat → Int32) (lt : Nat → Int32) (ph : Nat → Int32) (lh : Nat → Int32) (ks : Nat → Int64) (wd : Nat → Int32) (gr : Nat → Int32) (gs : Nat → Int32) (bl : Nat → Int32) (ie : Nat → Int32) (tw : Nat → Int32) (oa : Nat) (ov : Nat → Int64) (part : Int32) (next : Int32) (b : Bool) (hst : l.stackTraces = false) (hnp : np ≤ 16) (hz : ∀ i, ∃ bb : Bool, VV i = bI bb) : Mi l yL_veto (.codeWith yL_veto method_6_code 6 (some .int) [(0, 19, 22, 21)]) 10 2 12 lo G [.ref (h 0), .int part, .int next, .int (bI b), .ref oa] (cW G h np nl len fd lu tu T C F LT VV BB lt ph lh ks wd gr gs bl ie tw ++ ([(oa, .inl (G.2.2.1, 1, .inr (.inl ov)))] ++ rs)) (fun (r : Int32) (uu : Option ((Nat → Int32) × Int32 × Int64)) => match uu with | none => ∃ E, (fun E => E = EIOB ∧ ¬ (cIsP np part ∧ cIsP np next)) E ∧ ((E = EIOB ∧ r = nI 1)) | some (VV1, v, z) => (∃ p q, p < np ∧ q < np ∧ part = nI p ∧ next = nI q ∧ v = VV (p * 16 + q) ∧ VV1 = upd VV (p * 16 + q) (bI b)) ∧ r = nI 0 ∧ (v = 0 → z = lN 0) ∧ (¬ v = 0 → z = lN 1)) (fun (uu : Option ((Nat → Int32) × Int32 × Int64)) => match uu with | none => cW G h np nl len fd lu tu T C F LT VV BB lt ph lh ks wd gr gs bl ie tw ++ ([(oa, .inl (G.2.2.1, 1, .inr (.inl ov)))] ++ rs) | some (VV1, v, z) => cW G h np nl len fd lu tu T C F LT VV1 BB lt ph lh ks wd gr gs bl ie tw ++ ([(oa, .inl (G.2.2.1, 1, .inr (.inl (vp_updL ov 0 z))))] ++ rs)) := by
  refine MiW_of (lc := [(0, .ref (h 0)), (1, .int part), (2, .int next), (3, .int (bI b)), (4, .ref oa)]) (by decide +kernel) (Nat.le_of_ble_eq_true rfl) rfl ?_
  intro X cx hXR hXl hr htab
  subst hXl
  have hX := RmX.of hXR
  refine V_aload cx 2 rfl dL_veto_0 4 rfl ?_
  refine V_iconst (v := nI 0) cx 3 rfl dL_veto_2 (by decide) ?_
  refine V_aload_n cx 4 rfl dL_veto_3 0 rfl ?_
  refine V_iload_n cx 5 rfl dL_veto_4 1 rfl ?_
  refine V_iload_n cx 6 rfl dL_veto_5 2 rfl ?_
  refine V_iload_n cx 7 rfl dL_veto_6 3 rfl ?_
  refine KXL_27 (As := [.int part, .int next, .int (bI b)]) (rest := [.int (nI 0), .ref oa]) cx (kX4_veto (xl X) lo G ([(oa, .inl (G.2.2.1, 1, .inr (.inl ov)))] ++ rs) h np nl len fd lu tu T C F LT VV BB lt ph lh ks wd gr gs bl ie tw part next b hst hnp hz) hX (by omega) 0 rfl rfl rfl (Nat.le_of_ble_eq_true rfl) 10 2 12 rfl rfl rfl (by omega) (by omega) dL_veto_7 ?_ ?_
  · intro E ce q9 H1 locs1 ls he hP hD hS hl h1 h2 h3
    have he0 := he
    obtain ⟨hE, _⟩ := id he0
    subst hE
    have hcont : V X lo 6 G (Qi X lo G (fun (r : Int32) (uu : Option ((Nat → Int32) × Int32 × Int64)) => match uu with | none => ∃ E, (fun E => E = EIOB ∧ ¬ (cIsP np part ∧ cIsP np next)) E ∧ ((E = EIOB ∧ r = nI 1)) | some (VV1, v, z) => (∃ p q, p < np ∧ q < np ∧ part = nI p ∧ next = nI q ∧ v = VV (p * 16 + q) ∧ VV1 = upd VV (p * 16 + q) (bI b)) ∧ r = nI 0 ∧ (v = 0 → z = lN 0) ∧ (¬ v = 0 → z = lN 1)) (fun (uu : Option ((Nat → Int32) × Int32 × Int64)) => match uu with | none => cW G h np nl len fd lu tu T C F LT VV BB lt ph lh ks wd gr gs bl ie tw ++ ([(oa, .inl (G.2.2.1, 1, .inr (.inl ov)))] ++ rs) | some (VV1, v, z) => cW G h np nl len fd lu tu T C F LT VV1 BB lt ph lh ks wd gr gs bl ie tw ++ ([(oa, .inl (G.2.2.1, 1, .inr (.inl (vp_updL ov 0 z))))] ++ rs)) 2 12) 2 12 (cW G h np nl len fd lu tu T C F LT VV BB lt ph lh ks wd gr gs bl ie tw ++ ([(oa, .inl (G.2.2.1, 1, .inr (.inl ov)))] ++ rs)) [(0, .ref (h 0)), (1, .int part), (2, .int next), (3, .int (bI b)), (4, .ref oa)] [.ref q9] 22 := by
      refine V_astore (lc1 := [(5, .ref q9), (0, .ref (h 0)), (1, .int part), (2, .int next), (3, .int (bI b)), (4, .ref oa)]) cx 24 rfl dL_veto_22 (by decide) rfl ?_
      refine V_iconst (v := nI 1) cx 25 rfl dL_veto_24 (by decide) ?_
      exact V_ireturn cx hr none ⟨_, he0, ⟨rfl, rfl⟩⟩ rfl (by omega) (by omega) dL_veto_25
    exact vx_catch (own := RL) (name := EIOB) cx.2.2.2.1 [] ⟨0, 19, 22, 21⟩ [] htab (fun z hz => by cases hz) (by decide) (by decide) (cx.word kl_L_21) (cst_IOB cx) h1 h2 h3 (hcont H1 locs1 ls hP hD hS hl)
  · intro v uu hw
    obtain ⟨VV1, rfl⟩ : ∃ z, z = uu := ⟨_, rfl⟩
    try dsimp only at hw
    refine V_if_eq cx 13 17 rfl dL_veto_10 (by decide) (fun c0 => ?_) (fun c0 => ?_)
    · skip
      refine V_lconst (v := lN 0) cx 18 rfl dL_veto_17 (by decide) ?_
      refine V_lastN cx 0 rfl (by decide) (by decide) 21 rfl (cW G h np nl len fd lu tu T C F LT VV1 BB lt ph lh ks wd gr gs bl ie tw ++ ([(oa, .inl (G.2.2.1, 1, .inr (.inl (vp_updL ov 0 (lN 0)))))] ++ rs)) rfl 19 rfl dL_veto_18 ?_
      refine V_goto cx 26 dL_veto_19 (by decide) ?_
      refine V_iconst (v := nI 0) cx 27 rfl dL_veto_26 (by decide) ?_
      exact V_ireturn cx hr (some (VV1, v, lN 0)) ⟨hw, rfl, ⟨fun _ => rfl, fun h0 => absurd c0 h0⟩⟩ rfl (by omega) (by omega) dL_veto_27
    · skip
      refine V_lconst (v := lN 1) cx 14 rfl dL_veto_13 (by decide) ?_
      refine V_goto cx 18 dL_veto_14 (by decide) ?_
      refine V_lastN cx 0 rfl (by decide) (by decide) 21 rfl (cW G h np nl len fd lu tu T C F LT VV1 BB lt ph lh ks wd gr gs bl ie tw ++ ([(oa, .inl (G.2.2.1, 1, .inr (.inl (vp_updL ov 0 (lN 1)))))] ++ rs)) rfl 19 rfl dL_veto_18 ?_
      refine V_goto cx 26 dL_veto_19 (by decide) ?_
      refine V_iconst (v := nI 0) cx 27 rfl dL_veto_26 (by decide) ?_
      exact V_ireturn cx hr (some (VV1, v, lN 1)) ⟨hw, rfl, ⟨fun h0 => absurd h0 c0, fun _ => rfl⟩⟩ rfl (by omega) (by omega) dL_veto_27
set_option maxHeartbeats 4000000 in
set_option maxRecDepth 100000 in
theorem kL_bar (l : Launch) (lo : Nat) (G : vG) (rs : va_W) (h : Nat → Nat) (np : Nat) (nl : Nat) (len : Nat) (fd : Nat) (lu : Nat) (tu : Nat) (T : Nat → Int32) (C : Nat → Int32) (F : Nat → Int32) (LT : Nat → Int32) (VV : Nat → Int32) (BB : Nat → Int32) (lt : Nat → Int32) (ph : Nat → Int32) (lh : Nat → Int32) (ks : Nat → Int64) (wd : Nat → Int32) (gr : Nat → Int32) (gs : Nat → Int32) (bl : Nat → Int32) (ie : Nat → Int32) (tw : Nat → Int32) (oa : Nat) (ov : Nat → Int64) (part : Int32) (next : Int32) (b : Bool) (hst : l.stackTraces = false) (hnp : np ≤ 16) (hnl : nl ≤ 6) (hz : ∀ i, ∃ bb : Bool, BB i = bI bb) : Mi l yL_bar (.codeWith yL_bar method_7_code 6 (some .int) [(0, 19, 22, 21)]) 10 2 12 lo G [.ref (h 0), .int part, .int next, .int (bI b), .ref oa] (cW G h np nl len fd lu tu T C F LT VV BB lt ph lh ks wd gr gs bl ie tw ++ ([(oa, .inl (G.2.2.1, 1, .inr (.inl ov)))] ++ rs)) (fun (r : Int32) (uu : Option ((Nat → Int32) × Int32 × Int64)) => match uu with | none => ∃ E, (fun E => E = EIOB ∧ ¬ (cIsP np part ∧ cIsP nl next)) E ∧ ((E = EIOB ∧ r = nI 1)) | some (BB1, v, z) => (∃ p q, p < np ∧ q < nl ∧ part = nI p ∧ next = nI q ∧ v = BB (p * 6 + q) ∧ BB1 = upd BB (p * 6 + q) (bI b)) ∧ r = nI 0 ∧ (v = 0 → z = lN 0) ∧ (¬ v = 0 → z = lN 1)) (fun (uu : Option ((Nat → Int32) × Int32 × Int64)) => match uu with | none => cW G h np nl len fd lu tu T C F LT VV BB lt ph lh ks wd gr gs bl ie tw ++ ([(oa, .inl (G.2.2.1, 1, .inr (.inl ov)))] ++ rs) | some (BB1, v, z) => cW G h np nl len fd lu tu T C F LT VV BB1 lt ph lh ks wd gr gs bl ie tw ++ ([(oa, .inl (G.2.2.1, 1, .inr (.inl (vp_updL ov 0 z))))] ++ rs)) := by
  refine MiW_of (lc := [(0, .ref (h 0)), (1, .int part), (2, .int next), (3, .int (bI b)), (4, .ref oa)]) (by decide +kernel) (Nat.le_of_ble_eq_true rfl) rfl ?_
  intro X cx hXR hXl hr htab
  subst hXl
  have hX := RmX.of hXR
  refine V_aload cx 2 rfl dL_bar_0 4 rfl ?_
  refine V_iconst (v := nI 0) cx 3 rfl dL_bar_2 (by decide) ?_
  refine V_aload_n cx 4 rfl dL_bar_3 0 rfl ?_
  refine V_iload_n cx 5 rfl dL_bar_4 1 rfl ?_
  refine V_iload_n cx 6 rfl dL_bar_5 2 rfl ?_
  refine V_iload_n cx 7 rfl dL_bar_6 3 rfl ?_
  refine KXL_31 (As := [.int part, .int next, .int (bI b)]) (rest := [.int (nI 0), .ref oa]) cx (kX4_bar (xl X) lo G ([(oa, .inl (G.2.2.1, 1, .inr (.inl ov)))] ++ rs) h np nl len fd lu tu T C F LT VV BB lt ph lh ks wd gr gs bl ie tw part next b hst hnp hnl hz) hX (by omega) 0 rfl rfl rfl (Nat.le_of_ble_eq_true rfl) 10 2 12 rfl rfl rfl (by omega) (by omega) dL_bar_7 ?_ ?_
  · intro E ce q9 H1 locs1 ls he hP hD hS hl h1 h2 h3
    have he0 := he
    obtain ⟨hE, _⟩ := id he0
    subst hE
    have hcont : V X lo 6 G (Qi X lo G (fun (r : Int32) (uu : Option ((Nat → Int32) × Int32 × Int64)) => match uu with | none => ∃ E, (fun E => E = EIOB ∧ ¬ (cIsP np part ∧ cIsP nl next)) E ∧ ((E = EIOB ∧ r = nI 1)) | some (BB1, v, z) => (∃ p q, p < np ∧ q < nl ∧ part = nI p ∧ next = nI q ∧ v = BB (p * 6 + q) ∧ BB1 = upd BB (p * 6 + q) (bI b)) ∧ r = nI 0 ∧ (v = 0 → z = lN 0) ∧ (¬ v = 0 → z = lN 1)) (fun (uu : Option ((Nat → Int32) × Int32 × Int64)) => match uu with | none => cW G h np nl len fd lu tu T C F LT VV BB lt ph lh ks wd gr gs bl ie tw ++ ([(oa, .inl (G.2.2.1, 1, .inr (.inl ov)))] ++ rs) | some (BB1, v, z) => cW G h np nl len fd lu tu T C F LT VV BB1 lt ph lh ks wd gr gs bl ie tw ++ ([(oa, .inl (G.2.2.1, 1, .inr (.inl (vp_updL ov 0 z))))] ++ rs)) 2 12) 2 12 (cW G h np nl len fd lu tu T C F LT VV BB lt ph lh ks wd gr gs bl ie tw ++ ([(oa, .inl (G.2.2.1, 1, .inr (.inl ov)))] ++ rs)) [(0, .ref (h 0)), (1, .int part), (2, .int next), (3, .int (bI b)), (4, .ref oa)] [.ref q9] 22 := by
      refine V_astore (lc1 := [(5, .ref q9), (0, .ref (h 0)), (1, .int part), (2, .int next), (3, .int (bI b)), (4, .ref oa)]) cx 24 rfl dL_bar_22 (by decide) rfl ?_
      refine V_iconst (v := nI 1) cx 25 rfl dL_bar_24 (by decide) ?_
      exact V_ireturn cx hr none ⟨_, he0, ⟨rfl, rfl⟩⟩ rfl (by omega) (by omega) dL_bar_25
    exact vx_catch (own := RL) (name := EIOB) cx.2.2.2.1 [] ⟨0, 19, 22, 21⟩ [] htab (fun z hz => by cases hz) (by decide) (by decide) (cx.word kl_L_21) (cst_IOB cx) h1 h2 h3 (hcont H1 locs1 ls hP hD hS hl)
  · intro v uu hw
    obtain ⟨BB1, rfl⟩ : ∃ z, z = uu := ⟨_, rfl⟩
    try dsimp only at hw
    refine V_if_eq cx 13 17 rfl dL_bar_10 (by decide) (fun c0 => ?_) (fun c0 => ?_)
    · skip
      refine V_lconst (v := lN 0) cx 18 rfl dL_bar_17 (by decide) ?_
      refine V_lastN cx 0 rfl (by decide) (by decide) 21 rfl (cW G h np nl len fd lu tu T C F LT VV BB1 lt ph lh ks wd gr gs bl ie tw ++ ([(oa, .inl (G.2.2.1, 1, .inr (.inl (vp_updL ov 0 (lN 0)))))] ++ rs)) rfl 19 rfl dL_bar_18 ?_
      refine V_goto cx 26 dL_bar_19 (by decide) ?_
      refine V_iconst (v := nI 0) cx 27 rfl dL_bar_26 (by decide) ?_
      exact V_ireturn cx hr (some (BB1, v, lN 0)) ⟨hw, rfl, ⟨fun _ => rfl, fun h0 => absurd c0 h0⟩⟩ rfl (by omega) (by omega) dL_bar_27
    · skip
      refine V_lconst (v := lN 1) cx 14 rfl dL_bar_13 (by decide) ?_
      refine V_goto cx 18 dL_bar_14 (by decide) ?_
      refine V_lastN cx 0 rfl (by decide) (by decide) 21 rfl (cW G h np nl len fd lu tu T C F LT VV BB1 lt ph lh ks wd gr gs bl ie tw ++ ([(oa, .inl (G.2.2.1, 1, .inr (.inl (vp_updL ov 0 (lN 1)))))] ++ rs)) rfl 19 rfl dL_bar_18 ?_
      refine V_goto cx 26 dL_bar_19 (by decide) ?_
      refine V_iconst (v := nI 0) cx 27 rfl dL_bar_26 (by decide) ?_
      exact V_ireturn cx hr (some (BB1, v, lN 1)) ⟨hw, rfl, ⟨fun h0 => absurd h0 c0, fun _ => rfl⟩⟩ rfl (by omega) (by omega) dL_bar_27
set_option maxHeartbeats 4000000 in
set_option maxRecDepth 100000 in
theorem kL_count (l : Launch) (lo : Nat) (G : vG) (rs : va_W) (h : Nat → Nat) (np : Nat) (nl : Nat) (len : Nat) (fd : Nat) (lu : Nat) (tu : Nat) (T : Nat → Int32) (C : Nat → Int32) (F : Nat → Int32) (LT : Nat → Int32) (VV : Nat → Int32) (BB : Nat → Int32) (lt : Nat → Int32) (ph : Nat → Int32) (lh : Nat → Int32) (ks : Nat → Int64) (wd : Nat → Int32) (gr : Nat → Int32) (gs : Nat → Int32) (bl : Nat → Int32) (ie : Nat → Int32) (tw : Nat → Int32) (oa : Nat) (ov : Nat → Int64) (part : Int32) (hst : l.stackTraces = false) (hnp : np ≤ 16) : Mi l yL_count (.codeWith yL_count method_8_code 4 (some .int) [(0, 9, 12, 21)]) 10 1 6 lo G [.ref (h 0), .int part, .ref oa] (cW G h np nl len fd lu tu T C F LT VV BB lt ph lh ks wd gr gs bl ie tw ++ ([(oa, .inl (G.2.2.1, 1, .inr (.inl ov)))] ++ rs)) (fun (r : Int32) (uu : Option (Int32 × Int64)) => match uu with | none => ∃ E, (fun E => E = EIOB ∧ ¬ cIsP np part) E ∧ ((E = EIOB ∧ r = nI 1)) | some (v, z) => (∃ q, q < np ∧ part = nI q ∧ v = C q) ∧ r = nI 0 ∧ z = v.toInt64) (fun (uu : Option (Int32 × Int64)) => match uu with | none => cW G h np nl len fd lu tu T C F LT VV BB lt ph lh ks wd gr gs bl ie tw ++ ([(oa, .inl (G.2.2.1, 1, .inr (.inl ov)))] ++ rs) | some (v, z) => cW G h np nl len fd lu tu T C F LT VV BB lt ph lh ks wd gr gs bl ie tw ++ ([(oa, .inl (G.2.2.1, 1, .inr (.inl (vp_updL ov 0 z))))] ++ rs)) := by
  refine MiW_of (lc := [(0, .ref (h 0)), (1, .int part), (2, .ref oa)]) (by decide +kernel) (Nat.le_of_ble_eq_true rfl) rfl ?_
  intro X cx hXR hXl hr htab
  subst hXl
  have hX := RmX.of hXR
  refine V_aload_n cx 1 rfl dL_count_0 2 rfl ?_
  refine V_iconst (v := nI 0) cx 2 rfl dL_count_1 (by decide) ?_
  refine V_aload_n cx 3 rfl dL_count_2 0 rfl ?_
  refine V_iload_n cx 4 rfl dL_count_3 1 rfl ?_
  refine KXL_34 (As := [.int part]) (rest := [.int (nI 0), .ref oa]) cx (kX4_count (xl X) lo G ([(oa, .inl (G.2.2.1, 1, .inr (.inl ov)))] ++ rs) h np nl len fd lu tu T C F LT VV BB lt ph lh ks wd gr gs bl ie tw part hst hnp) hX (by omega) 0 rfl rfl rfl (Nat.le_of_ble_eq_true rfl) 7 1 6 rfl rfl rfl (by omega) (by omega) dL_count_4 ?_ ?_
  · intro E ce q9 H1 locs1 ls he hP hD hS hl h1 h2 h3
    have he0 := he
    obtain ⟨hE, _⟩ := id he0
    subst hE
    have hcont : V X lo 4 G (Qi X lo G (fun (r : Int32) (uu : Option (Int32 × Int64)) => match uu with | none => ∃ E, (fun E => E = EIOB ∧ ¬ cIsP np part) E ∧ ((E = EIOB ∧ r = nI 1)) | some (v, z) => (∃ q, q < np ∧ part = nI q ∧ v = C q) ∧ r = nI 0 ∧ z = v.toInt64) (fun (uu : Option (Int32 × Int64)) => match uu with | none => cW G h np nl len fd lu tu T C F LT VV BB lt ph lh ks wd gr gs bl ie tw ++ ([(oa, .inl (G.2.2.1, 1, .inr (.inl ov)))] ++ rs) | some (v, z) => cW G h np nl len fd lu tu T C F LT VV BB lt ph lh ks wd gr gs bl ie tw ++ ([(oa, .inl (G.2.2.1, 1, .inr (.inl (vp_updL ov 0 z))))] ++ rs)) 1 6) 1 6 (cW G h np nl len fd lu tu T C F LT VV BB lt ph lh ks wd gr gs bl ie tw ++ ([(oa, .inl (G.2.2.1, 1, .inr (.inl ov)))] ++ rs)) [(0, .ref (h 0)), (1, .int part), (2, .ref oa)] [.ref q9] 12 := by
      refine V_astore_n (lc1 := [(3, .ref q9), (0, .ref (h 0)), (1, .int part), (2, .ref oa)]) cx 13 rfl dL_count_12 (by decide) rfl ?_
      refine V_iconst (v := nI 1) cx 14 rfl dL_count_13 (by decide) ?_
      exact V_ireturn cx hr none ⟨_, he0, ⟨rfl, rfl⟩⟩ rfl (by omega) (by omega) dL_count_14
    exact vx_catch (own := RL) (name := EIOB) cx.2.2.2.1 [] ⟨0, 9, 12, 21⟩ [] htab (fun z hz => by cases hz) (by decide) (by decide) (cx.word kl_L_21) (cst_IOB cx) h1 h2 h3 (hcont H1 locs1 ls hP hD hS hl)
  · intro v uu hw
    try dsimp only at hw
    refine V_i2l cx 8 rfl dL_count_7 ?_
    refine V_lastN cx 0 rfl (by decide) (by decide) 21 rfl (cW G h np nl len fd lu tu T C F LT VV BB lt ph lh ks wd gr gs bl ie tw ++ ([(oa, .inl (G.2.2.1, 1, .inr (.inl (vp_updL ov 0 v.toInt64))))] ++ rs)) rfl 9 rfl dL_count_8 ?_
    refine V_goto cx 15 dL_count_9 (by decide) ?_
    refine V_iconst (v := nI 0) cx 16 rfl dL_count_15 (by decide) ?_
    exact V_ireturn cx hr (some (v, v.toInt64)) ⟨hw, rfl, rfl⟩ rfl (by omega) (by omega) dL_count_16
set_option maxHeartbeats 4000000 in
set_option maxRecDepth 100000 in
theorem kL_costOf (l : Launch) (lo : Nat) (G : vG) (rs : va_W) (h : Nat → Nat) (np : Nat) (nl : Nat) (len : Nat) (fd : Nat) (lu : Nat) (tu : Nat) (T : Nat → Int32) (C : Nat → Int32) (F : Nat → Int32) (LT : Nat → Int32) (VV : Nat → Int32) (BB : Nat → Int32) (lt : Nat → Int32) (ph : Nat → Int32) (lh : Nat → Int32) (ks : Nat → Int64) (wd : Nat → Int32) (gr : Nat → Int32) (gs : Nat → Int32) (bl : Nat → Int32) (ie : Nat → Int32) (tw : Nat → Int32) (oa : Nat) (ov : Nat → Int64) (part : Int32) (cn : Nat → Nat) (hst : l.stackTraces = false) (hnp : np ≤ 16) (hC : ∀ i, i < np → C i = nI (cn i) ∧ 1 ≤ cn i ∧ cn i ≤ 9999) : Mi l yL_costOf (.codeWith yL_costOf method_9_code 4 (some .int) [(0, 9, 12, 21)]) 10 1 6 lo G [.ref (h 0), .int part, .ref oa] (cW G h np nl len fd lu tu T C F LT VV BB lt ph lh ks wd gr gs bl ie tw ++ ([(oa, .inl (G.2.2.1, 1, .inr (.inl ov)))] ++ rs)) (fun (r : Int32) (uu : Option (Int32 × Int64)) => match uu with | none => ∃ E, (fun E => E = EIOB ∧ ¬ cIsP np part) E ∧ ((E = EIOB ∧ r = nI 1)) | some (v, z) => (∃ q, q < np ∧ part = nI q ∧ v = nI (ko (cn q))) ∧ r = nI 0 ∧ z = v.toInt64) (fun (uu : Option (Int32 × Int64)) => match uu with | none => cW G h np nl len fd lu tu T C F LT VV BB lt ph lh ks wd gr gs bl ie tw ++ ([(oa, .inl (G.2.2.1, 1, .inr (.inl ov)))] ++ rs) | some (v, z) => cW G h np nl len fd lu tu T C F LT VV BB lt ph lh ks wd gr gs bl ie tw ++ ([(oa, .inl (G.2.2.1, 1, .inr (.inl (vp_updL ov 0 z))))] ++ rs)) := by
  refine MiW_of (lc := [(0, .ref (h 0)), (1, .int part), (2, .ref oa)]) (by decide +kernel) (Nat.le_of_ble_eq_true rfl) rfl ?_
  intro X cx hXR hXl hr htab
  subst hXl
  have hX := RmX.of hXR
  refine V_aload_n cx 1 rfl dL_costOf_0 2 rfl ?_
  refine V_iconst (v := nI 0) cx 2 rfl dL_costOf_1 (by decide) ?_
  refine V_aload_n cx 3 rfl dL_costOf_2 0 rfl ?_
  refine V_iload_n cx 4 rfl dL_costOf_3 1 rfl ?_
  refine KXL_37 (As := [.int part]) (rest := [.int (nI 0), .ref oa]) cx (kX4_costOf (xl X) lo G ([(oa, .inl (G.2.2.1, 1, .inr (.inl ov)))] ++ rs) h np nl len fd lu tu T C F LT VV BB lt ph lh ks wd gr gs bl ie tw part cn hst hnp hC) hX (by omega) 0 rfl rfl rfl (Nat.le_of_ble_eq_true rfl) 7 1 6 rfl rfl rfl (by omega) (by omega) dL_costOf_4 ?_ ?_
  · intro E ce q9 H1 locs1 ls he hP hD hS hl h1 h2 h3
    have he0 := he
    obtain ⟨hE, _⟩ := id he0
    subst hE
    have hcont : V X lo 4 G (Qi X lo G (fun (r : Int32) (uu : Option (Int32 × Int64)) => match uu with | none => ∃ E, (fun E => E = EIOB ∧ ¬ cIsP np part) E ∧ ((E = EIOB ∧ r = nI 1)) | some (v, z) => (∃ q, q < np ∧ part = nI q ∧ v = nI (ko (cn q))) ∧ r = nI 0 ∧ z = v.toInt64) (fun (uu : Option (Int32 × Int64)) => match uu with | none => cW G h np nl len fd lu tu T C F LT VV BB lt ph lh ks wd gr gs bl ie tw ++ ([(oa, .inl (G.2.2.1, 1, .inr (.inl ov)))] ++ rs) | some (v, z) => cW G h np nl len fd lu tu T C F LT VV BB lt ph lh ks wd gr gs bl ie tw ++ ([(oa, .inl (G.2.2.1, 1, .inr (.inl (vp_updL ov 0 z))))] ++ rs)) 1 6) 1 6 (cW G h np nl len fd lu tu T C F LT VV BB lt ph lh ks wd gr gs bl ie tw ++ ([(oa, .inl (G.2.2.1, 1, .inr (.inl ov)))] ++ rs)) [(0, .ref (h 0)), (1, .int part), (2, .ref oa)] [.ref q9] 12 := by
      refine V_astore_n (lc1 := [(3, .ref q9), (0, .ref (h 0)), (1, .int part), (2, .ref oa)]) cx 13 rfl dL_costOf_12 (by decide) rfl ?_
      refine V_iconst (v := nI 1) cx 14 rfl dL_costOf_13 (by decide) ?_
      exact V_ireturn cx hr none ⟨_, he0, ⟨rfl, rfl⟩⟩ rfl (by omega) (by omega) dL_costOf_14
    exact vx_catch (own := RL) (name := EIOB) cx.2.2.2.1 [] ⟨0, 9, 12, 21⟩ [] htab (fun z hz => by cases hz) (by decide) (by decide) (cx.word kl_L_21) (cst_IOB cx) h1 h2 h3 (hcont H1 locs1 ls hP hD hS hl)
  · intro v uu hw
    try dsimp only at hw
    refine V_i2l cx 8 rfl dL_costOf_7 ?_
    refine V_lastN cx 0 rfl (by decide) (by decide) 21 rfl (cW G h np nl len fd lu tu T C F LT VV BB lt ph lh ks wd gr gs bl ie tw ++ ([(oa, .inl (G.2.2.1, 1, .inr (.inl (vp_updL ov 0 v.toInt64))))] ++ rs)) rfl 9 rfl dL_costOf_8 ?_
    refine V_goto cx 15 dL_costOf_9 (by decide) ?_
    refine V_iconst (v := nI 0) cx 16 rfl dL_costOf_15 (by decide) ?_
    exact V_ireturn cx hr (some (v, v.toInt64)) ⟨hw, rfl, rfl⟩ rfl (by omega) (by omega) dL_costOf_16
set_option maxHeartbeats 4000000 in
set_option maxRecDepth 100000 in
theorem kL_find (l : Launch) (lo : Nat) (G : vG) (rs : va_W) (h : Nat → Nat) (np : Nat) (nl : Nat) (len : Nat) (fd : Nat) (lu : Nat) (tu : Nat) (T : Nat → Int32) (C : Nat → Int32) (F : Nat → Int32) (LT : Nat → Int32) (VV : Nat → Int32) (BB : Nat → Int32) (lt : Nat → Int32) (ph : Nat → Int32) (lh : Nat → Int32) (ks : Nat → Int64) (wd : Nat → Int32) (gr : Nat → Int32) (gs : Nat → Int32) (bl : Nat → Int32) (ie : Nat → Int32) (tw : Nat → Int32) (oa : Nat) (ov : Nat → Int64) (text : Int32) (hst : l.stackTraces = false) (hnp : np ≤ 16) : Mi l yL_find (.codeWith yL_find method_10_code 4 (some .int) [(0, 9, 12, 13)]) 10 1 6 lo G [.ref (h 0), .int text, .ref oa] (cW G h np nl len fd lu tu T C F LT VV BB lt ph lh ks wd gr gs bl ie tw ++ ([(oa, .inl (G.2.2.1, 1, .inr (.inl ov)))] ++ rs)) (fun (r : Int32) (uu : Option (Int32 × Int64)) => match uu with | none => ∃ E, (fun E => E = EIAE ∧ SZ text 8 = 0) E ∧ ((E = EIAE ∧ r = nI 1)) | some (v, z) => (0 < SZ text 8 ∧ v = oI (pwI T text np)) ∧ r = nI 0 ∧ z = v.toInt64) (fun (uu : Option (Int32 × Int64)) => match uu with | none => cW G h np nl len fd lu tu T C F LT VV BB lt ph lh ks wd gr gs bl ie tw ++ ([(oa, .inl (G.2.2.1, 1, .inr (.inl ov)))] ++ rs) | some (v, z) => cW G h np nl len fd lu tu T C F LT VV BB lt ph lh ks wd gr gs bl ie tw ++ ([(oa, .inl (G.2.2.1, 1, .inr (.inl (vp_updL ov 0 z))))] ++ rs)) := by
  refine MiW_of (lc := [(0, .ref (h 0)), (1, .int text), (2, .ref oa)]) (by decide +kernel) (Nat.le_of_ble_eq_true rfl) rfl ?_
  intro X cx hXR hXl hr htab
  subst hXl
  have hX := RmX.of hXR
  refine V_aload_n cx 1 rfl dL_find_0 2 rfl ?_
  refine V_iconst (v := nI 0) cx 2 rfl dL_find_1 (by decide) ?_
  refine V_aload_n cx 3 rfl dL_find_2 0 rfl ?_
  refine V_iload_n cx 4 rfl dL_find_3 1 rfl ?_
  refine KXL_40 (As := [.int text]) (rest := [.int (nI 0), .ref oa]) cx (kX4_find (xl X) lo G ([(oa, .inl (G.2.2.1, 1, .inr (.inl ov)))] ++ rs) h np nl len fd lu tu T C F LT VV BB lt ph lh ks wd gr gs bl ie tw text hst hnp) hX (by omega) 0 rfl rfl rfl (Nat.le_of_ble_eq_true rfl) 7 1 6 rfl rfl rfl (by omega) (by omega) dL_find_4 ?_ ?_
  · intro E ce q9 H1 locs1 ls he hP hD hS hl h1 h2 h3
    have he0 := he
    obtain ⟨hE, _⟩ := id he0
    subst hE
    have hcont : V X lo 4 G (Qi X lo G (fun (r : Int32) (uu : Option (Int32 × Int64)) => match uu with | none => ∃ E, (fun E => E = EIAE ∧ SZ text 8 = 0) E ∧ ((E = EIAE ∧ r = nI 1)) | some (v, z) => (0 < SZ text 8 ∧ v = oI (pwI T text np)) ∧ r = nI 0 ∧ z = v.toInt64) (fun (uu : Option (Int32 × Int64)) => match uu with | none => cW G h np nl len fd lu tu T C F LT VV BB lt ph lh ks wd gr gs bl ie tw ++ ([(oa, .inl (G.2.2.1, 1, .inr (.inl ov)))] ++ rs) | some (v, z) => cW G h np nl len fd lu tu T C F LT VV BB lt ph lh ks wd gr gs bl ie tw ++ ([(oa, .inl (G.2.2.1, 1, .inr (.inl (vp_updL ov 0 z))))] ++ rs)) 1 6) 1 6 (cW G h np nl len fd lu tu T C F LT VV BB lt ph lh ks wd gr gs bl ie tw ++ ([(oa, .inl (G.2.2.1, 1, .inr (.inl ov)))] ++ rs)) [(0, .ref (h 0)), (1, .int text), (2, .ref oa)] [.ref q9] 12 := by
      refine V_astore_n (lc1 := [(3, .ref q9), (0, .ref (h 0)), (1, .int text), (2, .ref oa)]) cx 13 rfl dL_find_12 (by decide) rfl ?_
      refine V_iconst (v := nI 1) cx 14 rfl dL_find_13 (by decide) ?_
      exact V_ireturn cx hr none ⟨_, he0, ⟨rfl, rfl⟩⟩ rfl (by omega) (by omega) dL_find_14
    exact vx_catch (own := RL) (name := EIAE) cx.2.2.2.1 [] ⟨0, 9, 12, 13⟩ [] htab (fun z hz => by cases hz) (by decide) (by decide) (cx.word kl_L_13) (cst_IAE cx) h1 h2 h3 (hcont H1 locs1 ls hP hD hS hl)
  · intro v uu hw
    try dsimp only at hw
    refine V_i2l cx 8 rfl dL_find_7 ?_
    refine V_lastN cx 0 rfl (by decide) (by decide) 21 rfl (cW G h np nl len fd lu tu T C F LT VV BB lt ph lh ks wd gr gs bl ie tw ++ ([(oa, .inl (G.2.2.1, 1, .inr (.inl (vp_updL ov 0 v.toInt64))))] ++ rs)) rfl 9 rfl dL_find_8 ?_
    refine V_goto cx 15 dL_find_9 (by decide) ?_
    refine V_iconst (v := nI 0) cx 16 rfl dL_find_15 (by decide) ?_
    exact V_ireturn cx hr (some (v, v.toInt64)) ⟨hw, rfl, rfl⟩ rfl (by omega) (by omega) dL_find_16
set_option maxHeartbeats 4000000 in
set_option maxRecDepth 100000 in
theorem kL_splits (l : Launch) (lo : Nat) (G : vG) (rs : va_W) (h : Nat → Nat) (np : Nat) (nl : Nat) (len : Nat) (fd : Nat) (lu : Nat) (tu : Nat) (T : Nat → Int32) (C : Nat → Int32) (F : Nat → Int32) (LT : Nat → Int32) (VV : Nat → Int32) (BB : Nat → Int32) (lt : Nat → Int32) (ph : Nat → Int32) (lh : Nat → Int32) (ks : Nat → Int64) (wd : Nat → Int32) (gr : Nat → Int32) (gs : Nat → Int32) (bl : Nat → Int32) (ie : Nat → Int32) (tw : Nat → Int32) (oa : Nat) (ov : Nat → Int64) (u : Int32) (x : LX) (hst : l.stackTraces = false) (hok : lxOK x) (hck : cOK x np nl T C F LT VV BB) : Mi l yL_splits (.codeWith yL_splits method_11_code 4 (some .int) [(0, 9, 12, 13)]) 24 1 6 lo G [.ref (h 0), .int u, .ref oa] (cW G h np nl len fd lu tu T C F LT VV BB lt ph lh ks wd gr gs bl ie tw ++ ([(oa, .inl (G.2.2.1, 1, .inr (.inl ov)))] ++ rs)) (fun (r : Int32) (uu : Option ((Nat) × (Nat → Int32) × (Nat → Int32) × (Nat → Int32) × (Nat → Int64) × Int32 × Int64)) => match uu with | none => ∃ E, (fun E => E = EIAE ∧ SZ u 8 = 0) E ∧ ((E = EIAE ∧ r = nI 1)) | some (fd1, lt1, ph1, lh1, ks1, v, z) => (∃ w, u = nI w ∧ w < 200000000 ∧ 0 < SZ u 8 ∧ v = nI (mEn x (dgt w (SZ u 8)) (SZ u 8)).length) ∧ r = nI 0 ∧ z = v.toInt64) (fun (uu : Option ((Nat) × (Nat → Int32) × (Nat → Int32) × (Nat → Int32) × (Nat → Int64) × Int32 × Int64)) => match uu with | none => cW G h np nl len fd lu tu T C F LT VV BB lt ph lh ks wd gr gs bl ie tw ++ ([(oa, .inl (G.2.2.1, 1, .inr (.inl ov)))] ++ rs) | some (fd1, lt1, ph1, lh1, ks1, v, z) => cW G h np nl (SZ u 8) fd1 lu tu T C F LT VV BB lt1 ph1 lh1 ks1 wd gr gs bl ie tw ++ ([(oa, .inl (G.2.2.1, 1, .inr (.inl (vp_updL ov 0 z))))] ++ rs)) := by
  refine MiW_of (lc := [(0, .ref (h 0)), (1, .int u), (2, .ref oa)]) (by decide +kernel) (Nat.le_of_ble_eq_true rfl) rfl ?_
  intro X cx hXR hXl hr htab
  subst hXl
  have hX := RmX.of hXR
  refine V_aload_n cx 1 rfl dL_splits_0 2 rfl ?_
  refine V_iconst (v := nI 0) cx 2 rfl dL_splits_1 (by decide) ?_
  refine V_aload_n cx 3 rfl dL_splits_2 0 rfl ?_
  refine V_iload_n cx 4 rfl dL_splits_3 1 rfl ?_
  refine KXL_43 (As := [.int u]) (rest := [.int (nI 0), .ref oa]) cx (kX4_splits (xl X) lo G ([(oa, .inl (G.2.2.1, 1, .inr (.inl ov)))] ++ rs) h np nl len fd lu tu T C F LT VV BB lt ph lh ks wd gr gs bl ie tw u x hst hok hck) hX (by omega) 0 rfl rfl rfl (Nat.le_of_ble_eq_true rfl) 7 1 6 rfl rfl rfl (by omega) (by omega) dL_splits_4 ?_ ?_
  · intro E ce q9 H1 locs1 ls he hP hD hS hl h1 h2 h3
    have he0 := he
    obtain ⟨hE, _⟩ := id he0
    subst hE
    have hcont : V X lo 4 G (Qi X lo G (fun (r : Int32) (uu : Option ((Nat) × (Nat → Int32) × (Nat → Int32) × (Nat → Int32) × (Nat → Int64) × Int32 × Int64)) => match uu with | none => ∃ E, (fun E => E = EIAE ∧ SZ u 8 = 0) E ∧ ((E = EIAE ∧ r = nI 1)) | some (fd1, lt1, ph1, lh1, ks1, v, z) => (∃ w, u = nI w ∧ w < 200000000 ∧ 0 < SZ u 8 ∧ v = nI (mEn x (dgt w (SZ u 8)) (SZ u 8)).length) ∧ r = nI 0 ∧ z = v.toInt64) (fun (uu : Option ((Nat) × (Nat → Int32) × (Nat → Int32) × (Nat → Int32) × (Nat → Int64) × Int32 × Int64)) => match uu with | none => cW G h np nl len fd lu tu T C F LT VV BB lt ph lh ks wd gr gs bl ie tw ++ ([(oa, .inl (G.2.2.1, 1, .inr (.inl ov)))] ++ rs) | some (fd1, lt1, ph1, lh1, ks1, v, z) => cW G h np nl (SZ u 8) fd1 lu tu T C F LT VV BB lt1 ph1 lh1 ks1 wd gr gs bl ie tw ++ ([(oa, .inl (G.2.2.1, 1, .inr (.inl (vp_updL ov 0 z))))] ++ rs)) 1 6) 1 6 (cW G h np nl len fd lu tu T C F LT VV BB lt ph lh ks wd gr gs bl ie tw ++ ([(oa, .inl (G.2.2.1, 1, .inr (.inl ov)))] ++ rs)) [(0, .ref (h 0)), (1, .int u), (2, .ref oa)] [.ref q9] 12 := by
      refine V_astore_n (lc1 := [(3, .ref q9), (0, .ref (h 0)), (1, .int u), (2, .ref oa)]) cx 13 rfl dL_splits_12 (by decide) rfl ?_
      refine V_iconst (v := nI 1) cx 14 rfl dL_splits_13 (by decide) ?_
      exact V_ireturn cx hr none ⟨_, he0, ⟨rfl, rfl⟩⟩ rfl (by omega) (by omega) dL_splits_14
    exact vx_catch (own := RL) (name := EIAE) cx.2.2.2.1 [] ⟨0, 9, 12, 13⟩ [] htab (fun z hz => by cases hz) (by decide) (by decide) (cx.word kl_L_13) (cst_IAE cx) h1 h2 h3 (hcont H1 locs1 ls hP hD hS hl)
  · intro v uu hw
    obtain ⟨fd1, lt1, ph1, lh1, ks1⟩ := uu
    try dsimp only at hw
    refine V_i2l cx 8 rfl dL_splits_7 ?_
    refine V_lastN cx 0 rfl (by decide) (by decide) 21 rfl (cW G h np nl (SZ u 8) fd1 lu tu T C F LT VV BB lt1 ph1 lh1 ks1 wd gr gs bl ie tw ++ ([(oa, .inl (G.2.2.1, 1, .inr (.inl (vp_updL ov 0 v.toInt64))))] ++ rs)) rfl 9 rfl dL_splits_8 ?_
    refine V_goto cx 15 dL_splits_9 (by decide) ?_
    refine V_iconst (v := nI 0) cx 16 rfl dL_splits_15 (by decide) ?_
    exact V_ireturn cx hr (some (fd1, lt1, ph1, lh1, ks1, v, v.toInt64)) ⟨hw, rfl, rfl⟩ rfl (by omega) (by omega) dL_splits_16
set_option maxHeartbeats 4000000 in
set_option maxRecDepth 100000 in
theorem kL_cost (l : Launch) (lo : Nat) (G : vG) (rs : va_W) (h : Nat → Nat) (np : Nat) (nl : Nat) (len : Nat) (fd : Nat) (lu : Nat) (tu : Nat) (T : Nat → Int32) (C : Nat → Int32) (F : Nat → Int32) (LT : Nat → Int32) (VV : Nat → Int32) (BB : Nat → Int32) (lt : Nat → Int32) (ph : Nat → Int32) (lh : Nat → Int32) (ks : Nat → Int64) (wd : Nat → Int32) (gr : Nat → Int32) (gs : Nat → Int32) (bl : Nat → Int32) (ie : Nat → Int32) (tw : Nat → Int32) (oa : Nat) (ov : Nat → Int64) (u : Int32) (k : Int32) (x : LX) (hst : l.stackTraces = false) (hok : lxOK x) (hck : cOK x np nl T C F LT VV BB) : Mi l yL_cost (.codeWith yL_cost method_12_code 5 (some .int) [(0, 10, 13, 13)]) 24 2 12 lo G [.ref (h 0), .int u, .int k, .ref oa] (cW G h np nl len fd lu tu T C F LT VV BB lt ph lh ks wd gr gs bl ie tw ++ ([(oa, .inl (G.2.2.1, 1, .inr (.inl ov)))] ++ rs)) (fun (r : Int32) (uu : Option ((Nat) × (Nat → Int32) × (Nat → Int32) × (Nat → Int32) × (Nat → Int64) × Int32 × Int64)) => match uu with | none => ∃ E, (fun E => E = EIAE ∧ (SZ u 8 = 0 ∨ k < 0)) E ∧ ((E = EIAE ∧ r = nI 1)) | some (fd1, lt1, ph1, lh1, ks1, v, z) => (askK x u k 0 (fun o => v = cosV x o)) ∧ r = nI 0 ∧ z = v.toInt64) (fun (uu : Option ((Nat) × (Nat → Int32) × (Nat → Int32) × (Nat → Int32) × (Nat → Int64) × Int32 × Int64)) => match uu with | none => cW G h np nl len fd lu tu T C F LT VV BB lt ph lh ks wd gr gs bl ie tw ++ ([(oa, .inl (G.2.2.1, 1, .inr (.inl ov)))] ++ rs) | some (fd1, lt1, ph1, lh1, ks1, v, z) => cW G h np nl (SZ u 8) fd1 lu tu T C F LT VV BB lt1 ph1 lh1 ks1 wd gr gs bl ie tw ++ ([(oa, .inl (G.2.2.1, 1, .inr (.inl (vp_updL ov 0 z))))] ++ rs)) := by
  refine MiW_of (lc := [(0, .ref (h 0)), (1, .int u), (2, .int k), (3, .ref oa)]) (by decide +kernel) (Nat.le_of_ble_eq_true rfl) rfl ?_
  intro X cx hXR hXl hr htab
  subst hXl
  have hX := RmX.of hXR
  refine V_aload_n cx 1 rfl dL_cost_0 3 rfl ?_
  refine V_iconst (v := nI 0) cx 2 rfl dL_cost_1 (by decide) ?_
  refine V_aload_n cx 3 rfl dL_cost_2 0 rfl ?_
  refine V_iload_n cx 4 rfl dL_cost_3 1 rfl ?_
  refine V_iload_n cx 5 rfl dL_cost_4 2 rfl ?_
  refine KXL_46 (As := [.int u, .int k]) (rest := [.int (nI 0), .ref oa]) cx (kX4_cost (xl X) lo G ([(oa, .inl (G.2.2.1, 1, .inr (.inl ov)))] ++ rs) h np nl len fd lu tu T C F LT VV BB lt ph lh ks wd gr gs bl ie tw u k x hst hok hck) hX (by omega) 0 rfl rfl rfl (Nat.le_of_ble_eq_true rfl) 8 2 12 rfl rfl rfl (by omega) (by omega) dL_cost_5 ?_ ?_
  · intro E ce q9 H1 locs1 ls he hP hD hS hl h1 h2 h3
    have he0 := he
    obtain ⟨hE, _⟩ := id he0
    subst hE
    have hcont : V X lo 5 G (Qi X lo G (fun (r : Int32) (uu : Option ((Nat) × (Nat → Int32) × (Nat → Int32) × (Nat → Int32) × (Nat → Int64) × Int32 × Int64)) => match uu with | none => ∃ E, (fun E => E = EIAE ∧ (SZ u 8 = 0 ∨ k < 0)) E ∧ ((E = EIAE ∧ r = nI 1)) | some (fd1, lt1, ph1, lh1, ks1, v, z) => (askK x u k 0 (fun o => v = cosV x o)) ∧ r = nI 0 ∧ z = v.toInt64) (fun (uu : Option ((Nat) × (Nat → Int32) × (Nat → Int32) × (Nat → Int32) × (Nat → Int64) × Int32 × Int64)) => match uu with | none => cW G h np nl len fd lu tu T C F LT VV BB lt ph lh ks wd gr gs bl ie tw ++ ([(oa, .inl (G.2.2.1, 1, .inr (.inl ov)))] ++ rs) | some (fd1, lt1, ph1, lh1, ks1, v, z) => cW G h np nl (SZ u 8) fd1 lu tu T C F LT VV BB lt1 ph1 lh1 ks1 wd gr gs bl ie tw ++ ([(oa, .inl (G.2.2.1, 1, .inr (.inl (vp_updL ov 0 z))))] ++ rs)) 2 12) 2 12 (cW G h np nl len fd lu tu T C F LT VV BB lt ph lh ks wd gr gs bl ie tw ++ ([(oa, .inl (G.2.2.1, 1, .inr (.inl ov)))] ++ rs)) [(0, .ref (h 0)), (1, .int u), (2, .int k), (3, .ref oa)] [.ref q9] 13 := by
      refine V_astore (lc1 := [(4, .ref q9), (0, .ref (h 0)), (1, .int u), (2, .int k), (3, .ref oa)]) cx 15 rfl dL_cost_13 (by decide) rfl ?_
      refine V_iconst (v := nI 1) cx 16 rfl dL_cost_15 (by decide) ?_
      exact V_ireturn cx hr none ⟨_, he0, ⟨rfl, rfl⟩⟩ rfl (by omega) (by omega) dL_cost_16
    exact vx_catch (own := RL) (name := EIAE) cx.2.2.2.1 [] ⟨0, 10, 13, 13⟩ [] htab (fun z hz => by cases hz) (by decide) (by decide) (cx.word kl_L_13) (cst_IAE cx) h1 h2 h3 (hcont H1 locs1 ls hP hD hS hl)
  · intro v uu hw
    obtain ⟨fd1, lt1, ph1, lh1, ks1⟩ := uu
    try dsimp only at hw
    refine V_i2l cx 9 rfl dL_cost_8 ?_
    refine V_lastN cx 0 rfl (by decide) (by decide) 21 rfl (cW G h np nl (SZ u 8) fd1 lu tu T C F LT VV BB lt1 ph1 lh1 ks1 wd gr gs bl ie tw ++ ([(oa, .inl (G.2.2.1, 1, .inr (.inl (vp_updL ov 0 v.toInt64))))] ++ rs)) rfl 10 rfl dL_cost_9 ?_
    refine V_goto cx 17 dL_cost_10 (by decide) ?_
    refine V_iconst (v := nI 0) cx 18 rfl dL_cost_17 (by decide) ?_
    exact V_ireturn cx hr (some (fd1, lt1, ph1, lh1, ks1, v, v.toInt64)) ⟨hw, rfl, rfl⟩ rfl (by omega) (by omega) dL_cost_18
set_option maxHeartbeats 4000000 in
set_option maxRecDepth 100000 in
theorem kL_size (l : Launch) (lo : Nat) (G : vG) (rs : va_W) (h : Nat → Nat) (np : Nat) (nl : Nat) (len : Nat) (fd : Nat) (lu : Nat) (tu : Nat) (T : Nat → Int32) (C : Nat → Int32) (F : Nat → Int32) (LT : Nat → Int32) (VV : Nat → Int32) (BB : Nat → Int32) (lt : Nat → Int32) (ph : Nat → Int32) (lh : Nat → Int32) (ks : Nat → Int64) (wd : Nat → Int32) (gr : Nat → Int32) (gs : Nat → Int32) (bl : Nat → Int32) (ie : Nat → Int32) (tw : Nat → Int32) (oa : Nat) (ov : Nat → Int64) (u : Int32) (k : Int32) (x : LX) (hst : l.stackTraces = false) (hok : lxOK x) (hck : cOK x np nl T C F LT VV BB) : Mi l yL_size (.codeWith yL_size method_13_code 5 (some .int) [(0, 10, 13, 13)]) 24 2 12 lo G [.ref (h 0), .int u, .int k, .ref oa] (cW G h np nl len fd lu tu T C F LT VV BB lt ph lh ks wd gr gs bl ie tw ++ ([(oa, .inl (G.2.2.1, 1, .inr (.inl ov)))] ++ rs)) (fun (r : Int32) (uu : Option ((Nat) × (Nat → Int32) × (Nat → Int32) × (Nat → Int32) × (Nat → Int64) × Int32 × Int64)) => match uu with | none => ∃ E, (fun E => E = EIAE ∧ (SZ u 8 = 0 ∨ k < 0)) E ∧ ((E = EIAE ∧ r = nI 1)) | some (fd1, lt1, ph1, lh1, ks1, v, z) => (askK x u k 0 (fun o => v = sizV o)) ∧ r = nI 0 ∧ z = v.toInt64) (fun (uu : Option ((Nat) × (Nat → Int32) × (Nat → Int32) × (Nat → Int32) × (Nat → Int64) × Int32 × Int64)) => match uu with | none => cW G h np nl len fd lu tu T C F LT VV BB lt ph lh ks wd gr gs bl ie tw ++ ([(oa, .inl (G.2.2.1, 1, .inr (.inl ov)))] ++ rs) | some (fd1, lt1, ph1, lh1, ks1, v, z) => cW G h np nl (SZ u 8) fd1 lu tu T C F LT VV BB lt1 ph1 lh1 ks1 wd gr gs bl ie tw ++ ([(oa, .inl (G.2.2.1, 1, .inr (.inl (vp_updL ov 0 z))))] ++ rs)) := by
  refine MiW_of (lc := [(0, .ref (h 0)), (1, .int u), (2, .int k), (3, .ref oa)]) (by decide +kernel) (Nat.le_of_ble_eq_true rfl) rfl ?_
  intro X cx hXR hXl hr htab
  subst hXl
  have hX := RmX.of hXR
  refine V_aload_n cx 1 rfl dL_size_0 3 rfl ?_
  refine V_iconst (v := nI 0) cx 2 rfl dL_size_1 (by decide) ?_
  refine V_aload_n cx 3 rfl dL_size_2 0 rfl ?_
  refine V_iload_n cx 4 rfl dL_size_3 1 rfl ?_
  refine V_iload_n cx 5 rfl dL_size_4 2 rfl ?_
  refine KXL_49 (As := [.int u, .int k]) (rest := [.int (nI 0), .ref oa]) cx (kX4_size (xl X) lo G ([(oa, .inl (G.2.2.1, 1, .inr (.inl ov)))] ++ rs) h np nl len fd lu tu T C F LT VV BB lt ph lh ks wd gr gs bl ie tw u k x hst hok hck) hX (by omega) 0 rfl rfl rfl (Nat.le_of_ble_eq_true rfl) 8 2 12 rfl rfl rfl (by omega) (by omega) dL_size_5 ?_ ?_
  · intro E ce q9 H1 locs1 ls he hP hD hS hl h1 h2 h3
    have he0 := he
    obtain ⟨hE, _⟩ := id he0
    subst hE
    have hcont : V X lo 5 G (Qi X lo G (fun (r : Int32) (uu : Option ((Nat) × (Nat → Int32) × (Nat → Int32) × (Nat → Int32) × (Nat → Int64) × Int32 × Int64)) => match uu with | none => ∃ E, (fun E => E = EIAE ∧ (SZ u 8 = 0 ∨ k < 0)) E ∧ ((E = EIAE ∧ r = nI 1)) | some (fd1, lt1, ph1, lh1, ks1, v, z) => (askK x u k 0 (fun o => v = sizV o)) ∧ r = nI 0 ∧ z = v.toInt64) (fun (uu : Option ((Nat) × (Nat → Int32) × (Nat → Int32) × (Nat → Int32) × (Nat → Int64) × Int32 × Int64)) => match uu with | none => cW G h np nl len fd lu tu T C F LT VV BB lt ph lh ks wd gr gs bl ie tw ++ ([(oa, .inl (G.2.2.1, 1, .inr (.inl ov)))] ++ rs) | some (fd1, lt1, ph1, lh1, ks1, v, z) => cW G h np nl (SZ u 8) fd1 lu tu T C F LT VV BB lt1 ph1 lh1 ks1 wd gr gs bl ie tw ++ ([(oa, .inl (G.2.2.1, 1, .inr (.inl (vp_updL ov 0 z))))] ++ rs)) 2 12) 2 12 (cW G h np nl len fd lu tu T C F LT VV BB lt ph lh ks wd gr gs bl ie tw ++ ([(oa, .inl (G.2.2.1, 1, .inr (.inl ov)))] ++ rs)) [(0, .ref (h 0)), (1, .int u), (2, .int k), (3, .ref oa)] [.ref q9] 13 := by
      refine V_astore (lc1 := [(4, .ref q9), (0, .ref (h 0)), (1, .int u), (2, .int k), (3, .ref oa)]) cx 15 rfl dL_size_13 (by decide) rfl ?_
      refine V_iconst (v := nI 1) cx 16 rfl dL_size_15 (by decide) ?_
      exact V_ireturn cx hr none ⟨_, he0, ⟨rfl, rfl⟩⟩ rfl (by omega) (by omega) dL_size_16
    exact vx_catch (own := RL) (name := EIAE) cx.2.2.2.1 [] ⟨0, 10, 13, 13⟩ [] htab (fun z hz => by cases hz) (by decide) (by decide) (cx.word kl_L_13) (cst_IAE cx) h1 h2 h3 (hcont H1 locs1 ls hP hD hS hl)
  · intro v uu hw
    obtain ⟨fd1, lt1, ph1, lh1, ks1⟩ := uu
    try dsimp only at hw
    refine V_i2l cx 9 rfl dL_size_8 ?_
    refine V_lastN cx 0 rfl (by decide) (by decide) 21 rfl (cW G h np nl (SZ u 8) fd1 lu tu T C F LT VV BB lt1 ph1 lh1 ks1 wd gr gs bl ie tw ++ ([(oa, .inl (G.2.2.1, 1, .inr (.inl (vp_updL ov 0 v.toInt64))))] ++ rs)) rfl 10 rfl dL_size_9 ?_
    refine V_goto cx 17 dL_size_10 (by decide) ?_
    refine V_iconst (v := nI 0) cx 18 rfl dL_size_17 (by decide) ?_
    exact V_ireturn cx hr (some (fd1, lt1, ph1, lh1, ks1, v, v.toInt64)) ⟨hw, rfl, rfl⟩ rfl (by omega) (by omega) dL_size_18
set_option maxHeartbeats 4000000 in
set_option maxRecDepth 100000 in
theorem kL_partAt (l : Launch) (lo : Nat) (G : vG) (rs : va_W) (h : Nat → Nat) (np : Nat) (nl : Nat) (len : Nat) (fd : Nat) (lu : Nat) (tu : Nat) (T : Nat → Int32) (C : Nat → Int32) (F : Nat → Int32) (LT : Nat → Int32) (VV : Nat → Int32) (BB : Nat → Int32) (lt : Nat → Int32) (ph : Nat → Int32) (lh : Nat → Int32) (ks : Nat → Int64) (wd : Nat → Int32) (gr : Nat → Int32) (gs : Nat → Int32) (bl : Nat → Int32) (ie : Nat → Int32) (tw : Nat → Int32) (oa : Nat) (ov : Nat → Int64) (u : Int32) (k : Int32) (j : Int32) (x : LX) (hst : l.stackTraces = false) (hok : lxOK x) (hck : cOK x np nl T C F LT VV BB) : Mi l yL_partAt (.codeWith yL_partAt method_14_code 6 (some .int) [(0, 12, 15, 13)]) 24 2 12 lo G [.ref (h 0), .int u, .int k, .int j, .ref oa] (cW G h np nl len fd lu tu T C F LT VV BB lt ph lh ks wd gr gs bl ie tw ++ ([(oa, .inl (G.2.2.1, 1, .inr (.inl ov)))] ++ rs)) (fun (r : Int32) (uu : Option ((Nat) × (Nat → Int32) × (Nat → Int32) × (Nat → Int32) × (Nat → Int64) × Int32 × Int64)) => match uu with | none => ∃ E, (fun E => E = EIAE ∧ (j < 0 ∨ (SZ u 8 = 0 ∨ k < 0))) E ∧ ((E = EIAE ∧ r = nI 1)) | some (fd1, lt1, ph1, lh1, ks1, v, z) => (¬ j < 0 ∧ askK x u k 0 (patP j v)) ∧ r = nI 0 ∧ z = v.toInt64) (fun (uu : Option ((Nat) × (Nat → Int32) × (Nat → Int32) × (Nat → Int32) × (Nat → Int64) × Int32 × Int64)) => match uu with | none => cW G h np nl len fd lu tu T C F LT VV BB lt ph lh ks wd gr gs bl ie tw ++ ([(oa, .inl (G.2.2.1, 1, .inr (.inl ov)))] ++ rs) | some (fd1, lt1, ph1, lh1, ks1, v, z) => cW G h np nl (SZ u 8) fd1 lu tu T C F LT VV BB lt1 ph1 lh1 ks1 wd gr gs bl ie tw ++ ([(oa, .inl (G.2.2.1, 1, .inr (.inl (vp_updL ov 0 z))))] ++ rs)) := by
  refine MiW_of (lc := [(0, .ref (h 0)), (1, .int u), (2, .int k), (3, .int j), (4, .ref oa)]) (by decide +kernel) (Nat.le_of_ble_eq_true rfl) rfl ?_
  intro X cx hXR hXl hr htab
  subst hXl
  have hX := RmX.of hXR
  refine V_aload cx 2 rfl dL_partAt_0 4 rfl ?_
  refine V_iconst (v := nI 0) cx 3 rfl dL_partAt_2 (by decide) ?_
  refine V_aload_n cx 4 rfl dL_partAt_3 0 rfl ?_
  refine V_iload_n cx 5 rfl dL_partAt_4 1 rfl ?_
  refine V_iload_n cx 6 rfl dL_partAt_5 2 rfl ?_
  refine V_iload_n cx 7 rfl dL_partAt_6 3 rfl ?_
  refine KXL_52 (As := [.int u, .int k, .int j]) (rest := [.int (nI 0), .ref oa]) cx (kX4_partAt (xl X) lo G ([(oa, .inl (G.2.2.1, 1, .inr (.inl ov)))] ++ rs) h np nl len fd lu tu T C F LT VV BB lt ph lh ks wd gr gs bl ie tw u k j x hst hok hck) hX (by omega) 0 rfl rfl rfl (Nat.le_of_ble_eq_true rfl) 10 2 12 rfl rfl rfl (by omega) (by omega) dL_partAt_7 ?_ ?_
  · intro E ce q9 H1 locs1 ls he hP hD hS hl h1 h2 h3
    have he0 := he
    obtain ⟨hE, _⟩ := id he0
    subst hE
    have hcont : V X lo 6 G (Qi X lo G (fun (r : Int32) (uu : Option ((Nat) × (Nat → Int32) × (Nat → Int32) × (Nat → Int32) × (Nat → Int64) × Int32 × Int64)) => match uu with | none => ∃ E, (fun E => E = EIAE ∧ (j < 0 ∨ (SZ u 8 = 0 ∨ k < 0))) E ∧ ((E = EIAE ∧ r = nI 1)) | some (fd1, lt1, ph1, lh1, ks1, v, z) => (¬ j < 0 ∧ askK x u k 0 (patP j v)) ∧ r = nI 0 ∧ z = v.toInt64) (fun (uu : Option ((Nat) × (Nat → Int32) × (Nat → Int32) × (Nat → Int32) × (Nat → Int64) × Int32 × Int64)) => match uu with | none => cW G h np nl len fd lu tu T C F LT VV BB lt ph lh ks wd gr gs bl ie tw ++ ([(oa, .inl (G.2.2.1, 1, .inr (.inl ov)))] ++ rs) | some (fd1, lt1, ph1, lh1, ks1, v, z) => cW G h np nl (SZ u 8) fd1 lu tu T C F LT VV BB lt1 ph1 lh1 ks1 wd gr gs bl ie tw ++ ([(oa, .inl (G.2.2.1, 1, .inr (.inl (vp_updL ov 0 z))))] ++ rs)) 2 12) 2 12 (cW G h np nl len fd lu tu T C F LT VV BB lt ph lh ks wd gr gs bl ie tw ++ ([(oa, .inl (G.2.2.1, 1, .inr (.inl ov)))] ++ rs)) [(0, .ref (h 0)), (1, .int u), (2, .int k), (3, .int j), (4, .ref oa)] [.ref q9] 15 := by
      refine V_astore (lc1 := [(5, .ref q9), (0, .ref (h 0)), (1, .int u), (2, .int k), (3, .int j), (4, .ref oa)]) cx 17 rfl dL_partAt_15 (by decide) rfl ?_
      refine V_iconst (v := nI 1) cx 18 rfl dL_partAt_17 (by decide) ?_
      exact V_ireturn cx hr none ⟨_, he0, ⟨rfl, rfl⟩⟩ rfl (by omega) (by omega) dL_partAt_18
    exact vx_catch (own := RL) (name := EIAE) cx.2.2.2.1 [] ⟨0, 12, 15, 13⟩ [] htab (fun z hz => by cases hz) (by decide) (by decide) (cx.word kl_L_13) (cst_IAE cx) h1 h2 h3 (hcont H1 locs1 ls hP hD hS hl)
  · intro v uu hw
    obtain ⟨fd1, lt1, ph1, lh1, ks1⟩ := uu
    try dsimp only at hw
    refine V_i2l cx 11 rfl dL_partAt_10 ?_
    refine V_lastN cx 0 rfl (by decide) (by decide) 21 rfl (cW G h np nl (SZ u 8) fd1 lu tu T C F LT VV BB lt1 ph1 lh1 ks1 wd gr gs bl ie tw ++ ([(oa, .inl (G.2.2.1, 1, .inr (.inl (vp_updL ov 0 v.toInt64))))] ++ rs)) rfl 12 rfl dL_partAt_11 ?_
    refine V_goto cx 19 dL_partAt_12 (by decide) ?_
    refine V_iconst (v := nI 0) cx 20 rfl dL_partAt_19 (by decide) ?_
    exact V_ireturn cx hr (some (fd1, lt1, ph1, lh1, ks1, v, v.toInt64)) ⟨hw, rfl, rfl⟩ rfl (by omega) (by omega) dL_partAt_20
set_option maxHeartbeats 4000000 in
set_option maxRecDepth 100000 in
theorem kL_head (l : Launch) (lo : Nat) (G : vG) (rs : va_W) (h : Nat → Nat) (np : Nat) (nl : Nat) (len : Nat) (fd : Nat) (lu : Nat) (tu : Nat) (T : Nat → Int32) (C : Nat → Int32) (F : Nat → Int32) (LT : Nat → Int32) (VV : Nat → Int32) (BB : Nat → Int32) (lt : Nat → Int32) (ph : Nat → Int32) (lh : Nat → Int32) (ks : Nat → Int64) (wd : Nat → Int32) (gr : Nat → Int32) (gs : Nat → Int32) (bl : Nat → Int32) (ie : Nat → Int32) (tw : Nat → Int32) (oa : Nat) (ov : Nat → Int64) (u : Int32) (x : LX) (hst : l.stackTraces = false) (hok : lxOK x) (hck : cOK x np nl T C F LT VV BB) : Mi l yL_head (.codeWith yL_head method_15_code 4 (some .int) [(0, 9, 12, 13)]) 24 2 12 lo G [.ref (h 0), .int u, .ref oa] (cW G h np nl len fd lu tu T C F LT VV BB lt ph lh ks wd gr gs bl ie tw ++ ([(oa, .inl (G.2.2.1, 1, .inr (.inl ov)))] ++ rs)) (fun (r : Int32) (uu : Option ((Nat) × (Nat → Int32) × (Nat → Int32) × (Nat → Int32) × (Nat → Int64) × Int32 × Int64)) => match uu with | none => ∃ E, (fun E => E = EIAE ∧ SZ u 8 = 0) E ∧ ((E = EIAE ∧ r = nI 1)) | some (fd1, lt1, ph1, lh1, ks1, v, z) => (askK x u (nI 0) 0 (fun o => v = hedV o)) ∧ r = nI 0 ∧ z = v.toInt64) (fun (uu : Option ((Nat) × (Nat → Int32) × (Nat → Int32) × (Nat → Int32) × (Nat → Int64) × Int32 × Int64)) => match uu with | none => cW G h np nl len fd lu tu T C F LT VV BB lt ph lh ks wd gr gs bl ie tw ++ ([(oa, .inl (G.2.2.1, 1, .inr (.inl ov)))] ++ rs) | some (fd1, lt1, ph1, lh1, ks1, v, z) => cW G h np nl (SZ u 8) fd1 lu tu T C F LT VV BB lt1 ph1 lh1 ks1 wd gr gs bl ie tw ++ ([(oa, .inl (G.2.2.1, 1, .inr (.inl (vp_updL ov 0 z))))] ++ rs)) := by
  refine MiW_of (lc := [(0, .ref (h 0)), (1, .int u), (2, .ref oa)]) (by decide +kernel) (Nat.le_of_ble_eq_true rfl) rfl ?_
  intro X cx hXR hXl hr htab
  subst hXl
  have hX := RmX.of hXR
  refine V_aload_n cx 1 rfl dL_head_0 2 rfl ?_
  refine V_iconst (v := nI 0) cx 2 rfl dL_head_1 (by decide) ?_
  refine V_aload_n cx 3 rfl dL_head_2 0 rfl ?_
  refine V_iload_n cx 4 rfl dL_head_3 1 rfl ?_
  refine KXL_55 (As := [.int u]) (rest := [.int (nI 0), .ref oa]) cx (kX4_head (xl X) lo G ([(oa, .inl (G.2.2.1, 1, .inr (.inl ov)))] ++ rs) h np nl len fd lu tu T C F LT VV BB lt ph lh ks wd gr gs bl ie tw u x hst hok hck) hX (by omega) 0 rfl rfl rfl (Nat.le_of_ble_eq_true rfl) 7 2 12 rfl rfl rfl (by omega) (by omega) dL_head_4 ?_ ?_
  · intro E ce q9 H1 locs1 ls he hP hD hS hl h1 h2 h3
    have he0 := he
    obtain ⟨hE, _⟩ := id he0
    subst hE
    have hcont : V X lo 4 G (Qi X lo G (fun (r : Int32) (uu : Option ((Nat) × (Nat → Int32) × (Nat → Int32) × (Nat → Int32) × (Nat → Int64) × Int32 × Int64)) => match uu with | none => ∃ E, (fun E => E = EIAE ∧ SZ u 8 = 0) E ∧ ((E = EIAE ∧ r = nI 1)) | some (fd1, lt1, ph1, lh1, ks1, v, z) => (askK x u (nI 0) 0 (fun o => v = hedV o)) ∧ r = nI 0 ∧ z = v.toInt64) (fun (uu : Option ((Nat) × (Nat → Int32) × (Nat → Int32) × (Nat → Int32) × (Nat → Int64) × Int32 × Int64)) => match uu with | none => cW G h np nl len fd lu tu T C F LT VV BB lt ph lh ks wd gr gs bl ie tw ++ ([(oa, .inl (G.2.2.1, 1, .inr (.inl ov)))] ++ rs) | some (fd1, lt1, ph1, lh1, ks1, v, z) => cW G h np nl (SZ u 8) fd1 lu tu T C F LT VV BB lt1 ph1 lh1 ks1 wd gr gs bl ie tw ++ ([(oa, .inl (G.2.2.1, 1, .inr (.inl (vp_updL ov 0 z))))] ++ rs)) 2 12) 2 12 (cW G h np nl len fd lu tu T C F LT VV BB lt ph lh ks wd gr gs bl ie tw ++ ([(oa, .inl (G.2.2.1, 1, .inr (.inl ov)))] ++ rs)) [(0, .ref (h 0)), (1, .int u), (2, .ref oa)] [.ref q9] 12 := by
      refine V_astore_n (lc1 := [(3, .ref q9), (0, .ref (h 0)), (1, .int u), (2, .ref oa)]) cx 13 rfl dL_head_12 (by decide) rfl ?_
      refine V_iconst (v := nI 1) cx 14 rfl dL_head_13 (by decide) ?_
      exact V_ireturn cx hr none ⟨_, he0, ⟨rfl, rfl⟩⟩ rfl (by omega) (by omega) dL_head_14
    exact vx_catch (own := RL) (name := EIAE) cx.2.2.2.1 [] ⟨0, 9, 12, 13⟩ [] htab (fun z hz => by cases hz) (by decide) (by decide) (cx.word kl_L_13) (cst_IAE cx) h1 h2 h3 (hcont H1 locs1 ls hP hD hS hl)
  · intro v uu hw
    obtain ⟨fd1, lt1, ph1, lh1, ks1⟩ := uu
    try dsimp only at hw
    refine V_i2l cx 8 rfl dL_head_7 ?_
    refine V_lastN cx 0 rfl (by decide) (by decide) 21 rfl (cW G h np nl (SZ u 8) fd1 lu tu T C F LT VV BB lt1 ph1 lh1 ks1 wd gr gs bl ie tw ++ ([(oa, .inl (G.2.2.1, 1, .inr (.inl (vp_updL ov 0 v.toInt64))))] ++ rs)) rfl 9 rfl dL_head_8 ?_
    refine V_goto cx 15 dL_head_9 (by decide) ?_
    refine V_iconst (v := nI 0) cx 16 rfl dL_head_15 (by decide) ?_
    exact V_ireturn cx hr (some (fd1, lt1, ph1, lh1, ks1, v, v.toInt64)) ⟨hw, rfl, rfl⟩ rfl (by omega) (by omega) dL_head_16
set_option maxHeartbeats 4000000 in
set_option maxRecDepth 100000 in
theorem kL_readings (l : Launch) (lo : Nat) (G : vG) (rs : va_W) (h : Nat → Nat) (np : Nat) (nl : Nat) (len : Nat) (fd : Nat) (lu : Nat) (tu : Nat) (T : Nat → Int32) (C : Nat → Int32) (F : Nat → Int32) (LT : Nat → Int32) (VV : Nat → Int32) (BB : Nat → Int32) (lt : Nat → Int32) (ph : Nat → Int32) (lh : Nat → Int32) (ks : Nat → Int64) (wd : Nat → Int32) (gr : Nat → Int32) (gs : Nat → Int32) (bl : Nat → Int32) (ie : Nat → Int32) (tw : Nat → Int32) (oa : Nat) (ov : Nat → Int64) (u : Int32) (x : LX) (hst : l.stackTraces = false) (hok : lxOK x) (hck : cOK x np nl T C F LT VV BB) : Mi l yL_readings (.codeWith yL_readings method_16_code 4 (some .int) [(0, 9, 12, 13)]) 24 1 6 lo G [.ref (h 0), .int u, .ref oa] (cW G h np nl len fd lu tu T C F LT VV BB lt ph lh ks wd gr gs bl ie tw ++ ([(oa, .inl (G.2.2.1, 1, .inr (.inl ov)))] ++ rs)) (fun (r : Int32) (uu : Option ((Nat) × (Nat → Int32) × (Nat → Int32) × (Nat → Int32) × (Nat → Int64) × Int32 × Int64)) => match uu with | none => ∃ E, (fun E => E = EIAE ∧ SZ u 8 = 0) E ∧ ((E = EIAE ∧ r = nI 1)) | some (fd1, lt1, ph1, lh1, ks1, v, z) => (∃ w, u = nI w ∧ w < 200000000 ∧ 0 < SZ u 8 ∧ v = nI (rdN (mEn x (dgt w (SZ u 8)) (SZ u 8)) (mEn x (dgt w (SZ u 8)) (SZ u 8)).length)) ∧ r = nI 0 ∧ z = v.toInt64) (fun (uu : Option ((Nat) × (Nat → Int32) × (Nat → Int32) × (Nat → Int32) × (Nat → Int64) × Int32 × Int64)) => match uu with | none => cW G h np nl len fd lu tu T C F LT VV BB lt ph lh ks wd gr gs bl ie tw ++ ([(oa, .inl (G.2.2.1, 1, .inr (.inl ov)))] ++ rs) | some (fd1, lt1, ph1, lh1, ks1, v, z) => cW G h np nl (SZ u 8) fd1 lu tu T C F LT VV BB lt1 ph1 lh1 ks1 wd gr gs bl ie tw ++ ([(oa, .inl (G.2.2.1, 1, .inr (.inl (vp_updL ov 0 z))))] ++ rs)) := by
  refine MiW_of (lc := [(0, .ref (h 0)), (1, .int u), (2, .ref oa)]) (by decide +kernel) (Nat.le_of_ble_eq_true rfl) rfl ?_
  intro X cx hXR hXl hr htab
  subst hXl
  have hX := RmX.of hXR
  refine V_aload_n cx 1 rfl dL_readings_0 2 rfl ?_
  refine V_iconst (v := nI 0) cx 2 rfl dL_readings_1 (by decide) ?_
  refine V_aload_n cx 3 rfl dL_readings_2 0 rfl ?_
  refine V_iload_n cx 4 rfl dL_readings_3 1 rfl ?_
  refine KXL_58 (As := [.int u]) (rest := [.int (nI 0), .ref oa]) cx (kX4_readings (xl X) lo G ([(oa, .inl (G.2.2.1, 1, .inr (.inl ov)))] ++ rs) h np nl len fd lu tu T C F LT VV BB lt ph lh ks wd gr gs bl ie tw u x hst hok hck) hX (by omega) 0 rfl rfl rfl (Nat.le_of_ble_eq_true rfl) 7 1 6 rfl rfl rfl (by omega) (by omega) dL_readings_4 ?_ ?_
  · intro E ce q9 H1 locs1 ls he hP hD hS hl h1 h2 h3
    have he0 := he
    obtain ⟨hE, _⟩ := id he0
    subst hE
    have hcont : V X lo 4 G (Qi X lo G (fun (r : Int32) (uu : Option ((Nat) × (Nat → Int32) × (Nat → Int32) × (Nat → Int32) × (Nat → Int64) × Int32 × Int64)) => match uu with | none => ∃ E, (fun E => E = EIAE ∧ SZ u 8 = 0) E ∧ ((E = EIAE ∧ r = nI 1)) | some (fd1, lt1, ph1, lh1, ks1, v, z) => (∃ w, u = nI w ∧ w < 200000000 ∧ 0 < SZ u 8 ∧ v = nI (rdN (mEn x (dgt w (SZ u 8)) (SZ u 8)) (mEn x (dgt w (SZ u 8)) (SZ u 8)).length)) ∧ r = nI 0 ∧ z = v.toInt64) (fun (uu : Option ((Nat) × (Nat → Int32) × (Nat → Int32) × (Nat → Int32) × (Nat → Int64) × Int32 × Int64)) => match uu with | none => cW G h np nl len fd lu tu T C F LT VV BB lt ph lh ks wd gr gs bl ie tw ++ ([(oa, .inl (G.2.2.1, 1, .inr (.inl ov)))] ++ rs) | some (fd1, lt1, ph1, lh1, ks1, v, z) => cW G h np nl (SZ u 8) fd1 lu tu T C F LT VV BB lt1 ph1 lh1 ks1 wd gr gs bl ie tw ++ ([(oa, .inl (G.2.2.1, 1, .inr (.inl (vp_updL ov 0 z))))] ++ rs)) 1 6) 1 6 (cW G h np nl len fd lu tu T C F LT VV BB lt ph lh ks wd gr gs bl ie tw ++ ([(oa, .inl (G.2.2.1, 1, .inr (.inl ov)))] ++ rs)) [(0, .ref (h 0)), (1, .int u), (2, .ref oa)] [.ref q9] 12 := by
      refine V_astore_n (lc1 := [(3, .ref q9), (0, .ref (h 0)), (1, .int u), (2, .ref oa)]) cx 13 rfl dL_readings_12 (by decide) rfl ?_
      refine V_iconst (v := nI 1) cx 14 rfl dL_readings_13 (by decide) ?_
      exact V_ireturn cx hr none ⟨_, he0, ⟨rfl, rfl⟩⟩ rfl (by omega) (by omega) dL_readings_14
    exact vx_catch (own := RL) (name := EIAE) cx.2.2.2.1 [] ⟨0, 9, 12, 13⟩ [] htab (fun z hz => by cases hz) (by decide) (by decide) (cx.word kl_L_13) (cst_IAE cx) h1 h2 h3 (hcont H1 locs1 ls hP hD hS hl)
  · intro v uu hw
    obtain ⟨fd1, lt1, ph1, lh1, ks1⟩ := uu
    try dsimp only at hw
    refine V_i2l cx 8 rfl dL_readings_7 ?_
    refine V_lastN cx 0 rfl (by decide) (by decide) 21 rfl (cW G h np nl (SZ u 8) fd1 lu tu T C F LT VV BB lt1 ph1 lh1 ks1 wd gr gs bl ie tw ++ ([(oa, .inl (G.2.2.1, 1, .inr (.inl (vp_updL ov 0 v.toInt64))))] ++ rs)) rfl 9 rfl dL_readings_8 ?_
    refine V_goto cx 15 dL_readings_9 (by decide) ?_
    refine V_iconst (v := nI 0) cx 16 rfl dL_readings_15 (by decide) ?_
    exact V_ireturn cx hr (some (fd1, lt1, ph1, lh1, ks1, v, v.toInt64)) ⟨hw, rfl, rfl⟩ rfl (by omega) (by omega) dL_readings_16
set_option maxHeartbeats 4000000 in
set_option maxRecDepth 100000 in
theorem kL_learn (l : Launch) (lo : Nat) (G : vG) (rs : va_W) (h : Nat → Nat) (np : Nat) (nl : Nat) (len : Nat) (fd : Nat) (lu : Nat) (tu : Nat) (T : Nat → Int32) (C : Nat → Int32) (F : Nat → Int32) (LT : Nat → Int32) (VV : Nat → Int32) (BB : Nat → Int32) (lt : Nat → Int32) (ph : Nat → Int32) (lh : Nat → Int32) (ks : Nat → Int64) (wd : Nat → Int32) (gr : Nat → Int32) (gs : Nat → Int32) (bl : Nat → Int32) (ie : Nat → Int32) (tw : Nat → Int32) (oa : Nat) (ov : Nat → Int64) (u : Int32) (x : LX) (hst : l.stackTraces = false) (hok : lxOK x) (hck : cOK x np nl T C F LT VV BB) (hlu : lu ≤ 50) : Mi l yL_learn (.codeWith yL_learn method_17_code 4 (some .int) [(0, 16, 19, 13), (0, 16, 22, 15)]) 24 2 12 lo G [.ref (h 0), .int u, .ref oa] (cW G h np nl len fd lu tu T C F LT VV BB lt ph lh ks wd gr gs bl ie tw ++ ([(oa, .inl (G.2.2.1, 1, .inr (.inl ov)))] ++ rs)) (fun (r : Int32) (uu : Option ((Nat) × (Nat → Int32) × (Nat → Int32) × (Nat → Int32) × (Nat → Int32) × (Nat) × (Nat → Int32) × (Nat → Int32) × (Nat → Int32) × (Nat → Int64) × Int32 × Int64)) => match uu with | none => ∃ E, (fun E => (E = EIAE ∧ SZ u 8 = 0) ∨ (E = EISE ∧ 0 < SZ u 8 ∧ lu = 50)) E ∧ ((E = EIAE ∧ r = nI 1) ∨ (E = EISE ∧ r = nI 2)) | some (lu1, C1, gr1, gs1, wd1, fd1, lt1, ph1, lh1, ks1, v, z) => (cLearn x np u v lu C gr gs wd lu1 C1 gr1 gs1 wd1) ∧ r = nI 0 ∧ (v = 0 → z = lN 0) ∧ (¬ v = 0 → z = lN 1)) (fun (uu : Option ((Nat) × (Nat → Int32) × (Nat → Int32) × (Nat → Int32) × (Nat → Int32) × (Nat) × (Nat → Int32) × (Nat → Int32) × (Nat → Int32) × (Nat → Int64) × Int32 × Int64)) => match uu with | none => cW G h np nl len fd lu tu T C F LT VV BB lt ph lh ks wd gr gs bl ie tw ++ ([(oa, .inl (G.2.2.1, 1, .inr (.inl ov)))] ++ rs) | some (lu1, C1, gr1, gs1, wd1, fd1, lt1, ph1, lh1, ks1, v, z) => cW G h np nl (SZ u 8) fd1 lu1 tu T C1 F LT VV BB lt1 ph1 lh1 ks1 wd1 gr1 gs1 bl ie tw ++ ([(oa, .inl (G.2.2.1, 1, .inr (.inl (vp_updL ov 0 z))))] ++ rs)) := by
  refine MiW_of (lc := [(0, .ref (h 0)), (1, .int u), (2, .ref oa)]) (by decide +kernel) (Nat.le_of_ble_eq_true rfl) rfl ?_
  intro X cx hXR hXl hr htab
  subst hXl
  have hX := RmX.of hXR
  refine V_aload_n cx 1 rfl dL_learn_0 2 rfl ?_
  refine V_iconst (v := nI 0) cx 2 rfl dL_learn_1 (by decide) ?_
  refine V_aload_n cx 3 rfl dL_learn_2 0 rfl ?_
  refine V_iload_n cx 4 rfl dL_learn_3 1 rfl ?_
  refine KXL_61 (As := [.int u]) (rest := [.int (nI 0), .ref oa]) cx (kX4_learn (xl X) lo G ([(oa, .inl (G.2.2.1, 1, .inr (.inl ov)))] ++ rs) h np nl len fd lu tu T C F LT VV BB lt ph lh ks wd gr gs bl ie tw u x hst hok hck hlu) hX (by omega) 0 rfl rfl rfl (Nat.le_of_ble_eq_true rfl) 7 2 12 rfl rfl rfl (by omega) (by omega) dL_learn_4 ?_ ?_
  · intro E ce q9 H1 locs1 ls he hP hD hS hl h1 h2 h3
    rcases he with he0 | he0
    · skip
      obtain ⟨hE, _⟩ := id he0
      subst hE
      have hcont : V X lo 4 G (Qi X lo G (fun (r : Int32) (uu : Option ((Nat) × (Nat → Int32) × (Nat → Int32) × (Nat → Int32) × (Nat → Int32) × (Nat) × (Nat → Int32) × (Nat → Int32) × (Nat → Int32) × (Nat → Int64) × Int32 × Int64)) => match uu with | none => ∃ E, (fun E => (E = EIAE ∧ SZ u 8 = 0) ∨ (E = EISE ∧ 0 < SZ u 8 ∧ lu = 50)) E ∧ ((E = EIAE ∧ r = nI 1) ∨ (E = EISE ∧ r = nI 2)) | some (lu1, C1, gr1, gs1, wd1, fd1, lt1, ph1, lh1, ks1, v, z) => (cLearn x np u v lu C gr gs wd lu1 C1 gr1 gs1 wd1) ∧ r = nI 0 ∧ (v = 0 → z = lN 0) ∧ (¬ v = 0 → z = lN 1)) (fun (uu : Option ((Nat) × (Nat → Int32) × (Nat → Int32) × (Nat → Int32) × (Nat → Int32) × (Nat) × (Nat → Int32) × (Nat → Int32) × (Nat → Int32) × (Nat → Int64) × Int32 × Int64)) => match uu with | none => cW G h np nl len fd lu tu T C F LT VV BB lt ph lh ks wd gr gs bl ie tw ++ ([(oa, .inl (G.2.2.1, 1, .inr (.inl ov)))] ++ rs) | some (lu1, C1, gr1, gs1, wd1, fd1, lt1, ph1, lh1, ks1, v, z) => cW G h np nl (SZ u 8) fd1 lu1 tu T C1 F LT VV BB lt1 ph1 lh1 ks1 wd1 gr1 gs1 bl ie tw ++ ([(oa, .inl (G.2.2.1, 1, .inr (.inl (vp_updL ov 0 z))))] ++ rs)) 2 12) 2 12 (cW G h np nl len fd lu tu T C F LT VV BB lt ph lh ks wd gr gs bl ie tw ++ ([(oa, .inl (G.2.2.1, 1, .inr (.inl ov)))] ++ rs)) [(0, .ref (h 0)), (1, .int u), (2, .ref oa)] [.ref q9] 19 := by
        refine V_astore_n (lc1 := [(3, .ref q9), (0, .ref (h 0)), (1, .int u), (2, .ref oa)]) cx 20 rfl dL_learn_19 (by decide) rfl ?_
        refine V_iconst (v := nI 1) cx 21 rfl dL_learn_20 (by decide) ?_
        exact V_ireturn cx hr none ⟨_, Or.inl he0, Or.inl ⟨rfl, rfl⟩⟩ rfl (by omega) (by omega) dL_learn_21
      exact vx_catch (own := RL) (name := EIAE) cx.2.2.2.1 [] ⟨0, 16, 19, 13⟩ [⟨0, 16, 22, 15⟩] htab (fun z hz => by cases hz) (by decide) (by decide) (cx.word kl_L_13) (cst_IAE cx) h1 h2 h3 (hcont H1 locs1 ls hP hD hS hl)
    · skip
      obtain ⟨hE, _⟩ := id he0
      subst hE
      have hcont : V X lo 4 G (Qi X lo G (fun (r : Int32) (uu : Option ((Nat) × (Nat → Int32) × (Nat → Int32) × (Nat → Int32) × (Nat → Int32) × (Nat) × (Nat → Int32) × (Nat → Int32) × (Nat → Int32) × (Nat → Int64) × Int32 × Int64)) => match uu with | none => ∃ E, (fun E => (E = EIAE ∧ SZ u 8 = 0) ∨ (E = EISE ∧ 0 < SZ u 8 ∧ lu = 50)) E ∧ ((E = EIAE ∧ r = nI 1) ∨ (E = EISE ∧ r = nI 2)) | some (lu1, C1, gr1, gs1, wd1, fd1, lt1, ph1, lh1, ks1, v, z) => (cLearn x np u v lu C gr gs wd lu1 C1 gr1 gs1 wd1) ∧ r = nI 0 ∧ (v = 0 → z = lN 0) ∧ (¬ v = 0 → z = lN 1)) (fun (uu : Option ((Nat) × (Nat → Int32) × (Nat → Int32) × (Nat → Int32) × (Nat → Int32) × (Nat) × (Nat → Int32) × (Nat → Int32) × (Nat → Int32) × (Nat → Int64) × Int32 × Int64)) => match uu with | none => cW G h np nl len fd lu tu T C F LT VV BB lt ph lh ks wd gr gs bl ie tw ++ ([(oa, .inl (G.2.2.1, 1, .inr (.inl ov)))] ++ rs) | some (lu1, C1, gr1, gs1, wd1, fd1, lt1, ph1, lh1, ks1, v, z) => cW G h np nl (SZ u 8) fd1 lu1 tu T C1 F LT VV BB lt1 ph1 lh1 ks1 wd1 gr1 gs1 bl ie tw ++ ([(oa, .inl (G.2.2.1, 1, .inr (.inl (vp_updL ov 0 z))))] ++ rs)) 2 12) 2 12 (cW G h np nl len fd lu tu T C F LT VV BB lt ph lh ks wd gr gs bl ie tw ++ ([(oa, .inl (G.2.2.1, 1, .inr (.inl ov)))] ++ rs)) [(0, .ref (h 0)), (1, .int u), (2, .ref oa)] [.ref q9] 22 := by
        refine V_astore_n (lc1 := [(3, .ref q9), (0, .ref (h 0)), (1, .int u), (2, .ref oa)]) cx 23 rfl dL_learn_22 (by decide) rfl ?_
        refine V_iconst (v := nI 2) cx 24 rfl dL_learn_23 (by decide) ?_
        exact V_ireturn cx hr none ⟨_, Or.inr he0, Or.inr ⟨rfl, rfl⟩⟩ rfl (by omega) (by omega) dL_learn_24
      exact vx_catch (own := RL) (name := EISE) cx.2.2.2.1 [⟨0, 16, 19, 13⟩] ⟨0, 16, 22, 15⟩ [] htab (fun z hz => by rw [List.mem_singleton] at hz; subst hz; exact Or.inr ⟨by decide, EIAE, cx.word kl_L_13, cx.2.2.2.2.2.2.1.2.1.2.1⟩) (by decide) (by decide) (cx.word kl_L_15) (cst_ISE cx) h1 h2 h3 (hcont H1 locs1 ls hP hD hS hl)
  · intro v uu hw
    obtain ⟨lu1, C1, gr1, gs1, wd1, fd1, lt1, ph1, lh1, ks1⟩ := uu
    try dsimp only at hw
    refine V_if_eq cx 10 14 rfl dL_learn_7 (by decide) (fun c0 => ?_) (fun c0 => ?_)
    · skip
      refine V_lconst (v := lN 0) cx 15 rfl dL_learn_14 (by decide) ?_
      refine V_lastN cx 0 rfl (by decide) (by decide) 21 rfl (cW G h np nl (SZ u 8) fd1 lu1 tu T C1 F LT VV BB lt1 ph1 lh1 ks1 wd1 gr1 gs1 bl ie tw ++ ([(oa, .inl (G.2.2.1, 1, .inr (.inl (vp_updL ov 0 (lN 0)))))] ++ rs)) rfl 16 rfl dL_learn_15 ?_
      refine V_goto cx 25 dL_learn_16 (by decide) ?_
      refine V_iconst (v := nI 0) cx 26 rfl dL_learn_25 (by decide) ?_
      exact V_ireturn cx hr (some (lu1, C1, gr1, gs1, wd1, fd1, lt1, ph1, lh1, ks1, v, lN 0)) ⟨hw, rfl, ⟨fun _ => rfl, fun h0 => absurd c0 h0⟩⟩ rfl (by omega) (by omega) dL_learn_26
    · skip
      refine V_lconst (v := lN 1) cx 11 rfl dL_learn_10 (by decide) ?_
      refine V_goto cx 15 dL_learn_11 (by decide) ?_
      refine V_lastN cx 0 rfl (by decide) (by decide) 21 rfl (cW G h np nl (SZ u 8) fd1 lu1 tu T C1 F LT VV BB lt1 ph1 lh1 ks1 wd1 gr1 gs1 bl ie tw ++ ([(oa, .inl (G.2.2.1, 1, .inr (.inl (vp_updL ov 0 (lN 1)))))] ++ rs)) rfl 16 rfl dL_learn_15 ?_
      refine V_goto cx 25 dL_learn_16 (by decide) ?_
      refine V_iconst (v := nI 0) cx 26 rfl dL_learn_25 (by decide) ?_
      exact V_ireturn cx hr (some (lu1, C1, gr1, gs1, wd1, fd1, lt1, ph1, lh1, ks1, v, lN 1)) ⟨hw, rfl, ⟨fun h0 => absurd h0 c0, fun _ => rfl⟩⟩ rfl (by omega) (by omega) dL_learn_26
set_option maxHeartbeats 4000000 in
set_option maxRecDepth 100000 in
theorem kL_forget (l : Launch) (lo : Nat) (G : vG) (rs : va_W) (h : Nat → Nat) (np : Nat) (nl : Nat) (len : Nat) (fd : Nat) (lu : Nat) (tu : Nat) (T : Nat → Int32) (C : Nat → Int32) (F : Nat → Int32) (LT : Nat → Int32) (VV : Nat → Int32) (BB : Nat → Int32) (lt : Nat → Int32) (ph : Nat → Int32) (lh : Nat → Int32) (ks : Nat → Int64) (wd : Nat → Int32) (gr : Nat → Int32) (gs : Nat → Int32) (bl : Nat → Int32) (ie : Nat → Int32) (tw : Nat → Int32) (oa : Nat) (ov : Nat → Int64) (n : Nat) (gv : Nat → Nat) (hst : l.stackTraces = false) (hlu : lu ≤ 50) (hg : 0 < lu → gs (lu - 1) = nI n ∧ n ≤ 8) (hgr : 0 < lu → ∀ i, i < n → gr ((lu - 1) * 8 + i) = nI (gv i) ∧ gv i < 16) : Mi l yL_forget (.codeWith yL_forget method_18_code 3 (some .int) [(0, 8, 11, 15)]) 10 1 6 lo G [.ref (h 0), .ref oa] (cW G h np nl len fd lu tu T C F LT VV BB lt ph lh ks wd gr gs bl ie tw ++ ([(oa, .inl (G.2.2.1, 1, .inr (.inl ov)))] ++ rs)) (fun (r : Int32) (uu : Option (Int32 × Int64)) => match uu with | none => ∃ E, (fun E => E = EISE ∧ lu = 0) E ∧ ((E = EISE ∧ r = nI 1)) | some (v, z) => (0 < lu ∧ v = wd (lu - 1)) ∧ r = nI 0 ∧ z = v.toInt64) (fun (uu : Option (Int32 × Int64)) => match uu with | none => cW G h np nl len fd lu tu T C F LT VV BB lt ph lh ks wd gr gs bl ie tw ++ ([(oa, .inl (G.2.2.1, 1, .inr (.inl ov)))] ++ rs) | some (v, z) => cW G h np nl len fd (lu - 1) tu T (tkb C gv n) F LT VV BB lt ph lh ks wd gr gs bl ie tw ++ ([(oa, .inl (G.2.2.1, 1, .inr (.inl (vp_updL ov 0 z))))] ++ rs)) := by
  refine MiW_of (lc := [(0, .ref (h 0)), (1, .ref oa)]) (by decide +kernel) (Nat.le_of_ble_eq_true rfl) rfl ?_
  intro X cx hXR hXl hr htab
  subst hXl
  have hX := RmX.of hXR
  refine V_aload_n cx 1 rfl dL_forget_0 1 rfl ?_
  refine V_iconst (v := nI 0) cx 2 rfl dL_forget_1 (by decide) ?_
  refine V_aload_n cx 3 rfl dL_forget_2 0 rfl ?_
  refine KXL_65 (As := []) (rest := [.int (nI 0), .ref oa]) cx (kX4_forget (xl X) lo G ([(oa, .inl (G.2.2.1, 1, .inr (.inl ov)))] ++ rs) h np nl len fd lu tu T C F LT VV BB lt ph lh ks wd gr gs bl ie tw n gv hst hlu hg hgr) hX (by omega) 0 rfl rfl rfl (Nat.le_of_ble_eq_true rfl) 6 1 6 rfl rfl rfl (by omega) (by omega) dL_forget_3 ?_ ?_
  · intro E ce q9 H1 locs1 ls he hP hD hS hl h1 h2 h3
    have he0 := he
    obtain ⟨hE, _⟩ := id he0
    subst hE
    have hcont : V X lo 3 G (Qi X lo G (fun (r : Int32) (uu : Option (Int32 × Int64)) => match uu with | none => ∃ E, (fun E => E = EISE ∧ lu = 0) E ∧ ((E = EISE ∧ r = nI 1)) | some (v, z) => (0 < lu ∧ v = wd (lu - 1)) ∧ r = nI 0 ∧ z = v.toInt64) (fun (uu : Option (Int32 × Int64)) => match uu with | none => cW G h np nl len fd lu tu T C F LT VV BB lt ph lh ks wd gr gs bl ie tw ++ ([(oa, .inl (G.2.2.1, 1, .inr (.inl ov)))] ++ rs) | some (v, z) => cW G h np nl len fd (lu - 1) tu T (tkb C gv n) F LT VV BB lt ph lh ks wd gr gs bl ie tw ++ ([(oa, .inl (G.2.2.1, 1, .inr (.inl (vp_updL ov 0 z))))] ++ rs)) 1 6) 1 6 (cW G h np nl len fd lu tu T C F LT VV BB lt ph lh ks wd gr gs bl ie tw ++ ([(oa, .inl (G.2.2.1, 1, .inr (.inl ov)))] ++ rs)) [(0, .ref (h 0)), (1, .ref oa)] [.ref q9] 11 := by
      refine V_astore_n (lc1 := [(2, .ref q9), (0, .ref (h 0)), (1, .ref oa)]) cx 12 rfl dL_forget_11 (by decide) rfl ?_
      refine V_iconst (v := nI 1) cx 13 rfl dL_forget_12 (by decide) ?_
      exact V_ireturn cx hr none ⟨_, he0, ⟨rfl, rfl⟩⟩ rfl (by omega) (by omega) dL_forget_13
    exact vx_catch (own := RL) (name := EISE) cx.2.2.2.1 [] ⟨0, 8, 11, 15⟩ [] htab (fun z hz => by cases hz) (by decide) (by decide) (cx.word kl_L_15) (cst_ISE cx) h1 h2 h3 (hcont H1 locs1 ls hP hD hS hl)
  · intro v uu hw
    try dsimp only at hw
    refine V_i2l cx 7 rfl dL_forget_6 ?_
    refine V_lastN cx 0 rfl (by decide) (by decide) 21 rfl (cW G h np nl len fd (lu - 1) tu T (tkb C gv n) F LT VV BB lt ph lh ks wd gr gs bl ie tw ++ ([(oa, .inl (G.2.2.1, 1, .inr (.inl (vp_updL ov 0 v.toInt64))))] ++ rs)) rfl 8 rfl dL_forget_7 ?_
    refine V_goto cx 14 dL_forget_8 (by decide) ?_
    refine V_iconst (v := nI 0) cx 15 rfl dL_forget_14 (by decide) ?_
    exact V_ireturn cx hr (some (v, v.toInt64)) ⟨hw, rfl, rfl⟩ rfl (by omega) (by omega) dL_forget_15
