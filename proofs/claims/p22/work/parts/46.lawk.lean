/-! the law's wrappers -/
theorem V.rot {X : vX} {lo nL : Nat} {G : vG} {Q : State → Prop} {k n : Nat} {a b : va_W} {lc : List (Nat × Value)} {st : List Value} {pc : Nat} (kk : V X lo nL G Q k n (b ++ a) lc st pc) : V X lo nL G Q k n (a ++ b) lc st pc := by
  have h := V.swap (a := a) (b := b) (c := []) (X := X) (lo := lo) (nL := nL) (G := G) (Q := Q) (k := k) (n := n) (lc := lc) (st := st) (pc := pc) (by rw [List.append_nil]; exact kk)
  rw [List.append_nil] at h
  exact h
theorem V.toM {X : vX} {lo nL : Nat} {G : vG} {Q : State → Prop} {k n : Nat} {a o m : va_W} {lc : List (Nat × Value)} {st : List Value} {pc : Nat} (kk : V X lo nL G Q k n (m ++ (a ++ o)) lc st pc) : V X lo nL G Q k n (a ++ (o ++ m)) lc st pc := by
  rw [← List.append_assoc]
  exact V.rot kk
theorem V.toC {X : vX} {lo nL : Nat} {G : vG} {Q : State → Prop} {k n : Nat} {a o m : va_W} {lc : List (Nat × Value)} {st : List Value} {pc : Nat} (kk : V X lo nL G Q k n (a ++ (o ++ m)) lc st pc) : V X lo nL G Q k n (m ++ (a ++ o)) lc st pc := by
  refine V.rot ?_
  rw [List.append_assoc]
  exact kk
theorem Met_ofWH {l : Launch} {y : MethodName} {ws ws' : List Cond} {rm : Room} {Pc : Array Value → State → Prop} {Qc : Array Value → State → Outcome → State → Prop} {mc ms : Nat} {free : Addr → Prop} {cc : ByteArray} {maxL : Nat} {ret : Option FieldType} {hh : List (Nat × Nat × Nat × Nat)}
    (hy : plainName y.cls = true) (hw : ws = Cond.codeWith y cc maxL ret hh :: ws')
    (body : ∀ p e s m args below meth c s₁, BodyLoose p l y (headSpec ws rm) cc maxL ret e s m args below meth c s₁ → c.maxLocals = maxL → Pc args s →
      W p l e (headSpec ws rm).room s m args below meth c s.heap [] 0 0 (MQ below Qc args s mc ms free) (entryFrame m args maxL)) : Met l y ws rm Pc Qc mc ms free := by
  refine MetFree.of_bodyS (code := cc) (maxLocals := maxL) (ret := ret) hy ?_ ?_
  · intro args s m h hn
    obtain ⟨m9, meth, c, hn9, h1, h2, h3, h4, -, h5, h6, -⟩ := Cond.codeWith_spec (atoms_spec (ws := ws) h _ (by rw [hw]; exact List.mem_cons_self))
    cases hn.symm.trans hn9
    exact ⟨meth, c, h1, h2, h3, h4, h5, h6⟩
  · intro p e s m args below meth c s₁ B hml hP _
    have hh0 : s₁.heap = s.heap := by rw [B.state]; rfl
    obtain ⟨t, a1, o, b1, b2, b3⟩ := body p e s m args below meth c s₁ B hml hP s₁ hh0 (Stand.of_body B)
    exact ⟨t, o, a1, b1, b2, b3⟩
theorem MiW_of {l : Launch} {y : MethodName} {cc : ByteArray} {maxL d mc ms lo : Nat} {ret : Option FieldType} {hh : List (Nat × Nat × Nat × Nat)} {G : vG} {av : List Value} {wi : va_W} {S : Type} {post : Int32 → S → Prop} {wo : S → va_W} {lc : List (Nat × Value)} (hy : plainName y.cls = true) (hlen : (lg_sl av).length ≤ maxL) (hav : lv_args 0 av = lc)
    (body : ∀ X : vX, Cx X lo maxL G cc y.cls → xR X = rmD d mc ms → xl X = l → (xh X).sig.returnType = ret → (xc X).exceptionTable.toList = tableOf hh → V X lo maxL G (Qi X lo G post wo mc ms) 0 0 wi lc [] 0) : Mi l y (.codeWith y cc maxL ret hh) d mc ms lo G av wi post wo := by
  refine Met_ofWH (cc := cc) (maxL := maxL) (ret := ret) (hh := hh) hy rfl ?_
  intro p e s m args below meth c s₁ B hml hv
  obtain ⟨rfl, hlo, hP, hD, hK, hG⟩ := hv
  rw [lg_entry_eq]
  have hts := atoms_spec (ws := Cond.codeWith y cc maxL ret hh :: WA) B.pre
  exact body (p, l, e, rmD d mc ms, s, m, _, below, meth, c) ⟨B.exec, B.bytes, hml, findClass_of_methodNamed B.named, fun w hw => hts w (List.mem_cons_of_mem _ hw), hK, hG, hlo, B.notSynchronized⟩ rfl rfl B.returns (vx_table (x := y) B (hts _ List.mem_cons_self)) s.heap [] _ hP hD va_S.rf (hav ▸ lv_entry av hlen)
section LW
variable {X : vX} {lo nL : Nat} {G : vG} {Q : State → Prop} {k n : Nat} {ws : va_W} {lc : List (Nat × Value)} {st : List Value} {pc : Nat} {cc : ByteArray} {own : String}
theorem V_runSW (C : Cx X lo nL G cc own) {y : MethodName} {bytes : ByteArray} {maxL d mc ms index nA : Nat} {ret : Option FieldType} {hh : List (Nat × Nat × Nat × Nat)} {As rest : List Value} {Qc : Array Value → State → Outcome → State → Prop} (hM : Met (xl X) y (Cond.codeWith y bytes maxL ret hh :: WA) (rmD d mc ms) (va_Pc As (BI lo G ws)) Qc mc ms (Lo lo)) (hw : Cond.methodLink own index y ∈ WA ∧ Cond.static y ∈ WA ∧ Cond.initialized y.cls ∈ WA ∧ Cond.codeWith y bytes maxL ret hh ∈ WA) (hd : y.cls ≠ "java/lang/invoke/MethodHandle" ∧ y.cls ≠ "java/lang/invoke/VarHandle" ∧ (parseMethodDescriptor y.desc).map (fun d => d.parameters.length) = some nA) (hR : (rmD d mc ms).frames + 1 ≤ (xR X).frames ∧ 8 + (maxL + 11) + (rmD d mc ms).locals ≤ (xR X).locals) (hn : As.length = nA) (hst : st = As.reverse ++ rest) (hrest : (rest.map fun v => v.category).sum ≤ 8) (hf : k + mc ≤ (xR X).cells ∧ n + ms ≤ (xR X).slots) (d : decode cc pc = .ok (.invokestatic index, 3)) : VRun X lo nL G k n mc ms ws lc st rest pc (Qc As.toArray) := fun H locs ls hP hD hS hl =>
  vx_runSW (As := As) (rest := rest) ⟨C.1, C.2.1, C.2.2.1, C.2.2.2.1, C.2.2.2.2.1⟩ hM (vx_cwSW nA C.2.2.2.2.1 (good_S hw.1 hw.2.1 hw.2.2.1 hw.2.2.2) rfl rfl rfl hd hR) ⟨bi_blind _ lo G ws, fun U hU hW => ⟨rfl, C.bi hP hD hS U hU hW⟩⟩ rfl hn hl.1 hst (lg_room hrest) d hf
theorem cst_IAE (C : Cx X lo nL G cc own) : (Cond.castable EIAE EIAE).before (xa X) (xs X) = true := va_Nw.use rfl (C.2.2.2.2.2.2.1.1 _ (by decide +kernel))
theorem cst_ISE (C : Cx X lo nL G cc own) : (Cond.castable EISE EISE).before (xa X) (xs X) = true := va_Nw.use rfl (C.2.2.2.2.2.2.1.1 _ (by decide +kernel))
theorem cst_IOB (C : Cx X lo nL G cc own) : (Cond.castable EIOB EIOB).before (xa X) (xs X) = true := va_Nw.use rfl (C.2.2.2.2.2.2.1.1 _ (by decide +kernel))
end LW
