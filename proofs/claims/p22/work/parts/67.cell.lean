/-! the script, as the law's own method reads it -/
def SXp (lo b L : Nat) (sc : Nat → Int32) (U : State) : Prop := va_X b L sc U U.heap ∧ b < U.heap.size ∧ ¬ Lo lo b ∧ L ≤ 260
theorem bx_blind (av : List Value) (lo : Nat) (G : vG) (ws : va_W) (b L : Nat) (sc : Nat → Int32) : FrameBlind (va_Pc av (fun U => BI lo G ws U ∧ SXp lo b L sc U)) := fun a U g mk q => by
  obtain ⟨q0, q1, q2⟩ := q
  have h := bi_blind av lo G ws a U g mk ⟨q0, q1⟩
  exact ⟨h.1, h.2, va_X.moved (u := U) (U := U.calling g mk a) (Vm.Alike.refl U.vm) q2.1, q2.2⟩
section CLR
variable {X : vX} {lo nL : Nat} {G : vG} {Q : State → Prop} {k n : Nat} {ws : va_W} {lc : List (Nat × Value)} {st : List Value} {pc : Nat} {cc : ByteArray} {own : String}
theorem V_sldC (C : Cx X lo nL G cc own) {b L : Nat} {sc : Nat → Int32} (hX : va_X b L sc (xs X) (xs X).heap ∧ b < (xs X).heap.size ∧ ¬ Lo lo b) (j : Nat) (hj : j < L) (hL : L ≤ 260) (p1 : Nat) (hp : pc + 1 = p1) (d : decode cc pc = .ok (.iaload, 1)) (kk : ∀ r : Int32, V X lo nL G Q k n ws lc (.int r :: st) p1) : V X lo nL G Q k n ws lc (.int (nI j) :: .ref b :: st) pc := by
  subst hp
  exact fun H locs ls hP hD hS hl => va_sld C.1 C.2.1 hX.1 hX.2.1 hX.2.2 hS (vp_in_nI hj (by omega)) d (kk _ H locs ls hP hD hS hl)
theorem V_slenC (C : Cx X lo nL G cc own) {b L : Nat} {sc : Nat → Int32} (hX : va_X b L sc (xs X) (xs X).heap ∧ b < (xs X).heap.size ∧ ¬ Lo lo b) (p1 : Nat) (hp : pc + 1 = p1) (d : decode cc pc = .ok (.arraylength, 1)) (kk : V X lo nL G Q k n ws lc (.int (nI L) :: st) p1) : V X lo nL G Q k n ws lc (.ref b :: st) pc := by
  subst hp
  exact fun H locs ls hP hD hS hl => va_slen C.1 C.2.1 hX.1 hX.2.1 hX.2.2 hS d (kk H locs ls hP hD hS hl)
end CLR
set_option maxHeartbeats 4000000 in
set_option maxRecDepth 100000 in
theorem kL_cell (l : Launch) (lo : Nat) (G : vG) (rs : va_W) (b L : Nat) (sc : Nat → Int32) (k : Nat) (hk : k < 1000) : Met l yL_cell (Cond.code yL_cell cL_cell 2 (some .int) :: WA) (rmD 1 0 0) (va_Pc [.ref b, .int (nI k)] (fun U => BI lo G rs U ∧ SXp lo b L sc U)) (va_Qi (fun (_ : Int32) (_ : Unit) => True) (fun _ t => BO lo G rs t) (Lo lo)) 0 0 (Lo lo) := by
  refine Met.ofW (cc := cL_cell) (maxL := 2) (ret := some .int) (by decide +kernel) rfl ?_
  intro p e s m args below meth c s₁ B hml hv
  obtain ⟨rfl, ⟨hlo, hP, hD, hK, hG⟩, hsx1, hsx2, hsx3, hL⟩ := hv
  rw [lg_entry_eq]
  have hts := atoms_spec (ws := Cond.code yL_cell cL_cell 2 (some .int) :: WA) B.pre
  have body : ∀ X : vX, Cx X lo 2 G cL_cell RL → (xh X).sig.returnType = some .int → (va_X b L sc (xs X) (xs X).heap ∧ b < (xs X).heap.size ∧ ¬ Lo lo b) → V X lo 2 G (Qi X lo G (fun (_ : Int32) (_ : Unit) => True) (fun _ => rs) 0 0) 0 0 rs [(0, .ref b), (1, .int (nI k))] [] 0 := by
    intro X cx hr hX
    refine V_iload_n cx 1 rfl dL_cell_0 1 rfl ?_
    refine V_aload_n cx 2 rfl dL_cell_1 0 rfl ?_
    refine V_slenC cx hX 3 rfl dL_cell_2 ?_
    refine V_icmp_ge cx 6 12 rfl dL_cell_3 (by decide) (fun c_3 => ?_) (fun c_3 => ?_)
    · refine V_ldc (v := nI 1171770339) cx 14 rfl dL_cell_12 ci_L_7 ?_
      refine V_iload_n cx 15 rfl dL_cell_14 1 rfl ?_
      refine V_bipush (v := nI 6) cx 17 rfl dL_cell_15 (by decide) ?_
      refine V_iadd cx 18 rfl dL_cell_17 ?_
      refine V_imul cx 19 rfl dL_cell_18 ?_
      exact V_ireturn cx hr () trivial rfl (Nat.le_refl _) (Nat.le_refl _) dL_cell_19
    · have h1 : k < L := N_ge_f (by omega) (by omega) c_3
      refine V_aload_n cx 7 rfl dL_cell_6 0 rfl ?_
      refine V_iload_n cx 8 rfl dL_cell_7 1 rfl ?_
      refine V_sldC cx hX k h1 hL 9 rfl dL_cell_8 (fun r => ?_)
      refine V_goto cx 19 dL_cell_9 (by decide) ?_
      exact V_ireturn cx hr () trivial rfl (Nat.le_refl _) (Nat.le_refl _) dL_cell_19
  exact body (p, l, e, rmD 1 0 0, s, m, _, below, meth, c) ⟨B.exec, B.bytes, hml, findClass_of_methodNamed B.named, fun w hw => hts w (List.mem_cons_of_mem _ hw), hK, hG, hlo, B.notSynchronized⟩ B.returns ⟨hsx1, hsx2, hsx3⟩ s.heap [] _ hP hD va_S.rf (lv_entry [.ref b, .int (nI k)] (Nat.le_of_ble_eq_true rfl))
/-- the law's own context: its code, its room, the script -/
def LCx (X : vX) (lo : Nat) (G : vG) (b L : Nat) (sc : Nat → Int32) : Prop := Cx X lo 17 G cL_law RL ∧ RmX X 100 617941 7247644 ∧ (xl X).stackTraces = false ∧ va_X b L sc (xs X) (xs X).heap ∧ b < (xs X).heap.size ∧ ¬ Lo lo b ∧ L ≤ 260
theorem V_cell {X : vX} {lo : Nat} {G : vG} {Q : State → Prop} {k n : Nat} {ws : va_W} {lc : List (Nat × Value)} {rest : List Value} {pc b L : Nat} {sc : Nat → Int32} (LC : LCx X lo G b L sc) (k0 : Nat) (hk0 : k0 < 1000) (hrest : (rest.map fun v => v.category).sum ≤ 8) (hc : k ≤ 617941) (hs : n ≤ 7247644) (p1 : Nat) (hp : pc + 3 = p1) (d : decode cL_law pc = .ok (.invokestatic 176, 3)) (kk : ∀ r : Int32, V X lo 17 G Q k n ws lc (.int r :: rest) p1) : V X lo 17 G Q k n ws lc (.int (nI k0) :: .ref b :: rest) pc := by
  obtain ⟨C, hX, hst, hsc, hbl, hbA, hL⟩ := LC
  have hR : (rmD 1 0 0).frames + 1 ≤ (xR X).frames ∧ 8 + (2 + 11) + (rmD 1 0 0).locals ≤ (xR X).locals := ⟨by show 1 + 1 ≤ _; have := hX.1; omega, by show 8 + (2 + 11) + 40 * 1 ≤ _; have := hX.2.1; omega⟩
  have hf : k + 0 ≤ (xR X).cells ∧ n + 0 ≤ (xR X).slots := ⟨by have := hX.2.2.1; omega, by have := hX.2.2.2; omega⟩
  have hrun : VRun X lo 17 G k n 0 0 ws lc (.int (nI k0) :: .ref b :: rest) rest pc (va_Qi (fun (_ : Int32) (_ : Unit) => True) (fun _ t => BO lo G ws t) (Lo lo) #[.ref b, .int (nI k0)]) := fun H locs ls hP hD hS hl =>
    va_runS (As := [.ref b, .int (nI k0)]) (rest := rest) ⟨C.1, C.2.1, C.2.2.1, C.2.2.2.1, C.2.2.2.2.1⟩ (kL_cell (xl X) lo G ws b L sc k0 hk0) (va_cwS 2 C.2.2.2.2.1 (good_S ml_L_176 sm_L_cell ii_L co_L_cell) rfl rfl rfl ⟨by decide, by decide, by decide +kernel⟩ hR) ⟨bx_blind _ lo G ws b L sc, fun U hU hW => ⟨rfl, C.bi hP hD hS U hU hW, by
      subst hU
      refine ⟨va_X.kept (va_X.moved hW.alike hsc) (hS.2.1 b hbl hbA), Nat.lt_of_lt_of_le hbl hS.1, hbA, hL⟩⟩⟩ rfl rfl hl.1 rfl (lg_room hrest) d hf
  exact V_calli hrun p1 k n hp rfl rfl (fun r _ _ => kk r)
