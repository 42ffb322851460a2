/-! THE CLAIM OUT OF ONE WALK OF THE LAW'S BODY. Your part is whole_start (and what it stands on); all else here is the same for every law, but numbers. -/
def R_law : String := "PartSplitterLaw"
def lw_P (b : Addr) (xs : List Int32) (args : Array Value) (s : State) : Prop := args = #[.ref b] ∧ s.IntsAt b xs ∧ xs.length ≤ 2048 ∧ (Jvm.Cond.and given_1 narrow_1).before args s = true
def lw_Q (_ : Array Value) (s : State) (o : Outcome) (t : State) : Prop := o = .returned (some (.int 1)) ∧ Framed s o t [] 601024 7293034
def lw_Z (below : List Frame) (a : Array Value) (s : State) : State → Prop := fun t => ∃ o, t.status = .running ∧ Ended t below o ∧ lw_Q a s o t
/-- the law's own end, with 1 on the stack, nothing written that was there before, its room as the claim has it -/
theorem lw_ret {p : Program} {l : Launch} {e : Env} {s : State} {m : MethodId} {below : List Frame} {meth : Method} {c : Code} {b : Nat} (hx : p.tables.exec = Jvm.exec) (hb : c.code = code) (hr : meth.sig.returnType = ret) (hlocks : meth.locks = false) {pc : Nat} {H : Heap} {ls : Array Slot} (hdg : decode code pc = .ok (.ireturn, 1)) : W p l e room_1 s m #[Value.ref b] below meth c H [] 601024 7293034 (lw_Z below #[Value.ref b] s) (F0 m pc ls [.int 1]) := by
  intro T hT X
  obtain ⟨fs, hret, hrun, hended, hW, hframe⟩ := X.leave (v := some (.int 1)) (hlocks := hlocks) (fun h => by rw [hr] at h; cases h)
  have hmeth' : T.vm.method? m = some meth := X.method'
  refine ⟨T.setFrames fs, ?_, .returned (some (.int 1)), hrun, hended, rfl, ⟨_, rfl⟩, hW, hframe⟩
  jvm_step X.here [X.here.top, hx, hb, hdg, hmeth', hr, ret, narrow_b1]
  (try refine ⟨rfl, ?_⟩); (try refine ⟨rfl, ?_⟩)
  first | (intro acts; rw [hret _ acts rfl rfl rfl]) | rw [hret _ _ rfl rfl rfl]
  exact Steps.refl _
/-- what holds at the law's entry: the machine, the code, the tables' words (any of lw_tbl by 'hts w (by decide +kernel)'), the script of L ints xs at the cell b, what the Statement gives of the start (any of its parts by flat_of_before) -/
def lw_At (p : Program) (s : State) (m : MethodId) (meth : Method) (c : Code) (b L : Nat) (xs : Nat → Int32) : Prop :=
  p.tables.exec = Jvm.exec ∧ c.code = code ∧ meth.sig.returnType = ret ∧ c.maxLocals = 7 ∧ s.vm.findClass R_law = some m.cls ∧ (∀ w ∈ lw_tbl, w.before #[Value.ref b] s = true) ∧ va_X b L xs s s.heap ∧ b < s.heap.size ∧ meth.locks = false ∧ (Jvm.Cond.and given_1 narrow_1).before #[Value.ref b] s = true
/-! the start -/
theorem lw_eqT {args : Array Value} {s : State} {t : Term} {z : Int32} (h : (Cond.eq t (.int z)).before args s = true) : t.eval args s none [] s = some (.int z) := by
  cases hv : t.eval args s none [] s with
  | none => simp [Cond.before, Cond.holds, Cond.value, hv] at h
  | some w =>
    have hz : (Term.int z).eval args s none [] s = some (.int z) := rfl
    simp only [Cond.before, Cond.holds, Cond.value, hv, hz] at h
    cases w <;> simp_all
theorem lw_arr {args : Array Value} {s : State} {ty : FieldType} (h : (Cond.arrayClass ty).before args s = true) : ∃ c, ArrOfT s c ty ∧ s.vm.findClass ("[" ++ ty.toString) = some c := by
  obtain ⟨c, k, comp, h1, h2, h3⟩ := Cond.arrayClass_spec h
  exact ⟨c, fun n z => ⟨(fun k h => by cases h), k, h2, comp, h3⟩, h1⟩
theorem lw_str {args : Array Value} {s : State} {k : Nat} {tx : String} (h1 : (Cond.stringRef "PartSplitter" k tx).before args s = true) (h2 : (Cond.exactly (.string "PartSplitter" k) "java/lang/String").before args s = true) : ∃ sa : Nat, vk_R "PartSplitter" k tx sa s := by
  obtain ⟨a, c, cell, kk, ha, -⟩ := Cond.exactly_spec h2
  exact ⟨a, vk_R.of h1 ha⟩
theorem wsN_in : ∀ w ∈ wsN, w ∈ lw_tbl := by
  have h : wsN = [94, 132, 129, 160, 96, 85, 98, 88, 91, 83, 81, 82, 89, 92, 54, 60, 520, 432, 327, 227, 297, 346, 229, 231, 233].filterMap (fun i => lw_tbl[i]?) := by decide +kernel
  intro w hw
  rw [h] at hw
  obtain ⟨i, -, hi⟩ := List.mem_filterMap.mp hw
  exact List.mem_of_getElem? hi
theorem wsN_ot : ∀ w ∈ wsN, w.onTables = true := by decide +kernel
theorem str_in : ∀ w ∈ strsN.map (fun q => Cond.stringRef "PartSplitter" q.1 q.2), w ∈ lw_tbl := by
  have h : strsN.map (fun q => Cond.stringRef "PartSplitter" q.1 q.2) = [505, 545, 564, 266, 353, 474, 293, 294, 304, 318, 360, 368, 373, 392].filterMap (fun i => lw_tbl[i]?) := by decide +kernel
  intro w hw
  rw [h] at hw
  obtain ⟨i, -, hi⟩ := List.mem_filterMap.mp hw
  exact List.mem_of_getElem? hi
theorem str_ex : ∀ w ∈ strsN.map (fun q => Cond.exactly (.string "PartSplitter" q.1) "java/lang/String"), w ∈ (flatC (Jvm.Cond.and given_1 narrow_1)) := by
  have h : strsN.map (fun q => Cond.exactly (.string "PartSplitter" q.1) "java/lang/String") = [368, 399, 435, 42, 192, 342, 72, 99, 125, 150, 213, 243, 271, 317].filterMap (fun i => (flatC (Jvm.Cond.and given_1 narrow_1))[i]?) := by decide +kernel
  intro w hw
  rw [h] at hw
  obtain ⟨i, -, hi⟩ := List.mem_filterMap.mp hw
  exact List.mem_of_getElem? hi
theorem gx_trees {args : Array Value} {s : State} (hts : ∀ w ∈ lw_tbl, w.before args s = true) (hs : ∀ w ∈ (flatC (Jvm.Cond.and given_1 narrow_1)), w.before args s = true) : ∃ t : Nat, va_Z "PartSplitter" "TREES" "[I" (.ref t) (Lo s.heap.size) s s.heap ∧ va_T .int t 9 trees9 (Lo s.heap.size) s s.heap := by
  have hA : ∀ a : Nat, a < s.heap.size → ¬ Lo s.heap.size a := fun a h => Nat.not_le.mpr h
  obtain ⟨t, h1, h2⟩ := va_Tof (args := args) (s := s) (tm := .static "PartSplitter" "TREES" "[I") (ty := .int) (N := 9) (f := trees9) (A := Lo s.heap.size) (by decide) (hs _ (List.mem_of_getElem? (i := 7) (by decide +kernel))) (lw_eqT (z := 9) (hs _ (List.mem_of_getElem? (i := 8) (by decide +kernel)))) (fun j hj => by
    rcases (by omega : j = 0 ∨ j = 1 ∨ j = 2 ∨ j = 3 ∨ j = 4 ∨ j = 5 ∨ j = 6 ∨ j = 7 ∨ j = 8) with rfl | rfl | rfl | rfl | rfl | rfl | rfl | rfl | rfl
    · exact lw_eqT (z := 0) (hs _ (List.mem_of_getElem? (i := 9) (by decide +kernel)))
    · exact lw_eqT (z := 1) (hs _ (List.mem_of_getElem? (i := 10) (by decide +kernel)))
    · exact lw_eqT (z := 1) (hs _ (List.mem_of_getElem? (i := 11) (by decide +kernel)))
    · exact lw_eqT (z := 2) (hs _ (List.mem_of_getElem? (i := 12) (by decide +kernel)))
    · exact lw_eqT (z := 5) (hs _ (List.mem_of_getElem? (i := 13) (by decide +kernel)))
    · exact lw_eqT (z := 14) (hs _ (List.mem_of_getElem? (i := 14) (by decide +kernel)))
    · exact lw_eqT (z := 42) (hs _ (List.mem_of_getElem? (i := 15) (by decide +kernel)))
    · exact lw_eqT (z := 132) (hs _ (List.mem_of_getElem? (i := 16) (by decide +kernel)))
    · exact lw_eqT (z := 429) (hs _ (List.mem_of_getElem? (i := 17) (by decide +kernel)))) hA
  exact ⟨t, va_Zof (hts _ (List.mem_of_getElem? (i := 537) (by decide +kernel))) (hts _ (List.mem_of_getElem? (i := 32) (by decide +kernel))) h1 hA, h2⟩
theorem gx_start {args : Array Value} {s : State} (hts : ∀ w ∈ lw_tbl, w.before args s = true) (hgv : (Jvm.Cond.and given_1 narrow_1).before args s = true) : GX s.heap.size s s.heap := by
  have hs := flat_of_before _ hgv
  have hA : ∀ a : Nat, a < s.heap.size → ¬ Lo s.heap.size a := fun a h => Nat.not_le.mpr h
  refine ⟨fun w hw => va_Nw.of (wsN_ot w hw) (hts w (wsN_in w hw)), ⟨fun q hq => lw_str (hts _ (str_in _ (List.mem_map_of_mem hq))) (hs _ (str_ex _ (List.mem_map_of_mem hq))), ?_, ?_⟩, ?_, ?_, ?_⟩
  · exact va_Nc.of (hs _ (List.mem_of_getElem? (i := 24) (by decide +kernel)))
  · exact va_Nc.of (hs _ (List.mem_of_getElem? (i := 40) (by decide +kernel)))
  · exact vx_Zqof (hts _ (List.mem_of_getElem? (i := 252) (by decide +kernel))) (hts _ (List.mem_of_getElem? (i := 38) (by decide +kernel))) (hs _ (List.mem_of_getElem? (i := 4) (by decide +kernel))) hA
  · exact vx_Zqof (hts _ (List.mem_of_getElem? (i := 254) (by decide +kernel))) (hts _ (List.mem_of_getElem? (i := 38) (by decide +kernel))) (hs _ (List.mem_of_getElem? (i := 5) (by decide +kernel))) hA
  · exact gx_trees hts hs
abbrev zI : Nat → Int32 := fun _ => 0
theorem inv_start : INV (0, 0, (fun _ => 0), (fun _ => 0), (fun _ => 0), (fun _ => 0), (fun _ _ => false), (fun _ _ => false)) 0 0 0 1 zI zI zI zI zI zI zI zI zI zI zI 0 0 0 zI zI zI zI zI zI zI zI zI zI := by
  have v : ∀ {P : Prop} {i : Nat}, i < 0 → P := fun h => absurd h (Nat.not_lt_zero _)
  refine ⟨⟨Nat.zero_le _, Nat.zero_le _, fun i hi => v hi, fun i hi => v hi, fun i hi => v hi, fun i j hi _ => v hi, fun i hi => v hi, fun i j hi _ => v hi⟩, ⟨rfl, rfl, fun i hi => v hi, fun i hi => v hi, fun i hi => v hi, fun i hi => v hi, fun i j hi _ => v hi, fun i j hi _ => v hi⟩, ⟨rfl, rfl, fun i hi => v hi, fun i hi => v hi, fun i hi => v hi, fun i hi => v hi, fun i hi => v hi, fun i hi => v hi, fun i j hi _ => v hi, fun i j hi _ => v hi⟩, ⟨fun i => ⟨false, rfl⟩, fun i => ⟨false, rfl⟩, fun i j hi hj => ⟨rfl, bitI_zero j hj⟩, fun i l hi hl => ⟨rfl, bitI_zero l (by omega)⟩⟩, ⟨⟨fun _ _ => 0, fun _ => 1, ?_⟩, by omega⟩, rfl, Nat.zero_le _, fun _ => 0, fun _ _ => 0, fun k hk => v hk, fun p hp => v hp⟩
  refine ⟨⟨Nat.le_refl _, fun i hi c hc => ⟨rfl, Or.inl rfl⟩⟩, rfl, fun i c hi hc h => absurd rfl h, fun j h1 h2 => by omega, fun i j hi hj _ => by omega, fun i hi => Or.inr ⟨fun ⟨k, hk, _⟩ => v hk, rfl⟩, fun t ⟨k, hk, _⟩ => v hk, fun i h1 h2 => ⟨rfl, fun c hc => rfl⟩, fun i hi => ⟨Nat.le_refl _, Or.inl (by omega)⟩⟩
theorem lw_ctx {p : Program} {e : Env} {s : State} {m : MethodId} {below : List Frame} {meth : Method} {c : Code} (l : Launch) (hflags : l.flags = flags0) {b L : Nat} {xs : Nat → Int32} (C0 : lw_At p s m meth c b L xs) : ∃ G : vG, LCx (p, l, e, room_1, s, m, #[Value.ref b], below, meth, c) s.heap.size G b L xs := by
  obtain ⟨hx, hb, hr, hml, hown, hts, hX, hbl, hlocks, hgv⟩ := id C0
  have hw : ∀ w ∈ WA, w.before #[Value.ref b] s = true := fun w h => hts w (WA_tbl w h)
  obtain ⟨c0, i0, k0⟩ := u_known (N := 5) hw uw_X0 (hw _ in_X0)
  obtain ⟨c1, i1, k1⟩ := u_known (N := 9) hw uw_X1 (hw _ in_X1)
  obtain ⟨c2, i2, k2⟩ := u_known (N := 7) hw uw_X2 (hw _ in_X2)
  obtain ⟨c3, i3, k3⟩ := u_known (N := 4) hw uw_X3 (hw _ in_X3)
  obtain ⟨c4, i4, k4⟩ := u_known (N := 3) hw uw_X4 (hw _ in_X4)
  obtain ⟨c5, i5, k5⟩ := u_known (N := 22) hw uw_X5 (hw _ in_X5)
  obtain ⟨aI, hI1, hI2⟩ := lw_arr (hw _ ac_int)
  obtain ⟨aJ, hJ1, hJ2⟩ := lw_arr (hw _ ac_long)
  obtain ⟨aZ, hZ1, hZ2⟩ := lw_arr (hw _ ac_boolean)
  have hK : va_K ((fun k => match k with | 0 => c0 | 1 => c1 | 2 => c2 | 3 => c3 | 4 => c4 | _ => c5), (fun k => match k with | 0 => i0 | 1 => i1 | 2 => i2 | 3 => i3 | 4 => i4 | _ => i5)) vwCl [(aI, .int), (aJ, .long), (aZ, .boolean)] s := by
    refine ⟨fun k q hq => ?_, fun k q hk => ?_⟩
    · match k, hq with
      | 0, hq => cases hq; exact k0
      | 1, hq => cases hq; exact k1
      | 2, hq => cases hq; exact k2
      | 3, hq => cases hq; exact k3
      | 4, hq => cases hq; exact k4
      | 5, hq => cases hq; exact k5
      | k + 6, hq => cases hq
    · match k, hk with
      | 0, hk => cases hk; exact ⟨hI1, hI2⟩
      | 1, hk => cases hk; exact ⟨hJ1, hJ2⟩
      | 2, hk => cases hk; exact ⟨hZ1, hZ2⟩
      | k + 3, hk => cases hk
  have hst : l.stackTraces = false := by
    unfold Launch.stackTraces
    rw [hflags]
    decide +kernel
  exact ⟨(_, aI, aJ, aZ), ⟨hx, hb, hml, hown, hw, hK, gx_start hts hgv, Nat.le_refl _, hlocks⟩, ⟨Nat.le_of_ble_eq_true rfl, Nat.le_of_ble_eq_true rfl, Nat.le_of_ble_eq_true rfl, Nat.le_of_ble_eq_true rfl⟩, hst, hX, hbl, Nat.not_le.mpr hbl⟩
set_option maxHeartbeats 4000000 in
set_option maxRecDepth 100000 in
theorem lw_begin {X : vX} {lo : Nat} {G : vG} {Q : State → Prop} {b L : Nat} {sc : Nat → Int32} (LC : LCx X lo G b L sc) (hL : L ≤ 2048) (hend : ∀ (ws : va_W) (lc : List (Nat × Value)), V X lo 7 G Q 601024 7293034 ws lc [.int (nI 1)] 1243) : V X lo 7 G Q 0 0 [] [(0, .ref b)] [] 0 := by
  obtain ⟨cx, hX, hst, hsc, hbl, hbA⟩ := id LC
  have hc1 : 601024 ≤ (xR X).cells := hX.2.2.1
  have hc2 : 7293034 ≤ (xR X).slots := hX.2.2.2
  refine V_new (ci := 4) cx uw_X4 tyX4 tyX4_ok kl_L_8 in_X4 ii_X4 rfl (fs := [.null, .null, .null]) (fun j hj => match j, hj with | 0, _ => rfl | 1, _ => rfl | 2, _ => rfl | j + 3, h => absurd h (by omega)) 1 3 rfl rfl (by omega) (by omega) 3 rfl dL_law_0 (fun b1 => ?_)
  refine V.worldEq (ws' := [(b1, .inr (4, [.null, .null, .null]))] ++ []) rfl ?_
  refine V_dup cx 4 rfl dL_law_3 rfl ?_
  refine KL_69 (As := []) (rest := [.ref b1]) cx (kX4_init (xl X) lo G [] b1) hX (by omega) rfl rfl (Nat.le_of_ble_eq_true rfl) 7 21 2283 rfl rfl rfl (by omega) (by omega) dL_law_4 ?_
  rintro ⟨q_5, q_7_9, q_15_9, q_23_9, q_31_9, q_40_9, q_48_9, q_54_9, q_8_58_9, q_16_58_9, q_24_58_9, q_16, q_7_24, q_15_24, q_23_24, q_32_24, q_31, q_7_39, q_16_39, q_24_39⟩ -
  refine V_astore_n (lc1 := [(1, .ref b1), (0, .ref b)]) cx 8 rfl dL_law_7 (by decide) rfl ?_
  refine V_new (ci := 5) cx uw_X5 tyX5 tyX5_ok kl_L_70 in_X5 ii_X5 rfl (fs := [.int 0, .int 0, .null, .null, .null, .null, .int 0, .null, .null, .null, .null, .int 0, .null, .null, .int 0, .null, .int 0, .null, .null, .null, .int 0, .null]) (fun j hj => match j, hj with | 0, _ => rfl | 1, _ => rfl | 2, _ => rfl | 3, _ => rfl | 4, _ => rfl | 5, _ => rfl | 6, _ => rfl | 7, _ => rfl | 8, _ => rfl | 9, _ => rfl | 10, _ => rfl | 11, _ => rfl | 12, _ => rfl | 13, _ => rfl | 14, _ => rfl | 15, _ => rfl | 16, _ => rfl | 17, _ => rfl | 18, _ => rfl | 19, _ => rfl | 20, _ => rfl | 21, _ => rfl | j + 22, h => absurd h (by omega)) 22 2305 rfl rfl (by omega) (by omega) 11 rfl dL_law_8 (fun b2 => ?_)
  refine V.front ?_
  refine V_dup cx 12 rfl dL_law_11 rfl ?_
  refine KL_72 (As := []) (rest := [.ref b2]) cx (kX5_init (xl X) lo G _ b2) hX (by omega) rfl rfl (Nat.le_of_ble_eq_true rfl) 15 37 3936 rfl rfl rfl (by omega) (by omega) dL_law_12 ?_
  rintro ⟨mq_7, mq_15, mq_23, mq_31, mq_39, mq_47, mq_55, mq_63, mq_71, mq_80, mq_88, mq_96, mq_104, mq_112, mq_121⟩ -
  refine V_astore_n (lc1 := [(2, .ref b2), (1, .ref b1), (0, .ref b)]) cx 16 rfl dL_law_15 (by decide) rfl ?_
  refine V_iconst (v := nI 1) cx 17 rfl dL_law_16 (by decide) ?_
  refine V_newaJ (N := nI 1) cx 1 (by decide) (by decide) (by decide) 38 3937 rfl rfl (by omega) (by omega) 19 rfl dL_law_17 (fun oa => ?_)
  refine V_astore_n (lc1 := [(3, .ref oa), (2, .ref b2), (1, .ref b1), (0, .ref b)]) cx 20 rfl dL_law_19 (by decide) rfl ?_
  refine V_iconst (v := nI 0) cx 21 rfl dL_law_20 (by decide) ?_
  refine V_istore (lc1 := [(4, .int (nI 0)), (3, .ref oa), (2, .ref b2), (1, .ref b1), (0, .ref b)]) cx 23 rfl dL_law_21 (by decide) rfl ?_
  refine V.locs (lc' := [(4, .int (nI (4 * 0))), (0, .ref b), (1, .ref b1), (2, .ref b2), (3, .ref oa)]) [0, 4, 3, 2, 1] rfl ?_
  refine V.sub (ws' := cW G (fun i => [b1, q_5, q_16, q_31, q_54_9, q_7_9, q_15_9, q_23_9, q_31_9, q_40_9, q_48_9, q_7_24, q_15_24, q_23_24, q_32_24, q_7_39, q_16_39, q_24_39, q_8_58_9, q_16_58_9, q_24_58_9].getD i 0) 0 0 0 0 0 1 zI zI zI zI zI zI zI zI zI (fun _ => 0) zI zI zI zI zI zI ++ ([(oa, .inl (G.2.2.1, 1, .inr (.inl (fun _ => 0))))] ++ mW G (fun i => [b2, mq_7, mq_15, mq_23, mq_31, mq_39, mq_47, mq_55, mq_63, mq_71, mq_80, mq_88, mq_96, mq_104, mq_112, mq_121].getD i 0) 0 0 0 0 0 0 0 zI zI zI zI zI zI zI zI zI zI zI zI zI zI (fun _ => 0))) [36, 35, 24, 19, 28, 34, 33, 32, 31, 30, 29, 23, 22, 21, 20, 18, 17, 16, 27, 26, 25, 37, 15, 14, 13, 12, 11, 10, 9, 8, 7, 6, 5, 4, 3, 2, 1, 0] (by decide) rfl ?_
  exact law_loop LC hL hend (L + 1) 0 (Nat.zero_le _) (by omega) 0 0 0 0 0 1 zI zI zI zI zI zI zI zI zI (fun _ => 0) zI zI zI zI zI zI 0 0 0 0 0 0 0 zI zI zI zI zI zI zI zI zI zI zI zI zI zI (fun _ => 0) (fun _ => 0) _ inv_start
set_option maxHeartbeats 4000000 in
/-- THE LAW, from its entry -/
theorem whole_start {p : Program} {e : Env} {s : State} {m : MethodId} {below : List Frame} {meth : Method} {c : Code} (l : Launch) (hflags : l.flags = flags0) {b L : Nat} {xs : Nat → Int32} (hL : L ≤ 2048) (C0 : lw_At p s m meth c b L xs) : W p l e room_1 s m #[Value.ref b] below meth c s.heap [] 0 0 (lw_Z below #[Value.ref b] s) (entryFrame m ([Value.ref b] : List Value).toArray 7) := by
  obtain ⟨G, LC⟩ := lw_ctx (e := e) (below := below) l hflags C0
  obtain ⟨hx, hb, hr, hml, hown, hts, hX, hbl, hlocks, hgv⟩ := id C0
  have hend : ∀ (ws : va_W) (lc : List (Nat × Value)), V (p, l, e, room_1, s, m, #[Value.ref b], below, meth, c) s.heap.size 7 G (lw_Z below #[Value.ref b] s) 601024 7293034 ws lc [.int (nI 1)] 1243 := fun ws lc H locs ls hP hD hS hl => va_forget (fun q hq => hS.2.2 q hq) (lw_ret hx hb hr hlocks dL_law_1243)
  have hl := lv_entry ([.ref b]) (n := 7) (Nat.le_of_ble_eq_true rfl)
  rw [lg_entry_eq]
  exact lw_begin LC hL hend s.heap [] _ (fun k q h => by simp at h) ⟨fun i j p q h => by simp at h, fun k q h => by simp at h⟩ va_S.rf hl
