/-! THE CLAIM OUT OF ONE WALK OF THE LAW'S BODY. Your part is whole_start (and what it stands on); all else here is the same for every law, but numbers. -/
def R_law : String := "PartSplitterLaw"
def lw_P (b : Addr) (xs : List Int32) (args : Array Value) (s : State) : Prop := args = #[.ref b] ∧ s.IntsAt b xs ∧ xs.length ≤ 260 ∧ (Jvm.Cond.and given_1 narrow_1).before args s = true
def lw_Q (_ : Array Value) (s : State) (o : Outcome) (t : State) : Prop := o = .returned (some (.int 1)) ∧ Framed s o t [] 617941 7247644
def lw_Z (below : List Frame) (a : Array Value) (s : State) : State → Prop := fun t => ∃ o, t.status = .running ∧ Ended t below o ∧ lw_Q a s o t
/-- the law's own end, with 1 on the stack, nothing written that was there before, its room as the claim has it -/
theorem lw_ret {p : Program} {l : Launch} {e : Env} {s : State} {m : MethodId} {below : List Frame} {meth : Method} {c : Code} {b : Nat} (hx : p.tables.exec = Jvm.exec) (hb : c.code = code) (hr : meth.sig.returnType = ret) (hlocks : meth.locks = false) {pc : Nat} {H : Heap} {ls : Array Slot} (hdg : decode code pc = .ok (.ireturn, 1)) : W p l e room_1 s m #[Value.ref b] below meth c H [] 617941 7247644 (lw_Z below #[Value.ref b] s) (F0 m pc ls [.int 1]) := by
  intro T hT X
  obtain ⟨fs, hret, hrun, hended, hW, hframe⟩ := X.leave (v := some (.int 1)) (hlocks := hlocks) (fun h => by rw [hr] at h; cases h)
  have hmeth' : T.vm.method? m = some meth := X.method'
  refine ⟨T.setFrames fs, ?_, .returned (some (.int 1)), hrun, hended, rfl, ⟨_, rfl⟩, hW, hframe⟩
  jvm_step X.here [X.here.top, hx, hb, hdg, hmeth', hr, ret, narrow_b1]
  (try refine ⟨rfl, ?_⟩); (try refine ⟨rfl, ?_⟩)
  first | (intro acts; rw [hret _ acts rfl rfl rfl]) | rw [hret _ _ rfl rfl rfl]
  exact Steps.refl _
/-- what holds at the law's entry: the machine, the code, the tables' words (any of lw_tbl by 'hts w (by decide +kernel)'), the script of L ints xs at the cell b, what the Statement gives of the start (any of its parts by flat_of_before) -/
def lw_At (p : Program) (s : State) (m : MethodId) (meth : Method) (c : Code) (b L : Nat) (xs : Nat → Int32) : Prop :=
  p.tables.exec = Jvm.exec ∧ c.code = code ∧ meth.sig.returnType = ret ∧ c.maxLocals = 17 ∧ s.vm.findClass R_law = some m.cls ∧ (∀ w ∈ lw_tbl, w.before #[Value.ref b] s = true) ∧ va_X b L xs s s.heap ∧ b < s.heap.size ∧ meth.locks = false ∧ (Jvm.Cond.and given_1 narrow_1).before #[Value.ref b] s = true
/-! the start -/
theorem lw_eqT {args : Array Value} {s : State} {t : Term} {z : Int32} (h : (Cond.eq t (.int z)).before args s = true) : t.eval args s none [] s = some (.int z) := by
  cases hv : t.eval args s none [] s with
  | none => simp [Cond.before, Cond.holds, Cond.value, hv] at h
  | some w =>
    have hz : (Term.int z).eval args s none [] s = some (.int z) := rfl
    simp only [Cond.before, Cond.holds, Cond.value, hv, hz] at h
    cases w <;> simp_all
theorem lw_arr {args : Array Value} {s : State} {ty : FieldType} (h : (Cond.arrayClass ty).before args s = true) : ∃ c, ArrOfT s c ty ∧ s.vm.findClass ("[" ++ ty.toString) = some c := by
  obtain ⟨c, k, comp, h1, h2, h3⟩ := Cond.arrayClass_spec h
  exact ⟨c, fun n z => ⟨(fun k h => by cases h), k, h2, comp, h3⟩, h1⟩
theorem lw_str {args : Array Value} {s : State} {k : Nat} {tx : String} (h1 : (Cond.stringRef "PartSplitter" k tx).before args s = true) (h2 : (Cond.exactly (.string "PartSplitter" k) "java/lang/String").before args s = true) : ∃ sa : Nat, vk_R "PartSplitter" k tx sa s := by
  obtain ⟨a, c, cell, kk, ha, -⟩ := Cond.exactly_spec h2
  exact ⟨a, vk_R.of h1 ha⟩
theorem wsN_in : ∀ w ∈ wsN, w ∈ lw_tbl := by
  have h : wsN = [76, 114, 111, 142, 78, 67, 80, 70, 73, 65, 63, 64, 71, 74, 36, 42, 485, 415, 315, 215, 285, 353, 217, 219, 221].filterMap (fun i => lw_tbl[i]?) := by decide +kernel
  intro w hw
  rw [h] at hw
  obtain ⟨i, -, hi⟩ := List.mem_filterMap.mp hw
  exact List.mem_of_getElem? hi
theorem wsN_ot : ∀ w ∈ wsN, w.onTables = true := by decide +kernel
theorem str_in : ∀ w ∈ strsN.map (fun q => Cond.stringRef "PartSplitter" q.1 q.2), w ∈ lw_tbl := by
  have h : strsN.map (fun q => Cond.stringRef "PartSplitter" q.1 q.2) = [588, 406, 393, 254, 360, 580, 281, 282, 292, 306, 367, 329, 334, 382].filterMap (fun i => lw_tbl[i]?) := by decide +kernel
  intro w hw
  rw [h] at hw
  obtain ⟨i, -, hi⟩ := List.mem_filterMap.mp hw
  exact List.mem_of_getElem? hi
theorem str_ex : ∀ w ∈ strsN.map (fun q => Cond.exactly (.string "PartSplitter" q.1) "java/lang/String"), w ∈ (flatC (Jvm.Cond.and given_1 narrow_1)) := by
  have h : strsN.map (fun q => Cond.exactly (.string "PartSplitter" q.1) "java/lang/String") = [434, 371, 339, 39, 259, 406, 69, 96, 122, 147, 282, 189, 215, 314].filterMap (fun i => (flatC (Jvm.Cond.and given_1 narrow_1))[i]?) := by decide +kernel
  intro w hw
  rw [h] at hw
  obtain ⟨i, -, hi⟩ := List.mem_filterMap.mp hw
  exact List.mem_of_getElem? hi
theorem gx_trees {args : Array Value} {s : State} (hts : ∀ w ∈ lw_tbl, w.before args s = true) (hs : ∀ w ∈ (flatC (Jvm.Cond.and given_1 narrow_1)), w.before args s = true) : ∃ t : Nat, va_Z "PartSplitter" "TREES" "[I" (.ref t) (Lo s.heap.size) s s.heap ∧ va_T .int t 9 trees9 (Lo s.heap.size) s s.heap := by
  have hA : ∀ a : Nat, a < s.heap.size → ¬ Lo s.heap.size a := fun a h => Nat.not_le.mpr h
  obtain ⟨t, h1, h2⟩ := va_Tof (args := args) (s := s) (tm := .static "PartSplitter" "TREES" "[I") (ty := .int) (N := 9) (f := trees9) (A := Lo s.heap.size) (by decide) (hs _ (List.mem_of_getElem? (i := 7) (by decide +kernel))) (lw_eqT (z := 9) (hs _ (List.mem_of_getElem? (i := 8) (by decide +kernel)))) (fun j hj => by
    rcases (by omega : j = 0 ∨ j = 1 ∨ j = 2 ∨ j = 3 ∨ j = 4 ∨ j = 5 ∨ j = 6 ∨ j = 7 ∨ j = 8) with rfl | rfl | rfl | rfl | rfl | rfl | rfl | rfl | rfl
    · exact lw_eqT (z := 0) (hs _ (List.mem_of_getElem? (i := 9) (by decide +kernel)))
    · exact lw_eqT (z := 1) (hs _ (List.mem_of_getElem? (i := 10) (by decide +kernel)))
    · exact lw_eqT (z := 1) (hs _ (List.mem_of_getElem? (i := 11) (by decide +kernel)))
    · exact lw_eqT (z := 2) (hs _ (List.mem_of_getElem? (i := 12) (by decide +kernel)))
    · exact lw_eqT (z := 5) (hs _ (List.mem_of_getElem? (i := 13) (by decide +kernel)))
    · exact lw_eqT (z := 14) (hs _ (List.mem_of_getElem? (i := 14) (by decide +kernel)))
    · exact lw_eqT (z := 42) (hs _ (List.mem_of_getElem? (i := 15) (by decide +kernel)))
    · exact lw_eqT (z := 132) (hs _ (List.mem_of_getElem? (i := 16) (by decide +kernel)))
    · exact lw_eqT (z := 429) (hs _ (List.mem_of_getElem? (i := 17) (by decide +kernel)))) hA
  exact ⟨t, va_Zof (hts _ (List.mem_of_getElem? (i := 598) (by decide +kernel))) (hts _ (List.mem_of_getElem? (i := 15) (by decide +kernel))) h1 hA, h2⟩
theorem gx_start {args : Array Value} {s : State} (hts : ∀ w ∈ lw_tbl, w.before args s = true) (hgv : (Jvm.Cond.and given_1 narrow_1).before args s = true) : GX s.heap.size s s.heap := by
  have hs := flat_of_before _ hgv
  have hA : ∀ a : Nat, a < s.heap.size → ¬ Lo s.heap.size a := fun a h => Nat.not_le.mpr h
  refine ⟨fun w hw => va_Nw.of (wsN_ot w hw) (hts w (wsN_in w hw)), ⟨fun q hq => lw_str (hts _ (str_in _ (List.mem_map_of_mem hq))) (hs _ (str_ex _ (List.mem_map_of_mem hq))), ?_, ?_⟩, ?_, ?_, ?_⟩
  · exact va_Nc.of (hs _ (List.mem_of_getElem? (i := 24) (by decide +kernel)))
  · exact va_Nc.of (hs _ (List.mem_of_getElem? (i := 37) (by decide +kernel)))
  · exact vx_Zqof (hts _ (List.mem_of_getElem? (i := 240) (by decide +kernel))) (hts _ (List.mem_of_getElem? (i := 20) (by decide +kernel))) (hs _ (List.mem_of_getElem? (i := 4) (by decide +kernel))) hA
  · exact vx_Zqof (hts _ (List.mem_of_getElem? (i := 242) (by decide +kernel))) (hts _ (List.mem_of_getElem? (i := 20) (by decide +kernel))) (hs _ (List.mem_of_getElem? (i := 5) (by decide +kernel))) hA
  · exact gx_trees hts hs
theorem lw_ctx {p : Program} {e : Env} {s : State} {m : MethodId} {below : List Frame} {meth : Method} {c : Code} (l : Launch) (hflags : l.flags = flags0) {b L : Nat} {xs : Nat → Int32} (hL : L ≤ 260) (C0 : lw_At p s m meth c b L xs) : ∃ G : vG, LCx (p, l, e, room_1, s, m, #[Value.ref b], below, meth, c) s.heap.size G b L xs := by
  obtain ⟨hx, hb, hr, hml, hown, hts, hX, hbl, hlocks, hgv⟩ := id C0
  have hw : ∀ w ∈ WA, w.before #[Value.ref b] s = true := fun w h => hts w (WA_tbl w h)
  obtain ⟨c0, i0, k0⟩ := u_known (N := 5) hw uw_X0 (hw _ in_X0)
  obtain ⟨c1, i1, k1⟩ := u_known (N := 9) hw uw_X1 (hw _ in_X1)
  obtain ⟨c2, i2, k2⟩ := u_known (N := 7) hw uw_X2 (hw _ in_X2)
  obtain ⟨c3, i3, k3⟩ := u_known (N := 4) hw uw_X3 (hw _ in_X3)
  obtain ⟨c4, i4, k4⟩ := u_known (N := 3) hw uw_X4 (hw _ in_X4)
  obtain ⟨aI, hI1, hI2⟩ := lw_arr (hw _ ac_int)
  obtain ⟨aJ, hJ1, hJ2⟩ := lw_arr (hw _ ac_long)
  obtain ⟨aZ, hZ1, hZ2⟩ := lw_arr (hw _ ac_boolean)
  have hK : va_K ((fun k => match k with | 0 => c0 | 1 => c1 | 2 => c2 | 3 => c3 | _ => c4), (fun k => match k with | 0 => i0 | 1 => i1 | 2 => i2 | 3 => i3 | _ => i4)) vwCl [(aI, .int), (aJ, .long), (aZ, .boolean)] s := by
    refine ⟨fun k q hq => ?_, fun k q hk => ?_⟩
    · match k, hq with
      | 0, hq => cases hq; exact k0
      | 1, hq => cases hq; exact k1
      | 2, hq => cases hq; exact k2
      | 3, hq => cases hq; exact k3
      | 4, hq => cases hq; exact k4
      | k + 5, hq => cases hq
    · match k, hk with
      | 0, hk => cases hk; exact ⟨hI1, hI2⟩
      | 1, hk => cases hk; exact ⟨hJ1, hJ2⟩
      | 2, hk => cases hk; exact ⟨hZ1, hZ2⟩
      | k + 3, hk => cases hk
  have hst : l.stackTraces = false := by
    unfold Launch.stackTraces
    rw [hflags]
    decide +kernel
  exact ⟨(_, aI, aJ, aZ), ⟨hx, hb, hml, hown, hw, hK, gx_start hts hgv, Nat.le_refl _, hlocks⟩, ⟨Nat.le_of_ble_eq_true rfl, Nat.le_of_ble_eq_true rfl, Nat.le_of_ble_eq_true rfl, Nat.le_of_ble_eq_true rfl⟩, hst, hX, hbl, Nat.not_le.mpr hbl, hL⟩
set_option maxHeartbeats 4000000 in
set_option maxRecDepth 100000 in
theorem lw_begin {X : vX} {lo : Nat} {G : vG} {Q : State → Prop} {b L : Nat} {sc : Nat → Int32} (LC : LCx X lo G b L sc) (hend : ∀ (ws : va_W) (lc : List (Nat × Value)), V X lo 17 G Q 617941 7247644 ws lc [.int (nI 1)] 292) : V X lo 17 G Q 0 0 [] [(0, .ref b)] [] 0 := by
  obtain ⟨cx, hX, hst, hsc, hbl, hbA, hLs⟩ := id LC
  have hc1 : 617941 ≤ (xR X).cells := hX.2.2.1
  have hc2 : 7247644 ≤ (xR X).slots := hX.2.2.2
  refine V_new (ci := 4) cx uw_X4 tyX4 tyX4_ok kl_L_9 in_X4 ii_X4 rfl (fs := [.null, .null, .null]) (fun j hj => match j, hj with | 0, _ => rfl | 1, _ => rfl | 2, _ => rfl | j + 3, h => absurd h (by omega)) 1 3 rfl rfl (by omega) (by omega) 3 rfl dL_law_0 (fun b1 => ?_)
  refine V.worldEq (ws' := [(b1, .inr (4, [.null, .null, .null]))] ++ []) rfl ?_
  refine V_dup cx 4 rfl dL_law_3 rfl ?_
  refine KL_168 (As := []) (rest := [.ref b1]) cx (kX4_init (xl X) lo G [] b1) hX (by omega) rfl rfl (Nat.le_of_ble_eq_true rfl) 7 21 2283 rfl rfl rfl (by omega) (by omega) dL_law_4 ?_
  rintro ⟨q_5, q_7_9, q_15_9, q_23_9, q_31_9, q_40_9, q_48_9, q_54_9, q_8_58_9, q_16_58_9, q_24_58_9, q_16, q_7_24, q_15_24, q_23_24, q_32_24, q_31, q_7_39, q_16_39, q_24_39⟩ -
  refine V_astore_n (lc1 := [(1, .ref b1), (0, .ref b)]) cx 8 rfl dL_law_7 (by decide) rfl ?_
  refine V_bipush (v := nI 16) cx 10 rfl dL_law_8 (by decide) ?_
  refine V_newaI (N := nI 16) cx 16 (by decide) (by decide) (by decide) 22 2299 rfl rfl (by omega) (by omega) 12 rfl dL_law_10 (fun a0 => ?_)
  refine V_astore_n (lc1 := [(2, .ref a0), (1, .ref b1), (0, .ref b)]) cx 13 rfl dL_law_12 (by decide) rfl ?_
  refine V_bipush (v := nI 16) cx 15 rfl dL_law_13 (by decide) ?_
  refine V_newaI (N := nI 16) cx 16 (by decide) (by decide) (by decide) 23 2315 rfl rfl (by omega) (by omega) 17 rfl dL_law_15 (fun a1 => ?_)
  refine V_astore_n (lc1 := [(3, .ref a1), (2, .ref a0), (1, .ref b1), (0, .ref b)]) cx 18 rfl dL_law_17 (by decide) rfl ?_
  refine V_bipush (v := nI 16) cx 20 rfl dL_law_18 (by decide) ?_
  refine V_newaI (N := nI 16) cx 16 (by decide) (by decide) (by decide) 24 2331 rfl rfl (by omega) (by omega) 22 rfl dL_law_20 (fun a2 => ?_)
  refine V_astore (lc1 := [(4, .ref a2), (3, .ref a1), (2, .ref a0), (1, .ref b1), (0, .ref b)]) cx 24 rfl dL_law_22 (by decide) rfl ?_
  refine V_bipush (v := nI 16) cx 26 rfl dL_law_24 (by decide) ?_
  refine V_newaI (N := nI 16) cx 16 (by decide) (by decide) (by decide) 25 2347 rfl rfl (by omega) (by omega) 28 rfl dL_law_26 (fun a3 => ?_)
  refine V_astore (lc1 := [(5, .ref a3), (4, .ref a2), (3, .ref a1), (2, .ref a0), (1, .ref b1), (0, .ref b)]) cx 30 rfl dL_law_28 (by decide) rfl ?_
  refine V_bipush (v := nI 6) cx 32 rfl dL_law_30 (by decide) ?_
  refine V_newaI (N := nI 6) cx 6 (by decide) (by decide) (by decide) 26 2353 rfl rfl (by omega) (by omega) 34 rfl dL_law_32 (fun a4 => ?_)
  refine V_astore (lc1 := [(6, .ref a4), (5, .ref a3), (4, .ref a2), (3, .ref a1), (2, .ref a0), (1, .ref b1), (0, .ref b)]) cx 36 rfl dL_law_34 (by decide) rfl ?_
  refine V_bipush (v := nI 64) cx 38 rfl dL_law_36 (by decide) ?_
  refine V_newaJ (N := nI 64) cx 64 (by decide) (by decide) (by decide) 27 2417 rfl rfl (by omega) (by omega) 40 rfl dL_law_38 (fun a5 => ?_)
  refine V_astore (lc1 := [(7, .ref a5), (6, .ref a4), (5, .ref a3), (4, .ref a2), (3, .ref a1), (2, .ref a0), (1, .ref b1), (0, .ref b)]) cx 42 rfl dL_law_40 (by decide) rfl ?_
  refine V_bipush (v := nI 64) cx 44 rfl dL_law_42 (by decide) ?_
  refine V_newaJ (N := nI 64) cx 64 (by decide) (by decide) (by decide) 28 2481 rfl rfl (by omega) (by omega) 46 rfl dL_law_44 (fun a6 => ?_)
  refine V_astore (lc1 := [(8, .ref a6), (7, .ref a5), (6, .ref a4), (5, .ref a3), (4, .ref a2), (3, .ref a1), (2, .ref a0), (1, .ref b1), (0, .ref b)]) cx 48 rfl dL_law_46 (by decide) rfl ?_
  refine V_bipush (v := nI 50) cx 50 rfl dL_law_48 (by decide) ?_
  refine V_newaJ (N := nI 50) cx 50 (by decide) (by decide) (by decide) 29 2531 rfl rfl (by omega) (by omega) 52 rfl dL_law_50 (fun a7 => ?_)
  refine V_astore (lc1 := [(9, .ref a7), (8, .ref a6), (7, .ref a5), (6, .ref a4), (5, .ref a3), (4, .ref a2), (3, .ref a1), (2, .ref a0), (1, .ref b1), (0, .ref b)]) cx 54 rfl dL_law_52 (by decide) rfl ?_
  refine V_bipush (v := nI 50) cx 56 rfl dL_law_54 (by decide) ?_
  refine V_newaI (N := nI 50) cx 50 (by decide) (by decide) (by decide) 30 2581 rfl rfl (by omega) (by omega) 58 rfl dL_law_56 (fun a8 => ?_)
  refine V_astore (lc1 := [(10, .ref a8), (9, .ref a7), (8, .ref a6), (7, .ref a5), (6, .ref a4), (5, .ref a3), (4, .ref a2), (3, .ref a1), (2, .ref a0), (1, .ref b1), (0, .ref b)]) cx 60 rfl dL_law_58 (by decide) rfl ?_
  refine V_iconst (v := nI 5) cx 61 rfl dL_law_60 (by decide) ?_
  refine V_newaI (N := nI 5) cx 5 (by decide) (by decide) (by decide) 31 2586 rfl rfl (by omega) (by omega) 63 rfl dL_law_61 (fun a9 => ?_)
  refine V_astore (lc1 := [(11, .ref a9), (10, .ref a8), (9, .ref a7), (8, .ref a6), (7, .ref a5), (6, .ref a4), (5, .ref a3), (4, .ref a2), (3, .ref a1), (2, .ref a0), (1, .ref b1), (0, .ref b)]) cx 65 rfl dL_law_63 (by decide) rfl ?_
  refine V.locs (lc' := [(0, .ref b), (1, .ref b1), (2, .ref a0), (3, .ref a1), (4, .ref a2), (5, .ref a3), (6, .ref a4), (7, .ref a5), (8, .ref a6), (9, .ref a7), (10, .ref a8), (11, .ref a9)]) [11, 10, 9, 8, 7, 6, 5, 4, 3, 2, 1, 0] rfl ?_
  refine V.sub (ws' := cW G (fun i => [b1, q_5, q_16, q_31, q_54_9, q_7_9, q_15_9, q_23_9, q_31_9, q_40_9, q_48_9, q_7_24, q_15_24, q_23_24, q_32_24, q_7_39, q_16_39, q_24_39, q_8_58_9, q_16_58_9, q_24_58_9, a0, a1, a2, a3, a4, a5, a6, a7, a8, a9].getD i 0) 0 0 0 0 0 1 zI zI zI zI zI zI zI zI zI zJ zI zI zI zI zI zI ++ (lW G (fun i => [b1, q_5, q_16, q_31, q_54_9, q_7_9, q_15_9, q_23_9, q_31_9, q_40_9, q_48_9, q_7_24, q_15_24, q_23_24, q_32_24, q_7_39, q_16_39, q_24_39, q_8_58_9, q_16_58_9, q_24_58_9, a0, a1, a2, a3, a4, a5, a6, a7, a8, a9].getD i 0) zI zI zI zI zI zJ zJ zJ zI zI ++ [])) [20, 19, 8, 3, 12, 18, 17, 16, 15, 14, 13, 7, 6, 5, 4, 2, 1, 0, 11, 10, 9, 21, 22, 23, 24, 25, 26, 27, 28, 29, 30] (by decide) rfl ?_
  refine V.widen (k' := 31) (n' := 3800) (by omega) (by omega) ?_
  exact lw_main LC hend (fun i => [b1, q_5, q_16, q_31, q_54_9, q_7_9, q_15_9, q_23_9, q_31_9, q_40_9, q_48_9, q_7_24, q_15_24, q_23_24, q_32_24, q_7_39, q_16_39, q_24_39, q_8_58_9, q_16_58_9, q_24_58_9, a0, a1, a2, a3, a4, a5, a6, a7, a8, a9].getD i 0) []
set_option maxHeartbeats 4000000 in
/-- THE LAW, from its entry -/
theorem whole_start {p : Program} {e : Env} {s : State} {m : MethodId} {below : List Frame} {meth : Method} {c : Code} (l : Launch) (hflags : l.flags = flags0) {b L : Nat} {xs : Nat → Int32} (hL : L ≤ 260) (C0 : lw_At p s m meth c b L xs) : W p l e room_1 s m #[Value.ref b] below meth c s.heap [] 0 0 (lw_Z below #[Value.ref b] s) (entryFrame m ([Value.ref b] : List Value).toArray 17) := by
  obtain ⟨G, LC⟩ := lw_ctx (e := e) (below := below) l hflags hL C0
  obtain ⟨hx, hb, hr, hml, hown, hts, hX, hbl, hlocks, hgv⟩ := id C0
  have hend : ∀ (ws : va_W) (lc : List (Nat × Value)), V (p, l, e, room_1, s, m, #[Value.ref b], below, meth, c) s.heap.size 17 G (lw_Z below #[Value.ref b] s) 617941 7247644 ws lc [.int (nI 1)] 292 := fun ws lc H locs ls hP hD hS hl => va_forget (fun q hq => hS.2.2 q hq) (lw_ret hx hb hr hlocks dL_law_292)
  have hl := lv_entry ([.ref b]) (n := 17) (Nat.le_of_ble_eq_true rfl)
  rw [lg_entry_eq]
  exact lw_begin LC hend s.heap [] _ (fun k q h => by simp at h) ⟨fun i j p q h => by simp at h, fun k q h => by simp at h⟩ va_S.rf hl
