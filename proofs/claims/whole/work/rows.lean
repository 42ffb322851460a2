section
-- ===== PART A: goes FIRST, ahead of the names: the tables' words, and 'selects' of the private methods out of them =====
/-- a private method of a class that the tables say can be made, by its rows of tables_1 -/
def lw_okq (q : MethodName × Nat) : Prop := (q.1.cls ≠ "java/lang/invoke/MethodHandle" ∧ q.1.cls ≠ "java/lang/invoke/VarHandle") ∧ Cond.instantiable q.1.cls q.2 ∈ tables_1 ∧ Cond.privateMethod q.1 ∈ tables_1 ∧ Cond.instanceMethod q.1 ∈ tables_1
theorem lw_p0 : lw_okq (⟨"PartSplitter$Tree", "twinOf", "(I)I"⟩, 4) := ⟨⟨by decide +kernel, by decide +kernel⟩, List.mem_of_getElem? (i := 28) (by decide +kernel), List.mem_of_getElem? (i := 164) (by decide +kernel), List.mem_of_getElem? (i := 165) (by decide +kernel)⟩
theorem lw_p1 : lw_okq (⟨"PartSplitter$Tree", "isFollowedAlike", "(II)Z"⟩, 4) := ⟨⟨by decide +kernel, by decide +kernel⟩, List.mem_of_getElem? (i := 28) (by decide +kernel), List.mem_of_getElem? (i := 168) (by decide +kernel), List.mem_of_getElem? (i := 169) (by decide +kernel)⟩
theorem lw_p2 : lw_okq (⟨"PartSplitter$Tree", "twinBelow", "(II)I"⟩, 4) := ⟨⟨by decide +kernel, by decide +kernel⟩, List.mem_of_getElem? (i := 28) (by decide +kernel), List.mem_of_getElem? (i := 172) (by decide +kernel), List.mem_of_getElem? (i := 173) (by decide +kernel)⟩
theorem lw_p3 : lw_okq (⟨"java/lang/Throwable", "fillInStackTrace", "(I)Ljava/lang/Throwable;"⟩, 6) := ⟨⟨by decide +kernel, by decide +kernel⟩, List.mem_of_getElem? (i := 233) (by decide +kernel), List.mem_of_getElem? (i := 231) (by decide +kernel), List.mem_of_getElem? (i := 232) (by decide +kernel)⟩
theorem lw_p4 : lw_okq (⟨"PartSplitter$Tree", "madeBelow", "(II)I"⟩, 4) := ⟨⟨by decide +kernel, by decide +kernel⟩, List.mem_of_getElem? (i := 28) (by decide +kernel), List.mem_of_getElem? (i := 298) (by decide +kernel), List.mem_of_getElem? (i := 299) (by decide +kernel)⟩
theorem lw_p5 : lw_okq (⟨"PartSplitter", "needPart", "(I)V"⟩, 3) := ⟨⟨by decide +kernel, by decide +kernel⟩, List.mem_of_getElem? (i := 14) (by decide +kernel), List.mem_of_getElem? (i := 310) (by decide +kernel), List.mem_of_getElem? (i := 311) (by decide +kernel)⟩
theorem lw_p6 : lw_okq (⟨"PartSplitter$SplitRow", "readLetters", "(I)V"⟩, 7) := ⟨⟨by decide +kernel, by decide +kernel⟩, List.mem_of_getElem? (i := 88) (by decide +kernel), List.mem_of_getElem? (i := 398) (by decide +kernel), List.mem_of_getElem? (i := 399) (by decide +kernel)⟩
theorem lw_p7 : lw_okq (⟨"PartSplitter$SplitRow", "findFrom", "(I)V"⟩, 7) := ⟨⟨by decide +kernel, by decide +kernel⟩, List.mem_of_getElem? (i := 88) (by decide +kernel), List.mem_of_getElem? (i := 403) (by decide +kernel), List.mem_of_getElem? (i := 404) (by decide +kernel)⟩
theorem lw_p8 : lw_okq (⟨"PartSplitter$SplitRow", "tryParts", "(IIIIJ)V"⟩, 7) := ⟨⟨by decide +kernel, by decide +kernel⟩, List.mem_of_getElem? (i := 88) (by decide +kernel), List.mem_of_getElem? (i := 409) (by decide +kernel), List.mem_of_getElem? (i := 410) (by decide +kernel)⟩
theorem lw_p9 : lw_okq (⟨"PartSplitter$SplitRow", "mayFollow", "(III)Z"⟩, 7) := ⟨⟨by decide +kernel, by decide +kernel⟩, List.mem_of_getElem? (i := 88) (by decide +kernel), List.mem_of_getElem? (i := 413) (by decide +kernel), List.mem_of_getElem? (i := 414) (by decide +kernel)⟩
theorem lw_p10 : lw_okq (⟨"PartSplitter$SplitRow", "keep", "(IIJ)V"⟩, 7) := ⟨⟨by decide +kernel, by decide +kernel⟩, List.mem_of_getElem? (i := 88) (by decide +kernel), List.mem_of_getElem? (i := 425) (by decide +kernel), List.mem_of_getElem? (i := 426) (by decide +kernel)⟩
theorem lw_p11 : lw_okq (⟨"PartSplitter$SplitRow", "tryLinks", "(IIIIJ)V"⟩, 7) := ⟨⟨by decide +kernel, by decide +kernel⟩, List.mem_of_getElem? (i := 88) (by decide +kernel), List.mem_of_getElem? (i := 429) (by decide +kernel), List.mem_of_getElem? (i := 430) (by decide +kernel)⟩
theorem lw_p12 : lw_okq (⟨"PartSplitter", "splitOf", "(II)J"⟩, 3) := ⟨⟨by decide +kernel, by decide +kernel⟩, List.mem_of_getElem? (i := 14) (by decide +kernel), List.mem_of_getElem? (i := 440) (by decide +kernel), List.mem_of_getElem? (i := 441) (by decide +kernel)⟩
theorem lw_p13 : lw_okq (⟨"PartSplitter$SplitRow", "sink", "(II)V"⟩, 7) := ⟨⟨by decide +kernel, by decide +kernel⟩, List.mem_of_getElem? (i := 88) (by decide +kernel), List.mem_of_getElem? (i := 450) (by decide +kernel), List.mem_of_getElem? (i := 451) (by decide +kernel)⟩
theorem lw_p14 : lw_okq (⟨"PartSplitterModel", "partWith", "(I)I"⟩, 22) := ⟨⟨by decide +kernel, by decide +kernel⟩, List.mem_of_getElem? (i := 539) (by decide +kernel), List.mem_of_getElem? (i := 629) (by decide +kernel), List.mem_of_getElem? (i := 630) (by decide +kernel)⟩
theorem lw_p15 : lw_okq (⟨"PartSplitterModel", "isPart", "(I)Z"⟩, 22) := ⟨⟨by decide +kernel, by decide +kernel⟩, List.mem_of_getElem? (i := 539) (by decide +kernel), List.mem_of_getElem? (i := 637) (by decide +kernel), List.mem_of_getElem? (i := 638) (by decide +kernel)⟩
def lw_privs_1 : List (MethodName × Nat) := [(⟨"PartSplitter$Tree", "twinOf", "(I)I"⟩, 4), (⟨"PartSplitter$Tree", "isFollowedAlike", "(II)Z"⟩, 4), (⟨"PartSplitter$Tree", "twinBelow", "(II)I"⟩, 4), (⟨"java/lang/Throwable", "fillInStackTrace", "(I)Ljava/lang/Throwable;"⟩, 6), (⟨"PartSplitter$Tree", "madeBelow", "(II)I"⟩, 4), (⟨"PartSplitter", "needPart", "(I)V"⟩, 3), (⟨"PartSplitter$SplitRow", "readLetters", "(I)V"⟩, 7), (⟨"PartSplitter$SplitRow", "findFrom", "(I)V"⟩, 7), (⟨"PartSplitter$SplitRow", "tryParts", "(IIIIJ)V"⟩, 7), (⟨"PartSplitter$SplitRow", "mayFollow", "(III)Z"⟩, 7), (⟨"PartSplitter$SplitRow", "keep", "(IIJ)V"⟩, 7), (⟨"PartSplitter$SplitRow", "tryLinks", "(IIIIJ)V"⟩, 7), (⟨"PartSplitter", "splitOf", "(II)J"⟩, 3), (⟨"PartSplitter$SplitRow", "sink", "(II)V"⟩, 7), (⟨"PartSplitterModel", "partWith", "(I)I"⟩, 22), (⟨"PartSplitterModel", "isPart", "(I)Z"⟩, 22)]
theorem lw_r1 : ∀ q ∈ lw_privs_1, lw_okq q := List.forall_mem_cons.mpr ⟨lw_p0, List.forall_mem_cons.mpr ⟨lw_p1, List.forall_mem_cons.mpr ⟨lw_p2, List.forall_mem_cons.mpr ⟨lw_p3, List.forall_mem_cons.mpr ⟨lw_p4, List.forall_mem_cons.mpr ⟨lw_p5, List.forall_mem_cons.mpr ⟨lw_p6, List.forall_mem_cons.mpr ⟨lw_p7, List.forall_mem_cons.mpr ⟨lw_p8, List.forall_mem_cons.mpr ⟨lw_p9, List.forall_mem_cons.mpr ⟨lw_p10, List.forall_mem_cons.mpr ⟨lw_p11, List.forall_mem_cons.mpr ⟨lw_p12, List.forall_mem_cons.mpr ⟨lw_p13, List.forall_mem_cons.mpr ⟨lw_p14, List.forall_mem_cons.mpr ⟨lw_p15, fun _ h => absurd h List.not_mem_nil⟩⟩⟩⟩⟩⟩⟩⟩⟩⟩⟩⟩⟩⟩⟩⟩
theorem lw_p16 : lw_okq (⟨"PartSplitterModel", "costNow", "(I)I"⟩, 22) := ⟨⟨by decide +kernel, by decide +kernel⟩, List.mem_of_getElem? (i := 539) (by decide +kernel), List.mem_of_getElem? (i := 665) (by decide +kernel), List.mem_of_getElem? (i := 666) (by decide +kernel)⟩
theorem lw_p17 : lw_okq (⟨"PartSplitterModel", "areRests", "(IIII)Z"⟩, 22) := ⟨⟨by decide +kernel, by decide +kernel⟩, List.mem_of_getElem? (i := 539) (by decide +kernel), List.mem_of_getElem? (i := 677) (by decide +kernel), List.mem_of_getElem? (i := 678) (by decide +kernel)⟩
theorem lw_p18 : lw_okq (⟨"PartSplitterModel", "beginning", "(II)I"⟩, 22) := ⟨⟨by decide +kernel, by decide +kernel⟩, List.mem_of_getElem? (i := 539) (by decide +kernel), List.mem_of_getElem? (i := 681) (by decide +kernel), List.mem_of_getElem? (i := 682) (by decide +kernel)⟩
theorem lw_p19 : lw_okq (⟨"PartSplitterModel", "rest", "(II)I"⟩, 22) := ⟨⟨by decide +kernel, by decide +kernel⟩, List.mem_of_getElem? (i := 539) (by decide +kernel), List.mem_of_getElem? (i := 685) (by decide +kernel), List.mem_of_getElem? (i := 686) (by decide +kernel)⟩
theorem lw_p20 : lw_okq (⟨"PartSplitterModel", "hasRest", "(III)Z"⟩, 22) := ⟨⟨by decide +kernel, by decide +kernel⟩, List.mem_of_getElem? (i := 539) (by decide +kernel), List.mem_of_getElem? (i := 689) (by decide +kernel), List.mem_of_getElem? (i := 690) (by decide +kernel)⟩
theorem lw_p21 : lw_okq (⟨"PartSplitterModel", "asks", "(I)Z"⟩, 22) := ⟨⟨by decide +kernel, by decide +kernel⟩, List.mem_of_getElem? (i := 539) (by decide +kernel), List.mem_of_getElem? (i := 697) (by decide +kernel), List.mem_of_getElem? (i := 698) (by decide +kernel)⟩
theorem lw_p22 : lw_okq (⟨"PartSplitterModel", "takes", "(I)Z"⟩, 22) := ⟨⟨by decide +kernel, by decide +kernel⟩, List.mem_of_getElem? (i := 539) (by decide +kernel), List.mem_of_getElem? (i := 701) (by decide +kernel), List.mem_of_getElem? (i := 702) (by decide +kernel)⟩
theorem lw_p23 : lw_okq (⟨"PartSplitterModel", "laysSplits", "()V"⟩, 22) := ⟨⟨by decide +kernel, by decide +kernel⟩, List.mem_of_getElem? (i := 539) (by decide +kernel), List.mem_of_getElem? (i := 705) (by decide +kernel), List.mem_of_getElem? (i := 706) (by decide +kernel)⟩
theorem lw_p24 : lw_okq (⟨"PartSplitterModel", "goesOn", "(I)Z"⟩, 22) := ⟨⟨by decide +kernel, by decide +kernel⟩, List.mem_of_getElem? (i := 539) (by decide +kernel), List.mem_of_getElem? (i := 709) (by decide +kernel), List.mem_of_getElem? (i := 710) (by decide +kernel)⟩
theorem lw_p25 : lw_okq (⟨"PartSplitterModel", "textAt", "(II)I"⟩, 22) := ⟨⟨by decide +kernel, by decide +kernel⟩, List.mem_of_getElem? (i := 539) (by decide +kernel), List.mem_of_getElem? (i := 713) (by decide +kernel), List.mem_of_getElem? (i := 714) (by decide +kernel)⟩
theorem lw_p26 : lw_okq (⟨"PartSplitterModel", "key", "()J"⟩, 22) := ⟨⟨by decide +kernel, by decide +kernel⟩, List.mem_of_getElem? (i := 539) (by decide +kernel), List.mem_of_getElem? (i := 717) (by decide +kernel), List.mem_of_getElem? (i := 718) (by decide +kernel)⟩
theorem lw_p27 : lw_okq (⟨"PartSplitterModel", "asksSplit", "(II)J"⟩, 22) := ⟨⟨by decide +kernel, by decide +kernel⟩, List.mem_of_getElem? (i := 539) (by decide +kernel), List.mem_of_getElem? (i := 729) (by decide +kernel), List.mem_of_getElem? (i := 730) (by decide +kernel)⟩
theorem lw_p28 : lw_okq (⟨"PartSplitterModel", "keyAt", "(I)J"⟩, 22) := ⟨⟨by decide +kernel, by decide +kernel⟩, List.mem_of_getElem? (i := 539) (by decide +kernel), List.mem_of_getElem? (i := 734) (by decide +kernel), List.mem_of_getElem? (i := 735) (by decide +kernel)⟩
theorem lw_p29 : lw_okq (⟨"PartSplitterModel", "unfolds", "(J)V"⟩, 22) := ⟨⟨by decide +kernel, by decide +kernel⟩, List.mem_of_getElem? (i := 539) (by decide +kernel), List.mem_of_getElem? (i := 752) (by decide +kernel), List.mem_of_getElem? (i := 753) (by decide +kernel)⟩
theorem lw_p30 : lw_okq (⟨"PartSplitterModel", "learns", "(I)V"⟩, 22) := ⟨⟨by decide +kernel, by decide +kernel⟩, List.mem_of_getElem? (i := 539) (by decide +kernel), List.mem_of_getElem? (i := 772) (by decide +kernel), List.mem_of_getElem? (i := 773) (by decide +kernel)⟩
def lw_privs_2 : List (MethodName × Nat) := [(⟨"PartSplitterModel", "costNow", "(I)I"⟩, 22), (⟨"PartSplitterModel", "areRests", "(IIII)Z"⟩, 22), (⟨"PartSplitterModel", "beginning", "(II)I"⟩, 22), (⟨"PartSplitterModel", "rest", "(II)I"⟩, 22), (⟨"PartSplitterModel", "hasRest", "(III)Z"⟩, 22), (⟨"PartSplitterModel", "asks", "(I)Z"⟩, 22), (⟨"PartSplitterModel", "takes", "(I)Z"⟩, 22), (⟨"PartSplitterModel", "laysSplits", "()V"⟩, 22), (⟨"PartSplitterModel", "goesOn", "(I)Z"⟩, 22), (⟨"PartSplitterModel", "textAt", "(II)I"⟩, 22), (⟨"PartSplitterModel", "key", "()J"⟩, 22), (⟨"PartSplitterModel", "asksSplit", "(II)J"⟩, 22), (⟨"PartSplitterModel", "keyAt", "(I)J"⟩, 22), (⟨"PartSplitterModel", "unfolds", "(J)V"⟩, 22), (⟨"PartSplitterModel", "learns", "(I)V"⟩, 22)]
theorem lw_r2 : ∀ q ∈ lw_privs_2, lw_okq q := List.forall_mem_cons.mpr ⟨lw_p16, List.forall_mem_cons.mpr ⟨lw_p17, List.forall_mem_cons.mpr ⟨lw_p18, List.forall_mem_cons.mpr ⟨lw_p19, List.forall_mem_cons.mpr ⟨lw_p20, List.forall_mem_cons.mpr ⟨lw_p21, List.forall_mem_cons.mpr ⟨lw_p22, List.forall_mem_cons.mpr ⟨lw_p23, List.forall_mem_cons.mpr ⟨lw_p24, List.forall_mem_cons.mpr ⟨lw_p25, List.forall_mem_cons.mpr ⟨lw_p26, List.forall_mem_cons.mpr ⟨lw_p27, List.forall_mem_cons.mpr ⟨lw_p28, List.forall_mem_cons.mpr ⟨lw_p29, List.forall_mem_cons.mpr ⟨lw_p30, fun _ h => absurd h List.not_mem_nil⟩⟩⟩⟩⟩⟩⟩⟩⟩⟩⟩⟩⟩⟩⟩
def lw_privs : List (MethodName × Nat) := lw_privs_1 ++ (lw_privs_2)
def lw_tbl : List Cond := k2_sels lw_privs ++ tables_1
theorem lw_privs_ok : ∀ q ∈ lw_privs, lw_okq q := by
  show ∀ q ∈ lw_privs_1 ++ (lw_privs_2), lw_okq q
  exact List.forall_mem_append.mpr ⟨lw_r1, lw_r2⟩
end
section
/-! ===== BEGIN words of one list among another's, by their places ===== -/
theorem goodIn_r {big : List Cond} (ws : List Cond) (ps : List Nat) (hp : ws = ps.filterMap (fun i => big[i]?)) (h : ws.all goodWord = true) : GoodIn big ws := by
  intro w hw
  have h1 := List.all_eq_true.mp h w hw
  rw [hp] at hw
  obtain ⟨i, -, hi⟩ := List.mem_filterMap.mp hw
  have hm : w ∈ big := by first | exact List.mem_of_getElem? hi | exact List.getElem?_mem hi
  exact ⟨hm, good_of_word h1⟩
theorem goodIn_app {big a b : List Cond} (ha : GoodIn big a) (hb : GoodIn big b) : GoodIn big (a ++ b) := fun w h => (List.mem_append.mp h).elim (ha w) (hb w)
theorem goodIn_ca {big a b : List Cond} {c : Cond} (ha : GoodIn big (c :: a)) (hb : GoodIn big b) : GoodIn big (c :: (a ++ b)) := fun w h => (List.mem_cons.mp h).elim (fun e => ha w (List.mem_cons.mpr (Or.inl e))) (fun h => (List.mem_append.mp h).elim (fun h => ha w (List.mem_cons.mpr (Or.inr h))) (hb w))
theorem goodIn_sub {big ws : List Cond} (hm : ∀ w ∈ ws, w ∈ big) (h : ws.all goodWord = true) : GoodIn big ws := fun w hw => ⟨hm w hw, good_of_word (List.all_eq_true.mp h w hw)⟩
/-! ===== END ===== -/

/-! ===== BEGIN exceptions that leave a method, and their catching by the caller (launches without stack traces) ===== -/
section VXA
/-! The laws vx_back, vx_callV, vx_callS, vx_callSW, vx_throw0, vx_throwS follow proofs of the library, with one case more: JvmDerived/Free/Laws.lean (Back.of_free), Shelf42/LK1.lean (callV, callS), Shelf/KitTraced.lean (throwNew0V, throwNewS). -/
/-- where a method has thrown q: the class by its name, the cell, what was written, the world -/
def vx_T (XC : String → State → State → Prop) (st : State) (q : Addr) (t : State) (mc ms : Nat) (free : Addr → Prop) : Prop :=
  ∃ (E : String) (ce : Cell) (L : List Loc), XC E st t ∧ t.heap[q]? = some ce ∧ ce.vm = .none ∧ st.vm.findClass E = some ce.cls ∧ st.WarmedH t.vm ∧ st.sameButNew ({ t with vm := st.vm } : State) L mc ms ∧ ∀ z ∈ L, free z.base
def vx_Q (Qc : Array Value → State → Outcome → State → Prop) (XC : String → State → State → Prop) (mc ms : Nat) (free : Addr → Prop) : Array Value → State → Outcome → State → Prop := fun a st o t =>
  (Qc a st o t ∧ ∃ L, FrameEnd st o t L mc ms ∧ ∀ q ∈ L, free q.base) ∨ ∃ q, o = .threw q ∧ vx_T XC st q t mc ms free
/-- a callee that returns or throws -/
def vx_Met (l : Launch) (y : MethodName) (ws : List Cond) (rm : Room) (Pc : Array Value → State → Prop) (Qc : Array Value → State → Outcome → State → Prop) (XC : String → State → State → Prop) (mc ms : Nat) (free : Addr → Prop) : Prop :=
  MetFree l y (headSpec ws rm) Pc (fun _ _ _ _ _ => True) (vx_Q Qc XC mc ms free)
def vx_Post (XC : String → State → State → Prop) (mc ms : Nat) (free : Addr → Prop) : Pt → Array Value → Addr → Pt → Prop := fun A a q B =>
  ∃ (g : JFrame) (mk : MethodId) (t : State) (L : List Loc) (E : String) (ce : Cell), B.U.heap = t.heap ∧ B.U.vm = t.vm ∧ XC E (A.U.calling g mk a) t ∧ t.heap[q]? = some ce ∧ ce.vm = .none ∧ A.U.vm.findClass E = some ce.cls ∧ B.locs = A.locs ++ L ∧ (∀ z ∈ L, free z.base) ∧ B.cells = A.cells + mc ∧ B.slots = A.slots + ms
def vx_Back (l : Launch) (R : Room) (p : Program) (e : Env) (below : List Frame) (s : State) (sargs : Array Value) (y : MethodName) (len W9 : Nat)
    (Pre : Pt → Array Value → Prop) (Post : Pt → Array Value → Option Value → Pt → Prop) (PostX : Pt → Array Value → Addr → Pt → Prop) : Prop :=
  ∀ (m : MethodId) (meth : Method) (c : Code) (A : Pt) (g : JFrame) (ig : Instr) (mk : MethodId) (a : Array Value),
    Stand p l e R s m sargs below meth c A.U A.locs A.cells A.slots → g.method = m → g.locals.size = c.maxLocals → decode c.code g.pc = .ok (ig, len) →
    2 * g.monitorRoom + (g.stack.map fun v => v.category).sum ≤ W9 → A.U.methodNamed? y = some mk → Pre A a →
    (∃ (v : Option Value) (B : Pt), Stand p l e R s m sargs below meth c B.U B.locs B.cells B.slots ∧ Post A a v B ∧
      Steps p.tables e below (doInvoke e (A.U.setTop g) [] mk a).1 (B.U.setTop { g with pc := g.pc + len, stack := v.toList ++ g.stack })) ∨
    (∃ (q : Addr) (B : Pt), Stand p l e R s m sargs below meth c B.U B.locs B.cells B.slots ∧ PostX A a q B ∧
      Steps p.tables e below (doInvoke e (A.U.setTop g) [] mk a).1 ((B.U.setTop g).pushFrame (.throwing q)))
section Payer
variable {l : Launch} {R : Room} {p : Program} {e : Env} {below : List Frame} {s : State} {sargs : Array Value} {y : MethodName} {len W9 : Nat}
theorem vx_back {ws : List Cond} {rm : Room} {Pc : Array Value → State → Prop} {Qc : Array Value → State → Outcome → State → Prop} {XC : String → State → State → Prop} {mc ms : Nat} {free : Addr → Prop} {bytes : ByteArray} {maxL : Nat} {ret : Option FieldType}
    (hM : vx_Met l y ws rm Pc Qc XC mc ms free) (hblind : FrameBlind Pc) (hrc : rm.cells = mc) (hrs : rm.slots = ms)
    (hframes : rm.frames + 1 ≤ R.frames) (hlocals : W9 + (maxL + 11) + rm.locals ≤ R.locals)
    (hws : ∀ w ∈ ws, ∀ a' U, s.WarmedH U.vm → w.before a' U = true) (hcode : Cond.code y bytes maxL ret ∈ ws) (hinit : ∀ a' U, s.WarmedH U.vm → (Cond.initialized y.cls).before a' U = true) :
    vx_Back l R p e below s sargs y len W9 (PreOf R mc ms Pc) (PostOf Qc mc ms free) (vx_Post XC mc ms free) := by
  intro m meth c A g ig mk a X hg hsize hdg hW hn hp
  have h1 : (headSpec ws rm).pre.before a A.U = true := atoms_intro fun w hw => hws w hw _ _ X.warmed
  have h2 : (Cond.code y bytes maxL ret).before a A.U = true := hws _ hcode _ _ X.warmed
  have h3 : (Cond.initialized y.cls).before a A.U = true := hinit _ _ X.warmed
  have h4 : A.cells + (headSpec ws rm).room.cells ≤ R.cells := by rw [show (headSpec ws rm).room.cells = mc from hrc]; exact hp.1
  have h5 : A.slots + (headSpec ws rm).room.slots ≤ R.slots := by rw [show (headSpec ws rm).room.slots = ms from hrs]; exact hp.2.1
  have hPc : Pc a (A.U.calling g mk a) := hblind _ _ _ _ hp.2.2
  obtain ⟨U, Ls, c0, s0⟩ := A
  dsimp only [Pt.U, Pt.locs, Pt.cells, Pt.slots] at h1 h2 h3 h4 h5 X hn hPc ⊢
  obtain ⟨methY, cY, hmY, hcY, -, hlY, -, -, -, -⟩ := Cond.code_spec hn h2
  obtain ⟨kY, hkY, -⟩ := className_of_methodNamed hn
  have hinitY : kY.init = .initialized := Cond.initialized_spec (findClass_of_methodNamed hn) hkY h3
  have h : At U g.method c below := by rw [hg]; exact X.here
  have hlocals9 : W9 + (maxL + 11) + (headSpec ws rm).room.locals ≤ R.locals := hlocals
  have happ : (headSpec ws rm).appliesLoose y e.platform (U.calling g mk a) = true :=
    Spec.appliesLoose_calling (g := g) h hdg hn hkY hinitY
      (X.room_calling (g := g) (R' := (headSpec ws rm).room) hsize hmY hcY hframes (by rw [hlY]; omega) h4 h5) h1
  obtain ⟨mid, hmid⟩ := h.above
  have hfr : (U.setTop g).frames = (.java g :: mid) ++ below := by rw [State.frames_setTop' g h.top, hmid]; rfl
  obtain ⟨o, s₂, hsteps, -, hend, hq⟩ := Steps.callFree hM p X.admits X.cas X.clock (acts := []) hfr happ hPc trivial
  have hq' : vx_Q Qc XC mc ms free a (U.calling g mk a) o s₂ := hq
  rw [State.frames_setTop' g h.top] at hend
  obtain ⟨g₀, hg0⟩ := Option.isSome_iff_exists.mp h.top
  obtain ⟨r, hr⟩ := State.topJava?_eq_some.mp hg0
  have hr' : (({ U with heap := s₂.heap, slotsUsed := s₂.slotsUsed } : State).setVm s₂.vm).frames = .java g₀ :: r := hr
  rcases hq' with ⟨hqc, L, hfe, hL⟩ | ⟨q, rfl, E, ce, L, hx, hce, hcv, hcl, hW₂, hsm, hL⟩
  · obtain ⟨⟨v, rfl⟩, hW₂, e2, q2, q3, q4, q5, q6⟩ := id hfe
    have e3 : s₂ = ({ (U.calling g mk a).setFrames s₂.frames with heap := s₂.heap, slotsUsed := s₂.slotsUsed } : State).setVm s₂.vm := by
      have : s₂ = ({ s₂ with vm := (U.calling g mk a).vm } : State).setVm s₂.vm := rfl
      rw [e2] at this
      exact this
    obtain ⟨c₂, i₂, len₂, hc₂, hd₂, hf₂⟩ := hend
    have hW' : U.WarmedH s₂.vm := hW₂
    have hcc : c₂ = c := by
      have h1 : s₂.code? g.method = U.code? g.method := by
        rw [State.code?_eq, State.code?_eq, hW'.alike.method?]
      exact Option.some.inj (hc₂.symm.trans (h1.trans h.code))
    subst hcc
    have hlen : len₂ = len := by rw [hdg] at hd₂; cases hd₂; rfl
    subst hlen
    have hs₂ : s₂ = (({ U with heap := s₂.heap, slotsUsed := s₂.slotsUsed } : State).setVm s₂.vm).setTop { g with pc := g.pc + len₂, stack := v.toList ++ g.stack } := by
      refine e3.trans ?_
      rw [hf₂, State.calling_eq h.top, State.setFrames_setFrames, State.setTop_of_frames _ hr', hr]
      rfl
    have hsame : U.sameButNew ({ U with heap := s₂.heap, slotsUsed := s₂.slotsUsed } : State) L mc ms := by
      refine ⟨?_, q2, q3, q4, q5, q6⟩
      obtain ⟨t, ht, -⟩ := State.frames_cons hr
      show ({ U with heap := s₂.heap, slotsUsed := s₂.slotsUsed } : State) = { U.setFrames U.frames with heap := s₂.heap, slotsUsed := s₂.slotsUsed }
      rw [State.setFrames_self ht]
    subst hg
    refine Or.inl ⟨v, ⟨(({ U with heap := s₂.heap, slotsUsed := s₂.slotsUsed } : State).setVm s₂.vm), Ls ++ L, c0 + mc, s0 + ms⟩,
      ⟨X.admits, X.cas, X.clock, X.frames, X.room, X.hears, X.method, X.code, (X.here.setHeapUsed s₂.heap s₂.slotsUsed).setVm hW'.alike, X.tail, State.WarmedH.trans X.warmed hW', X.limits, X.bytes, X.same.trans (hsame.setVm s.vm)⟩,
      ⟨g, mk, s₂, L, rfl, rfl, hqc, rfl, hL, rfl, rfl⟩, ?_⟩
    show Steps p.tables e below _ ((({ U with heap := s₂.heap, slotsUsed := s₂.slotsUsed } : State).setVm s₂.vm).setTop { g with pc := g.pc + len₂, stack := v.toList ++ g.stack })
    rw [← hs₂]
    exact hsteps
  · obtain ⟨e2, q2, q3, q4, q5, q6⟩ := id hsm
    have e3 : s₂ = ({ (U.calling g mk a).setFrames s₂.frames with heap := s₂.heap, slotsUsed := s₂.slotsUsed } : State).setVm s₂.vm := by
      have : s₂ = ({ s₂ with vm := (U.calling g mk a).vm } : State).setVm s₂.vm := rfl
      rw [e2] at this
      exact this
    have hf₂ : s₂.frames = .throwing q :: .java g :: U.frames.tail := hend
    have hW' : U.WarmedH s₂.vm := hW₂
    have hs₂ : s₂ = ((({ U with heap := s₂.heap, slotsUsed := s₂.slotsUsed } : State).setVm s₂.vm).setTop g).pushFrame (.throwing q) := by
      refine e3.trans ?_
      rw [hf₂, State.calling_eq h.top, State.setFrames_setFrames, State.pushFrame, State.frames_setTop _ hr', State.setTop_of_frames _ hr', State.setFrames_setFrames, hr]
      rfl
    have hsame : U.sameButNew ({ U with heap := s₂.heap, slotsUsed := s₂.slotsUsed } : State) L mc ms := by
      refine ⟨?_, q2, q3, q4, q5, q6⟩
      obtain ⟨t, ht, -⟩ := State.frames_cons hr
      show ({ U with heap := s₂.heap, slotsUsed := s₂.slotsUsed } : State) = { U.setFrames U.frames with heap := s₂.heap, slotsUsed := s₂.slotsUsed }
      rw [State.setFrames_self ht]
    subst hg
    refine Or.inr ⟨q, ⟨(({ U with heap := s₂.heap, slotsUsed := s₂.slotsUsed } : State).setVm s₂.vm), Ls ++ L, c0 + mc, s0 + ms⟩,
      ⟨X.admits, X.cas, X.clock, X.frames, X.room, X.hears, X.method, X.code, (X.here.setHeapUsed s₂.heap s₂.slotsUsed).setVm hW'.alike, X.tail, State.WarmedH.trans X.warmed hW', X.limits, X.bytes, X.same.trans (hsame.setVm s.vm)⟩,
      ⟨g, mk, s₂, L, E, ce, rfl, rfl, hx, hce, hcv, hcl, rfl, hL, rfl, rfl⟩, ?_⟩
    show Steps p.tables e below _ (((({ U with heap := s₂.heap, slotsUsed := s₂.slotsUsed } : State).setVm s₂.vm).setTop g).pushFrame (.throwing q))
    rw [← hs₂]
    exact hsteps
end Payer
section Calls
variable {p : Program} {l : Launch} {e : Env} {R : Room} {s : State} {m : MethodId} {args : Array Value} {below : List Frame} {meth : Method} {c : Code} {T : State} {locs : List Loc} {cells slots : Nat}
theorem vx_callV (X : Stand p l e R s m args below meth c T locs cells slots) (hexec : p.tables.exec = Jvm.exec) {own C : String} {index : Nat} {y : MethodName} {bytes : ByteArray} {maxL : Nat} {ret : Option FieldType}
    (hown : s.vm.findClass own = some m.cls) (hlink : (Cond.methodLink own index y).before args s = true) (hinst : (Cond.instanceMethod y).before args s = true) (hsel : (Cond.selects C y y).before args s = true)
    (hcode : (Cond.code y bytes maxL ret).before args s = true) (hy : y.cls ≠ "java/lang/invoke/MethodHandle" ∧ y.cls ≠ "java/lang/invoke/VarHandle")
    {W9 : Nat} {Pre : Pt → Array Value → Prop} {Post : Pt → Array Value → Option Value → Pt → Prop} {PostX : Pt → Array Value → Addr → Pt → Prop} (hK : vx_Back l R p e below s args y 3 W9 Pre Post PostX)
    {b : Addr} {cellB : Cell} (hcell : T.heap[b]? = some cellB) (hobj : cellB.vm.isStatics = false) (hcls : s.vm.findClass C = some cellB.cls)
    {g : JFrame} (hg : g.method = m) (hsize : g.locals.size = c.maxLocals) {argsL rest : List Value} (hlen : ∀ sig, parseMethodDescriptor y.desc = some sig → argsL.length = sig.parameters.length)
    (hstack : g.stack = argsL.reverse ++ .ref b :: rest) (hW : 2 * g.monitorRoom + (rest.map fun v => v.category).sum ≤ W9) (hdg : decode c.code g.pc = .ok (.invokevirtual index, 3))
    (hpre : ∀ vm₁, s.WarmedH vm₁ → Pre ⟨T.setVm vm₁, locs, cells, slots⟩ (Value.ref b :: argsL).toArray) :
    (∃ (v : Option Value) (vm₁ : Vm) (B : Pt), s.WarmedH vm₁ ∧ Stand p l e R s m args below meth c B.U B.locs B.cells B.slots ∧ Post ⟨T.setVm vm₁, locs, cells, slots⟩ (Value.ref b :: argsL).toArray v B ∧
      ∀ target, Steps p.tables e below (B.U.setTop { g with pc := g.pc + 3, stack := v.toList ++ rest }) target → Steps p.tables e below (T.setTop g) target) ∨
    (∃ (q : Addr) (vm₁ : Vm) (B : Pt), s.WarmedH vm₁ ∧ Stand p l e R s m args below meth c B.U B.locs B.cells B.slots ∧ PostX ⟨T.setVm vm₁, locs, cells, slots⟩ (Value.ref b :: argsL).toArray q B ∧
      Steps p.tables e below (T.setTop g) ((B.U.setTop { g with stack := rest }).pushFrame (.throwing q))) := by
  obtain ⟨mk, methM, hnamed, hmethM, hstM, habM⟩ := Cond.instanceMethod_spec hinst
  obtain ⟨methM', cM, hmethM', -, -, -, -, -, -, hsigM⟩ := Cond.code_spec hnamed hcode
  cases hmethM.symm.trans hmethM'
  obtain ⟨c2, r2, m2, q1, q2, q3, q4, kP, hkP, hkPi⟩ := Cond.selects_spec hsel
  cases hcls.symm.trans q1
  cases (State.methodFound?_of_named hnamed hy).symm.trans q2
  cases hnamed.symm.trans q3
  have hselP : selectMethod e.platform s.vm cellB.cls mk = .method mk := by rw [Launch.admits_selectMethod X.admits]; exact q4
  obtain ⟨vm₁, X₁, hstep₁⟩ := X.invokevirtual hexec hown hlink hnamed hmethM hstM hkP hkPi hy (a := b) (cell := cellB) hcell
    (fun z h => by rw [h] at hobj; cases hobj) hselP hmethM habM hkP hkPi (g := g) hg (argsL := argsL) (rest := rest) (hlen _ hsigM) hstack hdg
  rcases hK m meth c ⟨T.setVm vm₁, locs, cells, slots⟩ { g with stack := rest } (.invokevirtual index) mk (Value.ref b :: argsL).toArray X₁ hg hsize hdg hW (X₁.named hnamed) (hpre vm₁ X₁.warmed) with ⟨v, B, X', hpost, hsteps⟩ | ⟨q, B, X', hpost, hsteps⟩
  · exact Or.inl ⟨v, vm₁, B, X₁.warmed, X', hpost, fun target h => hstep₁ _ fun acts => by rw [doInvoke_state]; exact hsteps.trans h⟩
  · exact Or.inr ⟨q, vm₁, B, X₁.warmed, X', hpost, hstep₁ _ fun acts => by rw [doInvoke_state]; exact hsteps⟩
theorem vx_callS (X : Stand p l e R s m args below meth c T locs cells slots) (hexec : p.tables.exec = Jvm.exec) {own : String} {index : Nat} {y : MethodName} {bytes : ByteArray} {maxL : Nat} {ret : Option FieldType}
    (hown : s.vm.findClass own = some m.cls) (hlink : (Cond.methodLink own index y).before args s = true) (hstat : (Cond.static y).before args s = true) (hinit : (Cond.initialized y.cls).before args s = true)
    (hcode : (Cond.code y bytes maxL ret).before args s = true) (hy : y.cls ≠ "java/lang/invoke/MethodHandle" ∧ y.cls ≠ "java/lang/invoke/VarHandle")
    {W9 : Nat} {Pre : Pt → Array Value → Prop} {Post : Pt → Array Value → Option Value → Pt → Prop} {PostX : Pt → Array Value → Addr → Pt → Prop} (hK : vx_Back l R p e below s args y 3 W9 Pre Post PostX)
    {g : JFrame} (hg : g.method = m) (hsize : g.locals.size = c.maxLocals) {argsL rest : List Value} (hlen : ∀ sig, parseMethodDescriptor y.desc = some sig → argsL.length = sig.parameters.length)
    (hstack : g.stack = argsL.reverse ++ rest) (hW : 2 * g.monitorRoom + (rest.map fun v => v.category).sum ≤ W9) (hdg : decode c.code g.pc = .ok (.invokestatic index, 3))
    (hpre : ∀ vm₁, s.WarmedH vm₁ → Pre ⟨T.setVm vm₁, locs, cells, slots⟩ argsL.toArray) :
    (∃ (v : Option Value) (vm₁ : Vm) (B : Pt), s.WarmedH vm₁ ∧ Stand p l e R s m args below meth c B.U B.locs B.cells B.slots ∧ Post ⟨T.setVm vm₁, locs, cells, slots⟩ argsL.toArray v B ∧
      ∀ target, Steps p.tables e below (B.U.setTop { g with pc := g.pc + 3, stack := v.toList ++ rest }) target → Steps p.tables e below (T.setTop g) target) ∨
    (∃ (q : Addr) (vm₁ : Vm) (B : Pt), s.WarmedH vm₁ ∧ Stand p l e R s m args below meth c B.U B.locs B.cells B.slots ∧ PostX ⟨T.setVm vm₁, locs, cells, slots⟩ argsL.toArray q B ∧
      Steps p.tables e below (T.setTop g) ((B.U.setTop { g with stack := rest }).pushFrame (.throwing q))) := by
  obtain ⟨mk, hnamed⟩ := Cond.code_named hcode
  obtain ⟨methM, cM, hmethM, -, -, -, -, -, -, hsigM⟩ := Cond.code_spec hnamed hcode
  have hstatic : methM.isStatic = true := Cond.static_spec hnamed hmethM hstat
  obtain ⟨kP, hkP, -⟩ := className_of_methodNamed hnamed
  have hinitP : kP.init = .initialized := Cond.initialized_spec (findClass_of_methodNamed hnamed) hkP hinit
  obtain ⟨vm₁, X₁, hstep₁⟩ := X.invokestatic hexec hown hlink hnamed hmethM hstatic hkP hinitP hy (g := g) hg (argsL := argsL) (rest := rest) (hlen _ hsigM) hstack hdg
  rcases hK m meth c ⟨T.setVm vm₁, locs, cells, slots⟩ { g with stack := rest } (.invokestatic index) mk argsL.toArray X₁ hg hsize hdg hW (X₁.named hnamed) (hpre vm₁ X₁.warmed) with ⟨v, B, X', hpost, hsteps⟩ | ⟨q, B, X', hpost, hsteps⟩
  · exact Or.inl ⟨v, vm₁, B, X₁.warmed, X', hpost, fun target h => hstep₁ _ fun acts => by rw [doInvoke_state]; exact hsteps.trans h⟩
  · exact Or.inr ⟨q, vm₁, B, X₁.warmed, X', hpost, hstep₁ _ fun acts => by rw [doInvoke_state]; exact hsteps⟩
end Calls
theorem vx_cls {s : State} {T : State} {vm₁ : Vm} {E : String} {k : ClassId} (hW : s.WarmedH vm₁) (h : (T.setVm vm₁).vm.findClass E = some k) : s.vm.findClass E = some k := by
  have h1 : vm₁.findClass E = some k := h
  rw [hW.alike.findClass] at h1
  exact h1
/-- the method's frame g, with q thrown over it -/
def vx_W (p : Program) (l : Launch) (e : Env) (R : Room) (s : State) (m : MethodId) (args : Array Value) (below : List Frame) (meth : Method) (c : Code) (H : Heap) (locs : List Loc) (cells slots : Nat) (Q : State → Prop) (g : JFrame) (q : Addr) : Prop :=
  ∀ T : State, T.heap = H → Stand p l e R s m args below meth c T locs cells slots → ∃ t, Steps p.tables e below ((T.setTop g).pushFrame (.throwing q)) t ∧ Q t
def vx_Run (p : Program) (l : Launch) (e : Env) (R : Room) (s : State) (m : MethodId) (args : Array Value) (below : List Frame) (meth : Method) (c : Code) (H : Heap) (locs : List Loc) (cells slots mc ms : Nat) (g : JFrame) (rest : List Value) (Qa : State → Outcome → State → Prop) (XC : String → State → State → Prop) (free : Addr → Prop) : Prop :=
  ∀ T : State, T.heap = H → Stand p l e R s m args below meth c T locs cells slots →
    (∃ (v : Option Value) (st₀ t T' : State) (L : List Loc), st₀.heap = H ∧ Stand p l e R s m args below meth c T' (locs ++ L) (cells + mc) (slots + ms) ∧ (∀ q ∈ L, free q.base) ∧ T'.heap = t.heap ∧ T'.vm = t.vm ∧ Qa st₀ (.returned v) t ∧
      Goes p e below T g T' { g with pc := g.pc + 3, stack := v.toList ++ rest }) ∨
    (∃ (q : Addr) (st₀ t T' : State) (L : List Loc) (E : String) (ce : Cell), st₀.heap = H ∧ Stand p l e R s m args below meth c T' (locs ++ L) (cells + mc) (slots + ms) ∧ (∀ z ∈ L, free z.base) ∧ T'.heap = t.heap ∧ T'.vm = t.vm ∧ XC E st₀ t ∧ t.heap[q]? = some ce ∧ ce.vm = .none ∧ s.vm.findClass E = some ce.cls ∧
      Steps p.tables e below (T.setTop g) ((T'.setTop { g with stack := rest }).pushFrame (.throwing q)))
def vx_X {S : Type} (px : S → Prop) (B : String → S → State → Prop) (A : Nat → Prop) : String → State → State → Prop := fun E st t => ∃ u : S, px u ∧ B E u t ∧ va_F A st t
section Runs
variable {p : Program} {l : Launch} {e : Env} {R : Room} {s : State} {m : MethodId} {args : Array Value} {below : List Frame} {meth : Method} {c : Code} {H : Heap} {locs : List Loc} {cells slots : Nat}
variable {y : MethodName} {bytes cc : ByteArray} {maxL nL mc ms n index : Nat} {ret : Option FieldType} {ws : List Cond} {rm : Room} {Pc : Array Value → State → Prop} {Qc : Array Value → State → Outcome → State → Prop} {XC : String → State → State → Prop} {free : Addr → Prop} {Ts : List Cond} {own C : String} {b : Addr} {As rest : List Value} {g : JFrame}
theorem vx_callBack (cb : CallB R s args own index y bytes maxL ret ws rm mc ms n) (hM : vx_Met l y ws rm Pc Qc XC mc ms free) (hbl : FrameBlind Pc) : vx_Back l R p e below s args y 3 8 (PreOf R mc ms Pc) (PostOf Qc mc ms free) (vx_Post XC mc ms free) := by
  obtain ⟨hrc, hrs, hfr, hlo, hws, hcw, -, hini, -⟩ := cb
  exact vx_back (bytes := bytes) (maxL := maxL) (ret := ret) hM hbl hrc hrs hfr hlo hws hcw (fun a' U hW => word_at hW (Or.inl (by first | rfl | simp [Cond.onTables, Cond.keeps, Cond.steady])) hini)
theorem vx_runV (S : CallFix p m c cc nL s args Ts own) (hM : vx_Met l y ws rm Pc Qc XC mc ms free) (cw : CallW R s args own C index y bytes maxL ret ws rm mc ms n) (hp : PreV s H C b Pc As)
    (hg : g.method = m) (hn : As.length = n) (hsize : g.locals.size = nL) (hstack : g.stack = As.reverse ++ .ref b :: rest) (hW : 2 * g.monitorRoom + (rest.map fun v => v.category).sum ≤ 8) (hdg : decode cc g.pc = .ok (.invokevirtual index, 3)) (hf : cells + mc ≤ R.cells ∧ slots + ms ≤ R.slots) :
    vx_Run p l e R s m args below meth c H locs cells slots mc ms g rest (Qc (Value.ref b :: As).toArray) XC free := by
  have hK : vx_Back l R p e below s args y 3 8 (PreOf R mc ms Pc) (PostOf Qc mc ms free) (vx_Post XC mc ms free) := vx_callBack cw.1 hM hp.1
  obtain ⟨⟨-, -, -, -, -, -, hcode, -, hy, hlen, hl⟩, hin, hse⟩ := cw
  obtain ⟨hx, hb, hml, ho, -⟩ := S
  obtain ⟨-, ⟨cellB, hcB, hoB, hclB⟩, hPc⟩ := hp
  intro T hT X
  rcases vx_callV X hx (C := C) (bytes := bytes) (maxL := maxL) (ret := ret) ho hl hin hse hcode hy hK (by rw [hT]; exact hcB) hoB hclB hg (hsize.trans hml.symm) (argsL := As) (rest := rest) (fun sig h => hn.trans (hlen sig h)) hstack hW (by rw [hb]; exact hdg)
    (fun vm₁ hW₁ => ⟨hf.1, hf.2, hPc (T.setVm vm₁) hT hW₁⟩) with ⟨v, vm₁, ⟨U', l2, c2, s2⟩, hW₁, X', ⟨g', mk, t, L, e1, e2, hq, h1, hL, h2, h3⟩, st⟩ | ⟨q, vm₁, ⟨U', l2, c2, s2⟩, hW₁, X', ⟨g', mk, t, L, E, ce, e1, e2, hq, hce, hcv, hcl, h1, hL, h2, h3⟩, st⟩
  · dsimp only [Pt.U, Pt.locs, Pt.cells, Pt.slots] at X' e1 e2 h1 h2 h3 st
    subst h1; subst h2; subst h3
    exact Or.inl ⟨v, (T.setVm vm₁).calling g' mk (Value.ref b :: As).toArray, t, U', L, hT, X', hL, e1, e2, hq, st⟩
  · dsimp only [Pt.U, Pt.locs, Pt.cells, Pt.slots] at X' e1 e2 h1 h2 h3 st hcl
    subst h1; subst h2; subst h3
    exact Or.inr ⟨q, (T.setVm vm₁).calling g' mk (Value.ref b :: As).toArray, t, U', L, E, ce, hT, X', hL, e1, e2, hq, hce, hcv, vx_cls hW₁ hcl, st⟩
theorem vx_runS (S : CallFix p m c cc nL s args Ts own) (hM : vx_Met l y ws rm Pc Qc XC mc ms free) (cw : CallB R s args own index y bytes maxL ret ws rm mc ms n ∧ (Cond.static y).before args s = true) (hp : PreS s H Pc As)
    (hg : g.method = m) (hn : As.length = n) (hsize : g.locals.size = nL) (hstack : g.stack = As.reverse ++ rest) (hW : 2 * g.monitorRoom + (rest.map fun v => v.category).sum ≤ 8) (hdg : decode cc g.pc = .ok (.invokestatic index, 3)) (hf : cells + mc ≤ R.cells ∧ slots + ms ≤ R.slots) :
    vx_Run p l e R s m args below meth c H locs cells slots mc ms g rest (Qc As.toArray) XC free := by
  have hK : vx_Back l R p e below s args y 3 8 (PreOf R mc ms Pc) (PostOf Qc mc ms free) (vx_Post XC mc ms free) := vx_callBack cw.1 hM hp.1
  obtain ⟨⟨-, -, -, -, -, -, hcode, hini, hy, hlen, hl⟩, hstt⟩ := cw
  obtain ⟨hx, hb, hml, ho, -⟩ := S
  intro T hT X
  rcases vx_callS X hx (bytes := bytes) (maxL := maxL) (ret := ret) ho hl hstt hini hcode hy hK hg (hsize.trans hml.symm) (argsL := As) (rest := rest) (fun sig h => hn.trans (hlen sig h)) hstack hW (by rw [hb]; exact hdg)
    (fun vm₁ hW₁ => ⟨hf.1, hf.2, hp.2 (T.setVm vm₁) hT hW₁⟩) with ⟨v, vm₁, ⟨U', l2, c2, s2⟩, hW₁, X', ⟨g', mk, t, L, e1, e2, hq, h1, hL, h2, h3⟩, st⟩ | ⟨q, vm₁, ⟨U', l2, c2, s2⟩, hW₁, X', ⟨g', mk, t, L, E, ce, e1, e2, hq, hce, hcv, hcl, h1, hL, h2, h3⟩, st⟩
  · dsimp only [Pt.U, Pt.locs, Pt.cells, Pt.slots] at X' e1 e2 h1 h2 h3 st
    subst h1; subst h2; subst h3
    exact Or.inl ⟨v, (T.setVm vm₁).calling g' mk As.toArray, t, U', L, hT, X', hL, e1, e2, hq, st⟩
  · dsimp only [Pt.U, Pt.locs, Pt.cells, Pt.slots] at X' e1 e2 h1 h2 h3 st hcl
    subst h1; subst h2; subst h3
    exact Or.inr ⟨q, (T.setVm vm₁).calling g' mk As.toArray, t, U', L, E, ce, hT, X', hL, e1, e2, hq, hce, hcv, vx_cls hW₁ hcl, st⟩
end Runs
section Rows
variable {p : Program} {l : Launch} {e : Env} {R : Room} {s : State} {m : MethodId} {args : Array Value} {below : List Frame} {meth : Method} {c : Code} {H : Heap} {locs : List Loc} {cells slots : Nat} {Q : State → Prop}
variable {mc ms : Nat} {free : Addr → Prop} {A0 A1 : Nat → Prop} {H0 : Heap} {a : Array Value} {pc : Nat} {ls : Array Slot} {st0 rest : List Value}
theorem vx_keep {st₀ t T' : State} {L : List Loc} (h0 : st₀.heap = H) (e1 : T'.heap = t.heap) (hS : va_S A0 H0 H locs) (hA : ∀ q, q < H.size → A1 q → A0 q) (hf : ∀ q, free q → A0 q) (hL : ∀ q ∈ L, free q.base) (hF : va_F A1 st₀ t) :
    H.size ≤ T'.heap.size ∧ (∀ q : Nat, q < H.size → ¬ A1 q → T'.heap[q]? = H[q]?) ∧ va_S A0 H0 T'.heap (locs ++ L) := by
  obtain ⟨hz, hk⟩ := hF
  rw [h0] at hz hk
  exact ⟨by rw [e1]; exact hz, fun q h1 h2 => by rw [e1]; exact hk q h1 h2,
    ⟨Nat.le_trans hS.1 (by rw [e1]; exact hz), fun q h1 h2 => by rw [e1, hk q (Nat.lt_of_lt_of_le h1 hS.1) (fun z => h2 (hA q (Nat.lt_of_lt_of_le h1 hS.1) z))]; exact hS.2.1 q h1 h2, fun q hq => by
      rcases List.mem_append.mp hq with h | h
      · exact hS.2.2 q h
      · exact hf _ (hL q h)⟩⟩
theorem vx_calli {S SX : Type} {post : Int32 → S → Prop} {px : SX → Prop} {B : S → State → Prop} {BX : String → SX → State → Prop} {AX : Nat → Prop} (hr : vx_Run p l e R s m args below meth c H locs cells slots mc ms (F0 m pc ls st0) rest (va_Qi post B A1 a) (vx_X px BX AX) free) (hS : va_S A0 H0 H locs) (hA : ∀ q, q < H.size → A1 q → A0 q) (hf : ∀ q, free q → A0 q) (hAX : ∀ q, q < H.size → AX q → A0 q)
    (kx : ∀ (E : String) (ce : Cell) (q9 : Addr) (u : SX) (t : State) (H1 : Heap) (locs1 : List Loc), t.heap = H1 → s.vm.Alike t.vm → px u → BX E u t → H.size ≤ H1.size → (∀ q : Nat, q < H.size → ¬ AX q → H1[q]? = H[q]?) → va_S A0 H0 H1 locs1 → H1[q9]? = some ce → ce.vm = .none → s.vm.findClass E = some ce.cls → vx_W p l e R s m args below meth c H1 locs1 (cells + mc) (slots + ms) Q (F0 m pc ls rest) q9)
    (kk : ∀ (r : Int32) (u : S) (t : State) (H1 : Heap) (locs1 : List Loc), t.heap = H1 → s.vm.Alike t.vm → post r u → B u t → H.size ≤ H1.size → (∀ q : Nat, q < H.size → ¬ A1 q → H1[q]? = H[q]?) → va_S A0 H0 H1 locs1 → W p l e R s m args below meth c H1 locs1 (cells + mc) (slots + ms) Q (F0 m (pc + 3) ls (.int r :: rest))) : W p l e R s m args below meth c H locs cells slots Q (F0 m pc ls st0) := by
  intro T hT X
  rcases hr T hT X with ⟨v, st₀, t, T', L, h0, X', hL, e1, e2, ⟨⟨r, u, hv, hp, hb⟩, hF⟩, st⟩ | ⟨q, st₀, t, T', L, E, ce, h0, X', hL, e1, e2, ⟨u, hp, hb, hF⟩, hce, hcv, hcl, st⟩
  · cases hv
    obtain ⟨k1, k2, k3⟩ := vx_keep h0 e1 hS hA hf hL hF
    obtain ⟨t2, a1, b1⟩ := kk r u t T'.heap (locs ++ L) e1.symm (by rw [← e2]; exact X'.warmed.alike) hp hb k1 k2 k3 T' rfl X'
    exact ⟨t2, st t2 a1, b1⟩
  · obtain ⟨k1, k2, k3⟩ := vx_keep h0 e1 hS hAX hf hL hF
    obtain ⟨t2, a1, b1⟩ := kx E ce q u t T'.heap (locs ++ L) e1.symm (by rw [← e2]; exact X'.warmed.alike) hp hb k1 k2 k3 (by rw [e1]; exact hce) hcv hcl T' rfl X'
    exact ⟨t2, st.trans a1, b1⟩
theorem vx_calll {S SX : Type} {post : Int64 → S → Prop} {px : SX → Prop} {B : S → State → Prop} {BX : String → SX → State → Prop} {AX : Nat → Prop} (hr : vx_Run p l e R s m args below meth c H locs cells slots mc ms (F0 m pc ls st0) rest (va_Ql post B A1 a) (vx_X px BX AX) free) (hS : va_S A0 H0 H locs) (hA : ∀ q, q < H.size → A1 q → A0 q) (hf : ∀ q, free q → A0 q) (hAX : ∀ q, q < H.size → AX q → A0 q)
    (kx : ∀ (E : String) (ce : Cell) (q9 : Addr) (u : SX) (t : State) (H1 : Heap) (locs1 : List Loc), t.heap = H1 → s.vm.Alike t.vm → px u → BX E u t → H.size ≤ H1.size → (∀ q : Nat, q < H.size → ¬ AX q → H1[q]? = H[q]?) → va_S A0 H0 H1 locs1 → H1[q9]? = some ce → ce.vm = .none → s.vm.findClass E = some ce.cls → vx_W p l e R s m args below meth c H1 locs1 (cells + mc) (slots + ms) Q (F0 m pc ls rest) q9)
    (kk : ∀ (r : Int64) (u : S) (t : State) (H1 : Heap) (locs1 : List Loc), t.heap = H1 → s.vm.Alike t.vm → post r u → B u t → H.size ≤ H1.size → (∀ q : Nat, q < H.size → ¬ A1 q → H1[q]? = H[q]?) → va_S A0 H0 H1 locs1 → W p l e R s m args below meth c H1 locs1 (cells + mc) (slots + ms) Q (F0 m (pc + 3) ls (.long r :: rest))) : W p l e R s m args below meth c H locs cells slots Q (F0 m pc ls st0) := by
  intro T hT X
  rcases hr T hT X with ⟨v, st₀, t, T', L, h0, X', hL, e1, e2, ⟨⟨r, u, hv, hp, hb⟩, hF⟩, st⟩ | ⟨q, st₀, t, T', L, E, ce, h0, X', hL, e1, e2, ⟨u, hp, hb, hF⟩, hce, hcv, hcl, st⟩
  · cases hv
    obtain ⟨k1, k2, k3⟩ := vx_keep h0 e1 hS hA hf hL hF
    obtain ⟨t2, a1, b1⟩ := kk r u t T'.heap (locs ++ L) e1.symm (by rw [← e2]; exact X'.warmed.alike) hp hb k1 k2 k3 T' rfl X'
    exact ⟨t2, st t2 a1, b1⟩
  · obtain ⟨k1, k2, k3⟩ := vx_keep h0 e1 hS hAX hf hL hF
    obtain ⟨t2, a1, b1⟩ := kx E ce q u t T'.heap (locs ++ L) e1.symm (by rw [← e2]; exact X'.warmed.alike) hp hb k1 k2 k3 (by rw [e1]; exact hce) hcv hcl T' rfl X'
    exact ⟨t2, st.trans a1, b1⟩
theorem vx_callf {S SX : Type} {post : UInt32 → S → Prop} {px : SX → Prop} {B : S → State → Prop} {BX : String → SX → State → Prop} {AX : Nat → Prop} (hr : vx_Run p l e R s m args below meth c H locs cells slots mc ms (F0 m pc ls st0) rest (va_Qf post B A1 a) (vx_X px BX AX) free) (hS : va_S A0 H0 H locs) (hA : ∀ q, q < H.size → A1 q → A0 q) (hf : ∀ q, free q → A0 q) (hAX : ∀ q, q < H.size → AX q → A0 q)
    (kx : ∀ (E : String) (ce : Cell) (q9 : Addr) (u : SX) (t : State) (H1 : Heap) (locs1 : List Loc), t.heap = H1 → s.vm.Alike t.vm → px u → BX E u t → H.size ≤ H1.size → (∀ q : Nat, q < H.size → ¬ AX q → H1[q]? = H[q]?) → va_S A0 H0 H1 locs1 → H1[q9]? = some ce → ce.vm = .none → s.vm.findClass E = some ce.cls → vx_W p l e R s m args below meth c H1 locs1 (cells + mc) (slots + ms) Q (F0 m pc ls rest) q9)
    (kk : ∀ (r : UInt32) (u : S) (t : State) (H1 : Heap) (locs1 : List Loc), t.heap = H1 → s.vm.Alike t.vm → post r u → B u t → H.size ≤ H1.size → (∀ q : Nat, q < H.size → ¬ A1 q → H1[q]? = H[q]?) → va_S A0 H0 H1 locs1 → W p l e R s m args below meth c H1 locs1 (cells + mc) (slots + ms) Q (F0 m (pc + 3) ls (.float r :: rest))) : W p l e R s m args below meth c H locs cells slots Q (F0 m pc ls st0) := by
  intro T hT X
  rcases hr T hT X with ⟨v, st₀, t, T', L, h0, X', hL, e1, e2, ⟨⟨r, u, hv, hp, hb⟩, hF⟩, st⟩ | ⟨q, st₀, t, T', L, E, ce, h0, X', hL, e1, e2, ⟨u, hp, hb, hF⟩, hce, hcv, hcl, st⟩
  · cases hv
    obtain ⟨k1, k2, k3⟩ := vx_keep h0 e1 hS hA hf hL hF
    obtain ⟨t2, a1, b1⟩ := kk r u t T'.heap (locs ++ L) e1.symm (by rw [← e2]; exact X'.warmed.alike) hp hb k1 k2 k3 T' rfl X'
    exact ⟨t2, st t2 a1, b1⟩
  · obtain ⟨k1, k2, k3⟩ := vx_keep h0 e1 hS hAX hf hL hF
    obtain ⟨t2, a1, b1⟩ := kx E ce q u t T'.heap (locs ++ L) e1.symm (by rw [← e2]; exact X'.warmed.alike) hp hb k1 k2 k3 (by rw [e1]; exact hce) hcv hcl T' rfl X'
    exact ⟨t2, st.trans a1, b1⟩
theorem vx_calld {S SX : Type} {post : UInt64 → S → Prop} {px : SX → Prop} {B : S → State → Prop} {BX : String → SX → State → Prop} {AX : Nat → Prop} (hr : vx_Run p l e R s m args below meth c H locs cells slots mc ms (F0 m pc ls st0) rest (va_Qd post B A1 a) (vx_X px BX AX) free) (hS : va_S A0 H0 H locs) (hA : ∀ q, q < H.size → A1 q → A0 q) (hf : ∀ q, free q → A0 q) (hAX : ∀ q, q < H.size → AX q → A0 q)
    (kx : ∀ (E : String) (ce : Cell) (q9 : Addr) (u : SX) (t : State) (H1 : Heap) (locs1 : List Loc), t.heap = H1 → s.vm.Alike t.vm → px u → BX E u t → H.size ≤ H1.size → (∀ q : Nat, q < H.size → ¬ AX q → H1[q]? = H[q]?) → va_S A0 H0 H1 locs1 → H1[q9]? = some ce → ce.vm = .none → s.vm.findClass E = some ce.cls → vx_W p l e R s m args below meth c H1 locs1 (cells + mc) (slots + ms) Q (F0 m pc ls rest) q9)
    (kk : ∀ (r : UInt64) (u : S) (t : State) (H1 : Heap) (locs1 : List Loc), t.heap = H1 → s.vm.Alike t.vm → post r u → B u t → H.size ≤ H1.size → (∀ q : Nat, q < H.size → ¬ A1 q → H1[q]? = H[q]?) → va_S A0 H0 H1 locs1 → W p l e R s m args below meth c H1 locs1 (cells + mc) (slots + ms) Q (F0 m (pc + 3) ls (.double r :: rest))) : W p l e R s m args below meth c H locs cells slots Q (F0 m pc ls st0) := by
  intro T hT X
  rcases hr T hT X with ⟨v, st₀, t, T', L, h0, X', hL, e1, e2, ⟨⟨r, u, hv, hp, hb⟩, hF⟩, st⟩ | ⟨q, st₀, t, T', L, E, ce, h0, X', hL, e1, e2, ⟨u, hp, hb, hF⟩, hce, hcv, hcl, st⟩
  · cases hv
    obtain ⟨k1, k2, k3⟩ := vx_keep h0 e1 hS hA hf hL hF
    obtain ⟨t2, a1, b1⟩ := kk r u t T'.heap (locs ++ L) e1.symm (by rw [← e2]; exact X'.warmed.alike) hp hb k1 k2 k3 T' rfl X'
    exact ⟨t2, st t2 a1, b1⟩
  · obtain ⟨k1, k2, k3⟩ := vx_keep h0 e1 hS hAX hf hL hF
    obtain ⟨t2, a1, b1⟩ := kx E ce q u t T'.heap (locs ++ L) e1.symm (by rw [← e2]; exact X'.warmed.alike) hp hb k1 k2 k3 (by rw [e1]; exact hce) hcv hcl T' rfl X'
    exact ⟨t2, st.trans a1, b1⟩
theorem vx_callv {S SX : Type} {post : S → Prop} {px : SX → Prop} {B : S → State → Prop} {BX : String → SX → State → Prop} {AX : Nat → Prop} (hr : vx_Run p l e R s m args below meth c H locs cells slots mc ms (F0 m pc ls st0) rest (va_Qv post B A1 a) (vx_X px BX AX) free) (hS : va_S A0 H0 H locs) (hA : ∀ q, q < H.size → A1 q → A0 q) (hf : ∀ q, free q → A0 q) (hAX : ∀ q, q < H.size → AX q → A0 q)
    (kx : ∀ (E : String) (ce : Cell) (q9 : Addr) (u : SX) (t : State) (H1 : Heap) (locs1 : List Loc), t.heap = H1 → s.vm.Alike t.vm → px u → BX E u t → H.size ≤ H1.size → (∀ q : Nat, q < H.size → ¬ AX q → H1[q]? = H[q]?) → va_S A0 H0 H1 locs1 → H1[q9]? = some ce → ce.vm = .none → s.vm.findClass E = some ce.cls → vx_W p l e R s m args below meth c H1 locs1 (cells + mc) (slots + ms) Q (F0 m pc ls rest) q9)
    (kk : ∀ (u : S) (t : State) (H1 : Heap) (locs1 : List Loc), t.heap = H1 → s.vm.Alike t.vm → post u → B u t → H.size ≤ H1.size → (∀ q : Nat, q < H.size → ¬ A1 q → H1[q]? = H[q]?) → va_S A0 H0 H1 locs1 → W p l e R s m args below meth c H1 locs1 (cells + mc) (slots + ms) Q (F0 m (pc + 3) ls (rest))) : W p l e R s m args below meth c H locs cells slots Q (F0 m pc ls st0) := by
  intro T hT X
  rcases hr T hT X with ⟨v, st₀, t, T', L, h0, X', hL, e1, e2, ⟨⟨u, hv, hp, hb⟩, hF⟩, st⟩ | ⟨q, st₀, t, T', L, E, ce, h0, X', hL, e1, e2, ⟨u, hp, hb, hF⟩, hce, hcv, hcl, st⟩
  · cases hv
    obtain ⟨k1, k2, k3⟩ := vx_keep h0 e1 hS hA hf hL hF
    obtain ⟨t2, a1, b1⟩ := kk u t T'.heap (locs ++ L) e1.symm (by rw [← e2]; exact X'.warmed.alike) hp hb k1 k2 k3 T' rfl X'
    exact ⟨t2, st t2 a1, b1⟩
  · obtain ⟨k1, k2, k3⟩ := vx_keep h0 e1 hS hAX hf hL hF
    obtain ⟨t2, a1, b1⟩ := kx E ce q u t T'.heap (locs ++ L) e1.symm (by rw [← e2]; exact X'.warmed.alike) hp hb k1 k2 k3 (by rw [e1]; exact hce) hcv hcl T' rfl X'
    exact ⟨t2, st.trans a1, b1⟩
/-- caught by the row x of this method's table; the rows ahead don't take it -/
theorem vx_catch {own name : String} {E : String} {ce : Cell} {q : Addr} (hown : s.vm.findClass own = some m.cls) (pre : List ExceptionTableEntry) (x : ExceptionTableEntry) (suf : List ExceptionTableEntry) (hsplit : c.exceptionTable.toList = pre ++ x :: suf)
    (hpass : ∀ z ∈ pre, covers z pc = false ∨ (z.catchType ≠ 0 ∧ ∃ nm : String, (Cond.classLink own z.catchType nm).before args s = true ∧ va_Nc E nm s)) (hx : covers x pc = true) (h0 : x.catchType ≠ 0)
    (hlink : (Cond.classLink own x.catchType name).before args s = true) (hcast : (Cond.castable E name).before args s = true) (hcell : H[q]? = some ce) (hv : ce.vm = .none) (hcl : s.vm.findClass E = some ce.cls)
    (kk : W p l e R s m args below meth c H locs cells slots Q (F0 m x.handlerPc ls [.ref q])) : vx_W p l e R s m args below meth c H locs cells slots Q (F0 m pc ls rest) q := by
  intro T hT X
  have hpl : e.platform.magicAccessors = ({} : Platform).magicAccessors := by rw [X.admits.platform]
  obtain ⟨c3, c4, hc3, hc4, hasg⟩ := Cond.castable_spec hcast
  cases Option.some.inj (hc3.symm.trans hcl)
  obtain ⟨c5, hc5, hcl5⟩ := Cond.classLink_spec hown hlink e.platform hpl
  cases Option.some.inj (hc4.symm.trans hc5)
  obtain ⟨vm', X', st⟩ := X.thenCaughtThrough q (g := F0 m pc ls rest) rfl (Steps.refl _) (by rw [hT]; exact hcell) (by rw [hv]; rfl) (by obtain ⟨k9, h9, -⟩ := Vm.findClass_spec hcl; exact ⟨k9, h9⟩) pre x suf hsplit
    (fun z hz => by
      rcases hpass z hz with h | ⟨hz0, nm, hl1, hn1⟩
      · exact Or.inl h
      · obtain ⟨c6, hc6, hcl6⟩ := Cond.classLink_spec hown hl1 e.platform hpl
        obtain ⟨a8, b8, h1, h2, h3⟩ := hn1
        cases Option.some.inj (h1.symm.trans hcl)
        cases Option.some.inj (h2.symm.trans hc6)
        exact Or.inr ⟨hz0, _, hcl6, h3⟩) hx (Or.inr ⟨h0, c4, hcl5, hasg⟩)
  obtain ⟨t, a1, b1⟩ := kk (T.setVm vm') hT X'
  exact ⟨t, st.trans a1, b1⟩
end Rows
section Ends
variable {p : Program} {l : Launch} {e : Env} {R : Room} {s : State} {m : MethodId} {args : Array Value} {below : List Frame} {meth : Method} {c : Code} {H : Heap} {locs : List Loc} {cells slots : Nat} {Q : State → Prop}
variable {mc ms : Nat} {free : Addr → Prop} {A0 A1 : Nat → Prop} {H0 : Heap} {a : Array Value} {ls : Array Slot} {st0 rest : List Value}
variable {Qc : Array Value → State → Outcome → State → Prop} {XC : String → State → State → Prop}
/-- what a body that may throw owes at its end -/
def vx_MQ (below : List Frame) (Qc : Array Value → State → Outcome → State → Prop) (XC : String → State → State → Prop) (a : Array Value) (s : State) (mc ms : Nat) (free : Addr → Prop) : State → Prop := fun t =>
  ∃ o, t.status = .running ∧ Ended t below o ∧ vx_Q Qc XC mc ms free a s o t
theorem vx_ret {g : JFrame} {mc ms : Nat} (k : W p l e R s m args below meth c H locs cells slots (MQ below Qc args s mc ms free) g) : W p l e R s m args below meth c H locs cells slots (vx_MQ below Qc XC args s mc ms free) g := by
  intro T hT X
  obtain ⟨t, a1, o, b1, b2, b3, b4⟩ := k T hT X
  exact ⟨t, a1, o, b1, b2, Or.inl ⟨b3, b4⟩⟩
/-- not caught here: it goes on to the caller -/
theorem vx_widen {g : JFrame} {q : Addr} {k n : Nat} (h1 : cells ≤ k) (h2 : slots ≤ n) (kk : vx_W p l e R s m args below meth c H locs k n Q g q) : vx_W p l e R s m args below meth c H locs cells slots Q g q := fun T hT X => kk T hT (stand_widen X h1 h2)
theorem vx_out {pc : Nat} {E : String} {ce : Cell} {q : Addr} {mc ms : Nat} (hout : ∀ x ∈ c.exceptionTable.toList, covers x pc = false) (hlocks : meth.locks = false) (hcell : H[q]? = some ce) (hv : ce.vm = .none) (hcl : s.vm.findClass E = some ce.cls)
    (hx : ∀ t : State, t.heap = H → s.vm.Alike t.vm → XC E s t) (hf : ∀ z ∈ locs, free z.base) (hc : cells ≤ mc) (hs : slots ≤ ms) :
    vx_W p l e R s m args below meth c H locs cells slots (vx_MQ below Qc XC args s mc ms free) (F0 m pc ls rest) q := by
  intro T hT X
  obtain ⟨st1, hrun, hend, hW, hsm⟩ := X.leaveThrown q (g := F0 m pc ls rest) rfl rfl rfl hout hlocks
  have hcell9 : (T.setFrames (.throwing q :: below)).heap[q]? = some ce := by
    show T.heap[q]? = some ce
    rw [hT]; exact hcell
  exact ⟨_, st1, .threw q, hrun, hend, Or.inr ⟨q, rfl, E, ce, locs, hx _ hT hW.alike, hcell9, hv, hcl, hW, hsm.mono hc hs, hf⟩⟩
theorem vx_frame {U : State} {k n : Nat} (h : s.sameButNew ({ U with vm := s.vm } : State) locs k n) : s.heap.size ≤ U.heap.size ∧ ∀ q : Nat, q < s.heap.size → (∀ z ∈ locs, z.base ≠ q) → U.heap[q]? = s.heap[q]? := by
  obtain ⟨-, h2, -, -, -, h6⟩ := h
  refine ⟨h2, fun q hq hz => ?_⟩
  obtain ⟨c9, e1, e2, e3, e4⟩ := h6 q _ (Array.getElem?_eq_getElem hq)
  have hs : c9.slots = (s.heap[q]).slots := Array.ext_getElem? fun i => e4 i fun hm => hz _ hm rfl
  have h9 : c9 = s.heap[q] := by
    rw [hs] at e2
    exact e2
  have e5 : U.heap[q]? = some c9 := e1
  rw [e5, h9, Array.getElem?_eq_getElem hq]
/-- the words of a throw but the four that speak of the heap -/
def vx_no (w : Cond) : Bool := decide (w ≠ .isRef (.static Bundle.tN "UNASSIGNED_STACK" Bundle.steD)) && decide (w ≠ .isRef (.static Bundle.tN "SUPPRESSED_SENTINEL" Bundle.listD)) && decide (w ≠ .laysStatic Bundle.tN "UNASSIGNED_STACK" Bundle.steD) && decide (w ≠ .laysStatic Bundle.tN "SUPPRESSED_SENTINEL" Bundle.listD)
def vx_at0 (own : String) (ic : Nat) (X : String) (names : List String) : List Cond := (Bundle.ownAtoms0 own ic X names).filter vx_no
def vx_atS (own : String) (ic : Nat) (X : String) (names : List String) : List Cond := (Bundle.ownAtoms own ic X names).filter vx_no
/-- a word that the tables alone decide, or a good one -/
def vx_ot (w : Cond) : Bool := w.onTables || goodWord w
theorem vx_ot_at {args a' : Array Value} {s U : State} {w : Cond} (hW : s.WarmedH U.vm) (hvm : s.vm = U.vm) (hg : vx_ot w = true) (h : w.before args s = true) : w.before a' U = true := by
  simp only [vx_ot, Bool.or_eq_true] at hg
  rcases hg with hg | hg
  · exact va_tabs hg hvm h
  · exact word_at hW (good_of_word hg) h
/-- a list's words: the good ones out of the method's own list, the others by premises of their own -/
theorem vx_hat {args : Array Value} {s : State} {L B : List Cond} (h1 : ∀ w ∈ L.filter goodWord, w.before args s = true) (h2 : ∀ w ∈ L.filter (fun w => !goodWord w), w ∈ B) (h3 : ∀ w ∈ B, w.before args s = true) : ∀ w ∈ L, w.before args s = true := by
  intro w hw
  by_cases g : goodWord w = true
  · exact h1 w (List.mem_filter.mpr ⟨hw, g⟩)
  · refine h3 w (h2 w (List.mem_filter.mpr ⟨hw, ?_⟩))
    show (!goodWord w) = true
    cases hgw : goodWord w
    · rfl
    · exact absurd hgw g
theorem vx_c {args : Array Value} {s : State} {w : Cond} {B : List Cond} (h : w.before args s = true) (t : ∀ w ∈ B, w.before args s = true) : ∀ w' ∈ w :: B, w'.before args s = true := fun w' h' => (List.mem_cons.mp h').elim (fun e => by rw [e]; exact h) (t w')
theorem vx_n {args : Array Value} {s : State} : ∀ w ∈ ([] : List Cond), w.before args s = true := fun _ h => nomatch h
theorem vx_own {args : Array Value} {s : State} {L : List Cond} (h1 : ∀ w ∈ L.filter vx_no, w.before args s = true)
    (hU : (Cond.isRef (.static Bundle.tN "UNASSIGNED_STACK" Bundle.steD)).before args s = true) (hN : (Cond.isRef (.static Bundle.tN "SUPPRESSED_SENTINEL" Bundle.listD)).before args s = true)
    (lU : (Cond.laysStatic Bundle.tN "UNASSIGNED_STACK" Bundle.steD).before args s = true) (lN : (Cond.laysStatic Bundle.tN "SUPPRESSED_SENTINEL" Bundle.listD).before args s = true) : ∀ w ∈ L, w.before args s = true := by
  intro w hw
  by_cases e1 : w = .isRef (.static Bundle.tN "UNASSIGNED_STACK" Bundle.steD)
  · rw [e1]; exact hU
  · by_cases e2 : w = .isRef (.static Bundle.tN "SUPPRESSED_SENTINEL" Bundle.listD)
    · rw [e2]; exact hN
    · by_cases e3 : w = .laysStatic Bundle.tN "UNASSIGNED_STACK" Bundle.steD
      · rw [e3]; exact lU
      · by_cases e4 : w = .laysStatic Bundle.tN "SUPPRESSED_SENTINEL" Bundle.listD
        · rw [e4]; exact lN
        · exact h1 w (List.mem_filter.mpr ⟨hw, by unfold vx_no; rw [decide_eq_true e1, decide_eq_true e2, decide_eq_true e3, decide_eq_true e4]; rfl⟩)
/-- where a static field lies, its class's statics cell in H -/
def vx_L (C n d : String) (A : Nat → Prop) (U : State) (H : Heap) : Prop := ∃ (c : ClassId) (k : Class) (i : Nat) (f : Field) (a : Nat) (cell : Cell), U.vm.findClass C = some c ∧ U.fieldFound? C n d = some (c, k, i, f) ∧ f.isStatic = true ∧ k.statics = some a ∧ H[a]? = some cell ∧ cell.vm.isStatics = true ∧ cell.cls = c ∧ f.slot < cell.slots.size ∧ k.staticTypes[f.slot]? = some f.type ∧ ¬ A a
theorem vx_L.moved {C n d : String} {A : Nat → Prop} {u U : State} {H : Heap} (hvm : u.vm.Alike U.vm) (h : vx_L C n d A u H) : vx_L C n d A U H := by
  obtain ⟨c, k, i, f, a, cell, h1, h2, h3, h4, h5, h6, h7, h8, h9, h10⟩ := h
  obtain ⟨k', hi', he⟩ := State.fieldFound?_setVm hvm h2
  exact ⟨c, k', i, f, a, cell, by rw [hvm.findClass]; exact h1, hi', h3, by rw [he]; exact h4, h5, h6, h7, h8, by rw [he]; exact h9, h10⟩
theorem vx_L.kept {C n d : String} {A : Nat → Prop} {U : State} {H H1 : Heap} (h : vx_L C n d A U H) (hq : ∀ a : Nat, a < H.size → ¬ A a → H1[a]? = H[a]?) : vx_L C n d A U H1 := by
  obtain ⟨c, k, i, f, a, cell, h1, h2, h3, h4, h5, h6, h7, h8, h9, h10⟩ := h
  exact ⟨c, k, i, f, a, cell, h1, h2, h3, h4, by rw [hq a (Array.getElem?_eq_some_iff.mp h5).1 h10]; exact h5, h6, h7, h8, h9, h10⟩
theorem vx_L.narrow {C n d : String} {A B : Nat → Prop} {U : State} {H : Heap} (h : vx_L C n d A U H) (hAB : ∀ q, B q → A q) : vx_L C n d B U H := by
  obtain ⟨c, k, i, f, a, cell, h1, h2, h3, h4, h5, h6, h7, h8, h9, h10⟩ := h
  exact ⟨c, k, i, f, a, cell, h1, h2, h3, h4, h5, h6, h7, h8, h9, fun z => h10 (hAB _ z)⟩
theorem vx_L.word {C n d : String} {A : Nat → Prop} {s : State} {args : Array Value} (h : vx_L C n d A s s.heap) : (Cond.laysStatic C n d).before args s = true := by
  obtain ⟨c, k, i, f, a, cell, h1, h2, h3, h4, h5, h6, h7, h8, h9, -⟩ := h
  show (Cond.laysStatic C n d).holds args s none s [] = true
  exact Cond.laysStatic_of h1 h2 h3 h4 h5 h6 h7 h8 h9
/-- .. and what it holds: null or some reference -/
def vx_Zq (C n d : String) (A : Nat → Prop) (U : State) (H : Heap) : Prop := va_Zq C n d A U H ∧ vx_L C n d A U H
theorem vx_Zq.moved {C n d : String} {A : Nat → Prop} {u U : State} {H : Heap} (hvm : u.vm.Alike U.vm) (h : vx_Zq C n d A u H) : vx_Zq C n d A U H := ⟨va_Zq.moved hvm h.1, vx_L.moved hvm h.2⟩
theorem vx_Zq.kept {C n d : String} {A : Nat → Prop} {U : State} {H H1 : Heap} (h : vx_Zq C n d A U H) (hq : ∀ a : Nat, a < H.size → ¬ A a → H1[a]? = H[a]?) : vx_Zq C n d A U H1 := ⟨va_Zq.kept h.1 hq, vx_L.kept h.2 hq⟩
theorem vx_Zq.narrow {C n d : String} {A B : Nat → Prop} {U : State} {H : Heap} (h : vx_Zq C n d A U H) (hAB : ∀ q, B q → A q) : vx_Zq C n d B U H := ⟨va_Zq.narrow h.1 hAB, vx_L.narrow h.2 hAB⟩
theorem vx_Zqof {args : Array Value} {s : State} {C n d : String} {A : Nat → Prop} (hl : (Cond.laysStatic C n d).before args s = true) (hini : (Cond.initialized C).before args s = true) (h : (Cond.isRef (.static C n d)).before args s = true) (hA : ∀ a : Nat, a < s.heap.size → ¬ A a) : vx_Zq C n d A s s.heap := by
  refine ⟨va_Zqof hl hini h hA, ?_⟩
  obtain ⟨c, k, i, f, a, cell, h1, h2, h3, h4, h5, h6, h7, h8, h9⟩ := Cond.laysStatic_spec hl
  exact ⟨c, k, i, f, a, cell, h1, h2, h3, h4, h5, h6, h7, h8, h9, hA a (Array.getElem?_eq_some_iff.mp h5).1⟩
theorem vx_isRef {C n d : String} {v : Value} {A : Nat → Prop} {s : State} {args : Array Value} (h : va_Z C n d v A s s.heap) (hv : v.isRef = true) : (Cond.isRef (.static C n d)).before args s = true := by
  obtain ⟨cf, kf, fi, f, a, cell, h1, h2, h3, h4, h5, h6, h7, -⟩ := h
  have he : (Term.static C n d).eval args s none [] s = some v := by
    simp [Term.eval, State.fieldNamed?, h1, h2, h4, h5, h6, h7]
  simp only [Cond.before, Cond.holds, Cond.value, he]
  cases v <;> simp_all [Value.isRef]
theorem vx_isRefq {C n d : String} {A : Nat → Prop} {s : State} {args : Array Value} (h : va_Zq C n d A s s.heap) : (Cond.isRef (.static C n d)).before args s = true := by
  rcases h with h | ⟨t, h⟩
  · exact vx_isRef h rfl
  · exact vx_isRef h rfl
/-- the same frame, seen from here: as if the method were called anew in this heap -/
theorem vx_rebase {T : State} (X : Stand p l e R s m args below meth c T locs cells slots) {R' : Room} (hf : R'.frames ≤ R.frames) (hl : R'.locals ≤ R.locals) (hc : cells + R'.cells ≤ R.cells) (hs : slots + R'.slots ≤ R.slots) :
    Stand p l e R' ((T.setVm s.vm).setFrames (.invoking m args :: below)) m args below meth c T [] 0 0 := by
  have htop : (T.setVm s.vm).topJava?.isSome := X.here.top
  have hF : ((T.setVm s.vm).setFrames (.invoking m args :: below)).frames = .invoking m args :: below := State.frames_setFrames _ (State.cur_lt_of_top htop)
  obtain ⟨g₀, hg0⟩ := Option.isSome_iff_exists.mp htop
  obtain ⟨r, hr⟩ := State.topJava?_eq_some.mp hg0
  have hl9 : e.platform.stackLimits (T.setVm s.vm).me = e.platform.stackLimits s.me := X.limits
  have hb9 : (T.setVm s.vm).me.stackBytes = s.me.stackBytes := X.bytes
  refine ⟨X.admits, X.cas, X.clock, hF, ?_, X.hears, X.method, X.code, X.here, X.tail, X.warmed, ?_, ?_, ?_⟩
  · have h := X.room
    have hU : ((T.setVm s.vm).setFrames (.invoking m args :: below)).localsInUse = s.localsInUse := by
      rw [State.localsInUse_invoking hF (meth := meth) (c := c) X.method X.code, State.localsInUse_invoking X.frames X.method X.code]
    simp only [State.hasRoom, Bool.and_eq_true, decide_eq_true_eq] at h ⊢
    obtain ⟨⟨⟨⟨h1, h2, h3, h4, h5, h6⟩, h7⟩, h8⟩, h9⟩ := h
    rw [X.frames, List.length_cons] at h2 h3
    have q1 := X.heapSize
    have q2 := X.used
    simp only [hF, hU, List.length_cons, State.stackLimits_setFrames, State.stackBytes_setFrames, hl9, hb9]
    refine ⟨⟨⟨⟨by omega, by omega, by omega, by omega, by omega, h6⟩, ?_⟩, ?_⟩, X.book⟩
    · show T.heap.size + R'.cells ≤ e.platform.maxCells
      omega
    · show T.slotsUsed + R'.slots ≤ e.platform.maxSlots
      omega
  · rw [State.stackLimits_setFrames]; rfl
  · rw [State.stackBytes_setFrames]; rfl
  · refine ⟨?_, Nat.le_refl _, Nat.le_refl _, ?_, ?_, fun a c9 h9 => ⟨c9, h9, rfl, rfl, fun _ _ => rfl⟩⟩
    · obtain ⟨t, ht, -⟩ := State.frames_cons hr
      show T.setVm s.vm = { ((T.setVm s.vm).setFrames (.invoking m args :: below)).setFrames (T.setVm s.vm).frames with heap := T.heap, slotsUsed := T.slotsUsed }
      rw [State.setFrames_setFrames, State.setFrames_self ht]
      rfl
    · show T.slotsUsed = T.slotsUsed + ((T.heap.toList.drop T.heap.size).map (·.slots.size)).sum
      rw [List.drop_eq_nil_of_le (Nat.le_of_eq Array.length_toList)]
      rfl
    · show ((T.heap.toList.drop T.heap.size).map (·.slots.size)).sum ≤ 0
      rw [List.drop_eq_nil_of_le (Nat.le_of_eq Array.length_toList)]
      exact Nat.le_refl _
/-- 'throw new E()': new; dup; invokespecial; athrow -/
theorem vx_throw0 {cc : ByteArray} {pc : Nat} (hexec : p.tables.exec = Jvm.exec) (hb : c.code = cc) (hl : l.stackTraces = false) {own cls : String} {names : List String} {ik ic mc ms : Nat} {A : Nat → Prop}
    (hown : s.vm.findClass own = some m.cls) (hcls : Bundle.fit cls = true) (hnames : ∀ n ∈ names, Bundle.fit n = true)
    (hk : (Cond.classLink own ik cls).before args s = true) (hini : (Cond.initialized cls).before args s = true) (hat : ∀ w ∈ vx_at0 own ic cls names, w.before args s = true)
    (hgood : ∀ w ∈ Cond.classLink own ik cls :: Cond.initialized cls :: vx_at0 own ic cls names, vx_ot w = true)
    (hU : vx_Zq Bundle.tN "UNASSIGNED_STACK" Bundle.steD A s s.heap) (hN : vx_Zq Bundle.tN "SUPPRESSED_SENTINEL" Bundle.listD A s s.heap) (hS : va_S A s.heap H locs) (hsize : ls.size = c.maxLocals)
    (d0 : decode cc pc = .ok (.new ik, 3)) (d3 : decode cc (pc + 3) = .ok (.dup, 1)) (d4 : decode cc (pc + 4) = .ok (.invokespecial ic, 3)) (d7 : decode cc (pc + 7) = .ok (.athrow, 1))
    (hout : ∀ x ∈ c.exceptionTable.toList, covers x (pc + 7) = false)
    (hRframes : names.length + 3 < R.frames) (hRlocals : (rest.map fun v => v.category).sum + (13 * (names.length + 1) + 42) ≤ R.locals) (hRcells : cells + 1 ≤ R.cells) (hRslots : slots + 6 ≤ R.slots) (hlocks : meth.locks = false)
    (hx : ∀ t : State, s.vm.Alike t.vm → H.size ≤ t.heap.size → (∀ q : Nat, q < H.size → t.heap[q]? = H[q]?) → XC cls s t)
    (hf : ∀ z ∈ locs, free z.base) (hc : cells + 1 ≤ mc) (hs : slots + 6 ≤ ms) :
    W p l e R s m args below meth c H locs cells slots (vx_MQ below Qc XC args s mc ms free) (F0 m pc ls rest) := by
  intro T hT X
  have htr : e.platform.stackTraces = false := (show e.platform.stackTraces = l.stackTraces by rw [X.admits.platform]).trans hl
  have Y := vx_rebase X (R' := { frames := R.frames, locals := R.locals, cells := 1, slots := 6 }) (Nat.le_refl _) (Nat.le_refl _) hRcells hRslots
  obtain ⟨s', hA⟩ : ∃ z, z = (T.setVm s.vm).setFrames (.invoking m args :: below) := ⟨_, rfl⟩
  rw [← hA] at Y
  have hvm : s'.vm = s.vm := by rw [hA]; rfl
  have hhp : s'.heap = H := by rw [hA]; exact hT
  have hW0 : s.WarmedH s'.vm := by rw [hvm]; exact State.WarmedH.refl s
  have hat' : ∀ w ∈ vx_at0 own ic cls names, w.before args s' = true := fun w hw => vx_ot_at hW0 hvm.symm (hgood w (List.mem_cons_of_mem _ (List.mem_cons_of_mem _ hw))) (hat w hw)
  have hk' : (Cond.classLink own ik cls).before args s' = true := vx_ot_at hW0 hvm.symm (hgood _ List.mem_cons_self) hk
  have hini' : (Cond.initialized cls).before args s' = true := vx_ot_at hW0 hvm.symm (hgood _ (List.mem_cons_of_mem _ List.mem_cons_self)) hini
  have hU' : vx_Zq Bundle.tN "UNASSIGNED_STACK" Bundle.steD A s' s'.heap := by rw [hhp]; exact vx_Zq.moved hW0.alike (hU.kept hS.2.1)
  have hN' : vx_Zq Bundle.tN "SUPPRESSED_SENTINEL" Bundle.listD A s' s'.heap := by rw [hhp]; exact vx_Zq.moved hW0.alike (hN.kept hS.2.1)
  have h : ∀ w ∈ Bundle.ownAtoms0 own ic cls names, w.before args s' = true := vx_own hat' (vx_isRefq hU'.1) (vx_isRefq hN'.1) hU'.2.word hN'.2.word
  have hown' : s'.vm.findClass own = some m.cls := by rw [hvm]; exact hown
  have hins : (Cond.instantiable cls 6).before args s' = true := h _ (by simp [Bundle.ownAtoms0])
  obtain ⟨vm₁, cX, kX, hfX, hkX, -, -, X₁, st1⟩ := Y.newCold hexec (own := own) (C := cls) (index := ik) (n := 6) hown' hk' hins hini'
    (g := F0 m pc ls rest) rfl (by rw [hb]; exact d0) (Nat.le_refl _) (Nat.le_refl _)
  generalize hT1 : (T.setVm vm₁).pushCell { cls := cX, slots := kX.instanceTypes.map defaultValue, vm := .none } = T1 at X₁ st1
  have hcat : (Value.ref T.heap.size).category = 1 := rfl
  have hcellA : T1.heap[T.heap.size]? = some (freshCell cX kX) := by rw [← hT1]; exact State.heap_pushCell_size _ _
  have d3' : decode c.code (pc + 3) = .ok (.dup, 1) := by rw [hb]; exact d3
  obtain ⟨U, hsteps, hrun, hend, hW, hsame, ce, hce, hO⟩ := X₁.ctorThrow0 hexec htr (own := own) (cls := cls) (names := names) (ic := ic) hown' hcls hnames h (fun x hx => nomatch hx) hfX hkX hcellA (by rw [hhp, hT]; exact Nat.le_refl _)
    (g := { method := m, pc := pc + 4, locals := ls, stack := .ref T.heap.size :: .ref T.heap.size :: rest, locked := none }) rfl hsize rfl rfl (rest := rest) rfl
    (by rw [hb]; exact d4) (by rw [hb]; exact d7) hout hRframes (by simp only [List.map_cons, List.sum_cons, hcat]; omega) hlocks
  obtain ⟨f1, f2⟩ := vx_frame hsame
  rw [hhp] at f1 f2
  have hWs : s.WarmedH U.vm := State.WarmedH.trans hW0 hW
  have hcl : s.vm.findClass cls = some ce.cls := by
    have h9 := hO.cls
    rw [hvm] at h9
    exact h9
  have hall : s.sameButNew ({ U with vm := s.vm } : State) locs mc ms := by
    subst hA
    obtain ⟨e1, e2⟩ := hsame
    rw [State.setFrames_setFrames] at e1
    have h2 : (T.setVm s.vm).sameButNew ({ U with vm := s.vm } : State) [] (0 + 1) (0 + 6) := ⟨e1, e2⟩
    have h3 := X.same.trans h2
    rw [List.append_nil] at h3
    exact h3.mono hc hs
  refine ⟨U, ?_, .threw T.heap.size, hrun, hend, Or.inr ⟨T.heap.size, rfl, cls, ce, locs, hx U hWs.alike f1 (fun q hq => f2 q hq (fun z hz => nomatch hz)), hce, hO.vm, hcl, hWs, hall, hf⟩⟩
  refine st1 _ ?_
  show Steps p.tables e below (T1.setTop { method := m, pc := pc + 3, locals := ls, stack := .ref T.heap.size :: rest, locked := none }) _
  jvm_step X₁.here [X₁.here.top, hexec, d3', Value.category]
  exact hsteps
/-- 'throw new E("text")': new; dup; ldc; invokespecial; athrow -/
theorem vx_throwS {cc : ByteArray} {pc : Nat} (hexec : p.tables.exec = Jvm.exec) (hb : c.code = cc) (hl : l.stackTraces = false) {own cls text : String} {names : List String} {ik is ic mc ms sa : Nat} {A : Nat → Prop}
    (hown : s.vm.findClass own = some m.cls) (hcls : Bundle.fit cls = true) (hnames : ∀ n ∈ names, Bundle.fit n = true)
    (hk : (Cond.classLink own ik cls).before args s = true) (hini : (Cond.initialized cls).before args s = true) (hstr : vk_R own is text sa s) (hat : ∀ w ∈ vx_atS own ic cls names, w.before args s = true)
    (hgood : ∀ w ∈ Cond.classLink own ik cls :: Cond.initialized cls :: vx_atS own ic cls names, vx_ot w = true)
    (hU : vx_Zq Bundle.tN "UNASSIGNED_STACK" Bundle.steD A s s.heap) (hN : vx_Zq Bundle.tN "SUPPRESSED_SENTINEL" Bundle.listD A s s.heap) (hS : va_S A s.heap H locs) (hsize : ls.size = c.maxLocals)
    (d0 : decode cc pc = .ok (.new ik, 3)) (d3 : decode cc (pc + 3) = .ok (.dup, 1)) (d4 : decode cc (pc + 4) = .ok (.ldc is, 2)) (d6 : decode cc (pc + 6) = .ok (.invokespecial ic, 3)) (d9 : decode cc (pc + 9) = .ok (.athrow, 1))
    (hout : ∀ x ∈ c.exceptionTable.toList, covers x (pc + 9) = false)
    (hRframes : names.length + 3 < R.frames) (hRlocals : (rest.map fun v => v.category).sum + (13 * (names.length + 1) + 43) ≤ R.locals) (hRcells : cells + 1 ≤ R.cells) (hRslots : slots + 6 ≤ R.slots) (hlocks : meth.locks = false)
    (hx : ∀ t : State, s.vm.Alike t.vm → H.size ≤ t.heap.size → (∀ q : Nat, q < H.size → t.heap[q]? = H[q]?) → XC cls s t)
    (hf : ∀ z ∈ locs, free z.base) (hc : cells + 1 ≤ mc) (hs : slots + 6 ≤ ms) :
    W p l e R s m args below meth c H locs cells slots (vx_MQ below Qc XC args s mc ms free) (F0 m pc ls rest) := by
  intro T hT X
  have htr : e.platform.stackTraces = false := (show e.platform.stackTraces = l.stackTraces by rw [X.admits.platform]).trans hl
  have Y := vx_rebase X (R' := { frames := R.frames, locals := R.locals, cells := 1, slots := 6 }) (Nat.le_refl _) (Nat.le_refl _) hRcells hRslots
  obtain ⟨s', hA⟩ : ∃ z, z = (T.setVm s.vm).setFrames (.invoking m args :: below) := ⟨_, rfl⟩
  rw [← hA] at Y
  have hvm : s'.vm = s.vm := by rw [hA]; rfl
  have hhp : s'.heap = H := by rw [hA]; exact hT
  have hW0 : s.WarmedH s'.vm := by rw [hvm]; exact State.WarmedH.refl s
  have hat' : ∀ w ∈ vx_atS own ic cls names, w.before args s' = true := fun w hw => vx_ot_at hW0 hvm.symm (hgood w (List.mem_cons_of_mem _ (List.mem_cons_of_mem _ hw))) (hat w hw)
  have hk' : (Cond.classLink own ik cls).before args s' = true := vx_ot_at hW0 hvm.symm (hgood _ List.mem_cons_self) hk
  have hini' : (Cond.initialized cls).before args s' = true := vx_ot_at hW0 hvm.symm (hgood _ (List.mem_cons_of_mem _ List.mem_cons_self)) hini
  have hU' : vx_Zq Bundle.tN "UNASSIGNED_STACK" Bundle.steD A s' s'.heap := by rw [hhp]; exact vx_Zq.moved hW0.alike (hU.kept hS.2.1)
  have hN' : vx_Zq Bundle.tN "SUPPRESSED_SENTINEL" Bundle.listD A s' s'.heap := by rw [hhp]; exact vx_Zq.moved hW0.alike (hN.kept hS.2.1)
  have h : ∀ w ∈ Bundle.ownAtoms own ic cls names, w.before args s' = true := vx_own hat' (vx_isRefq hU'.1) (vx_isRefq hN'.1) hU'.2.word hN'.2.word
  have hown' : s'.vm.findClass own = some m.cls := by rw [hvm]; exact hown
  have hins : (Cond.instantiable cls 6).before args s' = true := h _ (by simp [Bundle.ownAtoms])
  obtain ⟨vm₁, cX, kX, hfX, hkX, -, -, X₁, st1⟩ := Y.newCold hexec (own := own) (C := cls) (index := ik) (n := 6) hown' hk' hins hini'
    (g := F0 m pc ls rest) rfl (by rw [hb]; exact d0) (Nat.le_refl _) (Nat.le_refl _)
  generalize hT1 : (T.setVm vm₁).pushCell { cls := cX, slots := kX.instanceTypes.map defaultValue, vm := .none } = T1 at X₁ st1
  have hcat : (Value.ref T.heap.size).category = 1 := rfl
  have hcellA : T1.heap[T.heap.size]? = some (freshCell cX kX) := by rw [← hT1]; exact State.heap_pushCell_size _ _
  have d3' : decode c.code (pc + 3) = .ok (.dup, 1) := by rw [hb]; exact d3
  have d4' : decode c.code (pc + 4) = .ok (.ldc is, 2) := by rw [hb]; exact d4
  have hstr' : vk_R own is text sa s' := vk_R.warm hW0 hstr
  obtain ⟨U, hsteps, hrun, hend, hW, hsame, ce, hce, hO⟩ := X₁.ctorThrowS hexec htr (own := own) (cls := cls) (names := names) (ic := ic) hown' hcls hnames h (fun x hx => nomatch hx) hfX hkX hcellA (by rw [hhp, hT]; exact Nat.le_refl _) (msg := .ref sa) rfl
    (g := { method := m, pc := pc + 6, locals := ls, stack := .ref sa :: .ref T.heap.size :: .ref T.heap.size :: rest, locked := none }) rfl hsize rfl rfl (rest := rest) rfl
    (by rw [hb]; exact d6) (by rw [hb]; exact d9) hout hRframes (by simp only [List.map_cons, List.sum_cons, hcat]; omega) hlocks
  obtain ⟨f1, f2⟩ := vx_frame hsame
  rw [hhp] at f1 f2
  have hWs : s.WarmedH U.vm := State.WarmedH.trans hW0 hW
  have hcl : s.vm.findClass cls = some ce.cls := by
    have h9 := hO.cls
    rw [hvm] at h9
    exact h9
  have hall : s.sameButNew ({ U with vm := s.vm } : State) locs mc ms := by
    subst hA
    obtain ⟨e1, e2⟩ := hsame
    rw [State.setFrames_setFrames] at e1
    have h2 : (T.setVm s.vm).sameButNew ({ U with vm := s.vm } : State) [] (0 + 1) (0 + 6) := ⟨e1, e2⟩
    have h3 := X.same.trans h2
    rw [List.append_nil] at h3
    exact h3.mono hc hs
  refine ⟨U, ?_, .threw T.heap.size, hrun, hend, Or.inr ⟨T.heap.size, rfl, cls, ce, locs, hx U hWs.alike f1 (fun q hq => f2 q hq (fun z hz => nomatch hz)), hce, hO.vm, hcl, hWs, hall, hf⟩⟩
  refine st1 _ ?_
  show Steps p.tables e below (T1.setTop { method := m, pc := pc + 3, locals := ls, stack := .ref T.heap.size :: rest, locked := none }) _
  jvm_step X₁.here [X₁.here.top, hexec, d3', Value.category]
  exact X₁.ldcString hexec (own := own) (text := text) (index := is) (a := sa) hown' hstr'.1 hstr'.2
    (g := { method := m, pc := pc + 4, locals := ls, stack := .ref T.heap.size :: .ref T.heap.size :: rest, locked := none }) rfl d4' _ hsteps
/-- 'throw new E("text")', the text by a wide index -/
theorem vx_throwSW {cc : ByteArray} {pc : Nat} (hexec : p.tables.exec = Jvm.exec) (hb : c.code = cc) (hl : l.stackTraces = false) {own cls text : String} {names : List String} {ik is ic mc ms sa : Nat} {A : Nat → Prop}
    (hown : s.vm.findClass own = some m.cls) (hcls : Bundle.fit cls = true) (hnames : ∀ n ∈ names, Bundle.fit n = true)
    (hk : (Cond.classLink own ik cls).before args s = true) (hini : (Cond.initialized cls).before args s = true) (hstr : vk_R own is text sa s) (hat : ∀ w ∈ vx_atS own ic cls names, w.before args s = true)
    (hgood : ∀ w ∈ Cond.classLink own ik cls :: Cond.initialized cls :: vx_atS own ic cls names, vx_ot w = true)
    (hU : vx_Zq Bundle.tN "UNASSIGNED_STACK" Bundle.steD A s s.heap) (hN : vx_Zq Bundle.tN "SUPPRESSED_SENTINEL" Bundle.listD A s s.heap) (hS : va_S A s.heap H locs) (hsize : ls.size = c.maxLocals)
    (d0 : decode cc pc = .ok (.new ik, 3)) (d3 : decode cc (pc + 3) = .ok (.dup, 1)) (d4 : decode cc (pc + 4) = .ok (.ldc_w is, 3)) (d7 : decode cc (pc + 7) = .ok (.invokespecial ic, 3)) (d10 : decode cc (pc + 10) = .ok (.athrow, 1))
    (hout : ∀ x ∈ c.exceptionTable.toList, covers x (pc + 10) = false)
    (hRframes : names.length + 3 < R.frames) (hRlocals : (rest.map fun v => v.category).sum + (13 * (names.length + 1) + 43) ≤ R.locals) (hRcells : cells + 1 ≤ R.cells) (hRslots : slots + 6 ≤ R.slots) (hlocks : meth.locks = false)
    (hx : ∀ t : State, s.vm.Alike t.vm → H.size ≤ t.heap.size → (∀ q : Nat, q < H.size → t.heap[q]? = H[q]?) → XC cls s t)
    (hf : ∀ z ∈ locs, free z.base) (hc : cells + 1 ≤ mc) (hs : slots + 6 ≤ ms) :
    W p l e R s m args below meth c H locs cells slots (vx_MQ below Qc XC args s mc ms free) (F0 m pc ls rest) := by
  intro T hT X
  have htr : e.platform.stackTraces = false := (show e.platform.stackTraces = l.stackTraces by rw [X.admits.platform]).trans hl
  have Y := vx_rebase X (R' := { frames := R.frames, locals := R.locals, cells := 1, slots := 6 }) (Nat.le_refl _) (Nat.le_refl _) hRcells hRslots
  obtain ⟨s', hA⟩ : ∃ z, z = (T.setVm s.vm).setFrames (.invoking m args :: below) := ⟨_, rfl⟩
  rw [← hA] at Y
  have hvm : s'.vm = s.vm := by rw [hA]; rfl
  have hhp : s'.heap = H := by rw [hA]; exact hT
  have hW0 : s.WarmedH s'.vm := by rw [hvm]; exact State.WarmedH.refl s
  have hat' : ∀ w ∈ vx_atS own ic cls names, w.before args s' = true := fun w hw => vx_ot_at hW0 hvm.symm (hgood w (List.mem_cons_of_mem _ (List.mem_cons_of_mem _ hw))) (hat w hw)
  have hk' : (Cond.classLink own ik cls).before args s' = true := vx_ot_at hW0 hvm.symm (hgood _ List.mem_cons_self) hk
  have hini' : (Cond.initialized cls).before args s' = true := vx_ot_at hW0 hvm.symm (hgood _ (List.mem_cons_of_mem _ List.mem_cons_self)) hini
  have hU' : vx_Zq Bundle.tN "UNASSIGNED_STACK" Bundle.steD A s' s'.heap := by rw [hhp]; exact vx_Zq.moved hW0.alike (hU.kept hS.2.1)
  have hN' : vx_Zq Bundle.tN "SUPPRESSED_SENTINEL" Bundle.listD A s' s'.heap := by rw [hhp]; exact vx_Zq.moved hW0.alike (hN.kept hS.2.1)
  have h : ∀ w ∈ Bundle.ownAtoms own ic cls names, w.before args s' = true := vx_own hat' (vx_isRefq hU'.1) (vx_isRefq hN'.1) hU'.2.word hN'.2.word
  have hown' : s'.vm.findClass own = some m.cls := by rw [hvm]; exact hown
  have hins : (Cond.instantiable cls 6).before args s' = true := h _ (by simp [Bundle.ownAtoms])
  obtain ⟨vm₁, cX, kX, hfX, hkX, -, -, X₁, st1⟩ := Y.newCold hexec (own := own) (C := cls) (index := ik) (n := 6) hown' hk' hins hini'
    (g := F0 m pc ls rest) rfl (by rw [hb]; exact d0) (Nat.le_refl _) (Nat.le_refl _)
  generalize hT1 : (T.setVm vm₁).pushCell { cls := cX, slots := kX.instanceTypes.map defaultValue, vm := .none } = T1 at X₁ st1
  have hcat : (Value.ref T.heap.size).category = 1 := rfl
  have hcellA : T1.heap[T.heap.size]? = some (freshCell cX kX) := by rw [← hT1]; exact State.heap_pushCell_size _ _
  have d3' : decode c.code (pc + 3) = .ok (.dup, 1) := by rw [hb]; exact d3
  have d4' : decode c.code (pc + 4) = .ok (.ldc_w is, 3) := by rw [hb]; exact d4
  have hstr' : vk_R own is text sa s' := vk_R.warm hW0 hstr
  obtain ⟨U, hsteps, hrun, hend, hW, hsame, ce, hce, hO⟩ := X₁.ctorThrowS hexec htr (own := own) (cls := cls) (names := names) (ic := ic) hown' hcls hnames h (fun x hx => nomatch hx) hfX hkX hcellA (by rw [hhp, hT]; exact Nat.le_refl _) (msg := .ref sa) rfl
    (g := { method := m, pc := pc + 7, locals := ls, stack := .ref sa :: .ref T.heap.size :: .ref T.heap.size :: rest, locked := none }) rfl hsize rfl rfl (rest := rest) rfl
    (by rw [hb]; exact d7) (by rw [hb]; exact d10) hout hRframes (by simp only [List.map_cons, List.sum_cons, hcat]; omega) hlocks
  obtain ⟨f1, f2⟩ := vx_frame hsame
  rw [hhp] at f1 f2
  have hWs : s.WarmedH U.vm := State.WarmedH.trans hW0 hW
  have hcl : s.vm.findClass cls = some ce.cls := by
    have h9 := hO.cls
    rw [hvm] at h9
    exact h9
  have hall : s.sameButNew ({ U with vm := s.vm } : State) locs mc ms := by
    subst hA
    obtain ⟨e1, e2⟩ := hsame
    rw [State.setFrames_setFrames] at e1
    have h2 : (T.setVm s.vm).sameButNew ({ U with vm := s.vm } : State) [] (0 + 1) (0 + 6) := ⟨e1, e2⟩
    have h3 := X.same.trans h2
    rw [List.append_nil] at h3
    exact h3.mono hc hs
  refine ⟨U, ?_, .threw T.heap.size, hrun, hend, Or.inr ⟨T.heap.size, rfl, cls, ce, locs, hx U hWs.alike f1 (fun q hq => f2 q hq (fun z hz => nomatch hz)), hce, hO.vm, hcl, hWs, hall, hf⟩⟩
  refine st1 _ ?_
  show Steps p.tables e below (T1.setTop { method := m, pc := pc + 3, locals := ls, stack := .ref T.heap.size :: rest, locked := none }) _
  jvm_step X₁.here [X₁.here.top, hexec, d3', Value.category]
  exact X₁.ldcStringW hexec (own := own) (text := text) (index := is) (a := sa) hown' hstr'.1 hstr'.2
    (g := { method := m, pc := pc + 4, locals := ls, stack := .ref T.heap.size :: .ref T.heap.size :: rest, locked := none }) rfl d4' _ hsteps
end Ends
section Bodies
variable {l : Launch}
theorem vx_ofW {y : MethodName} {ws ws' : List Cond} {rm : Room} {Pc : Array Value → State → Prop} {Qc : Array Value → State → Outcome → State → Prop} {XC : String → State → State → Prop} {mc ms : Nat} {free : Addr → Prop} {cc : ByteArray} {maxL : Nat} {ret : Option FieldType}
    (hy : plainName y.cls = true) (hw : ws = Cond.code y cc maxL ret :: ws')
    (body : ∀ p e s m args below meth c s₁, BodyLoose p l y (headSpec ws rm) cc maxL ret e s m args below meth c s₁ → c.maxLocals = maxL → (∀ x ∈ c.exceptionTable.toList, False) → Pc args s →
      W p l e (headSpec ws rm).room s m args below meth c s.heap [] 0 0 (vx_MQ below Qc XC args s mc ms free) (entryFrame m args maxL)) : vx_Met l y ws rm Pc Qc XC mc ms free := by
  refine MetFree.of_bodyS (code := cc) (maxLocals := maxL) (ret := ret) hy ?_ ?_
  · intro args s m h hn
    obtain ⟨meth, c, h1, h2, h3, h4, h5, h6, -, -⟩ := Cond.code_spec hn (atoms_spec (ws := ws) h _ (by rw [hw]; exact List.mem_cons_self))
    exact ⟨meth, c, h1, h2, h3, h4, h5, h6⟩
  · intro p e s m args below meth c s₁ B hml hP _
    have hh0 : s₁.heap = s.heap := by rw [B.state]; rfl
    have ht : ∀ x ∈ c.exceptionTable.toList, False := by
      obtain ⟨meth9, c9, h1, h2, -, -, -, -, h7, -⟩ := Cond.code_spec B.named (atoms_spec (ws := ws) B.pre _ (by rw [hw]; exact List.mem_cons_self))
      cases Option.some.inj (h1.symm.trans B.method)
      cases Option.some.inj (h2.symm.trans (Stand.of_body B).code)
      intro x hx
      rw [Array.isEmpty_iff.mp h7] at hx
      cases hx
    obtain ⟨t, a1, o, b1, b2, b3⟩ := body p e s m args below meth c s₁ B hml ht hP s₁ hh0 (Stand.of_body B)
    exact ⟨t, o, a1, b1, b2, b3⟩
/-- the table of a body with handlers -/
theorem vx_table {p : Program} {x y : MethodName} {S : Spec} {cc bytes : ByteArray} {maxL maxL' : Nat} {ret ret' : Option FieldType} {e : Env} {s s₁ : State} {m : MethodId} {args : Array Value} {below : List Frame} {meth : Method} {c : Code} {hh : List (Nat × Nat × Nat × Nat)}
    (B : BodyLoose p l y S cc maxL ret e s m args below meth c s₁) (h : (Cond.codeWith y bytes maxL' ret' hh).before args s = true) : c.exceptionTable.toList = tableOf hh := by
  obtain ⟨m9, meth9, c9, hn9, h1, h2, -, -, h6, -⟩ := Cond.codeWith_spec h
  cases Option.some.inj (hn9.symm.trans B.named)
  cases Option.some.inj (h1.symm.trans B.method)
  cases Option.some.inj (h2.symm.trans (Stand.of_body B).code)
  rw [← h6, table_eq]
end Bodies
end VXA
/-! ===== END ===== -/
/-! ===== BEGIN a static call of a method with an exception table ===== -/
section VXS
variable {p : Program} {l : Launch} {e : Env} {R : Room} {s : State} {m : MethodId} {args : Array Value} {below : List Frame} {meth : Method} {c : Code} {T : State} {H : Heap} {locs : List Loc} {cells slots : Nat}
abbrev vx_CSW (R : Room) (s : State) (args : Array Value) (own : String) (index : Nat) (y : MethodName) (bytes : ByteArray) (maxL : Nat) (ret : Option FieldType) (hh : List (Nat × Nat × Nat × Nat)) (ws : List Cond) (rm : Room) (mc ms n : Nat) : Prop :=
  (rm.cells = mc ∧ rm.slots = ms ∧ rm.frames + 1 ≤ R.frames ∧ 8 + (maxL + 11) + rm.locals ≤ R.locals ∧ (∀ w ∈ ws, ∀ (a' : Array Value) (U : State), s.WarmedH U.vm → w.before a' U = true) ∧ Cond.codeWith y bytes maxL ret hh ∈ ws) ∧
  (Cond.codeWith y bytes maxL ret hh).before args s = true ∧ (Cond.initialized y.cls).before args s = true ∧ (y.cls ≠ "java/lang/invoke/MethodHandle" ∧ y.cls ≠ "java/lang/invoke/VarHandle") ∧
  (∀ sig, parseMethodDescriptor y.desc = some sig → n = sig.parameters.length) ∧ (Cond.methodLink own index y).before args s = true ∧ (Cond.static y).before args s = true
theorem vx_cwSW {own : String} {index maxL mc ms : Nat} {y : MethodName} {bytes : ByteArray} {ret : Option FieldType} {hh : List (Nat × Nat × Nat × Nat)} {Ts ws ws' : List Cond} {rm : Room} (n : Nat) (ht : ∀ w ∈ Ts, w.before args s = true) (hT : GoodIn Ts (va_wsS own index y ws)) (hw : ws = Cond.codeWith y bytes maxL ret hh :: ws') (hrc : rm.cells = mc) (hrs : rm.slots = ms)
    (hd : y.cls ≠ "java/lang/invoke/MethodHandle" ∧ y.cls ≠ "java/lang/invoke/VarHandle" ∧ (parseMethodDescriptor y.desc).map (fun d => d.parameters.length) = some n) (hR : rm.frames + 1 ≤ R.frames ∧ 8 + (maxL + 11) + rm.locals ≤ R.locals) :
    vx_CSW R s args own index y bytes maxL ret hh ws rm mc ms n := by
  have ok : ∀ w ∈ va_wsS own index y ws, w.before args s = true := fun w h => ht w (hT w h).1
  have hG : GoodIn Ts ws := fun w h => hT w (by unfold va_wsS; exact List.mem_append_right _ h)
  have hc : Cond.codeWith y bytes maxL ret hh ∈ ws := by rw [hw]; exact List.mem_cons_self
  refine ⟨⟨hrc, hrs, hR.1, hR.2, pay_in ht hG, hc⟩, ht _ (hG _ hc).1, ok _ (by simp [va_wsS]), ⟨hd.1, hd.2.1⟩, fun sig h => ?_, ok _ (by simp [va_wsS]), ok _ (by simp [va_wsS])⟩
  have h2 := hd.2.2
  rw [h] at h2
  exact (Option.some.inj h2).symm
theorem vx_callSW (X : Stand p l e R s m args below meth c T locs cells slots) (hexec : p.tables.exec = Jvm.exec) {own : String} {index : Nat} {y : MethodName} {bytes : ByteArray} {maxL : Nat} {ret : Option FieldType} {hh : List (Nat × Nat × Nat × Nat)}
    (hown : s.vm.findClass own = some m.cls) (hlink : (Cond.methodLink own index y).before args s = true) (hstat : (Cond.static y).before args s = true) (hinit : (Cond.initialized y.cls).before args s = true)
    (hcode : (Cond.codeWith y bytes maxL ret hh).before args s = true) (hy : y.cls ≠ "java/lang/invoke/MethodHandle" ∧ y.cls ≠ "java/lang/invoke/VarHandle")
    {W9 : Nat} {Pre : Pt → Array Value → Prop} {Post : Pt → Array Value → Option Value → Pt → Prop} (hK : Back l R p e below s args y 3 W9 Pre Post)
    {g : JFrame} (hg : g.method = m) (hsize : g.locals.size = c.maxLocals) {argsL rest : List Value} (hlen : ∀ sig, parseMethodDescriptor y.desc = some sig → argsL.length = sig.parameters.length)
    (hstack : g.stack = argsL.reverse ++ rest) (hW : 2 * g.monitorRoom + (rest.map fun v => v.category).sum ≤ W9) (hdg : decode c.code g.pc = .ok (.invokestatic index, 3))
    (hpre : ∀ vm₁, s.WarmedH vm₁ → Pre ⟨T.setVm vm₁, locs, cells, slots⟩ argsL.toArray) :
    ∃ (v : Option Value) (vm₁ : Vm) (B : Pt), s.WarmedH vm₁ ∧ Stand p l e R s m args below meth c B.U B.locs B.cells B.slots ∧ Post ⟨T.setVm vm₁, locs, cells, slots⟩ argsL.toArray v B ∧
      ∀ target, Steps p.tables e below (B.U.setTop { g with pc := g.pc + 3, stack := v.toList ++ rest }) target → Steps p.tables e below (T.setTop g) target := by
  obtain ⟨mk, methM, cM, hnamed, hmethM, -, -, -, -, -, -, hsigM⟩ := Cond.codeWith_spec hcode
  have hstatic : methM.isStatic = true := Cond.static_spec hnamed hmethM hstat
  obtain ⟨kP, hkP, -⟩ := className_of_methodNamed hnamed
  have hinitP : kP.init = .initialized := Cond.initialized_spec (findClass_of_methodNamed hnamed) hkP hinit
  obtain ⟨vm₁, X₁, hstep₁⟩ := X.invokestatic hexec hown hlink hnamed hmethM hstatic hkP hinitP hy (g := g) hg (argsL := argsL) (rest := rest) (hlen _ hsigM) hstack hdg
  obtain ⟨v, B, X', hpost, hsteps⟩ := hK m meth c ⟨T.setVm vm₁, locs, cells, slots⟩ { g with stack := rest } (.invokestatic index) mk argsL.toArray X₁ hg hsize hdg hW (X₁.named hnamed) (hpre vm₁ X₁.warmed)
  exact ⟨v, vm₁, B, X₁.warmed, X', hpost, fun target h => hstep₁ _ fun acts => by rw [doInvoke_state]; exact hsteps.trans h⟩
theorem vx_runSW {y : MethodName} {bytes cc : ByteArray} {maxL nL mc ms n index : Nat} {ret : Option FieldType} {hh : List (Nat × Nat × Nat × Nat)} {ws : List Cond} {rm : Room} {Pc : Array Value → State → Prop} {Qc : Array Value → State → Outcome → State → Prop} {free : Addr → Prop} {Ts : List Cond} {own : String} {As rest : List Value} {g : JFrame}
    (S : CallFix p m c cc nL s args Ts own) (hM : Met l y ws rm Pc Qc mc ms free) (cw : vx_CSW R s args own index y bytes maxL ret hh ws rm mc ms n) (hp : PreS s H Pc As)
    (hg : g.method = m) (hn : As.length = n) (hsize : g.locals.size = nL) (hstack : g.stack = As.reverse ++ rest) (hW : 2 * g.monitorRoom + (rest.map fun v => v.category).sum ≤ 8) (hdg : decode cc g.pc = .ok (.invokestatic index, 3)) (hf : cells + mc ≤ R.cells ∧ slots + ms ≤ R.slots) :
    va_Run p l e R s m args below meth c H locs cells slots mc ms g rest (Qc As.toArray) (free) := by
  obtain ⟨⟨hrc, hrs, hfr, hlo, hws, hcw⟩, hcode, hini, hy, hlen, hl, hstt⟩ := cw
  have hK : Back l R p e below s args y 3 8 (PreOf R mc ms Pc) (PostOf Qc mc ms free) := va_backW (hh := hh) (bytes := bytes) (maxL := maxL) (ret := ret) hM hp.1 hrc hrs hfr hlo hws hcw (fun a' U hW => word_at hW (Or.inl (by first | rfl | simp [Cond.onTables, Cond.keeps, Cond.steady])) hini)
  obtain ⟨hx, hb, hml, ho, -⟩ := S
  intro T hT X
  obtain ⟨v, vm₁, ⟨U', l2, c2, s2⟩, hW₁, X', ⟨g', mk, t, L, e1, e2, hq, h1, hL, h2, h3⟩, st⟩ := vx_callSW X hx (hh := hh) (bytes := bytes) (maxL := maxL) (ret := ret) ho hl hstt hini hcode hy hK hg (hsize.trans hml.symm) (argsL := As) (rest := rest) (fun sig h => hn.trans (hlen sig h)) hstack hW (by rw [hb]; exact hdg)
    (fun vm₁ hW₁ => ⟨hf.1, hf.2, hp.2 (T.setVm vm₁) hT hW₁⟩)
  dsimp only [Pt.U, Pt.locs, Pt.cells, Pt.slots] at X' e1 e2 h1 h2 h3 st
  subst h1; subst h2; subst h3
  exact ⟨v, (T.setVm vm₁).calling g' mk As.toArray, t, U', L, hT, X', hL, e1, e2, hq, st⟩
/-- not caught here, past rows that name other classes: it goes on to the caller -/
theorem vx_outP {p : Program} {l : Launch} {e : Env} {R : Room} {s : State} {m : MethodId} {args : Array Value} {below : List Frame} {meth : Method} {c : Code} {H : Heap} {locs : List Loc} {cells slots : Nat} {free : Addr → Prop} {ls : Array Slot} {rest : List Value} {Qc : Array Value → State → Outcome → State → Prop} {XC : String → State → State → Prop}
    {pc : Nat} {own E : String} {ce : Cell} {q : Addr} {mc ms : Nat} (hown : s.vm.findClass own = some m.cls) (hlocks : meth.locks = false)
    (hpass : ∀ z ∈ c.exceptionTable.toList, covers z pc = false ∨ (z.catchType ≠ 0 ∧ ∃ nm : String, (Cond.classLink own z.catchType nm).before args s = true ∧ va_Nc E nm s)) (hcell : H[q]? = some ce) (hv : ce.vm = .none) (hcl : s.vm.findClass E = some ce.cls)
    (hx : ∀ t : State, t.heap = H → s.vm.Alike t.vm → XC E s t) (hf : ∀ z ∈ locs, free z.base) (hc : cells ≤ mc) (hs : slots ≤ ms) :
    vx_W p l e R s m args below meth c H locs cells slots (vx_MQ below Qc XC args s mc ms free) (F0 m pc ls rest) q := by
  intro T hT X
  have hpl : e.platform.magicAccessors = ({} : Platform).magicAccessors := by rw [X.admits.platform]
  obtain ⟨vm', hW', X', st⟩ := X.outThrough hlocks q (g := F0 m pc ls rest) rfl rfl rfl (cell := ce) (by rw [hT]; exact hcell) (by rw [hv]; rfl)
    (by obtain ⟨k9, h9, -⟩ := Vm.findClass_spec hcl; exact ⟨k9, h9⟩) (fun z hz => by
      rcases hpass z hz with h | ⟨hz0, nm, hl1, hn1⟩
      · exact Or.inl h
      · obtain ⟨c6, hc6, hcl6⟩ := Cond.classLink_spec hown hl1 e.platform hpl
        obtain ⟨a8, b8, h1, h2, h3⟩ := hn1
        cases Option.some.inj (h1.symm.trans hcl)
        cases Option.some.inj (h2.symm.trans hc6)
        exact Or.inr ⟨hz0, _, hcl6, h3⟩)
  obtain ⟨g₀, hfr⟩ := X'.frames_eq
  have hcell9 : ((T.setVm vm').setFrames (.throwing q :: below)).heap[q]? = some ce := by
    show T.heap[q]? = some ce
    rw [hT]; exact hcell
  have hend : Ended ((T.setVm vm').setFrames (.throwing q :: below)) below (.threw q) := State.frames_setFrames _ (State.cur_lt_of_frames hfr)
  refine ⟨(T.setVm vm').setFrames (.throwing q :: below), ?_, .threw q, X'.here.running, hend, Or.inr ⟨q, rfl, E, ce, locs, hx _ hT (X'.ends _).1.alike, hcell9, hv, hcl, (X'.ends _).1, (X'.ends _).2.mono hc hs, hf⟩⟩
  rw [X.pushThrowing_eq]
  exact st
/-- a thing of a world lies in the heap -/
theorem vx_lt {D : va_G} {cl : List vw_C} {ws : va_W} {H1 : Heap} (h : va_P D cl ws H1) {k : Nat} {q : Nat × va_E} (hk : ws[k]? = some q) : q.1 < H1.size := (h k q hk).lt
end VXS
/-! ===== END ===== -/
/-! ===== BEGIN methods with a table of their own: called by a name, returning or throwing ===== -/
section VXH
/-! vx_backW, vx_callVX, vx_callSX, vx_callVW, vx_runVW, vx_runVX, vx_runSX, vx_ofWH follow the same proofs as their sisters above (Free/Laws.lean, Shelf42/LK1.lean); vx_outP calls Shelf42/NT130.lean (outThrough). -/
section
variable {l : Launch} {R : Room} {p : Program} {e : Env} {below : List Frame} {s : State} {sargs : Array Value} {y : MethodName} {len W9 : Nat}
theorem vx_backW {ws : List Cond} {rm : Room} {Pc : Array Value → State → Prop} {Qc : Array Value → State → Outcome → State → Prop} {XC : String → State → State → Prop} {mc ms : Nat} {free : Addr → Prop} {bytes : ByteArray} {maxL : Nat} {ret : Option FieldType} {hh : List (Nat × Nat × Nat × Nat)}
    (hM : vx_Met l y ws rm Pc Qc XC mc ms free) (hblind : FrameBlind Pc) (hrc : rm.cells = mc) (hrs : rm.slots = ms)
    (hframes : rm.frames + 1 ≤ R.frames) (hlocals : W9 + (maxL + 11) + rm.locals ≤ R.locals)
    (hws : ∀ w ∈ ws, ∀ a' U, s.WarmedH U.vm → w.before a' U = true) (hcode : Cond.codeWith y bytes maxL ret hh ∈ ws) (hinit : ∀ a' U, s.WarmedH U.vm → (Cond.initialized y.cls).before a' U = true) :
    vx_Back l R p e below s sargs y len W9 (PreOf R mc ms Pc) (PostOf Qc mc ms free) (vx_Post XC mc ms free) := by
  intro m meth c A g ig mk a X hg hsize hdg hW hn hp
  have h1 : (headSpec ws rm).pre.before a A.U = true := atoms_intro fun w hw => hws w hw _ _ X.warmed
  have h2 : (Cond.codeWith y bytes maxL ret hh).before a A.U = true := hws _ hcode _ _ X.warmed
  have h3 : (Cond.initialized y.cls).before a A.U = true := hinit _ _ X.warmed
  have h4 : A.cells + (headSpec ws rm).room.cells ≤ R.cells := by rw [show (headSpec ws rm).room.cells = mc from hrc]; exact hp.1
  have h5 : A.slots + (headSpec ws rm).room.slots ≤ R.slots := by rw [show (headSpec ws rm).room.slots = ms from hrs]; exact hp.2.1
  have hPc : Pc a (A.U.calling g mk a) := hblind _ _ _ _ hp.2.2
  obtain ⟨U, Ls, c0, s0⟩ := A
  dsimp only [Pt.U, Pt.locs, Pt.cells, Pt.slots] at h1 h2 h3 h4 h5 X hn hPc ⊢
  obtain ⟨m9, methY, cY, hn9, hmY, hcY, -, hlY, -⟩ := Cond.codeWith_spec h2
  cases Option.some.inj (hn9.symm.trans hn)
  obtain ⟨kY, hkY, -⟩ := className_of_methodNamed hn
  have hinitY : kY.init = .initialized := Cond.initialized_spec (findClass_of_methodNamed hn) hkY h3
  have h : At U g.method c below := by rw [hg]; exact X.here
  have hlocals9 : W9 + (maxL + 11) + (headSpec ws rm).room.locals ≤ R.locals := hlocals
  have happ : (headSpec ws rm).appliesLoose y e.platform (U.calling g mk a) = true :=
    Spec.appliesLoose_calling (g := g) h hdg hn hkY hinitY
      (X.room_calling (g := g) (R' := (headSpec ws rm).room) hsize hmY hcY hframes (by rw [hlY]; omega) h4 h5) h1
  obtain ⟨mid, hmid⟩ := h.above
  have hfr : (U.setTop g).frames = (.java g :: mid) ++ below := by rw [State.frames_setTop' g h.top, hmid]; rfl
  obtain ⟨o, s₂, hsteps, -, hend, hq⟩ := Steps.callFree hM p X.admits X.cas X.clock (acts := []) hfr happ hPc trivial
  have hq' : vx_Q Qc XC mc ms free a (U.calling g mk a) o s₂ := hq
  rw [State.frames_setTop' g h.top] at hend
  obtain ⟨g₀, hg0⟩ := Option.isSome_iff_exists.mp h.top
  obtain ⟨r, hr⟩ := State.topJava?_eq_some.mp hg0
  have hr' : (({ U with heap := s₂.heap, slotsUsed := s₂.slotsUsed } : State).setVm s₂.vm).frames = .java g₀ :: r := hr
  rcases hq' with ⟨hqc, L, hfe, hL⟩ | ⟨q, rfl, E, ce, L, hx, hce, hcv, hcl, hW₂, hsm, hL⟩
  · obtain ⟨⟨v, rfl⟩, hW₂, e2, q2, q3, q4, q5, q6⟩ := id hfe
    have e3 : s₂ = ({ (U.calling g mk a).setFrames s₂.frames with heap := s₂.heap, slotsUsed := s₂.slotsUsed } : State).setVm s₂.vm := by
      have : s₂ = ({ s₂ with vm := (U.calling g mk a).vm } : State).setVm s₂.vm := rfl
      rw [e2] at this
      exact this
    obtain ⟨c₂, i₂, len₂, hc₂, hd₂, hf₂⟩ := hend
    have hW' : U.WarmedH s₂.vm := hW₂
    have hcc : c₂ = c := by
      have h1 : s₂.code? g.method = U.code? g.method := by
        rw [State.code?_eq, State.code?_eq, hW'.alike.method?]
      exact Option.some.inj (hc₂.symm.trans (h1.trans h.code))
    subst hcc
    have hlen : len₂ = len := by rw [hdg] at hd₂; cases hd₂; rfl
    subst hlen
    have hs₂ : s₂ = (({ U with heap := s₂.heap, slotsUsed := s₂.slotsUsed } : State).setVm s₂.vm).setTop { g with pc := g.pc + len₂, stack := v.toList ++ g.stack } := by
      refine e3.trans ?_
      rw [hf₂, State.calling_eq h.top, State.setFrames_setFrames, State.setTop_of_frames _ hr', hr]
      rfl
    have hsame : U.sameButNew ({ U with heap := s₂.heap, slotsUsed := s₂.slotsUsed } : State) L mc ms := by
      refine ⟨?_, q2, q3, q4, q5, q6⟩
      obtain ⟨t, ht, -⟩ := State.frames_cons hr
      show ({ U with heap := s₂.heap, slotsUsed := s₂.slotsUsed } : State) = { U.setFrames U.frames with heap := s₂.heap, slotsUsed := s₂.slotsUsed }
      rw [State.setFrames_self ht]
    subst hg
    refine Or.inl ⟨v, ⟨(({ U with heap := s₂.heap, slotsUsed := s₂.slotsUsed } : State).setVm s₂.vm), Ls ++ L, c0 + mc, s0 + ms⟩,
      ⟨X.admits, X.cas, X.clock, X.frames, X.room, X.hears, X.method, X.code, (X.here.setHeapUsed s₂.heap s₂.slotsUsed).setVm hW'.alike, X.tail, State.WarmedH.trans X.warmed hW', X.limits, X.bytes, X.same.trans (hsame.setVm s.vm)⟩,
      ⟨g, mk, s₂, L, rfl, rfl, hqc, rfl, hL, rfl, rfl⟩, ?_⟩
    show Steps p.tables e below _ ((({ U with heap := s₂.heap, slotsUsed := s₂.slotsUsed } : State).setVm s₂.vm).setTop { g with pc := g.pc + len₂, stack := v.toList ++ g.stack })
    rw [← hs₂]
    exact hsteps
  · obtain ⟨e2, q2, q3, q4, q5, q6⟩ := id hsm
    have e3 : s₂ = ({ (U.calling g mk a).setFrames s₂.frames with heap := s₂.heap, slotsUsed := s₂.slotsUsed } : State).setVm s₂.vm := by
      have : s₂ = ({ s₂ with vm := (U.calling g mk a).vm } : State).setVm s₂.vm := rfl
      rw [e2] at this
      exact this
    have hf₂ : s₂.frames = .throwing q :: .java g :: U.frames.tail := hend
    have hW' : U.WarmedH s₂.vm := hW₂
    have hs₂ : s₂ = ((({ U with heap := s₂.heap, slotsUsed := s₂.slotsUsed } : State).setVm s₂.vm).setTop g).pushFrame (.throwing q) := by
      refine e3.trans ?_
      rw [hf₂, State.calling_eq h.top, State.setFrames_setFrames, State.pushFrame, State.frames_setTop _ hr', State.setTop_of_frames _ hr', State.setFrames_setFrames, hr]
      rfl
    have hsame : U.sameButNew ({ U with heap := s₂.heap, slotsUsed := s₂.slotsUsed } : State) L mc ms := by
      refine ⟨?_, q2, q3, q4, q5, q6⟩
      obtain ⟨t, ht, -⟩ := State.frames_cons hr
      show ({ U with heap := s₂.heap, slotsUsed := s₂.slotsUsed } : State) = { U.setFrames U.frames with heap := s₂.heap, slotsUsed := s₂.slotsUsed }
      rw [State.setFrames_self ht]
    subst hg
    refine Or.inr ⟨q, ⟨(({ U with heap := s₂.heap, slotsUsed := s₂.slotsUsed } : State).setVm s₂.vm), Ls ++ L, c0 + mc, s0 + ms⟩,
      ⟨X.admits, X.cas, X.clock, X.frames, X.room, X.hears, X.method, X.code, (X.here.setHeapUsed s₂.heap s₂.slotsUsed).setVm hW'.alike, X.tail, State.WarmedH.trans X.warmed hW', X.limits, X.bytes, X.same.trans (hsame.setVm s.vm)⟩,
      ⟨g, mk, s₂, L, E, ce, rfl, rfl, hx, hce, hcv, hcl, rfl, hL, rfl, rfl⟩, ?_⟩
    show Steps p.tables e below _ (((({ U with heap := s₂.heap, slotsUsed := s₂.slotsUsed } : State).setVm s₂.vm).setTop g).pushFrame (.throwing q))
    rw [← hs₂]
    exact hsteps
end
variable {p : Program} {l : Launch} {e : Env} {R : Room} {s : State} {m : MethodId} {args : Array Value} {below : List Frame} {meth : Method} {c : Code} {T : State} {H : Heap} {locs : List Loc} {cells slots : Nat}
theorem vx_callVX (X : Stand p l e R s m args below meth c T locs cells slots) (hexec : p.tables.exec = Jvm.exec) {own C : String} {index : Nat} {y : MethodName} {bytes : ByteArray} {maxL : Nat} {ret : Option FieldType} {hh : List (Nat × Nat × Nat × Nat)}
    (hown : s.vm.findClass own = some m.cls) (hlink : (Cond.methodLink own index y).before args s = true) (hinst : (Cond.instanceMethod y).before args s = true) (hsel : (Cond.selects C y y).before args s = true)
    (hcode : (Cond.codeWith y bytes maxL ret hh).before args s = true) (hy : y.cls ≠ "java/lang/invoke/MethodHandle" ∧ y.cls ≠ "java/lang/invoke/VarHandle")
    {W9 : Nat} {Pre : Pt → Array Value → Prop} {Post : Pt → Array Value → Option Value → Pt → Prop} {PostX : Pt → Array Value → Addr → Pt → Prop} (hK : vx_Back l R p e below s args y 3 W9 Pre Post PostX)
    {b : Addr} {cellB : Cell} (hcell : T.heap[b]? = some cellB) (hobj : cellB.vm.isStatics = false) (hcls : s.vm.findClass C = some cellB.cls)
    {g : JFrame} (hg : g.method = m) (hsize : g.locals.size = c.maxLocals) {argsL rest : List Value} (hlen : ∀ sig, parseMethodDescriptor y.desc = some sig → argsL.length = sig.parameters.length)
    (hstack : g.stack = argsL.reverse ++ .ref b :: rest) (hW : 2 * g.monitorRoom + (rest.map fun v => v.category).sum ≤ W9) (hdg : decode c.code g.pc = .ok (.invokevirtual index, 3))
    (hpre : ∀ vm₁, s.WarmedH vm₁ → Pre ⟨T.setVm vm₁, locs, cells, slots⟩ (Value.ref b :: argsL).toArray) :
    (∃ (v : Option Value) (vm₁ : Vm) (B : Pt), s.WarmedH vm₁ ∧ Stand p l e R s m args below meth c B.U B.locs B.cells B.slots ∧ Post ⟨T.setVm vm₁, locs, cells, slots⟩ (Value.ref b :: argsL).toArray v B ∧
      ∀ target, Steps p.tables e below (B.U.setTop { g with pc := g.pc + 3, stack := v.toList ++ rest }) target → Steps p.tables e below (T.setTop g) target) ∨
    (∃ (q : Addr) (vm₁ : Vm) (B : Pt), s.WarmedH vm₁ ∧ Stand p l e R s m args below meth c B.U B.locs B.cells B.slots ∧ PostX ⟨T.setVm vm₁, locs, cells, slots⟩ (Value.ref b :: argsL).toArray q B ∧
      Steps p.tables e below (T.setTop g) ((B.U.setTop { g with stack := rest }).pushFrame (.throwing q))) := by
  obtain ⟨mk, methM, hnamed, hmethM, hstM, habM⟩ := Cond.instanceMethod_spec hinst
  obtain ⟨m8, methM', cM, hn8, hmethM', -, -, -, -, -, -, hsigM⟩ := Cond.codeWith_spec hcode
  cases Option.some.inj (hn8.symm.trans hnamed)
  cases hmethM.symm.trans hmethM'
  obtain ⟨c2, r2, m2, q1, q2, q3, q4, kP, hkP, hkPi⟩ := Cond.selects_spec hsel
  cases hcls.symm.trans q1
  cases (State.methodFound?_of_named hnamed hy).symm.trans q2
  cases hnamed.symm.trans q3
  have hselP : selectMethod e.platform s.vm cellB.cls mk = .method mk := by rw [Launch.admits_selectMethod X.admits]; exact q4
  obtain ⟨vm₁, X₁, hstep₁⟩ := X.invokevirtual hexec hown hlink hnamed hmethM hstM hkP hkPi hy (a := b) (cell := cellB) hcell
    (fun z h => by rw [h] at hobj; cases hobj) hselP hmethM habM hkP hkPi (g := g) hg (argsL := argsL) (rest := rest) (hlen _ hsigM) hstack hdg
  rcases hK m meth c ⟨T.setVm vm₁, locs, cells, slots⟩ { g with stack := rest } (.invokevirtual index) mk (Value.ref b :: argsL).toArray X₁ hg hsize hdg hW (X₁.named hnamed) (hpre vm₁ X₁.warmed) with ⟨v, B, X', hpost, hsteps⟩ | ⟨q, B, X', hpost, hsteps⟩
  · exact Or.inl ⟨v, vm₁, B, X₁.warmed, X', hpost, fun target h => hstep₁ _ fun acts => by rw [doInvoke_state]; exact hsteps.trans h⟩
  · exact Or.inr ⟨q, vm₁, B, X₁.warmed, X', hpost, hstep₁ _ fun acts => by rw [doInvoke_state]; exact hsteps⟩
theorem vx_callSX (X : Stand p l e R s m args below meth c T locs cells slots) (hexec : p.tables.exec = Jvm.exec) {own : String} {index : Nat} {y : MethodName} {bytes : ByteArray} {maxL : Nat} {ret : Option FieldType} {hh : List (Nat × Nat × Nat × Nat)}
    (hown : s.vm.findClass own = some m.cls) (hlink : (Cond.methodLink own index y).before args s = true) (hstat : (Cond.static y).before args s = true) (hinit : (Cond.initialized y.cls).before args s = true)
    (hcode : (Cond.codeWith y bytes maxL ret hh).before args s = true) (hy : y.cls ≠ "java/lang/invoke/MethodHandle" ∧ y.cls ≠ "java/lang/invoke/VarHandle")
    {W9 : Nat} {Pre : Pt → Array Value → Prop} {Post : Pt → Array Value → Option Value → Pt → Prop} {PostX : Pt → Array Value → Addr → Pt → Prop} (hK : vx_Back l R p e below s args y 3 W9 Pre Post PostX)
    {g : JFrame} (hg : g.method = m) (hsize : g.locals.size = c.maxLocals) {argsL rest : List Value} (hlen : ∀ sig, parseMethodDescriptor y.desc = some sig → argsL.length = sig.parameters.length)
    (hstack : g.stack = argsL.reverse ++ rest) (hW : 2 * g.monitorRoom + (rest.map fun v => v.category).sum ≤ W9) (hdg : decode c.code g.pc = .ok (.invokestatic index, 3))
    (hpre : ∀ vm₁, s.WarmedH vm₁ → Pre ⟨T.setVm vm₁, locs, cells, slots⟩ argsL.toArray) :
    (∃ (v : Option Value) (vm₁ : Vm) (B : Pt), s.WarmedH vm₁ ∧ Stand p l e R s m args below meth c B.U B.locs B.cells B.slots ∧ Post ⟨T.setVm vm₁, locs, cells, slots⟩ argsL.toArray v B ∧
      ∀ target, Steps p.tables e below (B.U.setTop { g with pc := g.pc + 3, stack := v.toList ++ rest }) target → Steps p.tables e below (T.setTop g) target) ∨
    (∃ (q : Addr) (vm₁ : Vm) (B : Pt), s.WarmedH vm₁ ∧ Stand p l e R s m args below meth c B.U B.locs B.cells B.slots ∧ PostX ⟨T.setVm vm₁, locs, cells, slots⟩ argsL.toArray q B ∧
      Steps p.tables e below (T.setTop g) ((B.U.setTop { g with stack := rest }).pushFrame (.throwing q))) := by
  obtain ⟨mk, methM, cM, hnamed, hmethM, -, -, -, -, -, -, hsigM⟩ := Cond.codeWith_spec hcode
  have hstatic : methM.isStatic = true := Cond.static_spec hnamed hmethM hstat
  obtain ⟨kP, hkP, -⟩ := className_of_methodNamed hnamed
  have hinitP : kP.init = .initialized := Cond.initialized_spec (findClass_of_methodNamed hnamed) hkP hinit
  obtain ⟨vm₁, X₁, hstep₁⟩ := X.invokestatic hexec hown hlink hnamed hmethM hstatic hkP hinitP hy (g := g) hg (argsL := argsL) (rest := rest) (hlen _ hsigM) hstack hdg
  rcases hK m meth c ⟨T.setVm vm₁, locs, cells, slots⟩ { g with stack := rest } (.invokestatic index) mk argsL.toArray X₁ hg hsize hdg hW (X₁.named hnamed) (hpre vm₁ X₁.warmed) with ⟨v, B, X', hpost, hsteps⟩ | ⟨q, B, X', hpost, hsteps⟩
  · exact Or.inl ⟨v, vm₁, B, X₁.warmed, X', hpost, fun target h => hstep₁ _ fun acts => by rw [doInvoke_state]; exact hsteps.trans h⟩
  · exact Or.inr ⟨q, vm₁, B, X₁.warmed, X', hpost, hstep₁ _ fun acts => by rw [doInvoke_state]; exact hsteps⟩
theorem vx_callVW (X : Stand p l e R s m args below meth c T locs cells slots) (hexec : p.tables.exec = Jvm.exec) {own C : String} {index : Nat} {y : MethodName} {bytes : ByteArray} {maxL : Nat} {ret : Option FieldType} {hh : List (Nat × Nat × Nat × Nat)}
    (hown : s.vm.findClass own = some m.cls) (hlink : (Cond.methodLink own index y).before args s = true) (hinst : (Cond.instanceMethod y).before args s = true) (hsel : (Cond.selects C y y).before args s = true)
    (hcode : (Cond.codeWith y bytes maxL ret hh).before args s = true) (hy : y.cls ≠ "java/lang/invoke/MethodHandle" ∧ y.cls ≠ "java/lang/invoke/VarHandle")
    {W9 : Nat} {Pre : Pt → Array Value → Prop} {Post : Pt → Array Value → Option Value → Pt → Prop} (hK : Back l R p e below s args y 3 W9 Pre Post)
    {b : Addr} {cellB : Cell} (hcell : T.heap[b]? = some cellB) (hobj : cellB.vm.isStatics = false) (hcls : s.vm.findClass C = some cellB.cls)
    {g : JFrame} (hg : g.method = m) (hsize : g.locals.size = c.maxLocals) {argsL rest : List Value} (hlen : ∀ sig, parseMethodDescriptor y.desc = some sig → argsL.length = sig.parameters.length)
    (hstack : g.stack = argsL.reverse ++ .ref b :: rest) (hW : 2 * g.monitorRoom + (rest.map fun v => v.category).sum ≤ W9) (hdg : decode c.code g.pc = .ok (.invokevirtual index, 3))
    (hpre : ∀ vm₁, s.WarmedH vm₁ → Pre ⟨T.setVm vm₁, locs, cells, slots⟩ (Value.ref b :: argsL).toArray) :
    ∃ (v : Option Value) (vm₁ : Vm) (B : Pt), s.WarmedH vm₁ ∧ Stand p l e R s m args below meth c B.U B.locs B.cells B.slots ∧ Post ⟨T.setVm vm₁, locs, cells, slots⟩ (Value.ref b :: argsL).toArray v B ∧
      ∀ target, Steps p.tables e below (B.U.setTop { g with pc := g.pc + 3, stack := v.toList ++ rest }) target → Steps p.tables e below (T.setTop g) target := by
  obtain ⟨mk, methM, hnamed, hmethM, hstM, habM⟩ := Cond.instanceMethod_spec hinst
  obtain ⟨m8, methM', cM, hn8, hmethM', -, -, -, -, -, -, hsigM⟩ := Cond.codeWith_spec hcode
  cases Option.some.inj (hn8.symm.trans hnamed)
  cases hmethM.symm.trans hmethM'
  obtain ⟨c2, r2, m2, q1, q2, q3, q4, kP, hkP, hkPi⟩ := Cond.selects_spec hsel
  cases hcls.symm.trans q1
  cases (State.methodFound?_of_named hnamed hy).symm.trans q2
  cases hnamed.symm.trans q3
  have hselP : selectMethod e.platform s.vm cellB.cls mk = .method mk := by rw [Launch.admits_selectMethod X.admits]; exact q4
  obtain ⟨vm₁, X₁, hstep₁⟩ := X.invokevirtual hexec hown hlink hnamed hmethM hstM hkP hkPi hy (a := b) (cell := cellB) hcell
    (fun z h => by rw [h] at hobj; cases hobj) hselP hmethM habM hkP hkPi (g := g) hg (argsL := argsL) (rest := rest) (hlen _ hsigM) hstack hdg
  obtain ⟨v, B, X', hpost, hsteps⟩ := hK m meth c ⟨T.setVm vm₁, locs, cells, slots⟩ { g with stack := rest } (.invokevirtual index) mk (Value.ref b :: argsL).toArray X₁ hg hsize hdg hW (X₁.named hnamed) (hpre vm₁ X₁.warmed)
  exact ⟨v, vm₁, B, X₁.warmed, X', hpost, fun target h => hstep₁ _ fun acts => by rw [doInvoke_state]; exact hsteps.trans h⟩
abbrev vx_CVW (R : Room) (s : State) (args : Array Value) (own C : String) (index : Nat) (y : MethodName) (bytes : ByteArray) (maxL : Nat) (ret : Option FieldType) (hh : List (Nat × Nat × Nat × Nat)) (ws : List Cond) (rm : Room) (mc ms n : Nat) : Prop :=
  (rm.cells = mc ∧ rm.slots = ms ∧ rm.frames + 1 ≤ R.frames ∧ 8 + (maxL + 11) + rm.locals ≤ R.locals ∧ (∀ w ∈ ws, ∀ (a' : Array Value) (U : State), s.WarmedH U.vm → w.before a' U = true) ∧ Cond.codeWith y bytes maxL ret hh ∈ ws) ∧
  (Cond.codeWith y bytes maxL ret hh).before args s = true ∧ (Cond.initialized y.cls).before args s = true ∧ (y.cls ≠ "java/lang/invoke/MethodHandle" ∧ y.cls ≠ "java/lang/invoke/VarHandle") ∧
  (∀ sig, parseMethodDescriptor y.desc = some sig → n = sig.parameters.length) ∧ (Cond.methodLink own index y).before args s = true ∧ (Cond.instanceMethod y).before args s = true ∧ (Cond.selects C y y).before args s = true
theorem vx_cwVW {own C : String} {index maxL mc ms : Nat} {y : MethodName} {bytes : ByteArray} {ret : Option FieldType} {hh : List (Nat × Nat × Nat × Nat)} {Ts ws ws' : List Cond} {rm : Room} (n : Nat) (ht : ∀ w ∈ Ts, w.before args s = true) (hT : GoodIn Ts (wsV own index C y ws)) (hw : ws = Cond.codeWith y bytes maxL ret hh :: ws') (hrc : rm.cells = mc) (hrs : rm.slots = ms)
    (hd : y.cls = C ∧ y.cls ≠ "java/lang/invoke/MethodHandle" ∧ y.cls ≠ "java/lang/invoke/VarHandle" ∧ (parseMethodDescriptor y.desc).map (fun d => d.parameters.length) = some n) (hR : rm.frames + 1 ≤ R.frames ∧ 8 + (maxL + 11) + rm.locals ≤ R.locals) :
    vx_CVW R s args own C index y bytes maxL ret hh ws rm mc ms n := by
  obtain ⟨hC, hd⟩ := hd
  subst hC
  have ok : ∀ w ∈ wsV own index y.cls y ws, w.before args s = true := fun w h => ht w (hT w h).1
  have hG : GoodIn Ts ws := fun w h => hT w (by unfold wsV; exact List.mem_append_right _ h)
  have hc : Cond.codeWith y bytes maxL ret hh ∈ ws := by rw [hw]; exact List.mem_cons_self
  refine ⟨⟨hrc, hrs, hR.1, hR.2, pay_in ht hG, hc⟩, ht _ (hG _ hc).1, ok _ (by simp [wsV]), ⟨hd.1, hd.2.1⟩, fun sig h => ?_, ok _ (by simp [wsV]), ok _ (by simp [wsV]), ok _ (by simp [wsV])⟩
  have h2 := hd.2.2
  rw [h] at h2
  exact (Option.some.inj h2).symm
theorem vx_runVW {y : MethodName} {bytes cc : ByteArray} {maxL nL mc ms n index : Nat} {ret : Option FieldType} {hh : List (Nat × Nat × Nat × Nat)} {ws : List Cond} {rm : Room} {Pc : Array Value → State → Prop} {Qc : Array Value → State → Outcome → State → Prop} {free : Addr → Prop} {Ts : List Cond} {own C : String} {b : Addr} {As rest : List Value} {g : JFrame}
    (S : CallFix p m c cc nL s args Ts own) (hM : Met l y ws rm Pc Qc mc ms free) (cw : vx_CVW R s args own C index y bytes maxL ret hh ws rm mc ms n) (hp : PreV s H C b Pc As)
    (hg : g.method = m) (hn : As.length = n) (hsize : g.locals.size = nL) (hstack : g.stack = As.reverse ++ .ref b :: rest) (hW : 2 * g.monitorRoom + (rest.map fun v => v.category).sum ≤ 8) (hdg : decode cc g.pc = .ok (.invokevirtual index, 3)) (hf : cells + mc ≤ R.cells ∧ slots + ms ≤ R.slots) :
    va_Run p l e R s m args below meth c H locs cells slots mc ms g rest (Qc (Value.ref b :: As).toArray) free := by
  obtain ⟨⟨hrc, hrs, hfr, hlo, hws, hcw⟩, hcode, hini, hy, hlen, hl, hin, hse⟩ := cw
  have hK : Back l R p e below s args y 3 8 (PreOf R mc ms Pc) (PostOf Qc mc ms free) := va_backW (hh := hh) (bytes := bytes) (maxL := maxL) (ret := ret) hM hp.1 hrc hrs hfr hlo hws hcw (fun a' U hW => word_at hW (Or.inl (by first | rfl | simp [Cond.onTables, Cond.keeps, Cond.steady])) hini)
  obtain ⟨hx, hb, hml, ho, -⟩ := S
  obtain ⟨-, ⟨cellB, hcB, hoB, hclB⟩, hPc⟩ := hp
  intro T hT X
  obtain ⟨v, vm₁, ⟨U', l2, c2, s2⟩, hW₁, X', ⟨g', mk, t, L, e1, e2, hq, h1, hL, h2, h3⟩, st⟩ := vx_callVW X hx (C := C) (hh := hh) (bytes := bytes) (maxL := maxL) (ret := ret) ho hl hin hse hcode hy hK (by rw [hT]; exact hcB) hoB hclB hg (hsize.trans hml.symm) (argsL := As) (rest := rest) (fun sig h => hn.trans (hlen sig h)) hstack hW (by rw [hb]; exact hdg)
    (fun vm₁ hW₁ => ⟨hf.1, hf.2, hPc (T.setVm vm₁) hT hW₁⟩)
  dsimp only [Pt.U, Pt.locs, Pt.cells, Pt.slots] at X' e1 e2 h1 h2 h3 st
  subst h1; subst h2; subst h3
  exact ⟨v, (T.setVm vm₁).calling g' mk (Value.ref b :: As).toArray, t, U', L, hT, X', hL, e1, e2, hq, st⟩
section
variable {y : MethodName} {bytes cc : ByteArray} {maxL nL mc ms n index : Nat} {ret : Option FieldType} {ws : List Cond} {rm : Room} {Pc : Array Value → State → Prop} {Qc : Array Value → State → Outcome → State → Prop} {XC : String → State → State → Prop} {free : Addr → Prop} {Ts : List Cond} {own C : String} {b : Addr} {As rest : List Value} {g : JFrame}
theorem vx_runVX {hh : List (Nat × Nat × Nat × Nat)} (S : CallFix p m c cc nL s args Ts own) (hM : vx_Met l y ws rm Pc Qc XC mc ms free) (cw : vx_CVW R s args own C index y bytes maxL ret hh ws rm mc ms n) (hp : PreV s H C b Pc As)
    (hg : g.method = m) (hn : As.length = n) (hsize : g.locals.size = nL) (hstack : g.stack = As.reverse ++ .ref b :: rest) (hW : 2 * g.monitorRoom + (rest.map fun v => v.category).sum ≤ 8) (hdg : decode cc g.pc = .ok (.invokevirtual index, 3)) (hf : cells + mc ≤ R.cells ∧ slots + ms ≤ R.slots) :
    vx_Run p l e R s m args below meth c H locs cells slots mc ms g rest (Qc (Value.ref b :: As).toArray) XC free := by
  obtain ⟨⟨hrc, hrs, hfr, hlo, hws, hcw⟩, hcode, hini, hy, hlen, hl, hin, hse⟩ := cw
  have hK : vx_Back l R p e below s args y 3 8 (PreOf R mc ms Pc) (PostOf Qc mc ms free) (vx_Post XC mc ms free) := vx_backW (hh := hh) (bytes := bytes) (maxL := maxL) (ret := ret) hM hp.1 hrc hrs hfr hlo hws hcw (fun a' U hW => word_at hW (Or.inl (by first | rfl | simp [Cond.onTables, Cond.keeps, Cond.steady])) hini)
  obtain ⟨hx, hb, hml, ho, -⟩ := S
  obtain ⟨-, ⟨cellB, hcB, hoB, hclB⟩, hPc⟩ := hp
  intro T hT X
  rcases vx_callVX X hx (C := C) (hh := hh) (bytes := bytes) (maxL := maxL) (ret := ret) ho hl hin hse hcode hy hK (by rw [hT]; exact hcB) hoB hclB hg (hsize.trans hml.symm) (argsL := As) (rest := rest) (fun sig h => hn.trans (hlen sig h)) hstack hW (by rw [hb]; exact hdg)
    (fun vm₁ hW₁ => ⟨hf.1, hf.2, hPc (T.setVm vm₁) hT hW₁⟩) with ⟨v, vm₁, ⟨U', l2, c2, s2⟩, hW₁, X', ⟨g', mk, t, L, e1, e2, hq, h1, hL, h2, h3⟩, st⟩ | ⟨q, vm₁, ⟨U', l2, c2, s2⟩, hW₁, X', ⟨g', mk, t, L, E, ce, e1, e2, hq, hce, hcv, hcl, h1, hL, h2, h3⟩, st⟩
  · dsimp only [Pt.U, Pt.locs, Pt.cells, Pt.slots] at X' e1 e2 h1 h2 h3 st
    subst h1; subst h2; subst h3
    exact Or.inl ⟨v, (T.setVm vm₁).calling g' mk (Value.ref b :: As).toArray, t, U', L, hT, X', hL, e1, e2, hq, st⟩
  · dsimp only [Pt.U, Pt.locs, Pt.cells, Pt.slots] at X' e1 e2 h1 h2 h3 st hcl
    subst h1; subst h2; subst h3
    exact Or.inr ⟨q, (T.setVm vm₁).calling g' mk (Value.ref b :: As).toArray, t, U', L, E, ce, hT, X', hL, e1, e2, hq, hce, hcv, vx_cls hW₁ hcl, st⟩
theorem vx_runSX {hh : List (Nat × Nat × Nat × Nat)} (S : CallFix p m c cc nL s args Ts own) (hM : vx_Met l y ws rm Pc Qc XC mc ms free) (cw : vx_CSW R s args own index y bytes maxL ret hh ws rm mc ms n) (hp : PreS s H Pc As)
    (hg : g.method = m) (hn : As.length = n) (hsize : g.locals.size = nL) (hstack : g.stack = As.reverse ++ rest) (hW : 2 * g.monitorRoom + (rest.map fun v => v.category).sum ≤ 8) (hdg : decode cc g.pc = .ok (.invokestatic index, 3)) (hf : cells + mc ≤ R.cells ∧ slots + ms ≤ R.slots) :
    vx_Run p l e R s m args below meth c H locs cells slots mc ms g rest (Qc As.toArray) XC free := by
  obtain ⟨⟨hrc, hrs, hfr, hlo, hws, hcw⟩, hcode, hini, hy, hlen, hl, hstt⟩ := cw
  have hK : vx_Back l R p e below s args y 3 8 (PreOf R mc ms Pc) (PostOf Qc mc ms free) (vx_Post XC mc ms free) := vx_backW (hh := hh) (bytes := bytes) (maxL := maxL) (ret := ret) hM hp.1 hrc hrs hfr hlo hws hcw (fun a' U hW => word_at hW (Or.inl (by first | rfl | simp [Cond.onTables, Cond.keeps, Cond.steady])) hini)
  obtain ⟨hx, hb, hml, ho, -⟩ := S
  intro T hT X
  rcases vx_callSX X hx (hh := hh) (bytes := bytes) (maxL := maxL) (ret := ret) ho hl hstt hini hcode hy hK hg (hsize.trans hml.symm) (argsL := As) (rest := rest) (fun sig h => hn.trans (hlen sig h)) hstack hW (by rw [hb]; exact hdg)
    (fun vm₁ hW₁ => ⟨hf.1, hf.2, hp.2 (T.setVm vm₁) hT hW₁⟩) with ⟨v, vm₁, ⟨U', l2, c2, s2⟩, hW₁, X', ⟨g', mk, t, L, e1, e2, hq, h1, hL, h2, h3⟩, st⟩ | ⟨q, vm₁, ⟨U', l2, c2, s2⟩, hW₁, X', ⟨g', mk, t, L, E, ce, e1, e2, hq, hce, hcv, hcl, h1, hL, h2, h3⟩, st⟩
  · dsimp only [Pt.U, Pt.locs, Pt.cells, Pt.slots] at X' e1 e2 h1 h2 h3 st
    subst h1; subst h2; subst h3
    exact Or.inl ⟨v, (T.setVm vm₁).calling g' mk As.toArray, t, U', L, hT, X', hL, e1, e2, hq, st⟩
  · dsimp only [Pt.U, Pt.locs, Pt.cells, Pt.slots] at X' e1 e2 h1 h2 h3 st hcl
    subst h1; subst h2; subst h3
    exact Or.inr ⟨q, (T.setVm vm₁).calling g' mk As.toArray, t, U', L, E, ce, hT, X', hL, e1, e2, hq, hce, hcv, vx_cls hW₁ hcl, st⟩
end
end VXH
theorem vx_ofWH {l : Launch} {y : MethodName} {ws ws' : List Cond} {rm : Room} {Pc : Array Value → State → Prop} {Qc : Array Value → State → Outcome → State → Prop} {XC : String → State → State → Prop} {mc ms : Nat} {free : Addr → Prop} {cc : ByteArray} {maxL : Nat} {ret : Option FieldType} {hh : List (Nat × Nat × Nat × Nat)}
    (hy : plainName y.cls = true) (hw : ws = Cond.codeWith y cc maxL ret hh :: ws')
    (body : ∀ p e s m args below meth c s₁, BodyLoose p l y (headSpec ws rm) cc maxL ret e s m args below meth c s₁ → c.maxLocals = maxL → Pc args s →
      W p l e (headSpec ws rm).room s m args below meth c s.heap [] 0 0 (vx_MQ below Qc XC args s mc ms free) (entryFrame m args maxL)) : vx_Met l y ws rm Pc Qc XC mc ms free := by
  refine MetFree.of_bodyS (code := cc) (maxLocals := maxL) (ret := ret) hy ?_ ?_
  · intro args s m h hn
    obtain ⟨m9, meth, c, hn9, h1, h2, h3, h4, -, h5, h6, -⟩ := Cond.codeWith_spec (atoms_spec (ws := ws) h _ (by rw [hw]; exact List.mem_cons_self))
    cases hn.symm.trans hn9
    exact ⟨meth, c, h1, h2, h3, h4, h5, h6⟩
  · intro p e s m args below meth c s₁ B hml hP _
    have hh0 : s₁.heap = s.heap := by rw [B.state]; rfl
    obtain ⟨t, a1, o, b1, b2, b3⟩ := body p e s m args below meth c s₁ B hml hP s₁ hh0 (Stand.of_body B)
    exact ⟨t, o, a1, b1, b2, b3⟩
/-! ===== END ===== -/
end
section
/-! names, fields: printed by the claim's own program (claim/NAMES.whole.lean.txt); the words by wip/whole/mknames.py -/
def RX0 : String := "PartSplitter$Lessons"
def TX0 : u_T := fun k => match k with
  | 0 => ("PartSplitter$Lessons", "lexicon", "LPartSplitter$Lexicon;", true)
  | 1 => ("PartSplitter$Lessons", "words", "[I", true)
  | 2 => ("PartSplitter$Lessons", "grown", "[I", true)
  | 3 => ("PartSplitter$Lessons", "grownSizes", "[I", true)
  | _ => ("PartSplitter$Lessons", "used", "I", false)
def tyX0 : Nat → FieldType := fun k => match k with
  | 0 => .object "PartSplitter$Lexicon"
  | 1 => .array .int
  | 2 => .array .int
  | 3 => .array .int
  | _ => .int
theorem nmX0 : ∀ a, a < 5 → ∀ b, b < 5 → a ≠ b → (TX0 a).2.1 ≠ (TX0 b).2.1 := by decide +kernel
theorem tyX0_ok : ∀ k, k < 5 → parseFieldDescriptor (TX0 k).2.2.1 = some (tyX0 k) := by decide +kernel
abbrev cX0_init : ByteArray := prog_2_method_1_code
def yX0_init : MethodName := ⟨RX0, "<init>", "(LPartSplitter$Lexicon;)V"⟩
abbrev cX0_begin : ByteArray := prog_2_method_2_code
def yX0_begin : MethodName := ⟨RX0, "begin", "(I)V"⟩
abbrev cX0_grow : ByteArray := prog_2_method_3_code
def yX0_grow : MethodName := ⟨RX0, "grow", "(I)V"⟩
abbrev cX0_takeBack : ByteArray := prog_2_method_4_code
def yX0_takeBack : MethodName := ⟨RX0, "takeBack", "()I"⟩
def RX1 : String := "PartSplitter$Lexicon"
def TX1 : u_T := fun k => match k with
  | 0 => ("PartSplitter$Lexicon", "partTexts", "[I", true)
  | 1 => ("PartSplitter$Lexicon", "partCounts", "[I", true)
  | 2 => ("PartSplitter$Lexicon", "partFlags", "[I", true)
  | 3 => ("PartSplitter$Lexicon", "linkTexts", "[I", true)
  | 4 => ("PartSplitter$Lexicon", "vetoes", "[Z", true)
  | 5 => ("PartSplitter$Lexicon", "bars", "[Z", true)
  | 6 => ("PartSplitter$Lexicon", "tree", "LPartSplitter$Tree;", true)
  | 7 => ("PartSplitter$Lexicon", "partsUsed", "I", false)
  | _ => ("PartSplitter$Lexicon", "linksUsed", "I", false)
def tyX1 : Nat → FieldType := fun k => match k with
  | 0 => .array .int
  | 1 => .array .int
  | 2 => .array .int
  | 3 => .array .int
  | 4 => .array .boolean
  | 5 => .array .boolean
  | 6 => .object "PartSplitter$Tree"
  | 7 => .int
  | _ => .int
theorem nmX1 : ∀ a, a < 9 → ∀ b, b < 9 → a ≠ b → (TX1 a).2.1 ≠ (TX1 b).2.1 := by decide +kernel
theorem tyX1_ok : ∀ k, k < 9 → parseFieldDescriptor (TX1 k).2.2.1 = some (tyX1 k) := by decide +kernel
abbrev cX1_init : ByteArray := prog_3_method_1_code
def yX1_init : MethodName := ⟨RX1, "<init>", "()V"⟩
abbrev cX1_enterPart : ByteArray := prog_3_method_2_code
def yX1_enterPart : MethodName := ⟨RX1, "enterPart", "(III)I"⟩
abbrev cX1_enterLink : ByteArray := prog_3_method_3_code
def yX1_enterLink : MethodName := ⟨RX1, "enterLink", "(I)I"⟩
abbrev cX1_partWith : ByteArray := prog_3_method_4_code
def yX1_partWith : MethodName := ⟨RX1, "partWith", "(I)I"⟩
abbrev cX1_linkWith : ByteArray := prog_3_method_5_code
def yX1_linkWith : MethodName := ⟨RX1, "linkWith", "(I)I"⟩
abbrev cX1_placeOf : ByteArray := prog_3_method_6_code
def yX1_placeOf : MethodName := ⟨RX1, "placeOf", "(I[II)I"⟩
abbrev cX1_costOfCount : ByteArray := prog_3_method_7_code
def yX1_costOfCount : MethodName := ⟨RX1, "costOfCount", "(I)I"⟩
abbrev cX1_lettersOfLink : ByteArray := prog_3_method_8_code
def yX1_lettersOfLink : MethodName := ⟨RX1, "lettersOfLink", "(I)I"⟩
abbrev cX1_mayStand : ByteArray := prog_3_method_9_code
def yX1_mayStand : MethodName := ⟨RX1, "mayStand", "(IZZ)Z"⟩
def RX2 : String := "PartSplitter$SplitRow"
def TX2 : u_T := fun k => match k with
  | 0 => ("PartSplitter$SplitRow", "lexicon", "LPartSplitter$Lexicon;", true)
  | 1 => ("PartSplitter$SplitRow", "letters", "[I", true)
  | 2 => ("PartSplitter$SplitRow", "partsHere", "[I", true)
  | 3 => ("PartSplitter$SplitRow", "linksHere", "[I", true)
  | 4 => ("PartSplitter$SplitRow", "keys", "[J", true)
  | 5 => ("PartSplitter$SplitRow", "length", "I", false)
  | _ => ("PartSplitter$SplitRow", "found", "I", false)
def tyX2 : Nat → FieldType := fun k => match k with
  | 0 => .object "PartSplitter$Lexicon"
  | 1 => .array .int
  | 2 => .array .int
  | 3 => .array .int
  | 4 => .array .long
  | 5 => .int
  | _ => .int
theorem nmX2 : ∀ a, a < 7 → ∀ b, b < 7 → a ≠ b → (TX2 a).2.1 ≠ (TX2 b).2.1 := by decide +kernel
theorem tyX2_ok : ∀ k, k < 7 → parseFieldDescriptor (TX2 k).2.2.1 = some (tyX2 k) := by decide +kernel
abbrev cX2_init : ByteArray := prog_4_method_1_code
def yX2_init : MethodName := ⟨RX2, "<init>", "(LPartSplitter$Lexicon;)V"⟩
abbrev cX2_gather : ByteArray := prog_4_method_2_code
def yX2_gather : MethodName := ⟨RX2, "gather", "(I)V"⟩
abbrev cX2_readLetters : ByteArray := prog_4_method_3_code
def yX2_readLetters : MethodName := ⟨RX2, "readLetters", "(I)V"⟩
abbrev cX2_findFrom : ByteArray := prog_4_method_4_code
def yX2_findFrom : MethodName := ⟨RX2, "findFrom", "(I)V"⟩
abbrev cX2_tryParts : ByteArray := prog_4_method_5_code
def yX2_tryParts : MethodName := ⟨RX2, "tryParts", "(IIIIJ)V"⟩
abbrev cX2_mayFollow : ByteArray := prog_4_method_6_code
def yX2_mayFollow : MethodName := ⟨RX2, "mayFollow", "(III)Z"⟩
abbrev cX2_tryLinks : ByteArray := prog_4_method_7_code
def yX2_tryLinks : MethodName := ⟨RX2, "tryLinks", "(IIIIJ)V"⟩
abbrev cX2_keep : ByteArray := prog_4_method_8_code
def yX2_keep : MethodName := ⟨RX2, "keep", "(IIJ)V"⟩
abbrev cX2_keyAt : ByteArray := prog_4_method_9_code
def yX2_keyAt : MethodName := ⟨RX2, "keyAt", "(I)J"⟩
abbrev cX2_sink : ByteArray := prog_4_method_10_code
def yX2_sink : MethodName := ⟨RX2, "sink", "(II)V"⟩
abbrev cX2_costIn : ByteArray := prog_4_method_11_code
def yX2_costIn : MethodName := ⟨RX2, "costIn", "(J)I"⟩
abbrev cX2_placesIn : ByteArray := prog_4_method_12_code
def yX2_placesIn : MethodName := ⟨RX2, "placesIn", "(J)I"⟩
abbrev cX2_partIn : ByteArray := prog_4_method_13_code
def yX2_partIn : MethodName := ⟨RX2, "partIn", "(JI)I"⟩
abbrev cX2_linkIn : ByteArray := prog_4_method_14_code
def yX2_linkIn : MethodName := ⟨RX2, "linkIn", "(JI)I"⟩
abbrev cX2_lettersAt : ByteArray := prog_4_method_15_code
def yX2_lettersAt : MethodName := ⟨RX2, "lettersAt", "(JI)I"⟩
abbrev cX2_shiftOf : ByteArray := prog_4_method_16_code
def yX2_shiftOf : MethodName := ⟨RX2, "shiftOf", "(I)I"⟩
def RX3 : String := "PartSplitter$Tree"
def TX3 : u_T := fun k => match k with
  | 0 => ("PartSplitter$Tree", "below", "[I", true)
  | 1 => ("PartSplitter$Tree", "isEnd", "[Z", true)
  | 2 => ("PartSplitter$Tree", "twins", "[I", true)
  | _ => ("PartSplitter$Tree", "used", "I", false)
def tyX3 : Nat → FieldType := fun k => match k with
  | 0 => .array .int
  | 1 => .array .boolean
  | 2 => .array .int
  | _ => .int
theorem nmX3 : ∀ a, a < 4 → ∀ b, b < 4 → a ≠ b → (TX3 a).2.1 ≠ (TX3 b).2.1 := by decide +kernel
theorem tyX3_ok : ∀ k, k < 4 → parseFieldDescriptor (TX3 k).2.2.1 = some (tyX3 k) := by decide +kernel
abbrev cX3_init : ByteArray := prog_5_method_1_code
def yX3_init : MethodName := ⟨RX3, "<init>", "()V"⟩
abbrev cX3_enter : ByteArray := prog_5_method_2_code
def yX3_enter : MethodName := ⟨RX3, "enter", "(I)V"⟩
abbrev cX3_madeBelow : ByteArray := prog_5_method_3_code
def yX3_madeBelow : MethodName := ⟨RX3, "madeBelow", "(II)I"⟩
abbrev cX3_differentNodes : ByteArray := prog_5_method_4_code
def yX3_differentNodes : MethodName := ⟨RX3, "differentNodes", "()I"⟩
abbrev cX3_twinOf : ByteArray := prog_5_method_5_code
def yX3_twinOf : MethodName := ⟨RX3, "twinOf", "(I)I"⟩
abbrev cX3_isFollowedAlike : ByteArray := prog_5_method_6_code
def yX3_isFollowedAlike : MethodName := ⟨RX3, "isFollowedAlike", "(II)Z"⟩
abbrev cX3_twinBelow : ByteArray := prog_5_method_7_code
def yX3_twinBelow : MethodName := ⟨RX3, "twinBelow", "(II)I"⟩
def RX4 : String := "PartSplitter"
def TX4 : u_T := fun k => match k with
  | 0 => ("PartSplitter", "lexicon", "LPartSplitter$Lexicon;", true)
  | 1 => ("PartSplitter", "row", "LPartSplitter$SplitRow;", true)
  | _ => ("PartSplitter", "lessons", "LPartSplitter$Lessons;", true)
def tyX4 : Nat → FieldType := fun k => match k with
  | 0 => .object "PartSplitter$Lexicon"
  | 1 => .object "PartSplitter$SplitRow"
  | _ => .object "PartSplitter$Lessons"
theorem nmX4 : ∀ a, a < 3 → ∀ b, b < 3 → a ≠ b → (TX4 a).2.1 ≠ (TX4 b).2.1 := by decide +kernel
theorem tyX4_ok : ∀ k, k < 3 → parseFieldDescriptor (TX4 k).2.2.1 = some (tyX4 k) := by decide +kernel
abbrev cX4_init : ByteArray := prog_1_method_1_code
def yX4_init : MethodName := ⟨RX4, "<init>", "()V"⟩
abbrev cX4_addPart : ByteArray := prog_1_method_2_code
def yX4_addPart : MethodName := ⟨RX4, "addPart", "(III)I"⟩
abbrev cX4_setFlags : ByteArray := prog_1_method_3_code
def yX4_setFlags : MethodName := ⟨RX4, "setFlags", "(II)I"⟩
abbrev cX4_addLink : ByteArray := prog_1_method_4_code
def yX4_addLink : MethodName := ⟨RX4, "addLink", "(I)I"⟩
abbrev cX4_veto : ByteArray := prog_1_method_5_code
def yX4_veto : MethodName := ⟨RX4, "veto", "(IIZ)Z"⟩
abbrev cX4_bar : ByteArray := prog_1_method_6_code
def yX4_bar : MethodName := ⟨RX4, "bar", "(IIZ)Z"⟩
abbrev cX4_parts : ByteArray := prog_1_method_7_code
def yX4_parts : MethodName := ⟨RX4, "parts", "()I"⟩
abbrev cX4_count : ByteArray := prog_1_method_8_code
def yX4_count : MethodName := ⟨RX4, "count", "(I)I"⟩
abbrev cX4_costOf : ByteArray := prog_1_method_9_code
def yX4_costOf : MethodName := ⟨RX4, "costOf", "(I)I"⟩
abbrev cX4_find : ByteArray := prog_1_method_10_code
def yX4_find : MethodName := ⟨RX4, "find", "(I)I"⟩
abbrev cX4_nodes : ByteArray := prog_1_method_11_code
def yX4_nodes : MethodName := ⟨RX4, "nodes", "()I"⟩
abbrev cX4_splits : ByteArray := prog_1_method_12_code
def yX4_splits : MethodName := ⟨RX4, "splits", "(I)I"⟩
abbrev cX4_cost : ByteArray := prog_1_method_13_code
def yX4_cost : MethodName := ⟨RX4, "cost", "(II)I"⟩
abbrev cX4_size : ByteArray := prog_1_method_14_code
def yX4_size : MethodName := ⟨RX4, "size", "(II)I"⟩
abbrev cX4_partAt : ByteArray := prog_1_method_15_code
def yX4_partAt : MethodName := ⟨RX4, "partAt", "(III)I"⟩
abbrev cX4_head : ByteArray := prog_1_method_16_code
def yX4_head : MethodName := ⟨RX4, "head", "(I)I"⟩
abbrev cX4_readings : ByteArray := prog_1_method_17_code
def yX4_readings : MethodName := ⟨RX4, "readings", "(I)I"⟩
abbrev cX4_learn : ByteArray := prog_1_method_18_code
def yX4_learn : MethodName := ⟨RX4, "learn", "(I)Z"⟩
abbrev cX4_forget : ByteArray := prog_1_method_19_code
def yX4_forget : MethodName := ⟨RX4, "forget", "()I"⟩
abbrev cX4_learned : ByteArray := prog_1_method_20_code
def yX4_learned : MethodName := ⟨RX4, "learned", "()I"⟩
abbrev cX4_needText : ByteArray := prog_1_method_21_code
def yX4_needText : MethodName := ⟨RX4, "needText", "(II)V"⟩
abbrev cX4_needPart : ByteArray := prog_1_method_22_code
def yX4_needPart : MethodName := ⟨RX4, "needPart", "(I)V"⟩
abbrev cX4_splitOf : ByteArray := prog_1_method_23_code
def yX4_splitOf : MethodName := ⟨RX4, "splitOf", "(II)J"⟩
abbrev cX4_isSure : ByteArray := prog_1_method_24_code
def yX4_isSure : MethodName := ⟨RX4, "isSure", "(JJ)Z"⟩
abbrev cX4_lettersIn : ByteArray := prog_1_method_25_code
def yX4_lettersIn : MethodName := ⟨RX4, "lettersIn", "(I)I"⟩
def RX5 : String := "PartSplitterModel"
def TX5 : u_T := fun k => match k with
  | 0 => ("PartSplitterModel", "thrown", "I", false)
  | 1 => ("PartSplitterModel", "parts", "I", false)
  | 2 => ("PartSplitterModel", "text", "[I", true)
  | 3 => ("PartSplitterModel", "size", "[I", true)
  | 4 => ("PartSplitterModel", "count", "[I", true)
  | 5 => ("PartSplitterModel", "flags", "[I", true)
  | 6 => ("PartSplitterModel", "links", "I", false)
  | 7 => ("PartSplitterModel", "linkText", "[I", true)
  | 8 => ("PartSplitterModel", "linkSize", "[I", true)
  | 9 => ("PartSplitterModel", "vetoes", "[I", true)
  | 10 => ("PartSplitterModel", "bars", "[I", true)
  | 11 => ("PartSplitterModel", "learned", "I", false)
  | 12 => ("PartSplitterModel", "words", "[I", true)
  | 13 => ("PartSplitterModel", "more", "[I", true)
  | 14 => ("PartSplitterModel", "letters", "I", false)
  | 15 => ("PartSplitterModel", "letter", "[I", true)
  | 16 => ("PartSplitterModel", "many", "I", false)
  | 17 => ("PartSplitterModel", "option", "[I", true)
  | 18 => ("PartSplitterModel", "place", "[I", true)
  | 19 => ("PartSplitterModel", "part", "[I", true)
  | 20 => ("PartSplitterModel", "splits", "I", false)
  | _ => ("PartSplitterModel", "keys", "[J", true)
def tyX5 : Nat → FieldType := fun k => match k with
  | 0 => .int
  | 1 => .int
  | 2 => .array .int
  | 3 => .array .int
  | 4 => .array .int
  | 5 => .array .int
  | 6 => .int
  | 7 => .array .int
  | 8 => .array .int
  | 9 => .array .int
  | 10 => .array .int
  | 11 => .int
  | 12 => .array .int
  | 13 => .array .int
  | 14 => .int
  | 15 => .array .int
  | 16 => .int
  | 17 => .array .int
  | 18 => .array .int
  | 19 => .array .int
  | 20 => .int
  | _ => .array .long
theorem nmX5 : ∀ a, a < 22 → ∀ b, b < 22 → a ≠ b → (TX5 a).2.1 ≠ (TX5 b).2.1 := by decide +kernel
theorem tyX5_ok : ∀ k, k < 22 → parseFieldDescriptor (TX5 k).2.2.1 = some (tyX5 k) := by decide +kernel
abbrev cX5_init : ByteArray := prog_7_method_1_code
def yX5_init : MethodName := ⟨RX5, "<init>", "()V"⟩
abbrev cX5_thrown : ByteArray := prog_7_method_2_code
def yX5_thrown : MethodName := ⟨RX5, "thrown", "()I"⟩
abbrev cX5_in : ByteArray := prog_7_method_3_code
def yX5_in : MethodName := ⟨RX5, "in", "(III)Z"⟩
abbrev cX5_power : ByteArray := prog_7_method_4_code
def yX5_power : MethodName := ⟨RX5, "power", "(I)I"⟩
abbrev cX5_sizeOf : ByteArray := prog_7_method_5_code
def yX5_sizeOf : MethodName := ⟨RX5, "sizeOf", "(II)I"⟩
abbrev cX5_isPart : ByteArray := prog_7_method_6_code
def yX5_isPart : MethodName := ⟨RX5, "isPart", "(I)Z"⟩
abbrev cX5_partWith : ByteArray := prog_7_method_7_code
def yX5_partWith : MethodName := ⟨RX5, "partWith", "(I)I"⟩
abbrev cX5_addPart : ByteArray := prog_7_method_8_code
def yX5_addPart : MethodName := ⟨RX5, "addPart", "(III)I"⟩
abbrev cX5_setFlags : ByteArray := prog_7_method_9_code
def yX5_setFlags : MethodName := ⟨RX5, "setFlags", "(II)I"⟩
abbrev cX5_addLink : ByteArray := prog_7_method_10_code
def yX5_addLink : MethodName := ⟨RX5, "addLink", "(I)I"⟩
abbrev cX5_veto : ByteArray := prog_7_method_11_code
def yX5_veto : MethodName := ⟨RX5, "veto", "(IIZ)Z"⟩
abbrev cX5_bar : ByteArray := prog_7_method_12_code
def yX5_bar : MethodName := ⟨RX5, "bar", "(IIZ)Z"⟩
abbrev cX5_parts : ByteArray := prog_7_method_13_code
def yX5_parts : MethodName := ⟨RX5, "parts", "()I"⟩
abbrev cX5_count : ByteArray := prog_7_method_14_code
def yX5_count : MethodName := ⟨RX5, "count", "(I)I"⟩
abbrev cX5_costNow : ByteArray := prog_7_method_15_code
def yX5_costNow : MethodName := ⟨RX5, "costNow", "(I)I"⟩
abbrev cX5_costOf : ByteArray := prog_7_method_16_code
def yX5_costOf : MethodName := ⟨RX5, "costOf", "(I)I"⟩
abbrev cX5_find : ByteArray := prog_7_method_17_code
def yX5_find : MethodName := ⟨RX5, "find", "(I)I"⟩
abbrev cX5_beginning : ByteArray := prog_7_method_18_code
def yX5_beginning : MethodName := ⟨RX5, "beginning", "(II)I"⟩
abbrev cX5_rest : ByteArray := prog_7_method_19_code
def yX5_rest : MethodName := ⟨RX5, "rest", "(II)I"⟩
abbrev cX5_hasRest : ByteArray := prog_7_method_20_code
def yX5_hasRest : MethodName := ⟨RX5, "hasRest", "(III)Z"⟩
abbrev cX5_areRests : ByteArray := prog_7_method_21_code
def yX5_areRests : MethodName := ⟨RX5, "areRests", "(IIII)Z"⟩
abbrev cX5_nodes : ByteArray := prog_7_method_22_code
def yX5_nodes : MethodName := ⟨RX5, "nodes", "()I"⟩
abbrev cX5_takes : ByteArray := prog_7_method_23_code
def yX5_takes : MethodName := ⟨RX5, "takes", "(I)Z"⟩
abbrev cX5_textAt : ByteArray := prog_7_method_24_code
def yX5_textAt : MethodName := ⟨RX5, "textAt", "(II)I"⟩
abbrev cX5_goesOn : ByteArray := prog_7_method_25_code
def yX5_goesOn : MethodName := ⟨RX5, "goesOn", "(I)Z"⟩
abbrev cX5_key : ByteArray := prog_7_method_26_code
def yX5_key : MethodName := ⟨RX5, "key", "()J"⟩
abbrev cX5_laysSplits : ByteArray := prog_7_method_27_code
def yX5_laysSplits : MethodName := ⟨RX5, "laysSplits", "()V"⟩
abbrev cX5_asks : ByteArray := prog_7_method_28_code
def yX5_asks : MethodName := ⟨RX5, "asks", "(I)Z"⟩
abbrev cX5_keyAt : ByteArray := prog_7_method_29_code
def yX5_keyAt : MethodName := ⟨RX5, "keyAt", "(I)J"⟩
abbrev cX5_costOfKey : ByteArray := prog_7_method_30_code
def yX5_costOfKey : MethodName := ⟨RX5, "costOfKey", "(J)I"⟩
abbrev cX5_sizeOfKey : ByteArray := prog_7_method_31_code
def yX5_sizeOfKey : MethodName := ⟨RX5, "sizeOfKey", "(J)I"⟩
abbrev cX5_unfolds : ByteArray := prog_7_method_32_code
def yX5_unfolds : MethodName := ⟨RX5, "unfolds", "(J)V"⟩
abbrev cX5_splits : ByteArray := prog_7_method_33_code
def yX5_splits : MethodName := ⟨RX5, "splits", "(I)I"⟩
abbrev cX5_asksSplit : ByteArray := prog_7_method_34_code
def yX5_asksSplit : MethodName := ⟨RX5, "asksSplit", "(II)J"⟩
abbrev cX5_cost : ByteArray := prog_7_method_35_code
def yX5_cost : MethodName := ⟨RX5, "cost", "(II)I"⟩
abbrev cX5_size : ByteArray := prog_7_method_36_code
def yX5_size : MethodName := ⟨RX5, "size", "(II)I"⟩
abbrev cX5_partAt : ByteArray := prog_7_method_37_code
def yX5_partAt : MethodName := ⟨RX5, "partAt", "(III)I"⟩
abbrev cX5_head : ByteArray := prog_7_method_38_code
def yX5_head : MethodName := ⟨RX5, "head", "(I)I"⟩
abbrev cX5_trees : ByteArray := prog_7_method_39_code
def yX5_trees : MethodName := ⟨RX5, "trees", "(I)I"⟩
abbrev cX5_readings : ByteArray := prog_7_method_40_code
def yX5_readings : MethodName := ⟨RX5, "readings", "(I)I"⟩
abbrev cX5_learns : ByteArray := prog_7_method_41_code
def yX5_learns : MethodName := ⟨RX5, "learns", "(I)V"⟩
abbrev cX5_learn : ByteArray := prog_7_method_42_code
def yX5_learn : MethodName := ⟨RX5, "learn", "(I)Z"⟩
abbrev cX5_forget : ByteArray := prog_7_method_43_code
def yX5_forget : MethodName := ⟨RX5, "forget", "()I"⟩
abbrev cX5_learned : ByteArray := prog_7_method_44_code
def yX5_learned : MethodName := ⟨RX5, "learned", "()I"⟩
def RL : String := "PartSplitterLaw"
abbrev cL_addPart : ByteArray := method_3_code
def yL_addPart : MethodName := ⟨RL, "addPart", "(LPartSplitter;III[J)I"⟩
abbrev cL_setFlags : ByteArray := method_4_code
def yL_setFlags : MethodName := ⟨RL, "setFlags", "(LPartSplitter;II[J)I"⟩
abbrev cL_addLink : ByteArray := method_5_code
def yL_addLink : MethodName := ⟨RL, "addLink", "(LPartSplitter;I[J)I"⟩
abbrev cL_veto : ByteArray := method_6_code
def yL_veto : MethodName := ⟨RL, "veto", "(LPartSplitter;IIZ[J)I"⟩
abbrev cL_bar : ByteArray := method_7_code
def yL_bar : MethodName := ⟨RL, "bar", "(LPartSplitter;IIZ[J)I"⟩
abbrev cL_count : ByteArray := method_8_code
def yL_count : MethodName := ⟨RL, "count", "(LPartSplitter;I[J)I"⟩
abbrev cL_costOf : ByteArray := method_9_code
def yL_costOf : MethodName := ⟨RL, "costOf", "(LPartSplitter;I[J)I"⟩
abbrev cL_find : ByteArray := method_10_code
def yL_find : MethodName := ⟨RL, "find", "(LPartSplitter;I[J)I"⟩
abbrev cL_splits : ByteArray := method_11_code
def yL_splits : MethodName := ⟨RL, "splits", "(LPartSplitter;I[J)I"⟩
abbrev cL_cost : ByteArray := method_12_code
def yL_cost : MethodName := ⟨RL, "cost", "(LPartSplitter;II[J)I"⟩
abbrev cL_size : ByteArray := method_13_code
def yL_size : MethodName := ⟨RL, "size", "(LPartSplitter;II[J)I"⟩
abbrev cL_partAt : ByteArray := method_14_code
def yL_partAt : MethodName := ⟨RL, "partAt", "(LPartSplitter;III[J)I"⟩
abbrev cL_head : ByteArray := method_15_code
def yL_head : MethodName := ⟨RL, "head", "(LPartSplitter;I[J)I"⟩
abbrev cL_readings : ByteArray := method_16_code
def yL_readings : MethodName := ⟨RL, "readings", "(LPartSplitter;I[J)I"⟩
abbrev cL_learn : ByteArray := method_17_code
def yL_learn : MethodName := ⟨RL, "learn", "(LPartSplitter;I[J)I"⟩
abbrev cL_forget : ByteArray := method_18_code
def yL_forget : MethodName := ⟨RL, "forget", "(LPartSplitter;[J)I"⟩
abbrev cL_law : ByteArray := code
def yL_law : MethodName := ⟨RL, "law", "([I)Z"⟩
abbrev vwCl : List vw_C := [(RX0, TX0, 5), (RX1, TX1, 9), (RX2, TX2, 7), (RX3, TX3, 4), (RX4, TX4, 3), (RX5, TX5, 22)]
/-- the words of the tables that every step keeps -/
def WA : List Cond := lw_tbl.filter goodWord
theorem WA_good : ∀ w ∈ WA, goodWord w = true := fun _ h => (List.mem_filter.mp h).2
theorem WA_tbl : ∀ w ∈ WA, w ∈ lw_tbl := fun _ h => (List.mem_filter.mp h).1
theorem wa_mem {w : Cond} (i : Nat) (h : lw_tbl[i]? = some w) (hg : goodWord w = true) : w ∈ WA := List.mem_filter.mpr ⟨List.mem_of_getElem? h, hg⟩
theorem se_X3_twinOf : Cond.selects RX3 yX3_twinOf yX3_twinOf ∈ WA := wa_mem 0 (by decide +kernel) rfl
theorem se_X3_isFollowedAlike : Cond.selects RX3 yX3_isFollowedAlike yX3_isFollowedAlike ∈ WA := wa_mem 1 (by decide +kernel) rfl
theorem se_X3_twinBelow : Cond.selects RX3 yX3_twinBelow yX3_twinBelow ∈ WA := wa_mem 2 (by decide +kernel) rfl
theorem se_X3_madeBelow : Cond.selects RX3 yX3_madeBelow yX3_madeBelow ∈ WA := wa_mem 4 (by decide +kernel) rfl
theorem se_X4_needPart : Cond.selects RX4 yX4_needPart yX4_needPart ∈ WA := wa_mem 5 (by decide +kernel) rfl
theorem se_X2_readLetters : Cond.selects RX2 yX2_readLetters yX2_readLetters ∈ WA := wa_mem 6 (by decide +kernel) rfl
theorem se_X2_findFrom : Cond.selects RX2 yX2_findFrom yX2_findFrom ∈ WA := wa_mem 7 (by decide +kernel) rfl
theorem se_X2_tryParts : Cond.selects RX2 yX2_tryParts yX2_tryParts ∈ WA := wa_mem 8 (by decide +kernel) rfl
theorem se_X2_mayFollow : Cond.selects RX2 yX2_mayFollow yX2_mayFollow ∈ WA := wa_mem 9 (by decide +kernel) rfl
theorem se_X2_keep : Cond.selects RX2 yX2_keep yX2_keep ∈ WA := wa_mem 10 (by decide +kernel) rfl
theorem se_X2_tryLinks : Cond.selects RX2 yX2_tryLinks yX2_tryLinks ∈ WA := wa_mem 11 (by decide +kernel) rfl
theorem se_X4_splitOf : Cond.selects RX4 yX4_splitOf yX4_splitOf ∈ WA := wa_mem 12 (by decide +kernel) rfl
theorem se_X2_sink : Cond.selects RX2 yX2_sink yX2_sink ∈ WA := wa_mem 13 (by decide +kernel) rfl
theorem se_X5_partWith : Cond.selects RX5 yX5_partWith yX5_partWith ∈ WA := wa_mem 14 (by decide +kernel) rfl
theorem se_X5_isPart : Cond.selects RX5 yX5_isPart yX5_isPart ∈ WA := wa_mem 15 (by decide +kernel) rfl
theorem se_X5_costNow : Cond.selects RX5 yX5_costNow yX5_costNow ∈ WA := wa_mem 16 (by decide +kernel) rfl
theorem se_X5_areRests : Cond.selects RX5 yX5_areRests yX5_areRests ∈ WA := wa_mem 17 (by decide +kernel) rfl
theorem se_X5_beginning : Cond.selects RX5 yX5_beginning yX5_beginning ∈ WA := wa_mem 18 (by decide +kernel) rfl
theorem se_X5_rest : Cond.selects RX5 yX5_rest yX5_rest ∈ WA := wa_mem 19 (by decide +kernel) rfl
theorem se_X5_hasRest : Cond.selects RX5 yX5_hasRest yX5_hasRest ∈ WA := wa_mem 20 (by decide +kernel) rfl
theorem se_X5_asks : Cond.selects RX5 yX5_asks yX5_asks ∈ WA := wa_mem 21 (by decide +kernel) rfl
theorem se_X5_takes : Cond.selects RX5 yX5_takes yX5_takes ∈ WA := wa_mem 22 (by decide +kernel) rfl
theorem se_X5_laysSplits : Cond.selects RX5 yX5_laysSplits yX5_laysSplits ∈ WA := wa_mem 23 (by decide +kernel) rfl
theorem se_X5_goesOn : Cond.selects RX5 yX5_goesOn yX5_goesOn ∈ WA := wa_mem 24 (by decide +kernel) rfl
theorem se_X5_textAt : Cond.selects RX5 yX5_textAt yX5_textAt ∈ WA := wa_mem 25 (by decide +kernel) rfl
theorem se_X5_key : Cond.selects RX5 yX5_key yX5_key ∈ WA := wa_mem 26 (by decide +kernel) rfl
theorem se_X5_asksSplit : Cond.selects RX5 yX5_asksSplit yX5_asksSplit ∈ WA := wa_mem 27 (by decide +kernel) rfl
theorem se_X5_keyAt : Cond.selects RX5 yX5_keyAt yX5_keyAt ∈ WA := wa_mem 28 (by decide +kernel) rfl
theorem se_X5_unfolds : Cond.selects RX5 yX5_unfolds yX5_unfolds ∈ WA := wa_mem 29 (by decide +kernel) rfl
theorem se_X5_learns : Cond.selects RX5 yX5_learns yX5_learns ∈ WA := wa_mem 30 (by decide +kernel) rfl
theorem ii_L : Cond.initialized RL ∈ WA := wa_mem 31 (by decide +kernel) rfl
theorem ii_X4 : Cond.initialized RX4 ∈ WA := wa_mem 32 (by decide +kernel) rfl
theorem ii_X1 : Cond.initialized RX1 ∈ WA := wa_mem 33 (by decide +kernel) rfl
theorem ii_X3 : Cond.initialized RX3 ∈ WA := wa_mem 34 (by decide +kernel) rfl
theorem ii_X2 : Cond.initialized RX2 ∈ WA := wa_mem 35 (by decide +kernel) rfl
theorem ii_X0 : Cond.initialized RX0 ∈ WA := wa_mem 36 (by decide +kernel) rfl
theorem ii_X5 : Cond.initialized RX5 ∈ WA := wa_mem 37 (by decide +kernel) rfl
theorem kl_L_8 : Cond.classLink RL 8 RX4 ∈ WA := wa_mem 44 (by decide +kernel) rfl
theorem in_X4 : Cond.instantiable RX4 3 ∈ WA := wa_mem 45 (by decide +kernel) rfl
theorem ml_L_69 : Cond.methodLink RL 69 yX4_init ∈ WA := wa_mem 46 (by decide +kernel) rfl
theorem im_X4_init : Cond.instanceMethod yX4_init ∈ WA := wa_mem 47 (by decide +kernel) rfl
theorem co_X4_init : Cond.code yX4_init cX4_init 1 none ∈ WA := wa_mem 48 (by decide +kernel) rfl
theorem ml_X4_3 : Cond.methodLink RX4 3 objectInit ∈ WA := wa_mem 49 (by decide +kernel) rfl
theorem im_obj : Cond.instanceMethod objectInit ∈ WA := wa_mem 50 (by decide +kernel) rfl
theorem co_obj : Cond.code objectInit ⟨#[0xb1]⟩ 1 none ∈ WA := wa_mem 51 (by decide +kernel) rfl
theorem kl_X4_9 : Cond.classLink RX4 9 RX1 ∈ WA := wa_mem 52 (by decide +kernel) rfl
theorem in_X1 : Cond.instantiable RX1 9 ∈ WA := wa_mem 53 (by decide +kernel) rfl
theorem im_X1_init : Cond.instanceMethod yX1_init ∈ WA := wa_mem 55 (by decide +kernel) rfl
theorem co_X1_init : Cond.code yX1_init cX1_init 1 none ∈ WA := wa_mem 56 (by decide +kernel) rfl
theorem ml_X1_3 : Cond.methodLink RX1 3 objectInit ∈ WA := wa_mem 57 (by decide +kernel) rfl
theorem kl_X1_31 : Cond.classLink RX1 31 RX3 ∈ WA := wa_mem 58 (by decide +kernel) rfl
theorem in_X3 : Cond.instantiable RX3 4 ∈ WA := wa_mem 59 (by decide +kernel) rfl
theorem im_X3_init : Cond.instanceMethod yX3_init ∈ WA := wa_mem 61 (by decide +kernel) rfl
theorem co_X3_init : Cond.code yX3_init cX3_init 1 none ∈ WA := wa_mem 62 (by decide +kernel) rfl
theorem ml_X3_3 : Cond.methodLink RX3 3 objectInit ∈ WA := wa_mem 63 (by decide +kernel) rfl
theorem fl_X3_11 : Cond.fieldLink RX3 11 "PartSplitter$Tree" "below" "[I" ∈ WA := wa_mem 64 (by decide +kernel) rfl
theorem fl_X3_15 : Cond.fieldLink RX3 15 "PartSplitter$Tree" "isEnd" "[Z" ∈ WA := wa_mem 65 (by decide +kernel) rfl
theorem fl_X3_19 : Cond.fieldLink RX3 19 "PartSplitter$Tree" "twins" "[I" ∈ WA := wa_mem 66 (by decide +kernel) rfl
theorem fl_X3_22 : Cond.fieldLink RX3 22 "PartSplitter$Tree" "used" "I" ∈ WA := wa_mem 67 (by decide +kernel) rfl
theorem ac_int : Cond.arrayClass .int ∈ WA := wa_mem 77 (by decide +kernel) rfl
theorem ac_boolean : Cond.arrayClass .boolean ∈ WA := wa_mem 78 (by decide +kernel) rfl
theorem fl_X1_9 : Cond.fieldLink RX1 9 "PartSplitter$Lexicon" "partTexts" "[I" ∈ WA := wa_mem 79 (by decide +kernel) rfl
theorem fl_X1_15 : Cond.fieldLink RX1 15 "PartSplitter$Lexicon" "partCounts" "[I" ∈ WA := wa_mem 80 (by decide +kernel) rfl
theorem fl_X1_18 : Cond.fieldLink RX1 18 "PartSplitter$Lexicon" "partFlags" "[I" ∈ WA := wa_mem 84 (by decide +kernel) rfl
theorem fl_X1_21 : Cond.fieldLink RX1 21 "PartSplitter$Lexicon" "linkTexts" "[I" ∈ WA := wa_mem 86 (by decide +kernel) rfl
theorem fl_X1_24 : Cond.fieldLink RX1 24 "PartSplitter$Lexicon" "vetoes" "[Z" ∈ WA := wa_mem 87 (by decide +kernel) rfl
theorem fl_X1_28 : Cond.fieldLink RX1 28 "PartSplitter$Lexicon" "bars" "[Z" ∈ WA := wa_mem 90 (by decide +kernel) rfl
theorem fl_X1_34 : Cond.fieldLink RX1 34 "PartSplitter$Lexicon" "tree" "LPartSplitter$Tree;" ∈ WA := wa_mem 93 (by decide +kernel) rfl
theorem fl_X1_38 : Cond.fieldLink RX1 38 "PartSplitter$Lexicon" "partsUsed" "I" ∈ WA := wa_mem 95 (by decide +kernel) rfl
theorem fl_X1_46 : Cond.fieldLink RX1 46 "PartSplitter$Lexicon" "linksUsed" "I" ∈ WA := wa_mem 97 (by decide +kernel) rfl
theorem kl_X4_16 : Cond.classLink RX4 16 RX2 ∈ WA := wa_mem 118 (by decide +kernel) rfl
theorem in_X2 : Cond.instantiable RX2 7 ∈ WA := wa_mem 119 (by decide +kernel) rfl
theorem ml_X4_18 : Cond.methodLink RX4 18 yX2_init ∈ WA := wa_mem 120 (by decide +kernel) rfl
theorem im_X2_init : Cond.instanceMethod yX2_init ∈ WA := wa_mem 121 (by decide +kernel) rfl
theorem co_X2_init : Cond.code yX2_init cX2_init 2 none ∈ WA := wa_mem 122 (by decide +kernel) rfl
theorem ml_X2_5 : Cond.methodLink RX2 5 objectInit ∈ WA := wa_mem 123 (by decide +kernel) rfl
theorem fl_X2_25 : Cond.fieldLink RX2 25 "PartSplitter$SplitRow" "lexicon" "LPartSplitter$Lexicon;" ∈ WA := wa_mem 124 (by decide +kernel) rfl
theorem fl_X2_11 : Cond.fieldLink RX2 11 "PartSplitter$SplitRow" "letters" "[I" ∈ WA := wa_mem 125 (by decide +kernel) rfl
theorem fl_X2_15 : Cond.fieldLink RX2 15 "PartSplitter$SplitRow" "partsHere" "[I" ∈ WA := wa_mem 126 (by decide +kernel) rfl
theorem fl_X2_18 : Cond.fieldLink RX2 18 "PartSplitter$SplitRow" "linksHere" "[I" ∈ WA := wa_mem 127 (by decide +kernel) rfl
theorem fl_X2_21 : Cond.fieldLink RX2 21 "PartSplitter$SplitRow" "keys" "[J" ∈ WA := wa_mem 128 (by decide +kernel) rfl
theorem fl_X2_33 : Cond.fieldLink RX2 33 "PartSplitter$SplitRow" "length" "I" ∈ WA := wa_mem 130 (by decide +kernel) rfl
theorem fl_X2_40 : Cond.fieldLink RX2 40 "PartSplitter$SplitRow" "found" "I" ∈ WA := wa_mem 131 (by decide +kernel) rfl
theorem ac_long : Cond.arrayClass .long ∈ WA := wa_mem 148 (by decide +kernel) rfl
theorem kl_X4_25 : Cond.classLink RX4 25 RX0 ∈ WA := wa_mem 149 (by decide +kernel) rfl
theorem in_X0 : Cond.instantiable RX0 5 ∈ WA := wa_mem 150 (by decide +kernel) rfl
theorem ml_X4_27 : Cond.methodLink RX4 27 yX0_init ∈ WA := wa_mem 151 (by decide +kernel) rfl
theorem im_X0_init : Cond.instanceMethod yX0_init ∈ WA := wa_mem 152 (by decide +kernel) rfl
theorem co_X0_init : Cond.code yX0_init cX0_init 2 none ∈ WA := wa_mem 153 (by decide +kernel) rfl
theorem ml_X0_3 : Cond.methodLink RX0 3 objectInit ∈ WA := wa_mem 154 (by decide +kernel) rfl
theorem fl_X0_21 : Cond.fieldLink RX0 21 "PartSplitter$Lessons" "lexicon" "LPartSplitter$Lexicon;" ∈ WA := wa_mem 155 (by decide +kernel) rfl
theorem fl_X0_9 : Cond.fieldLink RX0 9 "PartSplitter$Lessons" "words" "[I" ∈ WA := wa_mem 156 (by decide +kernel) rfl
theorem fl_X0_15 : Cond.fieldLink RX0 15 "PartSplitter$Lessons" "grown" "[I" ∈ WA := wa_mem 157 (by decide +kernel) rfl
theorem fl_X0_18 : Cond.fieldLink RX0 18 "PartSplitter$Lessons" "grownSizes" "[I" ∈ WA := wa_mem 158 (by decide +kernel) rfl
theorem fl_X0_25 : Cond.fieldLink RX0 25 "PartSplitter$Lessons" "used" "I" ∈ WA := wa_mem 159 (by decide +kernel) rfl
theorem fl_X4_12 : Cond.fieldLink RX4 12 "PartSplitter" "lexicon" "LPartSplitter$Lexicon;" ∈ WA := wa_mem 172 (by decide +kernel) rfl
theorem fl_X4_21 : Cond.fieldLink RX4 21 "PartSplitter" "row" "LPartSplitter$SplitRow;" ∈ WA := wa_mem 173 (by decide +kernel) rfl
theorem fl_X4_28 : Cond.fieldLink RX4 28 "PartSplitter" "lessons" "LPartSplitter$Lessons;" ∈ WA := wa_mem 174 (by decide +kernel) rfl
theorem ml_L_97 : Cond.methodLink RL 97 yX4_parts ∈ WA := wa_mem 182 (by decide +kernel) rfl
theorem im_X4_parts : Cond.instanceMethod yX4_parts ∈ WA := wa_mem 183 (by decide +kernel) rfl
theorem se_X4_parts : Cond.selects RX4 yX4_parts yX4_parts ∈ WA := wa_mem 184 (by decide +kernel) rfl
theorem co_X4_parts : Cond.code yX4_parts cX4_parts 1 (some .int) ∈ WA := wa_mem 185 (by decide +kernel) rfl
theorem ml_L_110 : Cond.methodLink RL 110 yX4_nodes ∈ WA := wa_mem 186 (by decide +kernel) rfl
theorem im_X4_nodes : Cond.instanceMethod yX4_nodes ∈ WA := wa_mem 187 (by decide +kernel) rfl
theorem se_X4_nodes : Cond.selects RX4 yX4_nodes yX4_nodes ∈ WA := wa_mem 188 (by decide +kernel) rfl
theorem co_X4_nodes : Cond.code yX4_nodes cX4_nodes 1 (some .int) ∈ WA := wa_mem 189 (by decide +kernel) rfl
theorem ml_X4_109 : Cond.methodLink RX4 109 yX3_differentNodes ∈ WA := wa_mem 190 (by decide +kernel) rfl
theorem im_X3_differentNodes : Cond.instanceMethod yX3_differentNodes ∈ WA := wa_mem 191 (by decide +kernel) rfl
theorem se_X3_differentNodes : Cond.selects RX3 yX3_differentNodes yX3_differentNodes ∈ WA := wa_mem 192 (by decide +kernel) rfl
theorem co_X3_differentNodes : Cond.code yX3_differentNodes cX3_differentNodes 3 (some .int) ∈ WA := wa_mem 193 (by decide +kernel) rfl
theorem ml_X3_34 : Cond.methodLink RX3 34 yX3_twinOf ∈ WA := wa_mem 194 (by decide +kernel) rfl
theorem im_X3_twinOf : Cond.instanceMethod yX3_twinOf ∈ WA := wa_mem 196 (by decide +kernel) rfl
theorem co_X3_twinOf : Cond.code yX3_twinOf cX3_twinOf 3 (some .int) ∈ WA := wa_mem 197 (by decide +kernel) rfl
theorem ml_X3_37 : Cond.methodLink RX3 37 yX3_isFollowedAlike ∈ WA := wa_mem 198 (by decide +kernel) rfl
theorem im_X3_isFollowedAlike : Cond.instanceMethod yX3_isFollowedAlike ∈ WA := wa_mem 200 (by decide +kernel) rfl
theorem co_X3_isFollowedAlike : Cond.code yX3_isFollowedAlike cX3_isFollowedAlike 4 (some .boolean) ∈ WA := wa_mem 201 (by decide +kernel) rfl
theorem ml_X3_41 : Cond.methodLink RX3 41 yX3_twinBelow ∈ WA := wa_mem 202 (by decide +kernel) rfl
theorem im_X3_twinBelow : Cond.instanceMethod yX3_twinBelow ∈ WA := wa_mem 204 (by decide +kernel) rfl
theorem co_X3_twinBelow : Cond.code yX3_twinBelow cX3_twinBelow 4 (some .int) ∈ WA := wa_mem 205 (by decide +kernel) rfl
theorem ml_L_139 : Cond.methodLink RL 139 yX4_learned ∈ WA := wa_mem 206 (by decide +kernel) rfl
theorem im_X4_learned : Cond.instanceMethod yX4_learned ∈ WA := wa_mem 207 (by decide +kernel) rfl
theorem se_X4_learned : Cond.selects RX4 yX4_learned yX4_learned ∈ WA := wa_mem 208 (by decide +kernel) rfl
theorem co_X4_learned : Cond.code yX4_learned cX4_learned 1 (some .int) ∈ WA := wa_mem 209 (by decide +kernel) rfl
theorem ml_L_73 : Cond.methodLink RL 73 yL_addPart ∈ WA := wa_mem 210 (by decide +kernel) rfl
theorem sm_L_addPart : Cond.static yL_addPart ∈ WA := wa_mem 211 (by decide +kernel) rfl
theorem co_L_addPart : Cond.codeWith yL_addPart cL_addPart 6 (some .int) [(0, 12, 15, 13), (0, 12, 19, 15)] ∈ WA := wa_mem 212 (by decide +kernel) rfl
theorem kl_L_13 : Cond.classLink RL 13 "java/lang/IllegalArgumentException" ∈ WA := wa_mem 213 (by decide +kernel) rfl
theorem kl_L_15 : Cond.classLink RL 15 "java/lang/IllegalStateException" ∈ WA := wa_mem 214 (by decide +kernel) rfl
theorem ml_L_7 : Cond.methodLink RL 7 yX4_addPart ∈ WA := wa_mem 215 (by decide +kernel) rfl
theorem im_X4_addPart : Cond.instanceMethod yX4_addPart ∈ WA := wa_mem 216 (by decide +kernel) rfl
theorem se_X4_addPart : Cond.selects RX4 yX4_addPart yX4_addPart ∈ WA := wa_mem 217 (by decide +kernel) rfl
theorem co_X4_addPart : Cond.code yX4_addPart cX4_addPart 4 (some .int) ∈ WA := wa_mem 218 (by decide +kernel) rfl
theorem ml_X4_32 : Cond.methodLink RX4 32 yX4_needText ∈ WA := wa_mem 219 (by decide +kernel) rfl
theorem sm_X4_needText : Cond.static yX4_needText ∈ WA := wa_mem 220 (by decide +kernel) rfl
theorem co_X4_needText : Cond.code yX4_needText cX4_needText 3 none ∈ WA := wa_mem 221 (by decide +kernel) rfl
theorem ml_X4_174 : Cond.methodLink RX4 174 yX4_lettersIn ∈ WA := wa_mem 222 (by decide +kernel) rfl
theorem sm_X4_lettersIn : Cond.static yX4_lettersIn ∈ WA := wa_mem 223 (by decide +kernel) rfl
theorem co_X4_lettersIn : Cond.code yX4_lettersIn cX4_lettersIn 3 (some .int) ∈ WA := wa_mem 224 (by decide +kernel) rfl
theorem kl_X4_36 : Cond.classLink RX4 36 "java/lang/IllegalArgumentException" ∈ WA := wa_mem 225 (by decide +kernel) rfl
theorem ac_byte : Cond.arrayClass .byte ∈ WA := wa_mem 292 (by decide +kernel) rfl
theorem kl_X4_49 : Cond.classLink RX4 49 "java/lang/IllegalStateException" ∈ WA := wa_mem 295 (by decide +kernel) rfl
theorem ml_X4_54 : Cond.methodLink RX4 54 yX1_partWith ∈ WA := wa_mem 311 (by decide +kernel) rfl
theorem im_X1_partWith : Cond.instanceMethod yX1_partWith ∈ WA := wa_mem 312 (by decide +kernel) rfl
theorem se_X1_partWith : Cond.selects RX1 yX1_partWith yX1_partWith ∈ WA := wa_mem 313 (by decide +kernel) rfl
theorem co_X1_partWith : Cond.code yX1_partWith cX1_partWith 2 (some .int) ∈ WA := wa_mem 314 (by decide +kernel) rfl
theorem ml_X1_49 : Cond.methodLink RX1 49 yX1_placeOf ∈ WA := wa_mem 315 (by decide +kernel) rfl
theorem sm_X1_placeOf : Cond.static yX1_placeOf ∈ WA := wa_mem 316 (by decide +kernel) rfl
theorem co_X1_placeOf : Cond.code yX1_placeOf cX1_placeOf 4 (some .int) ∈ WA := wa_mem 317 (by decide +kernel) rfl
theorem ml_X4_60 : Cond.methodLink RX4 60 yX1_enterPart ∈ WA := wa_mem 319 (by decide +kernel) rfl
theorem im_X1_enterPart : Cond.instanceMethod yX1_enterPart ∈ WA := wa_mem 320 (by decide +kernel) rfl
theorem se_X1_enterPart : Cond.selects RX1 yX1_enterPart yX1_enterPart ∈ WA := wa_mem 321 (by decide +kernel) rfl
theorem co_X1_enterPart : Cond.code yX1_enterPart cX1_enterPart 5 (some .int) ∈ WA := wa_mem 322 (by decide +kernel) rfl
theorem ml_X1_42 : Cond.methodLink RX1 42 yX3_enter ∈ WA := wa_mem 323 (by decide +kernel) rfl
theorem im_X3_enter : Cond.instanceMethod yX3_enter ∈ WA := wa_mem 324 (by decide +kernel) rfl
theorem se_X3_enter : Cond.selects RX3 yX3_enter yX3_enter ∈ WA := wa_mem 325 (by decide +kernel) rfl
theorem co_X3_enter : Cond.code yX3_enter cX3_enter 4 none ∈ WA := wa_mem 326 (by decide +kernel) rfl
theorem ml_X3_30 : Cond.methodLink RX3 30 yX3_madeBelow ∈ WA := wa_mem 328 (by decide +kernel) rfl
theorem im_X3_madeBelow : Cond.instanceMethod yX3_madeBelow ∈ WA := wa_mem 330 (by decide +kernel) rfl
theorem co_X3_madeBelow : Cond.code yX3_madeBelow cX3_madeBelow 4 (some .int) ∈ WA := wa_mem 331 (by decide +kernel) rfl
theorem ml_L_82 : Cond.methodLink RL 82 yL_setFlags ∈ WA := wa_mem 332 (by decide +kernel) rfl
theorem sm_L_setFlags : Cond.static yL_setFlags ∈ WA := wa_mem 333 (by decide +kernel) rfl
theorem co_L_setFlags : Cond.codeWith yL_setFlags cL_setFlags 5 (some .int) [(0, 10, 13, 21), (0, 10, 17, 13)] ∈ WA := wa_mem 334 (by decide +kernel) rfl
theorem kl_L_21 : Cond.classLink RL 21 "java/lang/IndexOutOfBoundsException" ∈ WA := wa_mem 335 (by decide +kernel) rfl
theorem ml_L_17 : Cond.methodLink RL 17 yX4_setFlags ∈ WA := wa_mem 336 (by decide +kernel) rfl
theorem im_X4_setFlags : Cond.instanceMethod yX4_setFlags ∈ WA := wa_mem 337 (by decide +kernel) rfl
theorem se_X4_setFlags : Cond.selects RX4 yX4_setFlags yX4_setFlags ∈ WA := wa_mem 338 (by decide +kernel) rfl
theorem co_X4_setFlags : Cond.code yX4_setFlags cX4_setFlags 4 (some .int) ∈ WA := wa_mem 339 (by decide +kernel) rfl
theorem ml_X4_64 : Cond.methodLink RX4 64 yX4_needPart ∈ WA := wa_mem 340 (by decide +kernel) rfl
theorem im_X4_needPart : Cond.instanceMethod yX4_needPart ∈ WA := wa_mem 342 (by decide +kernel) rfl
theorem co_X4_needPart : Cond.code yX4_needPart cX4_needPart 2 none ∈ WA := wa_mem 343 (by decide +kernel) rfl
theorem kl_X4_91 : Cond.classLink RX4 91 "java/lang/IndexOutOfBoundsException" ∈ WA := wa_mem 344 (by decide +kernel) rfl
theorem ml_L_86 : Cond.methodLink RL 86 yL_addLink ∈ WA := wa_mem 361 (by decide +kernel) rfl
theorem sm_L_addLink : Cond.static yL_addLink ∈ WA := wa_mem 362 (by decide +kernel) rfl
theorem co_L_addLink : Cond.codeWith yL_addLink cL_addLink 4 (some .int) [(0, 9, 12, 13), (0, 9, 15, 15)] ∈ WA := wa_mem 363 (by decide +kernel) rfl
theorem ml_L_23 : Cond.methodLink RL 23 yX4_addLink ∈ WA := wa_mem 364 (by decide +kernel) rfl
theorem im_X4_addLink : Cond.instanceMethod yX4_addLink ∈ WA := wa_mem 365 (by decide +kernel) rfl
theorem se_X4_addLink : Cond.selects RX4 yX4_addLink yX4_addLink ∈ WA := wa_mem 366 (by decide +kernel) rfl
theorem co_X4_addLink : Cond.code yX4_addLink cX4_addLink 2 (some .int) ∈ WA := wa_mem 367 (by decide +kernel) rfl
theorem ml_X4_79 : Cond.methodLink RX4 79 yX1_linkWith ∈ WA := wa_mem 369 (by decide +kernel) rfl
theorem im_X1_linkWith : Cond.instanceMethod yX1_linkWith ∈ WA := wa_mem 370 (by decide +kernel) rfl
theorem se_X1_linkWith : Cond.selects RX1 yX1_linkWith yX1_linkWith ∈ WA := wa_mem 371 (by decide +kernel) rfl
theorem co_X1_linkWith : Cond.code yX1_linkWith cX1_linkWith 2 (some .int) ∈ WA := wa_mem 372 (by decide +kernel) rfl
theorem ml_X4_84 : Cond.methodLink RX4 84 yX1_enterLink ∈ WA := wa_mem 374 (by decide +kernel) rfl
theorem im_X1_enterLink : Cond.instanceMethod yX1_enterLink ∈ WA := wa_mem 375 (by decide +kernel) rfl
theorem se_X1_enterLink : Cond.selects RX1 yX1_enterLink yX1_enterLink ∈ WA := wa_mem 376 (by decide +kernel) rfl
theorem co_X1_enterLink : Cond.code yX1_enterLink cX1_enterLink 3 (some .int) ∈ WA := wa_mem 377 (by decide +kernel) rfl
theorem ml_L_90 : Cond.methodLink RL 90 yL_veto ∈ WA := wa_mem 378 (by decide +kernel) rfl
theorem sm_L_veto : Cond.static yL_veto ∈ WA := wa_mem 379 (by decide +kernel) rfl
theorem co_L_veto : Cond.codeWith yL_veto cL_veto 6 (some .int) [(0, 19, 22, 21)] ∈ WA := wa_mem 380 (by decide +kernel) rfl
theorem ml_L_27 : Cond.methodLink RL 27 yX4_veto ∈ WA := wa_mem 381 (by decide +kernel) rfl
theorem im_X4_veto : Cond.instanceMethod yX4_veto ∈ WA := wa_mem 382 (by decide +kernel) rfl
theorem se_X4_veto : Cond.selects RX4 yX4_veto yX4_veto ∈ WA := wa_mem 383 (by decide +kernel) rfl
theorem co_X4_veto : Cond.code yX4_veto cX4_veto 6 (some .boolean) ∈ WA := wa_mem 384 (by decide +kernel) rfl
theorem ml_L_94 : Cond.methodLink RL 94 yL_bar ∈ WA := wa_mem 385 (by decide +kernel) rfl
theorem sm_L_bar : Cond.static yL_bar ∈ WA := wa_mem 386 (by decide +kernel) rfl
theorem co_L_bar : Cond.codeWith yL_bar cL_bar 6 (some .int) [(0, 19, 22, 21)] ∈ WA := wa_mem 387 (by decide +kernel) rfl
theorem ml_L_31 : Cond.methodLink RL 31 yX4_bar ∈ WA := wa_mem 388 (by decide +kernel) rfl
theorem im_X4_bar : Cond.instanceMethod yX4_bar ∈ WA := wa_mem 389 (by decide +kernel) rfl
theorem se_X4_bar : Cond.selects RX4 yX4_bar yX4_bar ∈ WA := wa_mem 390 (by decide +kernel) rfl
theorem co_X4_bar : Cond.code yX4_bar cX4_bar 6 (some .boolean) ∈ WA := wa_mem 391 (by decide +kernel) rfl
theorem ml_L_101 : Cond.methodLink RL 101 yL_count ∈ WA := wa_mem 393 (by decide +kernel) rfl
theorem sm_L_count : Cond.static yL_count ∈ WA := wa_mem 394 (by decide +kernel) rfl
theorem co_L_count : Cond.codeWith yL_count cL_count 4 (some .int) [(0, 9, 12, 21)] ∈ WA := wa_mem 395 (by decide +kernel) rfl
theorem ml_L_34 : Cond.methodLink RL 34 yX4_count ∈ WA := wa_mem 396 (by decide +kernel) rfl
theorem im_X4_count : Cond.instanceMethod yX4_count ∈ WA := wa_mem 397 (by decide +kernel) rfl
theorem se_X4_count : Cond.selects RX4 yX4_count yX4_count ∈ WA := wa_mem 398 (by decide +kernel) rfl
theorem co_X4_count : Cond.code yX4_count cX4_count 2 (some .int) ∈ WA := wa_mem 399 (by decide +kernel) rfl
theorem ml_L_104 : Cond.methodLink RL 104 yL_costOf ∈ WA := wa_mem 400 (by decide +kernel) rfl
theorem sm_L_costOf : Cond.static yL_costOf ∈ WA := wa_mem 401 (by decide +kernel) rfl
theorem co_L_costOf : Cond.codeWith yL_costOf cL_costOf 4 (some .int) [(0, 9, 12, 21)] ∈ WA := wa_mem 402 (by decide +kernel) rfl
theorem ml_L_37 : Cond.methodLink RL 37 yX4_costOf ∈ WA := wa_mem 403 (by decide +kernel) rfl
theorem im_X4_costOf : Cond.instanceMethod yX4_costOf ∈ WA := wa_mem 404 (by decide +kernel) rfl
theorem se_X4_costOf : Cond.selects RX4 yX4_costOf yX4_costOf ∈ WA := wa_mem 405 (by decide +kernel) rfl
theorem co_X4_costOf : Cond.code yX4_costOf cX4_costOf 2 (some .int) ∈ WA := wa_mem 406 (by decide +kernel) rfl
theorem ml_X4_102 : Cond.methodLink RX4 102 yX1_costOfCount ∈ WA := wa_mem 407 (by decide +kernel) rfl
theorem sm_X1_costOfCount : Cond.static yX1_costOfCount ∈ WA := wa_mem 408 (by decide +kernel) rfl
theorem co_X1_costOfCount : Cond.code yX1_costOfCount cX1_costOfCount 4 (some .int) ∈ WA := wa_mem 409 (by decide +kernel) rfl
theorem ml_L_107 : Cond.methodLink RL 107 yL_find ∈ WA := wa_mem 410 (by decide +kernel) rfl
theorem sm_L_find : Cond.static yL_find ∈ WA := wa_mem 411 (by decide +kernel) rfl
theorem co_L_find : Cond.codeWith yL_find cL_find 4 (some .int) [(0, 9, 12, 13)] ∈ WA := wa_mem 412 (by decide +kernel) rfl
theorem ml_L_40 : Cond.methodLink RL 40 yX4_find ∈ WA := wa_mem 413 (by decide +kernel) rfl
theorem im_X4_find : Cond.instanceMethod yX4_find ∈ WA := wa_mem 414 (by decide +kernel) rfl
theorem se_X4_find : Cond.selects RX4 yX4_find yX4_find ∈ WA := wa_mem 415 (by decide +kernel) rfl
theorem co_X4_find : Cond.code yX4_find cX4_find 2 (some .int) ∈ WA := wa_mem 416 (by decide +kernel) rfl
theorem ml_L_114 : Cond.methodLink RL 114 yL_splits ∈ WA := wa_mem 417 (by decide +kernel) rfl
theorem sm_L_splits : Cond.static yL_splits ∈ WA := wa_mem 418 (by decide +kernel) rfl
theorem co_L_splits : Cond.codeWith yL_splits cL_splits 4 (some .int) [(0, 9, 12, 13)] ∈ WA := wa_mem 419 (by decide +kernel) rfl
theorem ml_L_43 : Cond.methodLink RL 43 yX4_splits ∈ WA := wa_mem 420 (by decide +kernel) rfl
theorem im_X4_splits : Cond.instanceMethod yX4_splits ∈ WA := wa_mem 421 (by decide +kernel) rfl
theorem se_X4_splits : Cond.selects RX4 yX4_splits yX4_splits ∈ WA := wa_mem 422 (by decide +kernel) rfl
theorem co_X4_splits : Cond.code yX4_splits cX4_splits 2 (some .int) ∈ WA := wa_mem 423 (by decide +kernel) rfl
theorem ml_X4_115 : Cond.methodLink RX4 115 yX2_gather ∈ WA := wa_mem 424 (by decide +kernel) rfl
theorem im_X2_gather : Cond.instanceMethod yX2_gather ∈ WA := wa_mem 425 (by decide +kernel) rfl
theorem se_X2_gather : Cond.selects RX2 yX2_gather yX2_gather ∈ WA := wa_mem 426 (by decide +kernel) rfl
theorem co_X2_gather : Cond.code yX2_gather cX2_gather 3 none ∈ WA := wa_mem 427 (by decide +kernel) rfl
theorem ml_X2_29 : Cond.methodLink RX2 29 yX2_readLetters ∈ WA := wa_mem 428 (by decide +kernel) rfl
theorem im_X2_readLetters : Cond.instanceMethod yX2_readLetters ∈ WA := wa_mem 430 (by decide +kernel) rfl
theorem co_X2_readLetters : Cond.code yX2_readLetters cX2_readLetters 4 none ∈ WA := wa_mem 431 (by decide +kernel) rfl
theorem ml_X2_37 : Cond.methodLink RX2 37 yX2_findFrom ∈ WA := wa_mem 433 (by decide +kernel) rfl
theorem im_X2_findFrom : Cond.instanceMethod yX2_findFrom ∈ WA := wa_mem 435 (by decide +kernel) rfl
theorem co_X2_findFrom : Cond.code yX2_findFrom cX2_findFrom 4 none ∈ WA := wa_mem 436 (by decide +kernel) rfl
theorem ml_X2_51 : Cond.methodLink RX2 51 yX1_partWith ∈ WA := wa_mem 437 (by decide +kernel) rfl
theorem ml_X2_56 : Cond.methodLink RX2 56 yX1_linkWith ∈ WA := wa_mem 438 (by decide +kernel) rfl
theorem ml_X2_43 : Cond.methodLink RX2 43 yX2_tryParts ∈ WA := wa_mem 439 (by decide +kernel) rfl
theorem im_X2_tryParts : Cond.instanceMethod yX2_tryParts ∈ WA := wa_mem 441 (by decide +kernel) rfl
theorem co_X2_tryParts : Cond.code yX2_tryParts cX2_tryParts 13 none ∈ WA := wa_mem 442 (by decide +kernel) rfl
theorem ml_X2_59 : Cond.methodLink RX2 59 yX2_mayFollow ∈ WA := wa_mem 443 (by decide +kernel) rfl
theorem im_X2_mayFollow : Cond.instanceMethod yX2_mayFollow ∈ WA := wa_mem 445 (by decide +kernel) rfl
theorem co_X2_mayFollow : Cond.code yX2_mayFollow cX2_mayFollow 4 (some .boolean) ∈ WA := wa_mem 446 (by decide +kernel) rfl
theorem ml_X2_79 : Cond.methodLink RX2 79 yX1_mayStand ∈ WA := wa_mem 447 (by decide +kernel) rfl
theorem im_X1_mayStand : Cond.instanceMethod yX1_mayStand ∈ WA := wa_mem 448 (by decide +kernel) rfl
theorem se_X1_mayStand : Cond.selects RX1 yX1_mayStand yX1_mayStand ∈ WA := wa_mem 449 (by decide +kernel) rfl
theorem co_X1_mayStand : Cond.code yX1_mayStand cX1_mayStand 5 (some .boolean) ∈ WA := wa_mem 450 (by decide +kernel) rfl
theorem ml_X2_66 : Cond.methodLink RX2 66 yX1_costOfCount ∈ WA := wa_mem 451 (by decide +kernel) rfl
theorem ml_X2_69 : Cond.methodLink RX2 69 yX2_shiftOf ∈ WA := wa_mem 452 (by decide +kernel) rfl
theorem sm_X2_shiftOf : Cond.static yX2_shiftOf ∈ WA := wa_mem 453 (by decide +kernel) rfl
theorem co_X2_shiftOf : Cond.code yX2_shiftOf cX2_shiftOf 1 (some .int) ∈ WA := wa_mem 454 (by decide +kernel) rfl
theorem ml_X2_72 : Cond.methodLink RX2 72 yX2_keep ∈ WA := wa_mem 455 (by decide +kernel) rfl
theorem im_X2_keep : Cond.instanceMethod yX2_keep ∈ WA := wa_mem 457 (by decide +kernel) rfl
theorem co_X2_keep : Cond.code yX2_keep cX2_keep 5 none ∈ WA := wa_mem 458 (by decide +kernel) rfl
theorem ml_X2_76 : Cond.methodLink RX2 76 yX2_tryLinks ∈ WA := wa_mem 459 (by decide +kernel) rfl
theorem im_X2_tryLinks : Cond.instanceMethod yX2_tryLinks ∈ WA := wa_mem 461 (by decide +kernel) rfl
theorem co_X2_tryLinks : Cond.code yX2_tryLinks cX2_tryLinks 11 none ∈ WA := wa_mem 462 (by decide +kernel) rfl
theorem ml_L_117 : Cond.methodLink RL 117 yL_cost ∈ WA := wa_mem 463 (by decide +kernel) rfl
theorem sm_L_cost : Cond.static yL_cost ∈ WA := wa_mem 464 (by decide +kernel) rfl
theorem co_L_cost : Cond.codeWith yL_cost cL_cost 5 (some .int) [(0, 10, 13, 13)] ∈ WA := wa_mem 465 (by decide +kernel) rfl
theorem ml_L_46 : Cond.methodLink RL 46 yX4_cost ∈ WA := wa_mem 466 (by decide +kernel) rfl
theorem im_X4_cost : Cond.instanceMethod yX4_cost ∈ WA := wa_mem 467 (by decide +kernel) rfl
theorem se_X4_cost : Cond.selects RX4 yX4_cost yX4_cost ∈ WA := wa_mem 468 (by decide +kernel) rfl
theorem co_X4_cost : Cond.code yX4_cost cX4_cost 5 (some .int) ∈ WA := wa_mem 469 (by decide +kernel) rfl
theorem ml_X4_121 : Cond.methodLink RX4 121 yX4_splitOf ∈ WA := wa_mem 470 (by decide +kernel) rfl
theorem im_X4_splitOf : Cond.instanceMethod yX4_splitOf ∈ WA := wa_mem 472 (by decide +kernel) rfl
theorem co_X4_splitOf : Cond.code yX4_splitOf cX4_splitOf 3 (some .long) ∈ WA := wa_mem 473 (by decide +kernel) rfl
theorem ml_X4_155 : Cond.methodLink RX4 155 yX2_keyAt ∈ WA := wa_mem 475 (by decide +kernel) rfl
theorem im_X2_keyAt : Cond.instanceMethod yX2_keyAt ∈ WA := wa_mem 476 (by decide +kernel) rfl
theorem se_X2_keyAt : Cond.selects RX2 yX2_keyAt yX2_keyAt ∈ WA := wa_mem 477 (by decide +kernel) rfl
theorem co_X2_keyAt : Cond.code yX2_keyAt cX2_keyAt 6 (some .long) ∈ WA := wa_mem 478 (by decide +kernel) rfl
theorem cl_X2_90 : Cond.constantLong RX2 90 (-1) ∈ WA := wa_mem 479 (by decide +kernel) rfl
theorem ml_X2_92 : Cond.methodLink RX2 92 yX2_sink ∈ WA := wa_mem 480 (by decide +kernel) rfl
theorem im_X2_sink : Cond.instanceMethod yX2_sink ∈ WA := wa_mem 482 (by decide +kernel) rfl
theorem co_X2_sink : Cond.code yX2_sink cX2_sink 7 none ∈ WA := wa_mem 483 (by decide +kernel) rfl
theorem cl_X4_125 : Cond.constantLong RX4 125 (-1) ∈ WA := wa_mem 484 (by decide +kernel) rfl
theorem ml_X4_127 : Cond.methodLink RX4 127 yX2_costIn ∈ WA := wa_mem 485 (by decide +kernel) rfl
theorem sm_X2_costIn : Cond.static yX2_costIn ∈ WA := wa_mem 486 (by decide +kernel) rfl
theorem co_X2_costIn : Cond.code yX2_costIn cX2_costIn 2 (some .int) ∈ WA := wa_mem 487 (by decide +kernel) rfl
theorem ml_L_120 : Cond.methodLink RL 120 yL_size ∈ WA := wa_mem 488 (by decide +kernel) rfl
theorem sm_L_size : Cond.static yL_size ∈ WA := wa_mem 489 (by decide +kernel) rfl
theorem co_L_size : Cond.codeWith yL_size cL_size 5 (some .int) [(0, 10, 13, 13)] ∈ WA := wa_mem 490 (by decide +kernel) rfl
theorem ml_L_49 : Cond.methodLink RL 49 yX4_size ∈ WA := wa_mem 491 (by decide +kernel) rfl
theorem im_X4_size : Cond.instanceMethod yX4_size ∈ WA := wa_mem 492 (by decide +kernel) rfl
theorem se_X4_size : Cond.selects RX4 yX4_size yX4_size ∈ WA := wa_mem 493 (by decide +kernel) rfl
theorem co_X4_size : Cond.code yX4_size cX4_size 5 (some .int) ∈ WA := wa_mem 494 (by decide +kernel) rfl
theorem ml_X4_131 : Cond.methodLink RX4 131 yX2_placesIn ∈ WA := wa_mem 495 (by decide +kernel) rfl
theorem sm_X2_placesIn : Cond.static yX2_placesIn ∈ WA := wa_mem 496 (by decide +kernel) rfl
theorem co_X2_placesIn : Cond.code yX2_placesIn cX2_placesIn 2 (some .int) ∈ WA := wa_mem 497 (by decide +kernel) rfl
theorem ml_L_123 : Cond.methodLink RL 123 yL_partAt ∈ WA := wa_mem 498 (by decide +kernel) rfl
theorem sm_L_partAt : Cond.static yL_partAt ∈ WA := wa_mem 499 (by decide +kernel) rfl
theorem co_L_partAt : Cond.codeWith yL_partAt cL_partAt 6 (some .int) [(0, 12, 15, 13)] ∈ WA := wa_mem 500 (by decide +kernel) rfl
theorem ml_L_52 : Cond.methodLink RL 52 yX4_partAt ∈ WA := wa_mem 501 (by decide +kernel) rfl
theorem im_X4_partAt : Cond.instanceMethod yX4_partAt ∈ WA := wa_mem 502 (by decide +kernel) rfl
theorem se_X4_partAt : Cond.selects RX4 yX4_partAt yX4_partAt ∈ WA := wa_mem 503 (by decide +kernel) rfl
theorem co_X4_partAt : Cond.code yX4_partAt cX4_partAt 6 (some .int) ∈ WA := wa_mem 504 (by decide +kernel) rfl
theorem ml_X4_136 : Cond.methodLink RX4 136 yX2_partIn ∈ WA := wa_mem 506 (by decide +kernel) rfl
theorem im_X2_partIn : Cond.instanceMethod yX2_partIn ∈ WA := wa_mem 507 (by decide +kernel) rfl
theorem se_X2_partIn : Cond.selects RX2 yX2_partIn yX2_partIn ∈ WA := wa_mem 508 (by decide +kernel) rfl
theorem co_X2_partIn : Cond.code yX2_partIn cX2_partIn 6 (some .int) ∈ WA := wa_mem 509 (by decide +kernel) rfl
theorem ml_X2_96 : Cond.methodLink RX2 96 yX2_lettersAt ∈ WA := wa_mem 510 (by decide +kernel) rfl
theorem sm_X2_lettersAt : Cond.static yX2_lettersAt ∈ WA := wa_mem 511 (by decide +kernel) rfl
theorem co_X2_lettersAt : Cond.code yX2_lettersAt cX2_lettersAt 3 (some .int) ∈ WA := wa_mem 512 (by decide +kernel) rfl
theorem ml_X2_100 : Cond.methodLink RX2 100 yX2_linkIn ∈ WA := wa_mem 513 (by decide +kernel) rfl
theorem sm_X2_linkIn : Cond.static yX2_linkIn ∈ WA := wa_mem 514 (by decide +kernel) rfl
theorem co_X2_linkIn : Cond.code yX2_linkIn cX2_linkIn 3 (some .int) ∈ WA := wa_mem 515 (by decide +kernel) rfl
theorem ml_X2_103 : Cond.methodLink RX2 103 yX1_lettersOfLink ∈ WA := wa_mem 516 (by decide +kernel) rfl
theorem im_X1_lettersOfLink : Cond.instanceMethod yX1_lettersOfLink ∈ WA := wa_mem 517 (by decide +kernel) rfl
theorem se_X1_lettersOfLink : Cond.selects RX1 yX1_lettersOfLink yX1_lettersOfLink ∈ WA := wa_mem 518 (by decide +kernel) rfl
theorem co_X1_lettersOfLink : Cond.code yX1_lettersOfLink cX1_lettersOfLink 2 (some .int) ∈ WA := wa_mem 519 (by decide +kernel) rfl
theorem ml_X4_140 : Cond.methodLink RX4 140 yX2_linkIn ∈ WA := wa_mem 521 (by decide +kernel) rfl
theorem ml_L_126 : Cond.methodLink RL 126 yL_head ∈ WA := wa_mem 522 (by decide +kernel) rfl
theorem sm_L_head : Cond.static yL_head ∈ WA := wa_mem 523 (by decide +kernel) rfl
theorem co_L_head : Cond.codeWith yL_head cL_head 4 (some .int) [(0, 9, 12, 13)] ∈ WA := wa_mem 524 (by decide +kernel) rfl
theorem ml_L_55 : Cond.methodLink RL 55 yX4_head ∈ WA := wa_mem 525 (by decide +kernel) rfl
theorem im_X4_head : Cond.instanceMethod yX4_head ∈ WA := wa_mem 526 (by decide +kernel) rfl
theorem se_X4_head : Cond.selects RX4 yX4_head yX4_head ∈ WA := wa_mem 527 (by decide +kernel) rfl
theorem co_X4_head : Cond.code yX4_head cX4_head 4 (some .int) ∈ WA := wa_mem 528 (by decide +kernel) rfl
theorem ml_L_129 : Cond.methodLink RL 129 yL_readings ∈ WA := wa_mem 529 (by decide +kernel) rfl
theorem sm_L_readings : Cond.static yL_readings ∈ WA := wa_mem 530 (by decide +kernel) rfl
theorem co_L_readings : Cond.codeWith yL_readings cL_readings 4 (some .int) [(0, 9, 12, 13)] ∈ WA := wa_mem 531 (by decide +kernel) rfl
theorem ml_L_58 : Cond.methodLink RL 58 yX4_readings ∈ WA := wa_mem 532 (by decide +kernel) rfl
theorem im_X4_readings : Cond.instanceMethod yX4_readings ∈ WA := wa_mem 533 (by decide +kernel) rfl
theorem se_X4_readings : Cond.selects RX4 yX4_readings yX4_readings ∈ WA := wa_mem 534 (by decide +kernel) rfl
theorem co_X4_readings : Cond.code yX4_readings cX4_readings 5 (some .int) ∈ WA := wa_mem 535 (by decide +kernel) rfl
theorem fl_X4_147 : Cond.fieldLink RX4 147 "PartSplitter" "TREES" "[I" ∈ WA := wa_mem 536 (by decide +kernel) rfl
theorem ml_L_132 : Cond.methodLink RL 132 yL_learn ∈ WA := wa_mem 538 (by decide +kernel) rfl
theorem sm_L_learn : Cond.static yL_learn ∈ WA := wa_mem 539 (by decide +kernel) rfl
theorem co_L_learn : Cond.codeWith yL_learn cL_learn 4 (some .int) [(0, 16, 19, 13), (0, 16, 22, 15)] ∈ WA := wa_mem 540 (by decide +kernel) rfl
theorem ml_L_61 : Cond.methodLink RL 61 yX4_learn ∈ WA := wa_mem 541 (by decide +kernel) rfl
theorem im_X4_learn : Cond.instanceMethod yX4_learn ∈ WA := wa_mem 542 (by decide +kernel) rfl
theorem se_X4_learn : Cond.selects RX4 yX4_learn yX4_learn ∈ WA := wa_mem 543 (by decide +kernel) rfl
theorem co_X4_learn : Cond.code yX4_learn cX4_learn 6 (some .boolean) ∈ WA := wa_mem 544 (by decide +kernel) rfl
theorem ml_X4_159 : Cond.methodLink RX4 159 yX4_isSure ∈ WA := wa_mem 546 (by decide +kernel) rfl
theorem sm_X4_isSure : Cond.static yX4_isSure ∈ WA := wa_mem 547 (by decide +kernel) rfl
theorem co_X4_isSure : Cond.code yX4_isSure cX4_isSure 4 (some .boolean) ∈ WA := wa_mem 548 (by decide +kernel) rfl
theorem ml_X4_163 : Cond.methodLink RX4 163 yX0_begin ∈ WA := wa_mem 549 (by decide +kernel) rfl
theorem im_X0_begin : Cond.instanceMethod yX0_begin ∈ WA := wa_mem 550 (by decide +kernel) rfl
theorem se_X0_begin : Cond.selects RX0 yX0_begin yX0_begin ∈ WA := wa_mem 551 (by decide +kernel) rfl
theorem co_X0_begin : Cond.code yX0_begin cX0_begin 2 none ∈ WA := wa_mem 552 (by decide +kernel) rfl
theorem ml_X4_166 : Cond.methodLink RX4 166 yX0_grow ∈ WA := wa_mem 553 (by decide +kernel) rfl
theorem im_X0_grow : Cond.instanceMethod yX0_grow ∈ WA := wa_mem 554 (by decide +kernel) rfl
theorem se_X0_grow : Cond.selects RX0 yX0_grow yX0_grow ∈ WA := wa_mem 555 (by decide +kernel) rfl
theorem co_X0_grow : Cond.code yX0_grow cX0_grow 4 none ∈ WA := wa_mem 556 (by decide +kernel) rfl
theorem ml_L_135 : Cond.methodLink RL 135 yL_forget ∈ WA := wa_mem 557 (by decide +kernel) rfl
theorem sm_L_forget : Cond.static yL_forget ∈ WA := wa_mem 558 (by decide +kernel) rfl
theorem co_L_forget : Cond.codeWith yL_forget cL_forget 3 (some .int) [(0, 8, 11, 15)] ∈ WA := wa_mem 559 (by decide +kernel) rfl
theorem ml_L_65 : Cond.methodLink RL 65 yX4_forget ∈ WA := wa_mem 560 (by decide +kernel) rfl
theorem im_X4_forget : Cond.instanceMethod yX4_forget ∈ WA := wa_mem 561 (by decide +kernel) rfl
theorem se_X4_forget : Cond.selects RX4 yX4_forget yX4_forget ∈ WA := wa_mem 562 (by decide +kernel) rfl
theorem co_X4_forget : Cond.code yX4_forget cX4_forget 1 (some .int) ∈ WA := wa_mem 563 (by decide +kernel) rfl
theorem ml_X4_171 : Cond.methodLink RX4 171 yX0_takeBack ∈ WA := wa_mem 565 (by decide +kernel) rfl
theorem im_X0_takeBack : Cond.instanceMethod yX0_takeBack ∈ WA := wa_mem 566 (by decide +kernel) rfl
theorem se_X0_takeBack : Cond.selects RX0 yX0_takeBack yX0_takeBack ∈ WA := wa_mem 567 (by decide +kernel) rfl
theorem co_X0_takeBack : Cond.code yX0_takeBack cX0_takeBack 2 (some .int) ∈ WA := wa_mem 568 (by decide +kernel) rfl
theorem kl_L_70 : Cond.classLink RL 70 RX5 ∈ WA := wa_mem 569 (by decide +kernel) rfl
theorem in_X5 : Cond.instantiable RX5 22 ∈ WA := wa_mem 570 (by decide +kernel) rfl
theorem ml_L_72 : Cond.methodLink RL 72 yX5_init ∈ WA := wa_mem 571 (by decide +kernel) rfl
theorem im_X5_init : Cond.instanceMethod yX5_init ∈ WA := wa_mem 572 (by decide +kernel) rfl
theorem co_X5_init : Cond.code yX5_init cX5_init 1 none ∈ WA := wa_mem 573 (by decide +kernel) rfl
theorem ml_X5_1 : Cond.methodLink RX5 1 objectInit ∈ WA := wa_mem 574 (by decide +kernel) rfl
theorem fl_X5_56 : Cond.fieldLink RX5 56 "PartSplitterModel" "thrown" "I" ∈ WA := wa_mem 575 (by decide +kernel) rfl
theorem fl_X5_68 : Cond.fieldLink RX5 68 "PartSplitterModel" "parts" "I" ∈ WA := wa_mem 576 (by decide +kernel) rfl
theorem fl_X5_7 : Cond.fieldLink RX5 7 "PartSplitterModel" "text" "[I" ∈ WA := wa_mem 577 (by decide +kernel) rfl
theorem fl_X5_13 : Cond.fieldLink RX5 13 "PartSplitterModel" "size" "[I" ∈ WA := wa_mem 578 (by decide +kernel) rfl
theorem fl_X5_16 : Cond.fieldLink RX5 16 "PartSplitterModel" "count" "[I" ∈ WA := wa_mem 579 (by decide +kernel) rfl
theorem fl_X5_19 : Cond.fieldLink RX5 19 "PartSplitterModel" "flags" "[I" ∈ WA := wa_mem 580 (by decide +kernel) rfl
theorem fl_X5_82 : Cond.fieldLink RX5 82 "PartSplitterModel" "links" "I" ∈ WA := wa_mem 581 (by decide +kernel) rfl
theorem fl_X5_22 : Cond.fieldLink RX5 22 "PartSplitterModel" "linkText" "[I" ∈ WA := wa_mem 582 (by decide +kernel) rfl
theorem fl_X5_25 : Cond.fieldLink RX5 25 "PartSplitterModel" "linkSize" "[I" ∈ WA := wa_mem 583 (by decide +kernel) rfl
theorem fl_X5_28 : Cond.fieldLink RX5 28 "PartSplitterModel" "vetoes" "[I" ∈ WA := wa_mem 584 (by decide +kernel) rfl
theorem fl_X5_31 : Cond.fieldLink RX5 31 "PartSplitterModel" "bars" "[I" ∈ WA := wa_mem 585 (by decide +kernel) rfl
theorem fl_X5_163 : Cond.fieldLink RX5 163 "PartSplitterModel" "learned" "I" ∈ WA := wa_mem 586 (by decide +kernel) rfl
theorem fl_X5_34 : Cond.fieldLink RX5 34 "PartSplitterModel" "words" "[I" ∈ WA := wa_mem 587 (by decide +kernel) rfl
theorem fl_X5_37 : Cond.fieldLink RX5 37 "PartSplitterModel" "more" "[I" ∈ WA := wa_mem 588 (by decide +kernel) rfl
theorem fl_X5_101 : Cond.fieldLink RX5 101 "PartSplitterModel" "letters" "I" ∈ WA := wa_mem 589 (by decide +kernel) rfl
theorem fl_X5_40 : Cond.fieldLink RX5 40 "PartSplitterModel" "letter" "[I" ∈ WA := wa_mem 590 (by decide +kernel) rfl
theorem fl_X5_104 : Cond.fieldLink RX5 104 "PartSplitterModel" "many" "I" ∈ WA := wa_mem 591 (by decide +kernel) rfl
theorem fl_X5_43 : Cond.fieldLink RX5 43 "PartSplitterModel" "option" "[I" ∈ WA := wa_mem 592 (by decide +kernel) rfl
theorem fl_X5_46 : Cond.fieldLink RX5 46 "PartSplitterModel" "place" "[I" ∈ WA := wa_mem 593 (by decide +kernel) rfl
theorem fl_X5_49 : Cond.fieldLink RX5 49 "PartSplitterModel" "part" "[I" ∈ WA := wa_mem 594 (by decide +kernel) rfl
theorem fl_X5_118 : Cond.fieldLink RX5 118 "PartSplitterModel" "splits" "I" ∈ WA := wa_mem 595 (by decide +kernel) rfl
theorem fl_X5_52 : Cond.fieldLink RX5 52 "PartSplitterModel" "keys" "[J" ∈ WA := wa_mem 596 (by decide +kernel) rfl
theorem ml_L_79 : Cond.methodLink RL 79 yX5_thrown ∈ WA := wa_mem 642 (by decide +kernel) rfl
theorem im_X5_thrown : Cond.instanceMethod yX5_thrown ∈ WA := wa_mem 643 (by decide +kernel) rfl
theorem se_X5_thrown : Cond.selects RX5 yX5_thrown yX5_thrown ∈ WA := wa_mem 644 (by decide +kernel) rfl
theorem co_X5_thrown : Cond.code yX5_thrown cX5_thrown 1 (some .int) ∈ WA := wa_mem 645 (by decide +kernel) rfl
theorem ml_L_78 : Cond.methodLink RL 78 yX5_addPart ∈ WA := wa_mem 646 (by decide +kernel) rfl
theorem im_X5_addPart : Cond.instanceMethod yX5_addPart ∈ WA := wa_mem 647 (by decide +kernel) rfl
theorem se_X5_addPart : Cond.selects RX5 yX5_addPart yX5_addPart ∈ WA := wa_mem 648 (by decide +kernel) rfl
theorem co_X5_addPart : Cond.code yX5_addPart cX5_addPart 5 (some .int) ∈ WA := wa_mem 649 (by decide +kernel) rfl
theorem ml_X5_71 : Cond.methodLink RX5 71 yX5_sizeOf ∈ WA := wa_mem 650 (by decide +kernel) rfl
theorem sm_X5_sizeOf : Cond.static yX5_sizeOf ∈ WA := wa_mem 651 (by decide +kernel) rfl
theorem co_X5_sizeOf : Cond.code yX5_sizeOf cX5_sizeOf 4 (some .int) ∈ WA := wa_mem 652 (by decide +kernel) rfl
theorem ml_X5_60 : Cond.methodLink RX5 60 yX5_power ∈ WA := wa_mem 653 (by decide +kernel) rfl
theorem sm_X5_power : Cond.static yX5_power ∈ WA := wa_mem 654 (by decide +kernel) rfl
theorem co_X5_power : Cond.code yX5_power cX5_power 3 (some .int) ∈ WA := wa_mem 655 (by decide +kernel) rfl
theorem ml_X5_64 : Cond.methodLink RX5 64 yX5_in ∈ WA := wa_mem 656 (by decide +kernel) rfl
theorem sm_X5_in : Cond.static yX5_in ∈ WA := wa_mem 657 (by decide +kernel) rfl
theorem co_X5_in : Cond.code yX5_in cX5_in 3 (some .boolean) ∈ WA := wa_mem 658 (by decide +kernel) rfl
theorem ml_X5_75 : Cond.methodLink RX5 75 yX5_partWith ∈ WA := wa_mem 659 (by decide +kernel) rfl
theorem im_X5_partWith : Cond.instanceMethod yX5_partWith ∈ WA := wa_mem 661 (by decide +kernel) rfl
theorem co_X5_partWith : Cond.code yX5_partWith cX5_partWith 4 (some .int) ∈ WA := wa_mem 662 (by decide +kernel) rfl
theorem ml_L_85 : Cond.methodLink RL 85 yX5_setFlags ∈ WA := wa_mem 663 (by decide +kernel) rfl
theorem im_X5_setFlags : Cond.instanceMethod yX5_setFlags ∈ WA := wa_mem 664 (by decide +kernel) rfl
theorem se_X5_setFlags : Cond.selects RX5 yX5_setFlags yX5_setFlags ∈ WA := wa_mem 665 (by decide +kernel) rfl
theorem co_X5_setFlags : Cond.code yX5_setFlags cX5_setFlags 4 (some .int) ∈ WA := wa_mem 666 (by decide +kernel) rfl
theorem ml_X5_78 : Cond.methodLink RX5 78 yX5_isPart ∈ WA := wa_mem 667 (by decide +kernel) rfl
theorem im_X5_isPart : Cond.instanceMethod yX5_isPart ∈ WA := wa_mem 669 (by decide +kernel) rfl
theorem co_X5_isPart : Cond.code yX5_isPart cX5_isPart 2 (some .boolean) ∈ WA := wa_mem 670 (by decide +kernel) rfl
theorem ml_L_89 : Cond.methodLink RL 89 yX5_addLink ∈ WA := wa_mem 671 (by decide +kernel) rfl
theorem im_X5_addLink : Cond.instanceMethod yX5_addLink ∈ WA := wa_mem 672 (by decide +kernel) rfl
theorem se_X5_addLink : Cond.selects RX5 yX5_addLink yX5_addLink ∈ WA := wa_mem 673 (by decide +kernel) rfl
theorem co_X5_addLink : Cond.code yX5_addLink cX5_addLink 4 (some .int) ∈ WA := wa_mem 674 (by decide +kernel) rfl
theorem ml_L_93 : Cond.methodLink RL 93 yX5_veto ∈ WA := wa_mem 675 (by decide +kernel) rfl
theorem im_X5_veto : Cond.instanceMethod yX5_veto ∈ WA := wa_mem 676 (by decide +kernel) rfl
theorem se_X5_veto : Cond.selects RX5 yX5_veto yX5_veto ∈ WA := wa_mem 677 (by decide +kernel) rfl
theorem co_X5_veto : Cond.code yX5_veto cX5_veto 5 (some .boolean) ∈ WA := wa_mem 678 (by decide +kernel) rfl
theorem ml_L_96 : Cond.methodLink RL 96 yX5_bar ∈ WA := wa_mem 679 (by decide +kernel) rfl
theorem im_X5_bar : Cond.instanceMethod yX5_bar ∈ WA := wa_mem 680 (by decide +kernel) rfl
theorem se_X5_bar : Cond.selects RX5 yX5_bar yX5_bar ∈ WA := wa_mem 681 (by decide +kernel) rfl
theorem co_X5_bar : Cond.code yX5_bar cX5_bar 5 (some .boolean) ∈ WA := wa_mem 682 (by decide +kernel) rfl
theorem ml_L_100 : Cond.methodLink RL 100 yX5_parts ∈ WA := wa_mem 683 (by decide +kernel) rfl
theorem im_X5_parts : Cond.instanceMethod yX5_parts ∈ WA := wa_mem 684 (by decide +kernel) rfl
theorem se_X5_parts : Cond.selects RX5 yX5_parts yX5_parts ∈ WA := wa_mem 685 (by decide +kernel) rfl
theorem co_X5_parts : Cond.code yX5_parts cX5_parts 1 (some .int) ∈ WA := wa_mem 686 (by decide +kernel) rfl
theorem ml_L_103 : Cond.methodLink RL 103 yX5_count ∈ WA := wa_mem 687 (by decide +kernel) rfl
theorem im_X5_count : Cond.instanceMethod yX5_count ∈ WA := wa_mem 688 (by decide +kernel) rfl
theorem se_X5_count : Cond.selects RX5 yX5_count yX5_count ∈ WA := wa_mem 689 (by decide +kernel) rfl
theorem co_X5_count : Cond.code yX5_count cX5_count 2 (some .int) ∈ WA := wa_mem 690 (by decide +kernel) rfl
theorem ml_L_106 : Cond.methodLink RL 106 yX5_costOf ∈ WA := wa_mem 691 (by decide +kernel) rfl
theorem im_X5_costOf : Cond.instanceMethod yX5_costOf ∈ WA := wa_mem 692 (by decide +kernel) rfl
theorem se_X5_costOf : Cond.selects RX5 yX5_costOf yX5_costOf ∈ WA := wa_mem 693 (by decide +kernel) rfl
theorem co_X5_costOf : Cond.code yX5_costOf cX5_costOf 2 (some .int) ∈ WA := wa_mem 694 (by decide +kernel) rfl
theorem ml_X5_85 : Cond.methodLink RX5 85 yX5_costNow ∈ WA := wa_mem 695 (by decide +kernel) rfl
theorem im_X5_costNow : Cond.instanceMethod yX5_costNow ∈ WA := wa_mem 697 (by decide +kernel) rfl
theorem co_X5_costNow : Cond.code yX5_costNow cX5_costNow 4 (some .int) ∈ WA := wa_mem 698 (by decide +kernel) rfl
theorem ml_L_109 : Cond.methodLink RL 109 yX5_find ∈ WA := wa_mem 699 (by decide +kernel) rfl
theorem im_X5_find : Cond.instanceMethod yX5_find ∈ WA := wa_mem 700 (by decide +kernel) rfl
theorem se_X5_find : Cond.selects RX5 yX5_find yX5_find ∈ WA := wa_mem 701 (by decide +kernel) rfl
theorem co_X5_find : Cond.code yX5_find cX5_find 2 (some .int) ∈ WA := wa_mem 702 (by decide +kernel) rfl
theorem ml_L_113 : Cond.methodLink RL 113 yX5_nodes ∈ WA := wa_mem 703 (by decide +kernel) rfl
theorem im_X5_nodes : Cond.instanceMethod yX5_nodes ∈ WA := wa_mem 704 (by decide +kernel) rfl
theorem se_X5_nodes : Cond.selects RX5 yX5_nodes yX5_nodes ∈ WA := wa_mem 705 (by decide +kernel) rfl
theorem co_X5_nodes : Cond.code yX5_nodes cX5_nodes 7 (some .int) ∈ WA := wa_mem 706 (by decide +kernel) rfl
theorem ml_X5_97 : Cond.methodLink RX5 97 yX5_areRests ∈ WA := wa_mem 707 (by decide +kernel) rfl
theorem im_X5_areRests : Cond.instanceMethod yX5_areRests ∈ WA := wa_mem 709 (by decide +kernel) rfl
theorem co_X5_areRests : Cond.code yX5_areRests cX5_areRests 8 (some .boolean) ∈ WA := wa_mem 710 (by decide +kernel) rfl
theorem ml_X5_88 : Cond.methodLink RX5 88 yX5_beginning ∈ WA := wa_mem 711 (by decide +kernel) rfl
theorem im_X5_beginning : Cond.instanceMethod yX5_beginning ∈ WA := wa_mem 713 (by decide +kernel) rfl
theorem co_X5_beginning : Cond.code yX5_beginning cX5_beginning 3 (some .int) ∈ WA := wa_mem 714 (by decide +kernel) rfl
theorem ml_X5_91 : Cond.methodLink RX5 91 yX5_rest ∈ WA := wa_mem 715 (by decide +kernel) rfl
theorem im_X5_rest : Cond.instanceMethod yX5_rest ∈ WA := wa_mem 717 (by decide +kernel) rfl
theorem co_X5_rest : Cond.code yX5_rest cX5_rest 3 (some .int) ∈ WA := wa_mem 718 (by decide +kernel) rfl
theorem ml_X5_94 : Cond.methodLink RX5 94 yX5_hasRest ∈ WA := wa_mem 719 (by decide +kernel) rfl
theorem im_X5_hasRest : Cond.instanceMethod yX5_hasRest ∈ WA := wa_mem 721 (by decide +kernel) rfl
theorem co_X5_hasRest : Cond.code yX5_hasRest cX5_hasRest 7 (some .boolean) ∈ WA := wa_mem 722 (by decide +kernel) rfl
theorem ml_L_116 : Cond.methodLink RL 116 yX5_splits ∈ WA := wa_mem 723 (by decide +kernel) rfl
theorem im_X5_splits : Cond.instanceMethod yX5_splits ∈ WA := wa_mem 724 (by decide +kernel) rfl
theorem se_X5_splits : Cond.selects RX5 yX5_splits yX5_splits ∈ WA := wa_mem 725 (by decide +kernel) rfl
theorem co_X5_splits : Cond.code yX5_splits cX5_splits 2 (some .int) ∈ WA := wa_mem 726 (by decide +kernel) rfl
theorem ml_X5_140 : Cond.methodLink RX5 140 yX5_asks ∈ WA := wa_mem 727 (by decide +kernel) rfl
theorem im_X5_asks : Cond.instanceMethod yX5_asks ∈ WA := wa_mem 729 (by decide +kernel) rfl
theorem co_X5_asks : Cond.code yX5_asks cX5_asks 2 (some .boolean) ∈ WA := wa_mem 730 (by decide +kernel) rfl
theorem ml_X5_128 : Cond.methodLink RX5 128 yX5_takes ∈ WA := wa_mem 731 (by decide +kernel) rfl
theorem im_X5_takes : Cond.instanceMethod yX5_takes ∈ WA := wa_mem 733 (by decide +kernel) rfl
theorem co_X5_takes : Cond.code yX5_takes cX5_takes 4 (some .boolean) ∈ WA := wa_mem 734 (by decide +kernel) rfl
theorem ml_X5_131 : Cond.methodLink RX5 131 yX5_laysSplits ∈ WA := wa_mem 735 (by decide +kernel) rfl
theorem im_X5_laysSplits : Cond.instanceMethod yX5_laysSplits ∈ WA := wa_mem 737 (by decide +kernel) rfl
theorem co_X5_laysSplits : Cond.code yX5_laysSplits cX5_laysSplits 2 none ∈ WA := wa_mem 738 (by decide +kernel) rfl
theorem ml_X5_121 : Cond.methodLink RX5 121 yX5_goesOn ∈ WA := wa_mem 739 (by decide +kernel) rfl
theorem im_X5_goesOn : Cond.instanceMethod yX5_goesOn ∈ WA := wa_mem 741 (by decide +kernel) rfl
theorem co_X5_goesOn : Cond.code yX5_goesOn cX5_goesOn 10 (some .boolean) ∈ WA := wa_mem 742 (by decide +kernel) rfl
theorem ml_X5_107 : Cond.methodLink RX5 107 yX5_textAt ∈ WA := wa_mem 743 (by decide +kernel) rfl
theorem im_X5_textAt : Cond.instanceMethod yX5_textAt ∈ WA := wa_mem 745 (by decide +kernel) rfl
theorem co_X5_textAt : Cond.code yX5_textAt cX5_textAt 5 (some .int) ∈ WA := wa_mem 746 (by decide +kernel) rfl
theorem ml_X5_124 : Cond.methodLink RX5 124 yX5_key ∈ WA := wa_mem 747 (by decide +kernel) rfl
theorem im_X5_key : Cond.instanceMethod yX5_key ∈ WA := wa_mem 749 (by decide +kernel) rfl
theorem co_X5_key : Cond.code yX5_key cX5_key 7 (some .long) ∈ WA := wa_mem 750 (by decide +kernel) rfl
theorem cl_X5_110 : Cond.constantLong RX5 110 (-15) ∈ WA := wa_mem 751 (by decide +kernel) rfl
theorem cl_X5_112 : Cond.constantLong RX5 112 (28) ∈ WA := wa_mem 752 (by decide +kernel) rfl
theorem cl_X5_114 : Cond.constantLong RX5 114 (16) ∈ WA := wa_mem 753 (by decide +kernel) rfl
theorem cl_X5_116 : Cond.constantLong RX5 116 (377801998336) ∈ WA := wa_mem 754 (by decide +kernel) rfl
theorem ml_L_119 : Cond.methodLink RL 119 yX5_cost ∈ WA := wa_mem 755 (by decide +kernel) rfl
theorem im_X5_cost : Cond.instanceMethod yX5_cost ∈ WA := wa_mem 756 (by decide +kernel) rfl
theorem se_X5_cost : Cond.selects RX5 yX5_cost yX5_cost ∈ WA := wa_mem 757 (by decide +kernel) rfl
theorem co_X5_cost : Cond.code yX5_cost cX5_cost 5 (some .int) ∈ WA := wa_mem 758 (by decide +kernel) rfl
theorem ml_X5_147 : Cond.methodLink RX5 147 yX5_asksSplit ∈ WA := wa_mem 759 (by decide +kernel) rfl
theorem im_X5_asksSplit : Cond.instanceMethod yX5_asksSplit ∈ WA := wa_mem 761 (by decide +kernel) rfl
theorem co_X5_asksSplit : Cond.code yX5_asksSplit cX5_asksSplit 3 (some .long) ∈ WA := wa_mem 762 (by decide +kernel) rfl
theorem cl_X5_134 : Cond.constantLong RX5 134 (-1) ∈ WA := wa_mem 763 (by decide +kernel) rfl
theorem ml_X5_143 : Cond.methodLink RX5 143 yX5_keyAt ∈ WA := wa_mem 764 (by decide +kernel) rfl
theorem im_X5_keyAt : Cond.instanceMethod yX5_keyAt ∈ WA := wa_mem 766 (by decide +kernel) rfl
theorem co_X5_keyAt : Cond.code yX5_keyAt cX5_keyAt 7 (some .long) ∈ WA := wa_mem 767 (by decide +kernel) rfl
theorem ml_X5_151 : Cond.methodLink RX5 151 yX5_costOfKey ∈ WA := wa_mem 768 (by decide +kernel) rfl
theorem sm_X5_costOfKey : Cond.static yX5_costOfKey ∈ WA := wa_mem 769 (by decide +kernel) rfl
theorem co_X5_costOfKey : Cond.code yX5_costOfKey cX5_costOfKey 2 (some .int) ∈ WA := wa_mem 770 (by decide +kernel) rfl
theorem ml_L_122 : Cond.methodLink RL 122 yX5_size ∈ WA := wa_mem 771 (by decide +kernel) rfl
theorem im_X5_size : Cond.instanceMethod yX5_size ∈ WA := wa_mem 772 (by decide +kernel) rfl
theorem se_X5_size : Cond.selects RX5 yX5_size yX5_size ∈ WA := wa_mem 773 (by decide +kernel) rfl
theorem co_X5_size : Cond.code yX5_size cX5_size 5 (some .int) ∈ WA := wa_mem 774 (by decide +kernel) rfl
theorem ml_X5_136 : Cond.methodLink RX5 136 yX5_sizeOfKey ∈ WA := wa_mem 775 (by decide +kernel) rfl
theorem sm_X5_sizeOfKey : Cond.static yX5_sizeOfKey ∈ WA := wa_mem 776 (by decide +kernel) rfl
theorem co_X5_sizeOfKey : Cond.code yX5_sizeOfKey cX5_sizeOfKey 2 (some .int) ∈ WA := wa_mem 777 (by decide +kernel) rfl
theorem ml_L_125 : Cond.methodLink RL 125 yX5_partAt ∈ WA := wa_mem 778 (by decide +kernel) rfl
theorem im_X5_partAt : Cond.instanceMethod yX5_partAt ∈ WA := wa_mem 779 (by decide +kernel) rfl
theorem se_X5_partAt : Cond.selects RX5 yX5_partAt yX5_partAt ∈ WA := wa_mem 780 (by decide +kernel) rfl
theorem co_X5_partAt : Cond.code yX5_partAt cX5_partAt 6 (some .int) ∈ WA := wa_mem 781 (by decide +kernel) rfl
theorem ml_X5_154 : Cond.methodLink RX5 154 yX5_unfolds ∈ WA := wa_mem 782 (by decide +kernel) rfl
theorem im_X5_unfolds : Cond.instanceMethod yX5_unfolds ∈ WA := wa_mem 784 (by decide +kernel) rfl
theorem co_X5_unfolds : Cond.code yX5_unfolds cX5_unfolds 6 none ∈ WA := wa_mem 785 (by decide +kernel) rfl
theorem ml_L_128 : Cond.methodLink RL 128 yX5_head ∈ WA := wa_mem 786 (by decide +kernel) rfl
theorem im_X5_head : Cond.instanceMethod yX5_head ∈ WA := wa_mem 787 (by decide +kernel) rfl
theorem se_X5_head : Cond.selects RX5 yX5_head yX5_head ∈ WA := wa_mem 788 (by decide +kernel) rfl
theorem co_X5_head : Cond.code yX5_head cX5_head 2 (some .int) ∈ WA := wa_mem 789 (by decide +kernel) rfl
theorem ml_L_131 : Cond.methodLink RL 131 yX5_readings ∈ WA := wa_mem 790 (by decide +kernel) rfl
theorem im_X5_readings : Cond.instanceMethod yX5_readings ∈ WA := wa_mem 791 (by decide +kernel) rfl
theorem se_X5_readings : Cond.selects RX5 yX5_readings yX5_readings ∈ WA := wa_mem 792 (by decide +kernel) rfl
theorem co_X5_readings : Cond.code yX5_readings cX5_readings 4 (some .int) ∈ WA := wa_mem 793 (by decide +kernel) rfl
theorem ml_X5_160 : Cond.methodLink RX5 160 yX5_trees ∈ WA := wa_mem 794 (by decide +kernel) rfl
theorem sm_X5_trees : Cond.static yX5_trees ∈ WA := wa_mem 795 (by decide +kernel) rfl
theorem co_X5_trees : Cond.code yX5_trees cX5_trees 4 (some .int) ∈ WA := wa_mem 796 (by decide +kernel) rfl
theorem cl_X5_158 : Cond.constantLong RX5 158 (2) ∈ WA := wa_mem 797 (by decide +kernel) rfl
theorem ml_L_134 : Cond.methodLink RL 134 yX5_learn ∈ WA := wa_mem 798 (by decide +kernel) rfl
theorem im_X5_learn : Cond.instanceMethod yX5_learn ∈ WA := wa_mem 799 (by decide +kernel) rfl
theorem se_X5_learn : Cond.selects RX5 yX5_learn yX5_learn ∈ WA := wa_mem 800 (by decide +kernel) rfl
theorem co_X5_learn : Cond.code yX5_learn cX5_learn 3 (some .boolean) ∈ WA := wa_mem 801 (by decide +kernel) rfl
theorem ml_X5_166 : Cond.methodLink RX5 166 yX5_learns ∈ WA := wa_mem 802 (by decide +kernel) rfl
theorem im_X5_learns : Cond.instanceMethod yX5_learns ∈ WA := wa_mem 804 (by decide +kernel) rfl
theorem co_X5_learns : Cond.code yX5_learns cX5_learns 4 none ∈ WA := wa_mem 805 (by decide +kernel) rfl
theorem ml_L_138 : Cond.methodLink RL 138 yX5_forget ∈ WA := wa_mem 806 (by decide +kernel) rfl
theorem im_X5_forget : Cond.instanceMethod yX5_forget ∈ WA := wa_mem 807 (by decide +kernel) rfl
theorem se_X5_forget : Cond.selects RX5 yX5_forget yX5_forget ∈ WA := wa_mem 808 (by decide +kernel) rfl
theorem co_X5_forget : Cond.code yX5_forget cX5_forget 2 (some .int) ∈ WA := wa_mem 809 (by decide +kernel) rfl
theorem ml_L_142 : Cond.methodLink RL 142 yX5_learned ∈ WA := wa_mem 810 (by decide +kernel) rfl
theorem im_X5_learned : Cond.instanceMethod yX5_learned ∈ WA := wa_mem 811 (by decide +kernel) rfl
theorem se_X5_learned : Cond.selects RX5 yX5_learned yX5_learned ∈ WA := wa_mem 812 (by decide +kernel) rfl
theorem co_X5_learned : Cond.code yX5_learned cX5_learned 1 (some .int) ∈ WA := wa_mem 813 (by decide +kernel) rfl
theorem uw_X0 : ∀ w ∈ u_ws RX0 TX0 5, w ∈ WA := by
  intro w hw
  have h : u_ws RX0 TX0 5 = [161, 163, 165, 167, 169].filterMap (fun i => lw_tbl[i]?) := by decide +kernel
  have hg : (u_ws RX0 TX0 5).all goodWord = true := by decide +kernel
  refine List.mem_filter.mpr ⟨?_, List.all_eq_true.mp hg w hw⟩
  rw [h] at hw
  obtain ⟨i, -, hi⟩ := List.mem_filterMap.mp hw
  exact List.mem_of_getElem? hi
theorem uw_X1 : ∀ w ∈ u_ws RX1 TX1 9, w ∈ WA := by
  intro w hw
  have h : u_ws RX1 TX1 9 = [99, 101, 103, 105, 107, 109, 111, 113, 115].filterMap (fun i => lw_tbl[i]?) := by decide +kernel
  have hg : (u_ws RX1 TX1 9).all goodWord = true := by decide +kernel
  refine List.mem_filter.mpr ⟨?_, List.all_eq_true.mp hg w hw⟩
  rw [h] at hw
  obtain ⟨i, -, hi⟩ := List.mem_filterMap.mp hw
  exact List.mem_of_getElem? hi
theorem uw_X2 : ∀ w ∈ u_ws RX2 TX2 7, w ∈ WA := by
  intro w hw
  have h : u_ws RX2 TX2 7 = [133, 135, 137, 139, 141, 143, 145].filterMap (fun i => lw_tbl[i]?) := by decide +kernel
  have hg : (u_ws RX2 TX2 7).all goodWord = true := by decide +kernel
  refine List.mem_filter.mpr ⟨?_, List.all_eq_true.mp hg w hw⟩
  rw [h] at hw
  obtain ⟨i, -, hi⟩ := List.mem_filterMap.mp hw
  exact List.mem_of_getElem? hi
theorem uw_X3 : ∀ w ∈ u_ws RX3 TX3 4, w ∈ WA := by
  intro w hw
  have h : u_ws RX3 TX3 4 = [68, 70, 72, 74].filterMap (fun i => lw_tbl[i]?) := by decide +kernel
  have hg : (u_ws RX3 TX3 4).all goodWord = true := by decide +kernel
  refine List.mem_filter.mpr ⟨?_, List.all_eq_true.mp hg w hw⟩
  rw [h] at hw
  obtain ⟨i, -, hi⟩ := List.mem_filterMap.mp hw
  exact List.mem_of_getElem? hi
theorem uw_X4 : ∀ w ∈ u_ws RX4 TX4 3, w ∈ WA := by
  intro w hw
  have h : u_ws RX4 TX4 3 = [175, 177, 179].filterMap (fun i => lw_tbl[i]?) := by decide +kernel
  have hg : (u_ws RX4 TX4 3).all goodWord = true := by decide +kernel
  refine List.mem_filter.mpr ⟨?_, List.all_eq_true.mp hg w hw⟩
  rw [h] at hw
  obtain ⟨i, -, hi⟩ := List.mem_filterMap.mp hw
  exact List.mem_of_getElem? hi
theorem uw_X5 : ∀ w ∈ u_ws RX5 TX5 22, w ∈ WA := by
  intro w hw
  have h : u_ws RX5 TX5 22 = [597, 599, 601, 603, 605, 607, 609, 611, 613, 615, 617, 619, 621, 623, 625, 627, 629, 631, 633, 635, 637, 639].filterMap (fun i => lw_tbl[i]?) := by decide +kernel
  have hg : (u_ws RX5 TX5 22).all goodWord = true := by decide +kernel
  refine List.mem_filter.mpr ⟨?_, List.all_eq_true.mp hg w hw⟩
  rw [h] at hw
  obtain ⟨i, -, hi⟩ := List.mem_filterMap.mp hw
  exact List.mem_of_getElem? hi
end
section
theorem dX0_init_0 : decode cX0_init 0 = .ok (.aload_n 0, 1) := by decide +kernel
theorem dX0_init_1 : decode cX0_init 1 = .ok (.invokespecial 3, 3) := by decide +kernel
theorem dX0_init_4 : decode cX0_init 4 = .ok (.aload_n 0, 1) := by decide +kernel
theorem dX0_init_5 : decode cX0_init 5 = .ok (.bipush 50, 2) := by decide +kernel
theorem dX0_init_7 : decode cX0_init 7 = .ok (.newarray .int, 2) := by decide +kernel
theorem dX0_init_9 : decode cX0_init 9 = .ok (.putfield 9, 3) := by decide +kernel
theorem dX0_init_12 : decode cX0_init 12 = .ok (.aload_n 0, 1) := by decide +kernel
theorem dX0_init_13 : decode cX0_init 13 = .ok (.sipush 400, 3) := by decide +kernel
theorem dX0_init_16 : decode cX0_init 16 = .ok (.newarray .int, 2) := by decide +kernel
theorem dX0_init_18 : decode cX0_init 18 = .ok (.putfield 15, 3) := by decide +kernel
theorem dX0_init_21 : decode cX0_init 21 = .ok (.aload_n 0, 1) := by decide +kernel
theorem dX0_init_22 : decode cX0_init 22 = .ok (.bipush 50, 2) := by decide +kernel
theorem dX0_init_24 : decode cX0_init 24 = .ok (.newarray .int, 2) := by decide +kernel
theorem dX0_init_26 : decode cX0_init 26 = .ok (.putfield 18, 3) := by decide +kernel
theorem dX0_init_29 : decode cX0_init 29 = .ok (.aload_n 0, 1) := by decide +kernel
theorem dX0_init_30 : decode cX0_init 30 = .ok (.aload_n 1, 1) := by decide +kernel
theorem dX0_init_31 : decode cX0_init 31 = .ok (.putfield 21, 3) := by decide +kernel
theorem dX0_init_34 : decode cX0_init 34 = .ok (.return_, 1) := by decide +kernel
theorem dX0_begin_0 : decode cX0_begin 0 = .ok (.aload_n 0, 1) := by decide +kernel
theorem dX0_begin_1 : decode cX0_begin 1 = .ok (.getfield 25, 3) := by decide +kernel
theorem dX0_begin_4 : decode cX0_begin 4 = .ok (.bipush 50, 2) := by decide +kernel
theorem dX0_begin_6 : decode cX0_begin 6 = .ok (.if_icmp .ge 33, 3) := by decide +kernel
theorem dX0_begin_9 : decode cX0_begin 9 = .ok (.aload_n 0, 1) := by decide +kernel
theorem dX0_begin_10 : decode cX0_begin 10 = .ok (.getfield 9, 3) := by decide +kernel
theorem dX0_begin_13 : decode cX0_begin 13 = .ok (.aload_n 0, 1) := by decide +kernel
theorem dX0_begin_14 : decode cX0_begin 14 = .ok (.getfield 25, 3) := by decide +kernel
theorem dX0_begin_17 : decode cX0_begin 17 = .ok (.iload_n 1, 1) := by decide +kernel
theorem dX0_begin_18 : decode cX0_begin 18 = .ok (.iastore, 1) := by decide +kernel
theorem dX0_begin_19 : decode cX0_begin 19 = .ok (.aload_n 0, 1) := by decide +kernel
theorem dX0_begin_20 : decode cX0_begin 20 = .ok (.getfield 18, 3) := by decide +kernel
theorem dX0_begin_23 : decode cX0_begin 23 = .ok (.aload_n 0, 1) := by decide +kernel
theorem dX0_begin_24 : decode cX0_begin 24 = .ok (.getfield 25, 3) := by decide +kernel
theorem dX0_begin_27 : decode cX0_begin 27 = .ok (.iconst 0, 1) := by decide +kernel
theorem dX0_begin_28 : decode cX0_begin 28 = .ok (.iastore, 1) := by decide +kernel
theorem dX0_begin_29 : decode cX0_begin 29 = .ok (.aload_n 0, 1) := by decide +kernel
theorem dX0_begin_30 : decode cX0_begin 30 = .ok (.dup, 1) := by decide +kernel
theorem dX0_begin_31 : decode cX0_begin 31 = .ok (.getfield 25, 3) := by decide +kernel
theorem dX0_begin_34 : decode cX0_begin 34 = .ok (.iconst 1, 1) := by decide +kernel
theorem dX0_begin_35 : decode cX0_begin 35 = .ok (.iadd, 1) := by decide +kernel
theorem dX0_begin_36 : decode cX0_begin 36 = .ok (.putfield 25, 3) := by decide +kernel
theorem dX0_begin_39 : decode cX0_begin 39 = .ok (.return_, 1) := by decide +kernel
theorem dX0_grow_0 : decode cX0_grow 0 = .ok (.aload_n 0, 1) := by decide +kernel
theorem dX0_grow_1 : decode cX0_grow 1 = .ok (.getfield 25, 3) := by decide +kernel
theorem dX0_grow_4 : decode cX0_grow 4 = .ok (.iconst 1, 1) := by decide +kernel
theorem dX0_grow_5 : decode cX0_grow 5 = .ok (.isub, 1) := by decide +kernel
theorem dX0_grow_6 : decode cX0_grow 6 = .ok (.istore_n 2, 1) := by decide +kernel
theorem dX0_grow_7 : decode cX0_grow 7 = .ok (.iload_n 2, 1) := by decide +kernel
theorem dX0_grow_8 : decode cX0_grow 8 = .ok (.ifCond .lt 28, 3) := by decide +kernel
theorem dX0_grow_11 : decode cX0_grow 11 = .ok (.iload_n 1, 1) := by decide +kernel
theorem dX0_grow_12 : decode cX0_grow 12 = .ok (.ifCond .lt 24, 3) := by decide +kernel
theorem dX0_grow_15 : decode cX0_grow 15 = .ok (.iload_n 1, 1) := by decide +kernel
theorem dX0_grow_16 : decode cX0_grow 16 = .ok (.bipush 16, 2) := by decide +kernel
theorem dX0_grow_18 : decode cX0_grow 18 = .ok (.if_icmp .ge 18, 3) := by decide +kernel
theorem dX0_grow_21 : decode cX0_grow 21 = .ok (.aload_n 0, 1) := by decide +kernel
theorem dX0_grow_22 : decode cX0_grow 22 = .ok (.getfield 21, 3) := by decide +kernel
theorem dX0_grow_25 : decode cX0_grow 25 = .ok (.getfield 29, 3) := by decide +kernel
theorem dX0_grow_28 : decode cX0_grow 28 = .ok (.iload_n 1, 1) := by decide +kernel
theorem dX0_grow_29 : decode cX0_grow 29 = .ok (.iaload, 1) := by decide +kernel
theorem dX0_grow_30 : decode cX0_grow 30 = .ok (.sipush 9999, 3) := by decide +kernel
theorem dX0_grow_33 : decode cX0_grow 33 = .ok (.if_icmp .lt 4, 3) := by decide +kernel
theorem dX0_grow_36 : decode cX0_grow 36 = .ok (.return_, 1) := by decide +kernel
theorem dX0_grow_37 : decode cX0_grow 37 = .ok (.aload_n 0, 1) := by decide +kernel
theorem dX0_grow_38 : decode cX0_grow 38 = .ok (.getfield 18, 3) := by decide +kernel
theorem dX0_grow_41 : decode cX0_grow 41 = .ok (.iload_n 2, 1) := by decide +kernel
theorem dX0_grow_42 : decode cX0_grow 42 = .ok (.iaload, 1) := by decide +kernel
theorem dX0_grow_43 : decode cX0_grow 43 = .ok (.istore_n 3, 1) := by decide +kernel
theorem dX0_grow_44 : decode cX0_grow 44 = .ok (.iload_n 3, 1) := by decide +kernel
theorem dX0_grow_45 : decode cX0_grow 45 = .ok (.bipush 8, 2) := by decide +kernel
theorem dX0_grow_47 : decode cX0_grow 47 = .ok (.if_icmp .ge 38, 3) := by decide +kernel
theorem dX0_grow_50 : decode cX0_grow 50 = .ok (.aload_n 0, 1) := by decide +kernel
theorem dX0_grow_51 : decode cX0_grow 51 = .ok (.getfield 21, 3) := by decide +kernel
theorem dX0_grow_54 : decode cX0_grow 54 = .ok (.getfield 29, 3) := by decide +kernel
theorem dX0_grow_57 : decode cX0_grow 57 = .ok (.iload_n 1, 1) := by decide +kernel
theorem dX0_grow_58 : decode cX0_grow 58 = .ok (.dup2, 1) := by decide +kernel
theorem dX0_grow_59 : decode cX0_grow 59 = .ok (.iaload, 1) := by decide +kernel
theorem dX0_grow_60 : decode cX0_grow 60 = .ok (.iconst 1, 1) := by decide +kernel
theorem dX0_grow_61 : decode cX0_grow 61 = .ok (.iadd, 1) := by decide +kernel
theorem dX0_grow_62 : decode cX0_grow 62 = .ok (.iastore, 1) := by decide +kernel
theorem dX0_grow_63 : decode cX0_grow 63 = .ok (.aload_n 0, 1) := by decide +kernel
theorem dX0_grow_64 : decode cX0_grow 64 = .ok (.getfield 15, 3) := by decide +kernel
theorem dX0_grow_67 : decode cX0_grow 67 = .ok (.iload_n 2, 1) := by decide +kernel
theorem dX0_grow_68 : decode cX0_grow 68 = .ok (.bipush 8, 2) := by decide +kernel
theorem dX0_grow_70 : decode cX0_grow 70 = .ok (.imul, 1) := by decide +kernel
theorem dX0_grow_71 : decode cX0_grow 71 = .ok (.iload_n 3, 1) := by decide +kernel
theorem dX0_grow_72 : decode cX0_grow 72 = .ok (.iadd, 1) := by decide +kernel
theorem dX0_grow_73 : decode cX0_grow 73 = .ok (.iload_n 1, 1) := by decide +kernel
theorem dX0_grow_74 : decode cX0_grow 74 = .ok (.iastore, 1) := by decide +kernel
theorem dX0_grow_75 : decode cX0_grow 75 = .ok (.aload_n 0, 1) := by decide +kernel
theorem dX0_grow_76 : decode cX0_grow 76 = .ok (.getfield 18, 3) := by decide +kernel
theorem dX0_grow_79 : decode cX0_grow 79 = .ok (.iload_n 2, 1) := by decide +kernel
theorem dX0_grow_80 : decode cX0_grow 80 = .ok (.dup2, 1) := by decide +kernel
theorem dX0_grow_81 : decode cX0_grow 81 = .ok (.iaload, 1) := by decide +kernel
theorem dX0_grow_82 : decode cX0_grow 82 = .ok (.iconst 1, 1) := by decide +kernel
theorem dX0_grow_83 : decode cX0_grow 83 = .ok (.iadd, 1) := by decide +kernel
theorem dX0_grow_84 : decode cX0_grow 84 = .ok (.iastore, 1) := by decide +kernel
theorem dX0_grow_85 : decode cX0_grow 85 = .ok (.return_, 1) := by decide +kernel
theorem dX0_takeBack_0 : decode cX0_takeBack 0 = .ok (.aload_n 0, 1) := by decide +kernel
theorem dX0_takeBack_1 : decode cX0_takeBack 1 = .ok (.getfield 25, 3) := by decide +kernel
theorem dX0_takeBack_4 : decode cX0_takeBack 4 = .ok (.ifCond .gt 5, 3) := by decide +kernel
theorem dX0_takeBack_7 : decode cX0_takeBack 7 = .ok (.iconst (-1), 1) := by decide +kernel
theorem dX0_takeBack_8 : decode cX0_takeBack 8 = .ok (.ireturn, 1) := by decide +kernel
theorem dX0_takeBack_9 : decode cX0_takeBack 9 = .ok (.aload_n 0, 1) := by decide +kernel
theorem dX0_takeBack_10 : decode cX0_takeBack 10 = .ok (.dup, 1) := by decide +kernel
theorem dX0_takeBack_11 : decode cX0_takeBack 11 = .ok (.getfield 25, 3) := by decide +kernel
theorem dX0_takeBack_14 : decode cX0_takeBack 14 = .ok (.iconst 1, 1) := by decide +kernel
theorem dX0_takeBack_15 : decode cX0_takeBack 15 = .ok (.isub, 1) := by decide +kernel
theorem dX0_takeBack_16 : decode cX0_takeBack 16 = .ok (.putfield 25, 3) := by decide +kernel
theorem dX0_takeBack_19 : decode cX0_takeBack 19 = .ok (.iconst 0, 1) := by decide +kernel
theorem dX0_takeBack_20 : decode cX0_takeBack 20 = .ok (.istore_n 1, 1) := by decide +kernel
theorem dX0_takeBack_21 : decode cX0_takeBack 21 = .ok (.iload_n 1, 1) := by decide +kernel
theorem dX0_takeBack_22 : decode cX0_takeBack 22 = .ok (.aload_n 0, 1) := by decide +kernel
theorem dX0_takeBack_23 : decode cX0_takeBack 23 = .ok (.getfield 18, 3) := by decide +kernel
theorem dX0_takeBack_26 : decode cX0_takeBack 26 = .ok (.aload_n 0, 1) := by decide +kernel
theorem dX0_takeBack_27 : decode cX0_takeBack 27 = .ok (.getfield 25, 3) := by decide +kernel
theorem dX0_takeBack_30 : decode cX0_takeBack 30 = .ok (.iaload, 1) := by decide +kernel
theorem dX0_takeBack_31 : decode cX0_takeBack 31 = .ok (.if_icmp .ge 35, 3) := by decide +kernel
theorem dX0_takeBack_34 : decode cX0_takeBack 34 = .ok (.aload_n 0, 1) := by decide +kernel
theorem dX0_takeBack_35 : decode cX0_takeBack 35 = .ok (.getfield 21, 3) := by decide +kernel
theorem dX0_takeBack_38 : decode cX0_takeBack 38 = .ok (.getfield 29, 3) := by decide +kernel
theorem dX0_takeBack_41 : decode cX0_takeBack 41 = .ok (.aload_n 0, 1) := by decide +kernel
theorem dX0_takeBack_42 : decode cX0_takeBack 42 = .ok (.getfield 15, 3) := by decide +kernel
theorem dX0_takeBack_45 : decode cX0_takeBack 45 = .ok (.aload_n 0, 1) := by decide +kernel
theorem dX0_takeBack_46 : decode cX0_takeBack 46 = .ok (.getfield 25, 3) := by decide +kernel
theorem dX0_takeBack_49 : decode cX0_takeBack 49 = .ok (.bipush 8, 2) := by decide +kernel
theorem dX0_takeBack_51 : decode cX0_takeBack 51 = .ok (.imul, 1) := by decide +kernel
theorem dX0_takeBack_52 : decode cX0_takeBack 52 = .ok (.iload_n 1, 1) := by decide +kernel
theorem dX0_takeBack_53 : decode cX0_takeBack 53 = .ok (.iadd, 1) := by decide +kernel
theorem dX0_takeBack_54 : decode cX0_takeBack 54 = .ok (.iaload, 1) := by decide +kernel
theorem dX0_takeBack_55 : decode cX0_takeBack 55 = .ok (.dup2, 1) := by decide +kernel
theorem dX0_takeBack_56 : decode cX0_takeBack 56 = .ok (.iaload, 1) := by decide +kernel
theorem dX0_takeBack_57 : decode cX0_takeBack 57 = .ok (.iconst 1, 1) := by decide +kernel
theorem dX0_takeBack_58 : decode cX0_takeBack 58 = .ok (.isub, 1) := by decide +kernel
theorem dX0_takeBack_59 : decode cX0_takeBack 59 = .ok (.iastore, 1) := by decide +kernel
theorem dX0_takeBack_60 : decode cX0_takeBack 60 = .ok (.iinc 1 1, 3) := by decide +kernel
theorem dX0_takeBack_63 : decode cX0_takeBack 63 = .ok (.goto (-42), 3) := by decide +kernel
theorem dX0_takeBack_66 : decode cX0_takeBack 66 = .ok (.aload_n 0, 1) := by decide +kernel
theorem dX0_takeBack_67 : decode cX0_takeBack 67 = .ok (.getfield 9, 3) := by decide +kernel
theorem dX0_takeBack_70 : decode cX0_takeBack 70 = .ok (.aload_n 0, 1) := by decide +kernel
theorem dX0_takeBack_71 : decode cX0_takeBack 71 = .ok (.getfield 25, 3) := by decide +kernel
theorem dX0_takeBack_74 : decode cX0_takeBack 74 = .ok (.iaload, 1) := by decide +kernel
theorem dX0_takeBack_75 : decode cX0_takeBack 75 = .ok (.ireturn, 1) := by decide +kernel
theorem dX1_init_0 : decode cX1_init 0 = .ok (.aload_n 0, 1) := by decide +kernel
theorem dX1_init_1 : decode cX1_init 1 = .ok (.invokespecial 3, 3) := by decide +kernel
theorem dX1_init_4 : decode cX1_init 4 = .ok (.aload_n 0, 1) := by decide +kernel
theorem dX1_init_5 : decode cX1_init 5 = .ok (.bipush 16, 2) := by decide +kernel
theorem dX1_init_7 : decode cX1_init 7 = .ok (.newarray .int, 2) := by decide +kernel
theorem dX1_init_9 : decode cX1_init 9 = .ok (.putfield 9, 3) := by decide +kernel
theorem dX1_init_12 : decode cX1_init 12 = .ok (.aload_n 0, 1) := by decide +kernel
theorem dX1_init_13 : decode cX1_init 13 = .ok (.bipush 16, 2) := by decide +kernel
theorem dX1_init_15 : decode cX1_init 15 = .ok (.newarray .int, 2) := by decide +kernel
theorem dX1_init_17 : decode cX1_init 17 = .ok (.putfield 15, 3) := by decide +kernel
theorem dX1_init_20 : decode cX1_init 20 = .ok (.aload_n 0, 1) := by decide +kernel
theorem dX1_init_21 : decode cX1_init 21 = .ok (.bipush 16, 2) := by decide +kernel
theorem dX1_init_23 : decode cX1_init 23 = .ok (.newarray .int, 2) := by decide +kernel
theorem dX1_init_25 : decode cX1_init 25 = .ok (.putfield 18, 3) := by decide +kernel
theorem dX1_init_28 : decode cX1_init 28 = .ok (.aload_n 0, 1) := by decide +kernel
theorem dX1_init_29 : decode cX1_init 29 = .ok (.bipush 6, 2) := by decide +kernel
theorem dX1_init_31 : decode cX1_init 31 = .ok (.newarray .int, 2) := by decide +kernel
theorem dX1_init_33 : decode cX1_init 33 = .ok (.putfield 21, 3) := by decide +kernel
theorem dX1_init_36 : decode cX1_init 36 = .ok (.aload_n 0, 1) := by decide +kernel
theorem dX1_init_37 : decode cX1_init 37 = .ok (.sipush 256, 3) := by decide +kernel
theorem dX1_init_40 : decode cX1_init 40 = .ok (.newarray .boolean, 2) := by decide +kernel
theorem dX1_init_42 : decode cX1_init 42 = .ok (.putfield 24, 3) := by decide +kernel
theorem dX1_init_45 : decode cX1_init 45 = .ok (.aload_n 0, 1) := by decide +kernel
theorem dX1_init_46 : decode cX1_init 46 = .ok (.bipush 96, 2) := by decide +kernel
theorem dX1_init_48 : decode cX1_init 48 = .ok (.newarray .boolean, 2) := by decide +kernel
theorem dX1_init_50 : decode cX1_init 50 = .ok (.putfield 28, 3) := by decide +kernel
theorem dX1_init_53 : decode cX1_init 53 = .ok (.aload_n 0, 1) := by decide +kernel
theorem dX1_init_54 : decode cX1_init 54 = .ok (.new 31, 3) := by decide +kernel
theorem dX1_init_57 : decode cX1_init 57 = .ok (.dup, 1) := by decide +kernel
theorem dX1_init_58 : decode cX1_init 58 = .ok (.invokespecial 33, 3) := by decide +kernel
theorem dX1_init_61 : decode cX1_init 61 = .ok (.putfield 34, 3) := by decide +kernel
theorem dX1_init_64 : decode cX1_init 64 = .ok (.return_, 1) := by decide +kernel
theorem dX1_enterPart_0 : decode cX1_enterPart 0 = .ok (.aload_n 0, 1) := by decide +kernel
theorem dX1_enterPart_1 : decode cX1_enterPart 1 = .ok (.getfield 38, 3) := by decide +kernel
theorem dX1_enterPart_4 : decode cX1_enterPart 4 = .ok (.bipush 16, 2) := by decide +kernel
theorem dX1_enterPart_6 : decode cX1_enterPart 6 = .ok (.if_icmp .lt 5, 3) := by decide +kernel
theorem dX1_enterPart_9 : decode cX1_enterPart 9 = .ok (.iconst (-1), 1) := by decide +kernel
theorem dX1_enterPart_10 : decode cX1_enterPart 10 = .ok (.ireturn, 1) := by decide +kernel
theorem dX1_enterPart_11 : decode cX1_enterPart 11 = .ok (.aload_n 0, 1) := by decide +kernel
theorem dX1_enterPart_12 : decode cX1_enterPart 12 = .ok (.getfield 38, 3) := by decide +kernel
theorem dX1_enterPart_15 : decode cX1_enterPart 15 = .ok (.istore 4, 2) := by decide +kernel
theorem dX1_enterPart_17 : decode cX1_enterPart 17 = .ok (.aload_n 0, 1) := by decide +kernel
theorem dX1_enterPart_18 : decode cX1_enterPart 18 = .ok (.getfield 9, 3) := by decide +kernel
theorem dX1_enterPart_21 : decode cX1_enterPart 21 = .ok (.iload 4, 2) := by decide +kernel
theorem dX1_enterPart_23 : decode cX1_enterPart 23 = .ok (.iload_n 1, 1) := by decide +kernel
theorem dX1_enterPart_24 : decode cX1_enterPart 24 = .ok (.iastore, 1) := by decide +kernel
theorem dX1_enterPart_25 : decode cX1_enterPart 25 = .ok (.aload_n 0, 1) := by decide +kernel
theorem dX1_enterPart_26 : decode cX1_enterPart 26 = .ok (.getfield 15, 3) := by decide +kernel
theorem dX1_enterPart_29 : decode cX1_enterPart 29 = .ok (.iload 4, 2) := by decide +kernel
theorem dX1_enterPart_31 : decode cX1_enterPart 31 = .ok (.iload_n 2, 1) := by decide +kernel
theorem dX1_enterPart_32 : decode cX1_enterPart 32 = .ok (.iastore, 1) := by decide +kernel
theorem dX1_enterPart_33 : decode cX1_enterPart 33 = .ok (.aload_n 0, 1) := by decide +kernel
theorem dX1_enterPart_34 : decode cX1_enterPart 34 = .ok (.getfield 18, 3) := by decide +kernel
theorem dX1_enterPart_37 : decode cX1_enterPart 37 = .ok (.iload 4, 2) := by decide +kernel
theorem dX1_enterPart_39 : decode cX1_enterPart 39 = .ok (.iload_n 3, 1) := by decide +kernel
theorem dX1_enterPart_40 : decode cX1_enterPart 40 = .ok (.iastore, 1) := by decide +kernel
theorem dX1_enterPart_41 : decode cX1_enterPart 41 = .ok (.aload_n 0, 1) := by decide +kernel
theorem dX1_enterPart_42 : decode cX1_enterPart 42 = .ok (.getfield 34, 3) := by decide +kernel
theorem dX1_enterPart_45 : decode cX1_enterPart 45 = .ok (.iload_n 1, 1) := by decide +kernel
theorem dX1_enterPart_46 : decode cX1_enterPart 46 = .ok (.invokevirtual 42, 3) := by decide +kernel
theorem dX1_enterPart_49 : decode cX1_enterPart 49 = .ok (.aload_n 0, 1) := by decide +kernel
theorem dX1_enterPart_50 : decode cX1_enterPart 50 = .ok (.dup, 1) := by decide +kernel
theorem dX1_enterPart_51 : decode cX1_enterPart 51 = .ok (.getfield 38, 3) := by decide +kernel
theorem dX1_enterPart_54 : decode cX1_enterPart 54 = .ok (.iconst 1, 1) := by decide +kernel
theorem dX1_enterPart_55 : decode cX1_enterPart 55 = .ok (.iadd, 1) := by decide +kernel
theorem dX1_enterPart_56 : decode cX1_enterPart 56 = .ok (.putfield 38, 3) := by decide +kernel
theorem dX1_enterPart_59 : decode cX1_enterPart 59 = .ok (.iload 4, 2) := by decide +kernel
theorem dX1_enterPart_61 : decode cX1_enterPart 61 = .ok (.ireturn, 1) := by decide +kernel
theorem dX1_enterLink_0 : decode cX1_enterLink 0 = .ok (.aload_n 0, 1) := by decide +kernel
theorem dX1_enterLink_1 : decode cX1_enterLink 1 = .ok (.getfield 46, 3) := by decide +kernel
theorem dX1_enterLink_4 : decode cX1_enterLink 4 = .ok (.bipush 6, 2) := by decide +kernel
theorem dX1_enterLink_6 : decode cX1_enterLink 6 = .ok (.if_icmp .lt 5, 3) := by decide +kernel
theorem dX1_enterLink_9 : decode cX1_enterLink 9 = .ok (.iconst (-1), 1) := by decide +kernel
theorem dX1_enterLink_10 : decode cX1_enterLink 10 = .ok (.ireturn, 1) := by decide +kernel
theorem dX1_enterLink_11 : decode cX1_enterLink 11 = .ok (.aload_n 0, 1) := by decide +kernel
theorem dX1_enterLink_12 : decode cX1_enterLink 12 = .ok (.getfield 46, 3) := by decide +kernel
theorem dX1_enterLink_15 : decode cX1_enterLink 15 = .ok (.istore_n 2, 1) := by decide +kernel
theorem dX1_enterLink_16 : decode cX1_enterLink 16 = .ok (.aload_n 0, 1) := by decide +kernel
theorem dX1_enterLink_17 : decode cX1_enterLink 17 = .ok (.getfield 21, 3) := by decide +kernel
theorem dX1_enterLink_20 : decode cX1_enterLink 20 = .ok (.iload_n 2, 1) := by decide +kernel
theorem dX1_enterLink_21 : decode cX1_enterLink 21 = .ok (.iload_n 1, 1) := by decide +kernel
theorem dX1_enterLink_22 : decode cX1_enterLink 22 = .ok (.iastore, 1) := by decide +kernel
theorem dX1_enterLink_23 : decode cX1_enterLink 23 = .ok (.aload_n 0, 1) := by decide +kernel
theorem dX1_enterLink_24 : decode cX1_enterLink 24 = .ok (.dup, 1) := by decide +kernel
theorem dX1_enterLink_25 : decode cX1_enterLink 25 = .ok (.getfield 46, 3) := by decide +kernel
theorem dX1_enterLink_28 : decode cX1_enterLink 28 = .ok (.iconst 1, 1) := by decide +kernel
theorem dX1_enterLink_29 : decode cX1_enterLink 29 = .ok (.iadd, 1) := by decide +kernel
theorem dX1_enterLink_30 : decode cX1_enterLink 30 = .ok (.putfield 46, 3) := by decide +kernel
theorem dX1_enterLink_33 : decode cX1_enterLink 33 = .ok (.iload_n 2, 1) := by decide +kernel
theorem dX1_enterLink_34 : decode cX1_enterLink 34 = .ok (.ireturn, 1) := by decide +kernel
theorem dX1_partWith_0 : decode cX1_partWith 0 = .ok (.iload_n 1, 1) := by decide +kernel
theorem dX1_partWith_1 : decode cX1_partWith 1 = .ok (.aload_n 0, 1) := by decide +kernel
theorem dX1_partWith_2 : decode cX1_partWith 2 = .ok (.getfield 9, 3) := by decide +kernel
theorem dX1_partWith_5 : decode cX1_partWith 5 = .ok (.aload_n 0, 1) := by decide +kernel
theorem dX1_partWith_6 : decode cX1_partWith 6 = .ok (.getfield 38, 3) := by decide +kernel
theorem dX1_partWith_9 : decode cX1_partWith 9 = .ok (.invokestatic 49, 3) := by decide +kernel
theorem dX1_partWith_12 : decode cX1_partWith 12 = .ok (.ireturn, 1) := by decide +kernel
theorem dX1_linkWith_0 : decode cX1_linkWith 0 = .ok (.iload_n 1, 1) := by decide +kernel
theorem dX1_linkWith_1 : decode cX1_linkWith 1 = .ok (.aload_n 0, 1) := by decide +kernel
theorem dX1_linkWith_2 : decode cX1_linkWith 2 = .ok (.getfield 21, 3) := by decide +kernel
theorem dX1_linkWith_5 : decode cX1_linkWith 5 = .ok (.aload_n 0, 1) := by decide +kernel
theorem dX1_linkWith_6 : decode cX1_linkWith 6 = .ok (.getfield 46, 3) := by decide +kernel
theorem dX1_linkWith_9 : decode cX1_linkWith 9 = .ok (.invokestatic 49, 3) := by decide +kernel
theorem dX1_linkWith_12 : decode cX1_linkWith 12 = .ok (.ireturn, 1) := by decide +kernel
theorem dX1_placeOf_0 : decode cX1_placeOf 0 = .ok (.iconst 0, 1) := by decide +kernel
theorem dX1_placeOf_1 : decode cX1_placeOf 1 = .ok (.istore_n 3, 1) := by decide +kernel
theorem dX1_placeOf_2 : decode cX1_placeOf 2 = .ok (.iload_n 3, 1) := by decide +kernel
theorem dX1_placeOf_3 : decode cX1_placeOf 3 = .ok (.iload_n 2, 1) := by decide +kernel
theorem dX1_placeOf_4 : decode cX1_placeOf 4 = .ok (.if_icmp .ge 24, 3) := by decide +kernel
theorem dX1_placeOf_7 : decode cX1_placeOf 7 = .ok (.iload_n 3, 1) := by decide +kernel
theorem dX1_placeOf_8 : decode cX1_placeOf 8 = .ok (.aload_n 1, 1) := by decide +kernel
theorem dX1_placeOf_9 : decode cX1_placeOf 9 = .ok (.arraylength, 1) := by decide +kernel
theorem dX1_placeOf_10 : decode cX1_placeOf 10 = .ok (.if_icmp .ge 18, 3) := by decide +kernel
theorem dX1_placeOf_13 : decode cX1_placeOf 13 = .ok (.aload_n 1, 1) := by decide +kernel
theorem dX1_placeOf_14 : decode cX1_placeOf 14 = .ok (.iload_n 3, 1) := by decide +kernel
theorem dX1_placeOf_15 : decode cX1_placeOf 15 = .ok (.iaload, 1) := by decide +kernel
theorem dX1_placeOf_16 : decode cX1_placeOf 16 = .ok (.iload_n 0, 1) := by decide +kernel
theorem dX1_placeOf_17 : decode cX1_placeOf 17 = .ok (.if_icmp .ne 5, 3) := by decide +kernel
theorem dX1_placeOf_20 : decode cX1_placeOf 20 = .ok (.iload_n 3, 1) := by decide +kernel
theorem dX1_placeOf_21 : decode cX1_placeOf 21 = .ok (.ireturn, 1) := by decide +kernel
theorem dX1_placeOf_22 : decode cX1_placeOf 22 = .ok (.iinc 3 1, 3) := by decide +kernel
theorem dX1_placeOf_25 : decode cX1_placeOf 25 = .ok (.goto (-23), 3) := by decide +kernel
theorem dX1_placeOf_28 : decode cX1_placeOf 28 = .ok (.iconst (-1), 1) := by decide +kernel
theorem dX1_placeOf_29 : decode cX1_placeOf 29 = .ok (.ireturn, 1) := by decide +kernel
theorem dX1_costOfCount_0 : decode cX1_costOfCount 0 = .ok (.bipush 10, 2) := by decide +kernel
theorem dX1_costOfCount_2 : decode cX1_costOfCount 2 = .ok (.istore_n 1, 1) := by decide +kernel
theorem dX1_costOfCount_3 : decode cX1_costOfCount 3 = .ok (.iconst 2, 1) := by decide +kernel
theorem dX1_costOfCount_4 : decode cX1_costOfCount 4 = .ok (.iload_n 0, 1) := by decide +kernel
theorem dX1_costOfCount_5 : decode cX1_costOfCount 5 = .ok (.imul, 1) := by decide +kernel
theorem dX1_costOfCount_6 : decode cX1_costOfCount 6 = .ok (.istore_n 2, 1) := by decide +kernel
theorem dX1_costOfCount_7 : decode cX1_costOfCount 7 = .ok (.iconst 0, 1) := by decide +kernel
theorem dX1_costOfCount_8 : decode cX1_costOfCount 8 = .ok (.istore_n 3, 1) := by decide +kernel
theorem dX1_costOfCount_9 : decode cX1_costOfCount 9 = .ok (.iload_n 3, 1) := by decide +kernel
theorem dX1_costOfCount_10 : decode cX1_costOfCount 10 = .ok (.bipush 13, 2) := by decide +kernel
theorem dX1_costOfCount_12 : decode cX1_costOfCount 12 = .ok (.if_icmp .ge 23, 3) := by decide +kernel
theorem dX1_costOfCount_15 : decode cX1_costOfCount 15 = .ok (.iload_n 2, 1) := by decide +kernel
theorem dX1_costOfCount_16 : decode cX1_costOfCount 16 = .ok (.sipush 10000, 3) := by decide +kernel
theorem dX1_costOfCount_19 : decode cX1_costOfCount 19 = .ok (.if_icmp .gt 16, 3) := by decide +kernel
theorem dX1_costOfCount_22 : decode cX1_costOfCount 22 = .ok (.iinc 1 10, 3) := by decide +kernel
theorem dX1_costOfCount_25 : decode cX1_costOfCount 25 = .ok (.iload_n 2, 1) := by decide +kernel
theorem dX1_costOfCount_26 : decode cX1_costOfCount 26 = .ok (.iconst 2, 1) := by decide +kernel
theorem dX1_costOfCount_27 : decode cX1_costOfCount 27 = .ok (.imul, 1) := by decide +kernel
theorem dX1_costOfCount_28 : decode cX1_costOfCount 28 = .ok (.istore_n 2, 1) := by decide +kernel
theorem dX1_costOfCount_29 : decode cX1_costOfCount 29 = .ok (.iinc 3 1, 3) := by decide +kernel
theorem dX1_costOfCount_32 : decode cX1_costOfCount 32 = .ok (.goto (-23), 3) := by decide +kernel
theorem dX1_costOfCount_35 : decode cX1_costOfCount 35 = .ok (.iload_n 1, 1) := by decide +kernel
theorem dX1_costOfCount_36 : decode cX1_costOfCount 36 = .ok (.ireturn, 1) := by decide +kernel
theorem dX1_lettersOfLink_0 : decode cX1_lettersOfLink 0 = .ok (.iload_n 1, 1) := by decide +kernel
theorem dX1_lettersOfLink_1 : decode cX1_lettersOfLink 1 = .ok (.ifCond .lt 11, 3) := by decide +kernel
theorem dX1_lettersOfLink_4 : decode cX1_lettersOfLink 4 = .ok (.iload_n 1, 1) := by decide +kernel
theorem dX1_lettersOfLink_5 : decode cX1_lettersOfLink 5 = .ok (.aload_n 0, 1) := by decide +kernel
theorem dX1_lettersOfLink_6 : decode cX1_lettersOfLink 6 = .ok (.getfield 46, 3) := by decide +kernel
theorem dX1_lettersOfLink_9 : decode cX1_lettersOfLink 9 = .ok (.if_icmp .lt 7, 3) := by decide +kernel
theorem dX1_lettersOfLink_12 : decode cX1_lettersOfLink 12 = .ok (.iconst 0, 1) := by decide +kernel
theorem dX1_lettersOfLink_13 : decode cX1_lettersOfLink 13 = .ok (.goto 12, 3) := by decide +kernel
theorem dX1_lettersOfLink_16 : decode cX1_lettersOfLink 16 = .ok (.aload_n 0, 1) := by decide +kernel
theorem dX1_lettersOfLink_17 : decode cX1_lettersOfLink 17 = .ok (.getfield 21, 3) := by decide +kernel
theorem dX1_lettersOfLink_20 : decode cX1_lettersOfLink 20 = .ok (.iload_n 1, 1) := by decide +kernel
theorem dX1_lettersOfLink_21 : decode cX1_lettersOfLink 21 = .ok (.iaload, 1) := by decide +kernel
theorem dX1_lettersOfLink_22 : decode cX1_lettersOfLink 22 = .ok (.invokestatic 53, 3) := by decide +kernel
theorem dX1_lettersOfLink_25 : decode cX1_lettersOfLink 25 = .ok (.ireturn, 1) := by decide +kernel
theorem dX1_mayStand_0 : decode cX1_mayStand 0 = .ok (.iload_n 2, 1) := by decide +kernel
theorem dX1_mayStand_1 : decode cX1_mayStand 1 = .ok (.ifCond .eq 7, 3) := by decide +kernel
theorem dX1_mayStand_4 : decode cX1_mayStand 4 = .ok (.iconst 1, 1) := by decide +kernel
theorem dX1_mayStand_5 : decode cX1_mayStand 5 = .ok (.goto 4, 3) := by decide +kernel
theorem dX1_mayStand_8 : decode cX1_mayStand 8 = .ok (.iconst 0, 1) := by decide +kernel
theorem dX1_mayStand_9 : decode cX1_mayStand 9 = .ok (.iload_n 3, 1) := by decide +kernel
theorem dX1_mayStand_10 : decode cX1_mayStand 10 = .ok (.ifCond .eq 7, 3) := by decide +kernel
theorem dX1_mayStand_13 : decode cX1_mayStand 13 = .ok (.iconst 4, 1) := by decide +kernel
theorem dX1_mayStand_14 : decode cX1_mayStand 14 = .ok (.goto 4, 3) := by decide +kernel
theorem dX1_mayStand_17 : decode cX1_mayStand 17 = .ok (.iconst 0, 1) := by decide +kernel
theorem dX1_mayStand_18 : decode cX1_mayStand 18 = .ok (.ior, 1) := by decide +kernel
theorem dX1_mayStand_19 : decode cX1_mayStand 19 = .ok (.istore 4, 2) := by decide +kernel
theorem dX1_mayStand_21 : decode cX1_mayStand 21 = .ok (.iload 4, 2) := by decide +kernel
theorem dX1_mayStand_23 : decode cX1_mayStand 23 = .ok (.ifCond .ne 6, 3) := by decide +kernel
theorem dX1_mayStand_26 : decode cX1_mayStand 26 = .ok (.iconst 2, 1) := by decide +kernel
theorem dX1_mayStand_27 : decode cX1_mayStand 27 = .ok (.istore 4, 2) := by decide +kernel
theorem dX1_mayStand_29 : decode cX1_mayStand 29 = .ok (.aload_n 0, 1) := by decide +kernel
theorem dX1_mayStand_30 : decode cX1_mayStand 30 = .ok (.getfield 18, 3) := by decide +kernel
theorem dX1_mayStand_33 : decode cX1_mayStand 33 = .ok (.iload_n 1, 1) := by decide +kernel
theorem dX1_mayStand_34 : decode cX1_mayStand 34 = .ok (.iaload, 1) := by decide +kernel
theorem dX1_mayStand_35 : decode cX1_mayStand 35 = .ok (.iload 4, 2) := by decide +kernel
theorem dX1_mayStand_37 : decode cX1_mayStand 37 = .ok (.iand, 1) := by decide +kernel
theorem dX1_mayStand_38 : decode cX1_mayStand 38 = .ok (.iload 4, 2) := by decide +kernel
theorem dX1_mayStand_40 : decode cX1_mayStand 40 = .ok (.if_icmp .ne 7, 3) := by decide +kernel
theorem dX1_mayStand_43 : decode cX1_mayStand 43 = .ok (.iconst 1, 1) := by decide +kernel
theorem dX1_mayStand_44 : decode cX1_mayStand 44 = .ok (.goto 4, 3) := by decide +kernel
theorem dX1_mayStand_47 : decode cX1_mayStand 47 = .ok (.iconst 0, 1) := by decide +kernel
theorem dX1_mayStand_48 : decode cX1_mayStand 48 = .ok (.ireturn, 1) := by decide +kernel
theorem dX2_init_0 : decode cX2_init 0 = .ok (.aload_n 0, 1) := by decide +kernel
theorem dX2_init_1 : decode cX2_init 1 = .ok (.invokespecial 5, 3) := by decide +kernel
theorem dX2_init_4 : decode cX2_init 4 = .ok (.aload_n 0, 1) := by decide +kernel
theorem dX2_init_5 : decode cX2_init 5 = .ok (.bipush 8, 2) := by decide +kernel
theorem dX2_init_7 : decode cX2_init 7 = .ok (.newarray .int, 2) := by decide +kernel
theorem dX2_init_9 : decode cX2_init 9 = .ok (.putfield 11, 3) := by decide +kernel
theorem dX2_init_12 : decode cX2_init 12 = .ok (.aload_n 0, 1) := by decide +kernel
theorem dX2_init_13 : decode cX2_init 13 = .ok (.bipush 32, 2) := by decide +kernel
theorem dX2_init_15 : decode cX2_init 15 = .ok (.newarray .int, 2) := by decide +kernel
theorem dX2_init_17 : decode cX2_init 17 = .ok (.putfield 15, 3) := by decide +kernel
theorem dX2_init_20 : decode cX2_init 20 = .ok (.aload_n 0, 1) := by decide +kernel
theorem dX2_init_21 : decode cX2_init 21 = .ok (.bipush 16, 2) := by decide +kernel
theorem dX2_init_23 : decode cX2_init 23 = .ok (.newarray .int, 2) := by decide +kernel
theorem dX2_init_25 : decode cX2_init 25 = .ok (.putfield 18, 3) := by decide +kernel
theorem dX2_init_28 : decode cX2_init 28 = .ok (.aload_n 0, 1) := by decide +kernel
theorem dX2_init_29 : decode cX2_init 29 = .ok (.sipush 513, 3) := by decide +kernel
theorem dX2_init_32 : decode cX2_init 32 = .ok (.newarray .long, 2) := by decide +kernel
theorem dX2_init_34 : decode cX2_init 34 = .ok (.putfield 21, 3) := by decide +kernel
theorem dX2_init_37 : decode cX2_init 37 = .ok (.aload_n 0, 1) := by decide +kernel
theorem dX2_init_38 : decode cX2_init 38 = .ok (.aload_n 1, 1) := by decide +kernel
theorem dX2_init_39 : decode cX2_init 39 = .ok (.putfield 25, 3) := by decide +kernel
theorem dX2_init_42 : decode cX2_init 42 = .ok (.return_, 1) := by decide +kernel
theorem dX2_gather_0 : decode cX2_gather 0 = .ok (.aload_n 0, 1) := by decide +kernel
theorem dX2_gather_1 : decode cX2_gather 1 = .ok (.iload_n 1, 1) := by decide +kernel
theorem dX2_gather_2 : decode cX2_gather 2 = .ok (.invokevirtual 29, 3) := by decide +kernel
theorem dX2_gather_5 : decode cX2_gather 5 = .ok (.iconst 0, 1) := by decide +kernel
theorem dX2_gather_6 : decode cX2_gather 6 = .ok (.istore_n 2, 1) := by decide +kernel
theorem dX2_gather_7 : decode cX2_gather 7 = .ok (.iload_n 2, 1) := by decide +kernel
theorem dX2_gather_8 : decode cX2_gather 8 = .ok (.aload_n 0, 1) := by decide +kernel
theorem dX2_gather_9 : decode cX2_gather 9 = .ok (.getfield 33, 3) := by decide +kernel
theorem dX2_gather_12 : decode cX2_gather 12 = .ok (.if_icmp .ge 14, 3) := by decide +kernel
theorem dX2_gather_15 : decode cX2_gather 15 = .ok (.aload_n 0, 1) := by decide +kernel
theorem dX2_gather_16 : decode cX2_gather 16 = .ok (.iload_n 2, 1) := by decide +kernel
theorem dX2_gather_17 : decode cX2_gather 17 = .ok (.invokevirtual 37, 3) := by decide +kernel
theorem dX2_gather_20 : decode cX2_gather 20 = .ok (.iinc 2 1, 3) := by decide +kernel
theorem dX2_gather_23 : decode cX2_gather 23 = .ok (.goto (-16), 3) := by decide +kernel
theorem dX2_gather_26 : decode cX2_gather 26 = .ok (.aload_n 0, 1) := by decide +kernel
theorem dX2_gather_27 : decode cX2_gather 27 = .ok (.iconst 0, 1) := by decide +kernel
theorem dX2_gather_28 : decode cX2_gather 28 = .ok (.putfield 40, 3) := by decide +kernel
theorem dX2_gather_31 : decode cX2_gather 31 = .ok (.aload_n 0, 1) := by decide +kernel
theorem dX2_gather_32 : decode cX2_gather 32 = .ok (.iconst 0, 1) := by decide +kernel
theorem dX2_gather_33 : decode cX2_gather 33 = .ok (.iconst (-1), 1) := by decide +kernel
theorem dX2_gather_34 : decode cX2_gather 34 = .ok (.iconst 0, 1) := by decide +kernel
theorem dX2_gather_35 : decode cX2_gather 35 = .ok (.iconst 0, 1) := by decide +kernel
theorem dX2_gather_36 : decode cX2_gather 36 = .ok (.lconst 0, 1) := by decide +kernel
theorem dX2_gather_37 : decode cX2_gather 37 = .ok (.invokevirtual 43, 3) := by decide +kernel
theorem dX2_gather_40 : decode cX2_gather 40 = .ok (.return_, 1) := by decide +kernel
theorem dX2_readLetters_0 : decode cX2_readLetters 0 = .ok (.aload_n 0, 1) := by decide +kernel
theorem dX2_readLetters_1 : decode cX2_readLetters 1 = .ok (.iload_n 1, 1) := by decide +kernel
theorem dX2_readLetters_2 : decode cX2_readLetters 2 = .ok (.invokestatic 47, 3) := by decide +kernel
theorem dX2_readLetters_5 : decode cX2_readLetters 5 = .ok (.putfield 33, 3) := by decide +kernel
theorem dX2_readLetters_8 : decode cX2_readLetters 8 = .ok (.iload_n 1, 1) := by decide +kernel
theorem dX2_readLetters_9 : decode cX2_readLetters 9 = .ok (.istore_n 2, 1) := by decide +kernel
theorem dX2_readLetters_10 : decode cX2_readLetters 10 = .ok (.aload_n 0, 1) := by decide +kernel
theorem dX2_readLetters_11 : decode cX2_readLetters 11 = .ok (.getfield 33, 3) := by decide +kernel
theorem dX2_readLetters_14 : decode cX2_readLetters 14 = .ok (.iconst 1, 1) := by decide +kernel
theorem dX2_readLetters_15 : decode cX2_readLetters 15 = .ok (.isub, 1) := by decide +kernel
theorem dX2_readLetters_16 : decode cX2_readLetters 16 = .ok (.istore_n 3, 1) := by decide +kernel
theorem dX2_readLetters_17 : decode cX2_readLetters 17 = .ok (.iload_n 3, 1) := by decide +kernel
theorem dX2_readLetters_18 : decode cX2_readLetters 18 = .ok (.ifCond .lt 24, 3) := by decide +kernel
theorem dX2_readLetters_21 : decode cX2_readLetters 21 = .ok (.aload_n 0, 1) := by decide +kernel
theorem dX2_readLetters_22 : decode cX2_readLetters 22 = .ok (.getfield 11, 3) := by decide +kernel
theorem dX2_readLetters_25 : decode cX2_readLetters 25 = .ok (.iload_n 3, 1) := by decide +kernel
theorem dX2_readLetters_26 : decode cX2_readLetters 26 = .ok (.iload_n 2, 1) := by decide +kernel
theorem dX2_readLetters_27 : decode cX2_readLetters 27 = .ok (.bipush 10, 2) := by decide +kernel
theorem dX2_readLetters_29 : decode cX2_readLetters 29 = .ok (.irem, 1) := by decide +kernel
theorem dX2_readLetters_30 : decode cX2_readLetters 30 = .ok (.iastore, 1) := by decide +kernel
theorem dX2_readLetters_31 : decode cX2_readLetters 31 = .ok (.iload_n 2, 1) := by decide +kernel
theorem dX2_readLetters_32 : decode cX2_readLetters 32 = .ok (.bipush 10, 2) := by decide +kernel
theorem dX2_readLetters_34 : decode cX2_readLetters 34 = .ok (.idiv, 1) := by decide +kernel
theorem dX2_readLetters_35 : decode cX2_readLetters 35 = .ok (.istore_n 2, 1) := by decide +kernel
theorem dX2_readLetters_36 : decode cX2_readLetters 36 = .ok (.iinc 3 (-1), 3) := by decide +kernel
theorem dX2_readLetters_39 : decode cX2_readLetters 39 = .ok (.goto (-22), 3) := by decide +kernel
theorem dX2_readLetters_42 : decode cX2_readLetters 42 = .ok (.return_, 1) := by decide +kernel
theorem dX2_findFrom_0 : decode cX2_findFrom 0 = .ok (.iconst 1, 1) := by decide +kernel
theorem dX2_findFrom_1 : decode cX2_findFrom 1 = .ok (.istore_n 2, 1) := by decide +kernel
theorem dX2_findFrom_2 : decode cX2_findFrom 2 = .ok (.iconst 1, 1) := by decide +kernel
theorem dX2_findFrom_3 : decode cX2_findFrom 3 = .ok (.istore_n 3, 1) := by decide +kernel
theorem dX2_findFrom_4 : decode cX2_findFrom 4 = .ok (.iload_n 3, 1) := by decide +kernel
theorem dX2_findFrom_5 : decode cX2_findFrom 5 = .ok (.iconst 4, 1) := by decide +kernel
theorem dX2_findFrom_6 : decode cX2_findFrom 6 = .ok (.if_icmp .gt 80, 3) := by decide +kernel
theorem dX2_findFrom_9 : decode cX2_findFrom 9 = .ok (.iload_n 1, 1) := by decide +kernel
theorem dX2_findFrom_10 : decode cX2_findFrom 10 = .ok (.iload_n 3, 1) := by decide +kernel
theorem dX2_findFrom_11 : decode cX2_findFrom 11 = .ok (.iadd, 1) := by decide +kernel
theorem dX2_findFrom_12 : decode cX2_findFrom 12 = .ok (.aload_n 0, 1) := by decide +kernel
theorem dX2_findFrom_13 : decode cX2_findFrom 13 = .ok (.getfield 33, 3) := by decide +kernel
theorem dX2_findFrom_16 : decode cX2_findFrom 16 = .ok (.if_icmp .gt 70, 3) := by decide +kernel
theorem dX2_findFrom_19 : decode cX2_findFrom 19 = .ok (.bipush 10, 2) := by decide +kernel
theorem dX2_findFrom_21 : decode cX2_findFrom 21 = .ok (.iload_n 2, 1) := by decide +kernel
theorem dX2_findFrom_22 : decode cX2_findFrom 22 = .ok (.imul, 1) := by decide +kernel
theorem dX2_findFrom_23 : decode cX2_findFrom 23 = .ok (.aload_n 0, 1) := by decide +kernel
theorem dX2_findFrom_24 : decode cX2_findFrom 24 = .ok (.getfield 11, 3) := by decide +kernel
theorem dX2_findFrom_27 : decode cX2_findFrom 27 = .ok (.iload_n 1, 1) := by decide +kernel
theorem dX2_findFrom_28 : decode cX2_findFrom 28 = .ok (.iload_n 3, 1) := by decide +kernel
theorem dX2_findFrom_29 : decode cX2_findFrom 29 = .ok (.iadd, 1) := by decide +kernel
theorem dX2_findFrom_30 : decode cX2_findFrom 30 = .ok (.iconst 1, 1) := by decide +kernel
theorem dX2_findFrom_31 : decode cX2_findFrom 31 = .ok (.isub, 1) := by decide +kernel
theorem dX2_findFrom_32 : decode cX2_findFrom 32 = .ok (.iaload, 1) := by decide +kernel
theorem dX2_findFrom_33 : decode cX2_findFrom 33 = .ok (.iadd, 1) := by decide +kernel
theorem dX2_findFrom_34 : decode cX2_findFrom 34 = .ok (.istore_n 2, 1) := by decide +kernel
theorem dX2_findFrom_35 : decode cX2_findFrom 35 = .ok (.aload_n 0, 1) := by decide +kernel
theorem dX2_findFrom_36 : decode cX2_findFrom 36 = .ok (.getfield 15, 3) := by decide +kernel
theorem dX2_findFrom_39 : decode cX2_findFrom 39 = .ok (.iload_n 1, 1) := by decide +kernel
theorem dX2_findFrom_40 : decode cX2_findFrom 40 = .ok (.iconst 4, 1) := by decide +kernel
theorem dX2_findFrom_41 : decode cX2_findFrom 41 = .ok (.imul, 1) := by decide +kernel
theorem dX2_findFrom_42 : decode cX2_findFrom 42 = .ok (.iload_n 3, 1) := by decide +kernel
theorem dX2_findFrom_43 : decode cX2_findFrom 43 = .ok (.iadd, 1) := by decide +kernel
theorem dX2_findFrom_44 : decode cX2_findFrom 44 = .ok (.iconst 1, 1) := by decide +kernel
theorem dX2_findFrom_45 : decode cX2_findFrom 45 = .ok (.isub, 1) := by decide +kernel
theorem dX2_findFrom_46 : decode cX2_findFrom 46 = .ok (.aload_n 0, 1) := by decide +kernel
theorem dX2_findFrom_47 : decode cX2_findFrom 47 = .ok (.getfield 25, 3) := by decide +kernel
theorem dX2_findFrom_50 : decode cX2_findFrom 50 = .ok (.iload_n 2, 1) := by decide +kernel
theorem dX2_findFrom_51 : decode cX2_findFrom 51 = .ok (.invokevirtual 51, 3) := by decide +kernel
theorem dX2_findFrom_54 : decode cX2_findFrom 54 = .ok (.iastore, 1) := by decide +kernel
theorem dX2_findFrom_55 : decode cX2_findFrom 55 = .ok (.iload_n 3, 1) := by decide +kernel
theorem dX2_findFrom_56 : decode cX2_findFrom 56 = .ok (.iconst 2, 1) := by decide +kernel
theorem dX2_findFrom_57 : decode cX2_findFrom 57 = .ok (.if_icmp .gt 23, 3) := by decide +kernel
theorem dX2_findFrom_60 : decode cX2_findFrom 60 = .ok (.aload_n 0, 1) := by decide +kernel
theorem dX2_findFrom_61 : decode cX2_findFrom 61 = .ok (.getfield 18, 3) := by decide +kernel
theorem dX2_findFrom_64 : decode cX2_findFrom 64 = .ok (.iload_n 1, 1) := by decide +kernel
theorem dX2_findFrom_65 : decode cX2_findFrom 65 = .ok (.iconst 2, 1) := by decide +kernel
theorem dX2_findFrom_66 : decode cX2_findFrom 66 = .ok (.imul, 1) := by decide +kernel
theorem dX2_findFrom_67 : decode cX2_findFrom 67 = .ok (.iload_n 3, 1) := by decide +kernel
theorem dX2_findFrom_68 : decode cX2_findFrom 68 = .ok (.iadd, 1) := by decide +kernel
theorem dX2_findFrom_69 : decode cX2_findFrom 69 = .ok (.iconst 1, 1) := by decide +kernel
theorem dX2_findFrom_70 : decode cX2_findFrom 70 = .ok (.isub, 1) := by decide +kernel
theorem dX2_findFrom_71 : decode cX2_findFrom 71 = .ok (.aload_n 0, 1) := by decide +kernel
theorem dX2_findFrom_72 : decode cX2_findFrom 72 = .ok (.getfield 25, 3) := by decide +kernel
theorem dX2_findFrom_75 : decode cX2_findFrom 75 = .ok (.iload_n 2, 1) := by decide +kernel
theorem dX2_findFrom_76 : decode cX2_findFrom 76 = .ok (.invokevirtual 56, 3) := by decide +kernel
theorem dX2_findFrom_79 : decode cX2_findFrom 79 = .ok (.iastore, 1) := by decide +kernel
theorem dX2_findFrom_80 : decode cX2_findFrom 80 = .ok (.iinc 3 1, 3) := by decide +kernel
theorem dX2_findFrom_83 : decode cX2_findFrom 83 = .ok (.goto (-79), 3) := by decide +kernel
theorem dX2_findFrom_86 : decode cX2_findFrom 86 = .ok (.return_, 1) := by decide +kernel
theorem dX2_tryParts_0 : decode cX2_tryParts 0 = .ok (.iload_n 3, 1) := by decide +kernel
theorem dX2_tryParts_1 : decode cX2_tryParts 1 = .ok (.bipush 8, 2) := by decide +kernel
theorem dX2_tryParts_3 : decode cX2_tryParts 3 = .ok (.if_icmp .lt 4, 3) := by decide +kernel
theorem dX2_tryParts_6 : decode cX2_tryParts 6 = .ok (.return_, 1) := by decide +kernel
theorem dX2_tryParts_7 : decode cX2_tryParts 7 = .ok (.iconst 1, 1) := by decide +kernel
theorem dX2_tryParts_8 : decode cX2_tryParts 8 = .ok (.istore 7, 2) := by decide +kernel
theorem dX2_tryParts_10 : decode cX2_tryParts 10 = .ok (.iload 7, 2) := by decide +kernel
theorem dX2_tryParts_12 : decode cX2_tryParts 12 = .ok (.iconst 4, 1) := by decide +kernel
theorem dX2_tryParts_13 : decode cX2_tryParts 13 = .ok (.if_icmp .gt 150, 3) := by decide +kernel
theorem dX2_tryParts_16 : decode cX2_tryParts 16 = .ok (.iload_n 1, 1) := by decide +kernel
theorem dX2_tryParts_17 : decode cX2_tryParts 17 = .ok (.iload 7, 2) := by decide +kernel
theorem dX2_tryParts_19 : decode cX2_tryParts 19 = .ok (.iadd, 1) := by decide +kernel
theorem dX2_tryParts_20 : decode cX2_tryParts 20 = .ok (.aload_n 0, 1) := by decide +kernel
theorem dX2_tryParts_21 : decode cX2_tryParts 21 = .ok (.getfield 33, 3) := by decide +kernel
theorem dX2_tryParts_24 : decode cX2_tryParts 24 = .ok (.if_icmp .gt 139, 3) := by decide +kernel
theorem dX2_tryParts_27 : decode cX2_tryParts 27 = .ok (.aload_n 0, 1) := by decide +kernel
theorem dX2_tryParts_28 : decode cX2_tryParts 28 = .ok (.getfield 15, 3) := by decide +kernel
theorem dX2_tryParts_31 : decode cX2_tryParts 31 = .ok (.iload_n 1, 1) := by decide +kernel
theorem dX2_tryParts_32 : decode cX2_tryParts 32 = .ok (.iconst 4, 1) := by decide +kernel
theorem dX2_tryParts_33 : decode cX2_tryParts 33 = .ok (.imul, 1) := by decide +kernel
theorem dX2_tryParts_34 : decode cX2_tryParts 34 = .ok (.iload 7, 2) := by decide +kernel
theorem dX2_tryParts_36 : decode cX2_tryParts 36 = .ok (.iadd, 1) := by decide +kernel
theorem dX2_tryParts_37 : decode cX2_tryParts 37 = .ok (.iconst 1, 1) := by decide +kernel
theorem dX2_tryParts_38 : decode cX2_tryParts 38 = .ok (.isub, 1) := by decide +kernel
theorem dX2_tryParts_39 : decode cX2_tryParts 39 = .ok (.iaload, 1) := by decide +kernel
theorem dX2_tryParts_40 : decode cX2_tryParts 40 = .ok (.istore 8, 2) := by decide +kernel
theorem dX2_tryParts_42 : decode cX2_tryParts 42 = .ok (.iload_n 1, 1) := by decide +kernel
theorem dX2_tryParts_43 : decode cX2_tryParts 43 = .ok (.iload 7, 2) := by decide +kernel
theorem dX2_tryParts_45 : decode cX2_tryParts 45 = .ok (.iadd, 1) := by decide +kernel
theorem dX2_tryParts_46 : decode cX2_tryParts 46 = .ok (.istore 9, 2) := by decide +kernel
theorem dX2_tryParts_48 : decode cX2_tryParts 48 = .ok (.iload 8, 2) := by decide +kernel
theorem dX2_tryParts_50 : decode cX2_tryParts 50 = .ok (.iconst (-1), 1) := by decide +kernel
theorem dX2_tryParts_51 : decode cX2_tryParts 51 = .ok (.if_icmp .eq 106, 3) := by decide +kernel
theorem dX2_tryParts_54 : decode cX2_tryParts 54 = .ok (.aload_n 0, 1) := by decide +kernel
theorem dX2_tryParts_55 : decode cX2_tryParts 55 = .ok (.iload_n 2, 1) := by decide +kernel
theorem dX2_tryParts_56 : decode cX2_tryParts 56 = .ok (.iload 8, 2) := by decide +kernel
theorem dX2_tryParts_58 : decode cX2_tryParts 58 = .ok (.iload 9, 2) := by decide +kernel
theorem dX2_tryParts_60 : decode cX2_tryParts 60 = .ok (.invokevirtual 59, 3) := by decide +kernel
theorem dX2_tryParts_63 : decode cX2_tryParts 63 = .ok (.ifCond .ne 6, 3) := by decide +kernel
theorem dX2_tryParts_66 : decode cX2_tryParts 66 = .ok (.goto 91, 3) := by decide +kernel
theorem dX2_tryParts_69 : decode cX2_tryParts 69 = .ok (.aload_n 0, 1) := by decide +kernel
theorem dX2_tryParts_70 : decode cX2_tryParts 70 = .ok (.getfield 25, 3) := by decide +kernel
theorem dX2_tryParts_73 : decode cX2_tryParts 73 = .ok (.getfield 63, 3) := by decide +kernel
theorem dX2_tryParts_76 : decode cX2_tryParts 76 = .ok (.iload 8, 2) := by decide +kernel
theorem dX2_tryParts_78 : decode cX2_tryParts 78 = .ok (.iaload, 1) := by decide +kernel
theorem dX2_tryParts_79 : decode cX2_tryParts 79 = .ok (.invokestatic 66, 3) := by decide +kernel
theorem dX2_tryParts_82 : decode cX2_tryParts 82 = .ok (.iload_n 2, 1) := by decide +kernel
theorem dX2_tryParts_83 : decode cX2_tryParts 83 = .ok (.iconst (-1), 1) := by decide +kernel
theorem dX2_tryParts_84 : decode cX2_tryParts 84 = .ok (.if_icmp .ne 7, 3) := by decide +kernel
theorem dX2_tryParts_87 : decode cX2_tryParts 87 = .ok (.iconst 0, 1) := by decide +kernel
theorem dX2_tryParts_88 : decode cX2_tryParts 88 = .ok (.goto 5, 3) := by decide +kernel
theorem dX2_tryParts_91 : decode cX2_tryParts 91 = .ok (.bipush 15, 2) := by decide +kernel
theorem dX2_tryParts_93 : decode cX2_tryParts 93 = .ok (.iadd, 1) := by decide +kernel
theorem dX2_tryParts_94 : decode cX2_tryParts 94 = .ok (.istore 10, 2) := by decide +kernel
theorem dX2_tryParts_96 : decode cX2_tryParts 96 = .ok (.lload 5, 2) := by decide +kernel
theorem dX2_tryParts_98 : decode cX2_tryParts 98 = .ok (.iconst 4, 1) := by decide +kernel
theorem dX2_tryParts_99 : decode cX2_tryParts 99 = .ok (.iload 7, 2) := by decide +kernel
theorem dX2_tryParts_101 : decode cX2_tryParts 101 = .ok (.isub, 1) := by decide +kernel
theorem dX2_tryParts_102 : decode cX2_tryParts 102 = .ok (.i2l, 1) := by decide +kernel
theorem dX2_tryParts_103 : decode cX2_tryParts 103 = .ok (.iload_n 3, 1) := by decide +kernel
theorem dX2_tryParts_104 : decode cX2_tryParts 104 = .ok (.invokestatic 69, 3) := by decide +kernel
theorem dX2_tryParts_107 : decode cX2_tryParts 107 = .ok (.iconst 3, 1) := by decide +kernel
theorem dX2_tryParts_108 : decode cX2_tryParts 108 = .ok (.iadd, 1) := by decide +kernel
theorem dX2_tryParts_109 : decode cX2_tryParts 109 = .ok (.lshl, 1) := by decide +kernel
theorem dX2_tryParts_110 : decode cX2_tryParts 110 = .ok (.lor, 1) := by decide +kernel
theorem dX2_tryParts_111 : decode cX2_tryParts 111 = .ok (.lstore 11, 2) := by decide +kernel
theorem dX2_tryParts_113 : decode cX2_tryParts 113 = .ok (.iload 9, 2) := by decide +kernel
theorem dX2_tryParts_115 : decode cX2_tryParts 115 = .ok (.aload_n 0, 1) := by decide +kernel
theorem dX2_tryParts_116 : decode cX2_tryParts 116 = .ok (.getfield 33, 3) := by decide +kernel
theorem dX2_tryParts_119 : decode cX2_tryParts 119 = .ok (.if_icmp .ne 20, 3) := by decide +kernel
theorem dX2_tryParts_122 : decode cX2_tryParts 122 = .ok (.aload_n 0, 1) := by decide +kernel
theorem dX2_tryParts_123 : decode cX2_tryParts 123 = .ok (.iload 4, 2) := by decide +kernel
theorem dX2_tryParts_125 : decode cX2_tryParts 125 = .ok (.iload 10, 2) := by decide +kernel
theorem dX2_tryParts_127 : decode cX2_tryParts 127 = .ok (.iadd, 1) := by decide +kernel
theorem dX2_tryParts_128 : decode cX2_tryParts 128 = .ok (.iload_n 3, 1) := by decide +kernel
theorem dX2_tryParts_129 : decode cX2_tryParts 129 = .ok (.iconst 1, 1) := by decide +kernel
theorem dX2_tryParts_130 : decode cX2_tryParts 130 = .ok (.iadd, 1) := by decide +kernel
theorem dX2_tryParts_131 : decode cX2_tryParts 131 = .ok (.lload 11, 2) := by decide +kernel
theorem dX2_tryParts_133 : decode cX2_tryParts 133 = .ok (.invokevirtual 72, 3) := by decide +kernel
theorem dX2_tryParts_136 : decode cX2_tryParts 136 = .ok (.goto 21, 3) := by decide +kernel
theorem dX2_tryParts_139 : decode cX2_tryParts 139 = .ok (.aload_n 0, 1) := by decide +kernel
theorem dX2_tryParts_140 : decode cX2_tryParts 140 = .ok (.iload 9, 2) := by decide +kernel
theorem dX2_tryParts_142 : decode cX2_tryParts 142 = .ok (.iload 8, 2) := by decide +kernel
theorem dX2_tryParts_144 : decode cX2_tryParts 144 = .ok (.iload_n 3, 1) := by decide +kernel
theorem dX2_tryParts_145 : decode cX2_tryParts 145 = .ok (.iconst 1, 1) := by decide +kernel
theorem dX2_tryParts_146 : decode cX2_tryParts 146 = .ok (.iadd, 1) := by decide +kernel
theorem dX2_tryParts_147 : decode cX2_tryParts 147 = .ok (.iload 4, 2) := by decide +kernel
theorem dX2_tryParts_149 : decode cX2_tryParts 149 = .ok (.iload 10, 2) := by decide +kernel
theorem dX2_tryParts_151 : decode cX2_tryParts 151 = .ok (.iadd, 1) := by decide +kernel
theorem dX2_tryParts_152 : decode cX2_tryParts 152 = .ok (.lload 11, 2) := by decide +kernel
theorem dX2_tryParts_154 : decode cX2_tryParts 154 = .ok (.invokevirtual 76, 3) := by decide +kernel
theorem dX2_tryParts_157 : decode cX2_tryParts 157 = .ok (.iinc 7 1, 3) := by decide +kernel
theorem dX2_tryParts_160 : decode cX2_tryParts 160 = .ok (.goto (-150), 3) := by decide +kernel
theorem dX2_tryParts_163 : decode cX2_tryParts 163 = .ok (.return_, 1) := by decide +kernel
theorem dX2_mayFollow_0 : decode cX2_mayFollow 0 = .ok (.aload_n 0, 1) := by decide +kernel
theorem dX2_mayFollow_1 : decode cX2_mayFollow 1 = .ok (.getfield 25, 3) := by decide +kernel
theorem dX2_mayFollow_4 : decode cX2_mayFollow 4 = .ok (.iload_n 2, 1) := by decide +kernel
theorem dX2_mayFollow_5 : decode cX2_mayFollow 5 = .ok (.iload_n 1, 1) := by decide +kernel
theorem dX2_mayFollow_6 : decode cX2_mayFollow 6 = .ok (.iconst (-1), 1) := by decide +kernel
theorem dX2_mayFollow_7 : decode cX2_mayFollow 7 = .ok (.if_icmp .ne 7, 3) := by decide +kernel
theorem dX2_mayFollow_10 : decode cX2_mayFollow 10 = .ok (.iconst 1, 1) := by decide +kernel
theorem dX2_mayFollow_11 : decode cX2_mayFollow 11 = .ok (.goto 4, 3) := by decide +kernel
theorem dX2_mayFollow_14 : decode cX2_mayFollow 14 = .ok (.iconst 0, 1) := by decide +kernel
theorem dX2_mayFollow_15 : decode cX2_mayFollow 15 = .ok (.iload_n 3, 1) := by decide +kernel
theorem dX2_mayFollow_16 : decode cX2_mayFollow 16 = .ok (.aload_n 0, 1) := by decide +kernel
theorem dX2_mayFollow_17 : decode cX2_mayFollow 17 = .ok (.getfield 33, 3) := by decide +kernel
theorem dX2_mayFollow_20 : decode cX2_mayFollow 20 = .ok (.if_icmp .ne 7, 3) := by decide +kernel
theorem dX2_mayFollow_23 : decode cX2_mayFollow 23 = .ok (.iconst 1, 1) := by decide +kernel
theorem dX2_mayFollow_24 : decode cX2_mayFollow 24 = .ok (.goto 4, 3) := by decide +kernel
theorem dX2_mayFollow_27 : decode cX2_mayFollow 27 = .ok (.iconst 0, 1) := by decide +kernel
theorem dX2_mayFollow_28 : decode cX2_mayFollow 28 = .ok (.invokevirtual 79, 3) := by decide +kernel
theorem dX2_mayFollow_31 : decode cX2_mayFollow 31 = .ok (.ifCond .ne 5, 3) := by decide +kernel
theorem dX2_mayFollow_34 : decode cX2_mayFollow 34 = .ok (.iconst 0, 1) := by decide +kernel
theorem dX2_mayFollow_35 : decode cX2_mayFollow 35 = .ok (.ireturn, 1) := by decide +kernel
theorem dX2_mayFollow_36 : decode cX2_mayFollow 36 = .ok (.iload_n 1, 1) := by decide +kernel
theorem dX2_mayFollow_37 : decode cX2_mayFollow 37 = .ok (.iconst (-1), 1) := by decide +kernel
theorem dX2_mayFollow_38 : decode cX2_mayFollow 38 = .ok (.if_icmp .eq 20, 3) := by decide +kernel
theorem dX2_mayFollow_41 : decode cX2_mayFollow 41 = .ok (.aload_n 0, 1) := by decide +kernel
theorem dX2_mayFollow_42 : decode cX2_mayFollow 42 = .ok (.getfield 25, 3) := by decide +kernel
theorem dX2_mayFollow_45 : decode cX2_mayFollow 45 = .ok (.getfield 83, 3) := by decide +kernel
theorem dX2_mayFollow_48 : decode cX2_mayFollow 48 = .ok (.iload_n 1, 1) := by decide +kernel
theorem dX2_mayFollow_49 : decode cX2_mayFollow 49 = .ok (.bipush 16, 2) := by decide +kernel
theorem dX2_mayFollow_51 : decode cX2_mayFollow 51 = .ok (.imul, 1) := by decide +kernel
theorem dX2_mayFollow_52 : decode cX2_mayFollow 52 = .ok (.iload_n 2, 1) := by decide +kernel
theorem dX2_mayFollow_53 : decode cX2_mayFollow 53 = .ok (.iadd, 1) := by decide +kernel
theorem dX2_mayFollow_54 : decode cX2_mayFollow 54 = .ok (.baload, 1) := by decide +kernel
theorem dX2_mayFollow_55 : decode cX2_mayFollow 55 = .ok (.ifCond .ne 7, 3) := by decide +kernel
theorem dX2_mayFollow_58 : decode cX2_mayFollow 58 = .ok (.iconst 1, 1) := by decide +kernel
theorem dX2_mayFollow_59 : decode cX2_mayFollow 59 = .ok (.goto 4, 3) := by decide +kernel
theorem dX2_mayFollow_62 : decode cX2_mayFollow 62 = .ok (.iconst 0, 1) := by decide +kernel
theorem dX2_mayFollow_63 : decode cX2_mayFollow 63 = .ok (.ireturn, 1) := by decide +kernel
theorem dX2_tryLinks_0 : decode cX2_tryLinks 0 = .ok (.aload_n 0, 1) := by decide +kernel
theorem dX2_tryLinks_1 : decode cX2_tryLinks 1 = .ok (.iload_n 1, 1) := by decide +kernel
theorem dX2_tryLinks_2 : decode cX2_tryLinks 2 = .ok (.iload_n 2, 1) := by decide +kernel
theorem dX2_tryLinks_3 : decode cX2_tryLinks 3 = .ok (.iload_n 3, 1) := by decide +kernel
theorem dX2_tryLinks_4 : decode cX2_tryLinks 4 = .ok (.iload 4, 2) := by decide +kernel
theorem dX2_tryLinks_6 : decode cX2_tryLinks 6 = .ok (.lload 5, 2) := by decide +kernel
theorem dX2_tryLinks_8 : decode cX2_tryLinks 8 = .ok (.invokevirtual 43, 3) := by decide +kernel
theorem dX2_tryLinks_11 : decode cX2_tryLinks 11 = .ok (.iconst 1, 1) := by decide +kernel
theorem dX2_tryLinks_12 : decode cX2_tryLinks 12 = .ok (.istore 7, 2) := by decide +kernel
theorem dX2_tryLinks_14 : decode cX2_tryLinks 14 = .ok (.iload 7, 2) := by decide +kernel
theorem dX2_tryLinks_16 : decode cX2_tryLinks 16 = .ok (.iconst 2, 1) := by decide +kernel
theorem dX2_tryLinks_17 : decode cX2_tryLinks 17 = .ok (.if_icmp .gt 92, 3) := by decide +kernel
theorem dX2_tryLinks_20 : decode cX2_tryLinks 20 = .ok (.iload_n 1, 1) := by decide +kernel
theorem dX2_tryLinks_21 : decode cX2_tryLinks 21 = .ok (.iload 7, 2) := by decide +kernel
theorem dX2_tryLinks_23 : decode cX2_tryLinks 23 = .ok (.iadd, 1) := by decide +kernel
theorem dX2_tryLinks_24 : decode cX2_tryLinks 24 = .ok (.aload_n 0, 1) := by decide +kernel
theorem dX2_tryLinks_25 : decode cX2_tryLinks 25 = .ok (.getfield 33, 3) := by decide +kernel
theorem dX2_tryLinks_28 : decode cX2_tryLinks 28 = .ok (.if_icmp .ge 81, 3) := by decide +kernel
theorem dX2_tryLinks_31 : decode cX2_tryLinks 31 = .ok (.aload_n 0, 1) := by decide +kernel
theorem dX2_tryLinks_32 : decode cX2_tryLinks 32 = .ok (.getfield 18, 3) := by decide +kernel
theorem dX2_tryLinks_35 : decode cX2_tryLinks 35 = .ok (.iload_n 1, 1) := by decide +kernel
theorem dX2_tryLinks_36 : decode cX2_tryLinks 36 = .ok (.iconst 2, 1) := by decide +kernel
theorem dX2_tryLinks_37 : decode cX2_tryLinks 37 = .ok (.imul, 1) := by decide +kernel
theorem dX2_tryLinks_38 : decode cX2_tryLinks 38 = .ok (.iload 7, 2) := by decide +kernel
theorem dX2_tryLinks_40 : decode cX2_tryLinks 40 = .ok (.iadd, 1) := by decide +kernel
theorem dX2_tryLinks_41 : decode cX2_tryLinks 41 = .ok (.iconst 1, 1) := by decide +kernel
theorem dX2_tryLinks_42 : decode cX2_tryLinks 42 = .ok (.isub, 1) := by decide +kernel
theorem dX2_tryLinks_43 : decode cX2_tryLinks 43 = .ok (.iaload, 1) := by decide +kernel
theorem dX2_tryLinks_44 : decode cX2_tryLinks 44 = .ok (.istore 8, 2) := by decide +kernel
theorem dX2_tryLinks_46 : decode cX2_tryLinks 46 = .ok (.iload 8, 2) := by decide +kernel
theorem dX2_tryLinks_48 : decode cX2_tryLinks 48 = .ok (.iconst (-1), 1) := by decide +kernel
theorem dX2_tryLinks_49 : decode cX2_tryLinks 49 = .ok (.if_icmp .eq 54, 3) := by decide +kernel
theorem dX2_tryLinks_52 : decode cX2_tryLinks 52 = .ok (.aload_n 0, 1) := by decide +kernel
theorem dX2_tryLinks_53 : decode cX2_tryLinks 53 = .ok (.getfield 25, 3) := by decide +kernel
theorem dX2_tryLinks_56 : decode cX2_tryLinks 56 = .ok (.getfield 87, 3) := by decide +kernel
theorem dX2_tryLinks_59 : decode cX2_tryLinks 59 = .ok (.iload_n 2, 1) := by decide +kernel
theorem dX2_tryLinks_60 : decode cX2_tryLinks 60 = .ok (.bipush 6, 2) := by decide +kernel
theorem dX2_tryLinks_62 : decode cX2_tryLinks 62 = .ok (.imul, 1) := by decide +kernel
theorem dX2_tryLinks_63 : decode cX2_tryLinks 63 = .ok (.iload 8, 2) := by decide +kernel
theorem dX2_tryLinks_65 : decode cX2_tryLinks 65 = .ok (.iadd, 1) := by decide +kernel
theorem dX2_tryLinks_66 : decode cX2_tryLinks 66 = .ok (.baload, 1) := by decide +kernel
theorem dX2_tryLinks_67 : decode cX2_tryLinks 67 = .ok (.ifCond .ne 36, 3) := by decide +kernel
theorem dX2_tryLinks_70 : decode cX2_tryLinks 70 = .ok (.lload 5, 2) := by decide +kernel
theorem dX2_tryLinks_72 : decode cX2_tryLinks 72 = .ok (.iload 8, 2) := by decide +kernel
theorem dX2_tryLinks_74 : decode cX2_tryLinks 74 = .ok (.iconst 1, 1) := by decide +kernel
theorem dX2_tryLinks_75 : decode cX2_tryLinks 75 = .ok (.iadd, 1) := by decide +kernel
theorem dX2_tryLinks_76 : decode cX2_tryLinks 76 = .ok (.i2l, 1) := by decide +kernel
theorem dX2_tryLinks_77 : decode cX2_tryLinks 77 = .ok (.iload_n 3, 1) := by decide +kernel
theorem dX2_tryLinks_78 : decode cX2_tryLinks 78 = .ok (.iconst 1, 1) := by decide +kernel
theorem dX2_tryLinks_79 : decode cX2_tryLinks 79 = .ok (.isub, 1) := by decide +kernel
theorem dX2_tryLinks_80 : decode cX2_tryLinks 80 = .ok (.invokestatic 69, 3) := by decide +kernel
theorem dX2_tryLinks_83 : decode cX2_tryLinks 83 = .ok (.lshl, 1) := by decide +kernel
theorem dX2_tryLinks_84 : decode cX2_tryLinks 84 = .ok (.lor, 1) := by decide +kernel
theorem dX2_tryLinks_85 : decode cX2_tryLinks 85 = .ok (.lstore 9, 2) := by decide +kernel
theorem dX2_tryLinks_87 : decode cX2_tryLinks 87 = .ok (.aload_n 0, 1) := by decide +kernel
theorem dX2_tryLinks_88 : decode cX2_tryLinks 88 = .ok (.iload_n 1, 1) := by decide +kernel
theorem dX2_tryLinks_89 : decode cX2_tryLinks 89 = .ok (.iload 7, 2) := by decide +kernel
theorem dX2_tryLinks_91 : decode cX2_tryLinks 91 = .ok (.iadd, 1) := by decide +kernel
theorem dX2_tryLinks_92 : decode cX2_tryLinks 92 = .ok (.iload_n 2, 1) := by decide +kernel
theorem dX2_tryLinks_93 : decode cX2_tryLinks 93 = .ok (.iload_n 3, 1) := by decide +kernel
theorem dX2_tryLinks_94 : decode cX2_tryLinks 94 = .ok (.iload 4, 2) := by decide +kernel
theorem dX2_tryLinks_96 : decode cX2_tryLinks 96 = .ok (.iconst 3, 1) := by decide +kernel
theorem dX2_tryLinks_97 : decode cX2_tryLinks 97 = .ok (.iadd, 1) := by decide +kernel
theorem dX2_tryLinks_98 : decode cX2_tryLinks 98 = .ok (.lload 9, 2) := by decide +kernel
theorem dX2_tryLinks_100 : decode cX2_tryLinks 100 = .ok (.invokevirtual 43, 3) := by decide +kernel
theorem dX2_tryLinks_103 : decode cX2_tryLinks 103 = .ok (.iinc 7 1, 3) := by decide +kernel
theorem dX2_tryLinks_106 : decode cX2_tryLinks 106 = .ok (.goto (-92), 3) := by decide +kernel
theorem dX2_tryLinks_109 : decode cX2_tryLinks 109 = .ok (.return_, 1) := by decide +kernel
theorem dX2_keep_0 : decode cX2_keep 0 = .ok (.aload_n 0, 1) := by decide +kernel
theorem dX2_keep_1 : decode cX2_keep 1 = .ok (.getfield 40, 3) := by decide +kernel
theorem dX2_keep_4 : decode cX2_keep 4 = .ok (.aload_n 0, 1) := by decide +kernel
theorem dX2_keep_5 : decode cX2_keep 5 = .ok (.getfield 21, 3) := by decide +kernel
theorem dX2_keep_8 : decode cX2_keep 8 = .ok (.arraylength, 1) := by decide +kernel
theorem dX2_keep_9 : decode cX2_keep 9 = .ok (.if_icmp .ge 34, 3) := by decide +kernel
theorem dX2_keep_12 : decode cX2_keep 12 = .ok (.aload_n 0, 1) := by decide +kernel
theorem dX2_keep_13 : decode cX2_keep 13 = .ok (.getfield 21, 3) := by decide +kernel
theorem dX2_keep_16 : decode cX2_keep 16 = .ok (.aload_n 0, 1) := by decide +kernel
theorem dX2_keep_17 : decode cX2_keep 17 = .ok (.getfield 40, 3) := by decide +kernel
theorem dX2_keep_20 : decode cX2_keep 20 = .ok (.iload_n 1, 1) := by decide +kernel
theorem dX2_keep_21 : decode cX2_keep 21 = .ok (.i2l, 1) := by decide +kernel
theorem dX2_keep_22 : decode cX2_keep 22 = .ok (.iconst 4, 1) := by decide +kernel
theorem dX2_keep_23 : decode cX2_keep 23 = .ok (.lshl, 1) := by decide +kernel
theorem dX2_keep_24 : decode cX2_keep 24 = .ok (.iload_n 2, 1) := by decide +kernel
theorem dX2_keep_25 : decode cX2_keep 25 = .ok (.i2l, 1) := by decide +kernel
theorem dX2_keep_26 : decode cX2_keep 26 = .ok (.lor, 1) := by decide +kernel
theorem dX2_keep_27 : decode cX2_keep 27 = .ok (.bipush 40, 2) := by decide +kernel
theorem dX2_keep_29 : decode cX2_keep 29 = .ok (.lshl, 1) := by decide +kernel
theorem dX2_keep_30 : decode cX2_keep 30 = .ok (.lload_n 3, 1) := by decide +kernel
theorem dX2_keep_31 : decode cX2_keep 31 = .ok (.lor, 1) := by decide +kernel
theorem dX2_keep_32 : decode cX2_keep 32 = .ok (.lastore, 1) := by decide +kernel
theorem dX2_keep_33 : decode cX2_keep 33 = .ok (.aload_n 0, 1) := by decide +kernel
theorem dX2_keep_34 : decode cX2_keep 34 = .ok (.dup, 1) := by decide +kernel
theorem dX2_keep_35 : decode cX2_keep 35 = .ok (.getfield 40, 3) := by decide +kernel
theorem dX2_keep_38 : decode cX2_keep 38 = .ok (.iconst 1, 1) := by decide +kernel
theorem dX2_keep_39 : decode cX2_keep 39 = .ok (.iadd, 1) := by decide +kernel
theorem dX2_keep_40 : decode cX2_keep 40 = .ok (.putfield 40, 3) := by decide +kernel
theorem dX2_keep_43 : decode cX2_keep 43 = .ok (.return_, 1) := by decide +kernel
theorem dX2_keyAt_0 : decode cX2_keyAt 0 = .ok (.iload_n 1, 1) := by decide +kernel
theorem dX2_keyAt_1 : decode cX2_keyAt 1 = .ok (.ifCond .lt 23, 3) := by decide +kernel
theorem dX2_keyAt_4 : decode cX2_keyAt 4 = .ok (.iload_n 1, 1) := by decide +kernel
theorem dX2_keyAt_5 : decode cX2_keyAt 5 = .ok (.aload_n 0, 1) := by decide +kernel
theorem dX2_keyAt_6 : decode cX2_keyAt 6 = .ok (.getfield 40, 3) := by decide +kernel
theorem dX2_keyAt_9 : decode cX2_keyAt 9 = .ok (.if_icmp .ge 15, 3) := by decide +kernel
theorem dX2_keyAt_12 : decode cX2_keyAt 12 = .ok (.aload_n 0, 1) := by decide +kernel
theorem dX2_keyAt_13 : decode cX2_keyAt 13 = .ok (.getfield 40, 3) := by decide +kernel
theorem dX2_keyAt_16 : decode cX2_keyAt 16 = .ok (.aload_n 0, 1) := by decide +kernel
theorem dX2_keyAt_17 : decode cX2_keyAt 17 = .ok (.getfield 21, 3) := by decide +kernel
theorem dX2_keyAt_20 : decode cX2_keyAt 20 = .ok (.arraylength, 1) := by decide +kernel
theorem dX2_keyAt_21 : decode cX2_keyAt 21 = .ok (.if_icmp .le 7, 3) := by decide +kernel
theorem dX2_keyAt_24 : decode cX2_keyAt 24 = .ok (.ldc2_w 90, 3) := by decide +kernel
theorem dX2_keyAt_27 : decode cX2_keyAt 27 = .ok (.lreturn, 1) := by decide +kernel
theorem dX2_keyAt_28 : decode cX2_keyAt 28 = .ok (.aload_n 0, 1) := by decide +kernel
theorem dX2_keyAt_29 : decode cX2_keyAt 29 = .ok (.getfield 40, 3) := by decide +kernel
theorem dX2_keyAt_32 : decode cX2_keyAt 32 = .ok (.iconst 2, 1) := by decide +kernel
theorem dX2_keyAt_33 : decode cX2_keyAt 33 = .ok (.idiv, 1) := by decide +kernel
theorem dX2_keyAt_34 : decode cX2_keyAt 34 = .ok (.iconst 1, 1) := by decide +kernel
theorem dX2_keyAt_35 : decode cX2_keyAt 35 = .ok (.isub, 1) := by decide +kernel
theorem dX2_keyAt_36 : decode cX2_keyAt 36 = .ok (.istore_n 2, 1) := by decide +kernel
theorem dX2_keyAt_37 : decode cX2_keyAt 37 = .ok (.iload_n 2, 1) := by decide +kernel
theorem dX2_keyAt_38 : decode cX2_keyAt 38 = .ok (.ifCond .lt 18, 3) := by decide +kernel
theorem dX2_keyAt_41 : decode cX2_keyAt 41 = .ok (.aload_n 0, 1) := by decide +kernel
theorem dX2_keyAt_42 : decode cX2_keyAt 42 = .ok (.iload_n 2, 1) := by decide +kernel
theorem dX2_keyAt_43 : decode cX2_keyAt 43 = .ok (.aload_n 0, 1) := by decide +kernel
theorem dX2_keyAt_44 : decode cX2_keyAt 44 = .ok (.getfield 40, 3) := by decide +kernel
theorem dX2_keyAt_47 : decode cX2_keyAt 47 = .ok (.invokevirtual 92, 3) := by decide +kernel
theorem dX2_keyAt_50 : decode cX2_keyAt 50 = .ok (.iinc 2 (-1), 3) := by decide +kernel
theorem dX2_keyAt_53 : decode cX2_keyAt 53 = .ok (.goto (-16), 3) := by decide +kernel
theorem dX2_keyAt_56 : decode cX2_keyAt 56 = .ok (.aload_n 0, 1) := by decide +kernel
theorem dX2_keyAt_57 : decode cX2_keyAt 57 = .ok (.getfield 40, 3) := by decide +kernel
theorem dX2_keyAt_60 : decode cX2_keyAt 60 = .ok (.istore_n 2, 1) := by decide +kernel
theorem dX2_keyAt_61 : decode cX2_keyAt 61 = .ok (.iconst 0, 1) := by decide +kernel
theorem dX2_keyAt_62 : decode cX2_keyAt 62 = .ok (.istore_n 3, 1) := by decide +kernel
theorem dX2_keyAt_63 : decode cX2_keyAt 63 = .ok (.iload_n 3, 1) := by decide +kernel
theorem dX2_keyAt_64 : decode cX2_keyAt 64 = .ok (.iload_n 1, 1) := by decide +kernel
theorem dX2_keyAt_65 : decode cX2_keyAt 65 = .ok (.if_icmp .ge 46, 3) := by decide +kernel
theorem dX2_keyAt_68 : decode cX2_keyAt 68 = .ok (.iinc 2 (-1), 3) := by decide +kernel
theorem dX2_keyAt_71 : decode cX2_keyAt 71 = .ok (.aload_n 0, 1) := by decide +kernel
theorem dX2_keyAt_72 : decode cX2_keyAt 72 = .ok (.getfield 21, 3) := by decide +kernel
theorem dX2_keyAt_75 : decode cX2_keyAt 75 = .ok (.iconst 0, 1) := by decide +kernel
theorem dX2_keyAt_76 : decode cX2_keyAt 76 = .ok (.laload, 1) := by decide +kernel
theorem dX2_keyAt_77 : decode cX2_keyAt 77 = .ok (.lstore 4, 2) := by decide +kernel
theorem dX2_keyAt_79 : decode cX2_keyAt 79 = .ok (.aload_n 0, 1) := by decide +kernel
theorem dX2_keyAt_80 : decode cX2_keyAt 80 = .ok (.getfield 21, 3) := by decide +kernel
theorem dX2_keyAt_83 : decode cX2_keyAt 83 = .ok (.iconst 0, 1) := by decide +kernel
theorem dX2_keyAt_84 : decode cX2_keyAt 84 = .ok (.aload_n 0, 1) := by decide +kernel
theorem dX2_keyAt_85 : decode cX2_keyAt 85 = .ok (.getfield 21, 3) := by decide +kernel
theorem dX2_keyAt_88 : decode cX2_keyAt 88 = .ok (.iload_n 2, 1) := by decide +kernel
theorem dX2_keyAt_89 : decode cX2_keyAt 89 = .ok (.laload, 1) := by decide +kernel
theorem dX2_keyAt_90 : decode cX2_keyAt 90 = .ok (.lastore, 1) := by decide +kernel
theorem dX2_keyAt_91 : decode cX2_keyAt 91 = .ok (.aload_n 0, 1) := by decide +kernel
theorem dX2_keyAt_92 : decode cX2_keyAt 92 = .ok (.getfield 21, 3) := by decide +kernel
theorem dX2_keyAt_95 : decode cX2_keyAt 95 = .ok (.iload_n 2, 1) := by decide +kernel
theorem dX2_keyAt_96 : decode cX2_keyAt 96 = .ok (.lload 4, 2) := by decide +kernel
theorem dX2_keyAt_98 : decode cX2_keyAt 98 = .ok (.lastore, 1) := by decide +kernel
theorem dX2_keyAt_99 : decode cX2_keyAt 99 = .ok (.aload_n 0, 1) := by decide +kernel
theorem dX2_keyAt_100 : decode cX2_keyAt 100 = .ok (.iconst 0, 1) := by decide +kernel
theorem dX2_keyAt_101 : decode cX2_keyAt 101 = .ok (.iload_n 2, 1) := by decide +kernel
theorem dX2_keyAt_102 : decode cX2_keyAt 102 = .ok (.invokevirtual 92, 3) := by decide +kernel
theorem dX2_keyAt_105 : decode cX2_keyAt 105 = .ok (.iinc 3 1, 3) := by decide +kernel
theorem dX2_keyAt_108 : decode cX2_keyAt 108 = .ok (.goto (-45), 3) := by decide +kernel
theorem dX2_keyAt_111 : decode cX2_keyAt 111 = .ok (.aload_n 0, 1) := by decide +kernel
theorem dX2_keyAt_112 : decode cX2_keyAt 112 = .ok (.getfield 21, 3) := by decide +kernel
theorem dX2_keyAt_115 : decode cX2_keyAt 115 = .ok (.iconst 0, 1) := by decide +kernel
theorem dX2_keyAt_116 : decode cX2_keyAt 116 = .ok (.laload, 1) := by decide +kernel
theorem dX2_keyAt_117 : decode cX2_keyAt 117 = .ok (.lreturn, 1) := by decide +kernel
theorem dX2_sink_0 : decode cX2_sink 0 = .ok (.aload_n 0, 1) := by decide +kernel
theorem dX2_sink_1 : decode cX2_sink 1 = .ok (.getfield 21, 3) := by decide +kernel
theorem dX2_sink_4 : decode cX2_sink 4 = .ok (.iload_n 1, 1) := by decide +kernel
theorem dX2_sink_5 : decode cX2_sink 5 = .ok (.laload, 1) := by decide +kernel
theorem dX2_sink_6 : decode cX2_sink 6 = .ok (.lstore_n 3, 1) := by decide +kernel
theorem dX2_sink_7 : decode cX2_sink 7 = .ok (.iload_n 1, 1) := by decide +kernel
theorem dX2_sink_8 : decode cX2_sink 8 = .ok (.istore 5, 2) := by decide +kernel
theorem dX2_sink_10 : decode cX2_sink 10 = .ok (.iconst 2, 1) := by decide +kernel
theorem dX2_sink_11 : decode cX2_sink 11 = .ok (.iload 5, 2) := by decide +kernel
theorem dX2_sink_13 : decode cX2_sink 13 = .ok (.imul, 1) := by decide +kernel
theorem dX2_sink_14 : decode cX2_sink 14 = .ok (.iconst 1, 1) := by decide +kernel
theorem dX2_sink_15 : decode cX2_sink 15 = .ok (.iadd, 1) := by decide +kernel
theorem dX2_sink_16 : decode cX2_sink 16 = .ok (.istore 6, 2) := by decide +kernel
theorem dX2_sink_18 : decode cX2_sink 18 = .ok (.iload 6, 2) := by decide +kernel
theorem dX2_sink_20 : decode cX2_sink 20 = .ok (.iload_n 2, 1) := by decide +kernel
theorem dX2_sink_21 : decode cX2_sink 21 = .ok (.if_icmp .ge 78, 3) := by decide +kernel
theorem dX2_sink_24 : decode cX2_sink 24 = .ok (.iload 6, 2) := by decide +kernel
theorem dX2_sink_26 : decode cX2_sink 26 = .ok (.iconst 1, 1) := by decide +kernel
theorem dX2_sink_27 : decode cX2_sink 27 = .ok (.iadd, 1) := by decide +kernel
theorem dX2_sink_28 : decode cX2_sink 28 = .ok (.iload_n 2, 1) := by decide +kernel
theorem dX2_sink_29 : decode cX2_sink 29 = .ok (.if_icmp .ge 26, 3) := by decide +kernel
theorem dX2_sink_32 : decode cX2_sink 32 = .ok (.aload_n 0, 1) := by decide +kernel
theorem dX2_sink_33 : decode cX2_sink 33 = .ok (.getfield 21, 3) := by decide +kernel
theorem dX2_sink_36 : decode cX2_sink 36 = .ok (.iload 6, 2) := by decide +kernel
theorem dX2_sink_38 : decode cX2_sink 38 = .ok (.iconst 1, 1) := by decide +kernel
theorem dX2_sink_39 : decode cX2_sink 39 = .ok (.iadd, 1) := by decide +kernel
theorem dX2_sink_40 : decode cX2_sink 40 = .ok (.laload, 1) := by decide +kernel
theorem dX2_sink_41 : decode cX2_sink 41 = .ok (.aload_n 0, 1) := by decide +kernel
theorem dX2_sink_42 : decode cX2_sink 42 = .ok (.getfield 21, 3) := by decide +kernel
theorem dX2_sink_45 : decode cX2_sink 45 = .ok (.iload 6, 2) := by decide +kernel
theorem dX2_sink_47 : decode cX2_sink 47 = .ok (.laload, 1) := by decide +kernel
theorem dX2_sink_48 : decode cX2_sink 48 = .ok (.lcmp, 1) := by decide +kernel
theorem dX2_sink_49 : decode cX2_sink 49 = .ok (.ifCond .ge 6, 3) := by decide +kernel
theorem dX2_sink_52 : decode cX2_sink 52 = .ok (.iinc 6 1, 3) := by decide +kernel
theorem dX2_sink_55 : decode cX2_sink 55 = .ok (.aload_n 0, 1) := by decide +kernel
theorem dX2_sink_56 : decode cX2_sink 56 = .ok (.getfield 21, 3) := by decide +kernel
theorem dX2_sink_59 : decode cX2_sink 59 = .ok (.iload 6, 2) := by decide +kernel
theorem dX2_sink_61 : decode cX2_sink 61 = .ok (.laload, 1) := by decide +kernel
theorem dX2_sink_62 : decode cX2_sink 62 = .ok (.lload_n 3, 1) := by decide +kernel
theorem dX2_sink_63 : decode cX2_sink 63 = .ok (.lcmp, 1) := by decide +kernel
theorem dX2_sink_64 : decode cX2_sink 64 = .ok (.ifCond .lt 6, 3) := by decide +kernel
theorem dX2_sink_67 : decode cX2_sink 67 = .ok (.goto 32, 3) := by decide +kernel
theorem dX2_sink_70 : decode cX2_sink 70 = .ok (.aload_n 0, 1) := by decide +kernel
theorem dX2_sink_71 : decode cX2_sink 71 = .ok (.getfield 21, 3) := by decide +kernel
theorem dX2_sink_74 : decode cX2_sink 74 = .ok (.iload 5, 2) := by decide +kernel
theorem dX2_sink_76 : decode cX2_sink 76 = .ok (.aload_n 0, 1) := by decide +kernel
theorem dX2_sink_77 : decode cX2_sink 77 = .ok (.getfield 21, 3) := by decide +kernel
theorem dX2_sink_80 : decode cX2_sink 80 = .ok (.iload 6, 2) := by decide +kernel
theorem dX2_sink_82 : decode cX2_sink 82 = .ok (.laload, 1) := by decide +kernel
theorem dX2_sink_83 : decode cX2_sink 83 = .ok (.lastore, 1) := by decide +kernel
theorem dX2_sink_84 : decode cX2_sink 84 = .ok (.iload 6, 2) := by decide +kernel
theorem dX2_sink_86 : decode cX2_sink 86 = .ok (.istore 5, 2) := by decide +kernel
theorem dX2_sink_88 : decode cX2_sink 88 = .ok (.iconst 2, 1) := by decide +kernel
theorem dX2_sink_89 : decode cX2_sink 89 = .ok (.iload 5, 2) := by decide +kernel
theorem dX2_sink_91 : decode cX2_sink 91 = .ok (.imul, 1) := by decide +kernel
theorem dX2_sink_92 : decode cX2_sink 92 = .ok (.iconst 1, 1) := by decide +kernel
theorem dX2_sink_93 : decode cX2_sink 93 = .ok (.iadd, 1) := by decide +kernel
theorem dX2_sink_94 : decode cX2_sink 94 = .ok (.istore 6, 2) := by decide +kernel
theorem dX2_sink_96 : decode cX2_sink 96 = .ok (.goto (-78), 3) := by decide +kernel
theorem dX2_sink_99 : decode cX2_sink 99 = .ok (.aload_n 0, 1) := by decide +kernel
theorem dX2_sink_100 : decode cX2_sink 100 = .ok (.getfield 21, 3) := by decide +kernel
theorem dX2_sink_103 : decode cX2_sink 103 = .ok (.iload 5, 2) := by decide +kernel
theorem dX2_sink_105 : decode cX2_sink 105 = .ok (.lload_n 3, 1) := by decide +kernel
theorem dX2_sink_106 : decode cX2_sink 106 = .ok (.lastore, 1) := by decide +kernel
theorem dX2_sink_107 : decode cX2_sink 107 = .ok (.return_, 1) := by decide +kernel
theorem dX2_costIn_0 : decode cX2_costIn 0 = .ok (.lload_n 0, 1) := by decide +kernel
theorem dX2_costIn_1 : decode cX2_costIn 1 = .ok (.bipush 44, 2) := by decide +kernel
theorem dX2_costIn_3 : decode cX2_costIn 3 = .ok (.lushr, 1) := by decide +kernel
theorem dX2_costIn_4 : decode cX2_costIn 4 = .ok (.l2i, 1) := by decide +kernel
theorem dX2_costIn_5 : decode cX2_costIn 5 = .ok (.ireturn, 1) := by decide +kernel
theorem dX2_placesIn_0 : decode cX2_placesIn 0 = .ok (.lload_n 0, 1) := by decide +kernel
theorem dX2_placesIn_1 : decode cX2_placesIn 1 = .ok (.bipush 40, 2) := by decide +kernel
theorem dX2_placesIn_3 : decode cX2_placesIn 3 = .ok (.lushr, 1) := by decide +kernel
theorem dX2_placesIn_4 : decode cX2_placesIn 4 = .ok (.l2i, 1) := by decide +kernel
theorem dX2_placesIn_5 : decode cX2_placesIn 5 = .ok (.bipush 15, 2) := by decide +kernel
theorem dX2_placesIn_7 : decode cX2_placesIn 7 = .ok (.iand, 1) := by decide +kernel
theorem dX2_placesIn_8 : decode cX2_placesIn 8 = .ok (.ireturn, 1) := by decide +kernel
theorem dX2_partIn_0 : decode cX2_partIn 0 = .ok (.iconst 0, 1) := by decide +kernel
theorem dX2_partIn_1 : decode cX2_partIn 1 = .ok (.istore 4, 2) := by decide +kernel
theorem dX2_partIn_3 : decode cX2_partIn 3 = .ok (.iconst 0, 1) := by decide +kernel
theorem dX2_partIn_4 : decode cX2_partIn 4 = .ok (.istore 5, 2) := by decide +kernel
theorem dX2_partIn_6 : decode cX2_partIn 6 = .ok (.iload 5, 2) := by decide +kernel
theorem dX2_partIn_8 : decode cX2_partIn 8 = .ok (.iload_n 3, 1) := by decide +kernel
theorem dX2_partIn_9 : decode cX2_partIn 9 = .ok (.if_icmp .ge 34, 3) := by decide +kernel
theorem dX2_partIn_12 : decode cX2_partIn 12 = .ok (.iload 4, 2) := by decide +kernel
theorem dX2_partIn_14 : decode cX2_partIn 14 = .ok (.lload_n 1, 1) := by decide +kernel
theorem dX2_partIn_15 : decode cX2_partIn 15 = .ok (.iload 5, 2) := by decide +kernel
theorem dX2_partIn_17 : decode cX2_partIn 17 = .ok (.invokestatic 96, 3) := by decide +kernel
theorem dX2_partIn_20 : decode cX2_partIn 20 = .ok (.aload_n 0, 1) := by decide +kernel
theorem dX2_partIn_21 : decode cX2_partIn 21 = .ok (.getfield 25, 3) := by decide +kernel
theorem dX2_partIn_24 : decode cX2_partIn 24 = .ok (.lload_n 1, 1) := by decide +kernel
theorem dX2_partIn_25 : decode cX2_partIn 25 = .ok (.iload 5, 2) := by decide +kernel
theorem dX2_partIn_27 : decode cX2_partIn 27 = .ok (.invokestatic 100, 3) := by decide +kernel
theorem dX2_partIn_30 : decode cX2_partIn 30 = .ok (.invokevirtual 103, 3) := by decide +kernel
theorem dX2_partIn_33 : decode cX2_partIn 33 = .ok (.iadd, 1) := by decide +kernel
theorem dX2_partIn_34 : decode cX2_partIn 34 = .ok (.iadd, 1) := by decide +kernel
theorem dX2_partIn_35 : decode cX2_partIn 35 = .ok (.istore 4, 2) := by decide +kernel
theorem dX2_partIn_37 : decode cX2_partIn 37 = .ok (.iinc 5 1, 3) := by decide +kernel
theorem dX2_partIn_40 : decode cX2_partIn 40 = .ok (.goto (-34), 3) := by decide +kernel
theorem dX2_partIn_43 : decode cX2_partIn 43 = .ok (.lload_n 1, 1) := by decide +kernel
theorem dX2_partIn_44 : decode cX2_partIn 44 = .ok (.iload_n 3, 1) := by decide +kernel
theorem dX2_partIn_45 : decode cX2_partIn 45 = .ok (.invokestatic 96, 3) := by decide +kernel
theorem dX2_partIn_48 : decode cX2_partIn 48 = .ok (.istore 5, 2) := by decide +kernel
theorem dX2_partIn_50 : decode cX2_partIn 50 = .ok (.iload 4, 2) := by decide +kernel
theorem dX2_partIn_52 : decode cX2_partIn 52 = .ok (.iload 5, 2) := by decide +kernel
theorem dX2_partIn_54 : decode cX2_partIn 54 = .ok (.iadd, 1) := by decide +kernel
theorem dX2_partIn_55 : decode cX2_partIn 55 = .ok (.aload_n 0, 1) := by decide +kernel
theorem dX2_partIn_56 : decode cX2_partIn 56 = .ok (.getfield 33, 3) := by decide +kernel
theorem dX2_partIn_59 : decode cX2_partIn 59 = .ok (.if_icmp .le 7, 3) := by decide +kernel
theorem dX2_partIn_62 : decode cX2_partIn 62 = .ok (.iconst (-1), 1) := by decide +kernel
theorem dX2_partIn_63 : decode cX2_partIn 63 = .ok (.goto 17, 3) := by decide +kernel
theorem dX2_partIn_66 : decode cX2_partIn 66 = .ok (.aload_n 0, 1) := by decide +kernel
theorem dX2_partIn_67 : decode cX2_partIn 67 = .ok (.getfield 15, 3) := by decide +kernel
theorem dX2_partIn_70 : decode cX2_partIn 70 = .ok (.iload 4, 2) := by decide +kernel
theorem dX2_partIn_72 : decode cX2_partIn 72 = .ok (.iconst 4, 1) := by decide +kernel
theorem dX2_partIn_73 : decode cX2_partIn 73 = .ok (.imul, 1) := by decide +kernel
theorem dX2_partIn_74 : decode cX2_partIn 74 = .ok (.iload 5, 2) := by decide +kernel
theorem dX2_partIn_76 : decode cX2_partIn 76 = .ok (.iadd, 1) := by decide +kernel
theorem dX2_partIn_77 : decode cX2_partIn 77 = .ok (.iconst 1, 1) := by decide +kernel
theorem dX2_partIn_78 : decode cX2_partIn 78 = .ok (.isub, 1) := by decide +kernel
theorem dX2_partIn_79 : decode cX2_partIn 79 = .ok (.iaload, 1) := by decide +kernel
theorem dX2_partIn_80 : decode cX2_partIn 80 = .ok (.ireturn, 1) := by decide +kernel
theorem dX2_linkIn_0 : decode cX2_linkIn 0 = .ok (.lload_n 0, 1) := by decide +kernel
theorem dX2_linkIn_1 : decode cX2_linkIn 1 = .ok (.iload_n 2, 1) := by decide +kernel
theorem dX2_linkIn_2 : decode cX2_linkIn 2 = .ok (.invokestatic 69, 3) := by decide +kernel
theorem dX2_linkIn_5 : decode cX2_linkIn 5 = .ok (.lushr, 1) := by decide +kernel
theorem dX2_linkIn_6 : decode cX2_linkIn 6 = .ok (.l2i, 1) := by decide +kernel
theorem dX2_linkIn_7 : decode cX2_linkIn 7 = .ok (.bipush 7, 2) := by decide +kernel
theorem dX2_linkIn_9 : decode cX2_linkIn 9 = .ok (.iand, 1) := by decide +kernel
theorem dX2_linkIn_10 : decode cX2_linkIn 10 = .ok (.iconst 1, 1) := by decide +kernel
theorem dX2_linkIn_11 : decode cX2_linkIn 11 = .ok (.isub, 1) := by decide +kernel
theorem dX2_linkIn_12 : decode cX2_linkIn 12 = .ok (.ireturn, 1) := by decide +kernel
theorem dX2_lettersAt_0 : decode cX2_lettersAt 0 = .ok (.iconst 4, 1) := by decide +kernel
theorem dX2_lettersAt_1 : decode cX2_lettersAt 1 = .ok (.lload_n 0, 1) := by decide +kernel
theorem dX2_lettersAt_2 : decode cX2_lettersAt 2 = .ok (.iload_n 2, 1) := by decide +kernel
theorem dX2_lettersAt_3 : decode cX2_lettersAt 3 = .ok (.invokestatic 69, 3) := by decide +kernel
theorem dX2_lettersAt_6 : decode cX2_lettersAt 6 = .ok (.iconst 3, 1) := by decide +kernel
theorem dX2_lettersAt_7 : decode cX2_lettersAt 7 = .ok (.iadd, 1) := by decide +kernel
theorem dX2_lettersAt_8 : decode cX2_lettersAt 8 = .ok (.lushr, 1) := by decide +kernel
theorem dX2_lettersAt_9 : decode cX2_lettersAt 9 = .ok (.l2i, 1) := by decide +kernel
theorem dX2_lettersAt_10 : decode cX2_lettersAt 10 = .ok (.iconst 3, 1) := by decide +kernel
theorem dX2_lettersAt_11 : decode cX2_lettersAt 11 = .ok (.iand, 1) := by decide +kernel
theorem dX2_lettersAt_12 : decode cX2_lettersAt 12 = .ok (.isub, 1) := by decide +kernel
theorem dX2_lettersAt_13 : decode cX2_lettersAt 13 = .ok (.ireturn, 1) := by decide +kernel
theorem dX2_shiftOf_0 : decode cX2_shiftOf 0 = .ok (.iconst 5, 1) := by decide +kernel
theorem dX2_shiftOf_1 : decode cX2_shiftOf 1 = .ok (.bipush 7, 2) := by decide +kernel
theorem dX2_shiftOf_3 : decode cX2_shiftOf 3 = .ok (.iload_n 0, 1) := by decide +kernel
theorem dX2_shiftOf_4 : decode cX2_shiftOf 4 = .ok (.isub, 1) := by decide +kernel
theorem dX2_shiftOf_5 : decode cX2_shiftOf 5 = .ok (.imul, 1) := by decide +kernel
theorem dX2_shiftOf_6 : decode cX2_shiftOf 6 = .ok (.ireturn, 1) := by decide +kernel
theorem dX3_init_0 : decode cX3_init 0 = .ok (.aload_n 0, 1) := by decide +kernel
theorem dX3_init_1 : decode cX3_init 1 = .ok (.invokespecial 3, 3) := by decide +kernel
theorem dX3_init_4 : decode cX3_init 4 = .ok (.aload_n 0, 1) := by decide +kernel
theorem dX3_init_5 : decode cX3_init 5 = .ok (.sipush 650, 3) := by decide +kernel
theorem dX3_init_8 : decode cX3_init 8 = .ok (.newarray .int, 2) := by decide +kernel
theorem dX3_init_10 : decode cX3_init 10 = .ok (.putfield 11, 3) := by decide +kernel
theorem dX3_init_13 : decode cX3_init 13 = .ok (.aload_n 0, 1) := by decide +kernel
theorem dX3_init_14 : decode cX3_init 14 = .ok (.bipush 65, 2) := by decide +kernel
theorem dX3_init_16 : decode cX3_init 16 = .ok (.newarray .boolean, 2) := by decide +kernel
theorem dX3_init_18 : decode cX3_init 18 = .ok (.putfield 15, 3) := by decide +kernel
theorem dX3_init_21 : decode cX3_init 21 = .ok (.aload_n 0, 1) := by decide +kernel
theorem dX3_init_22 : decode cX3_init 22 = .ok (.bipush 65, 2) := by decide +kernel
theorem dX3_init_24 : decode cX3_init 24 = .ok (.newarray .int, 2) := by decide +kernel
theorem dX3_init_26 : decode cX3_init 26 = .ok (.putfield 19, 3) := by decide +kernel
theorem dX3_init_29 : decode cX3_init 29 = .ok (.aload_n 0, 1) := by decide +kernel
theorem dX3_init_30 : decode cX3_init 30 = .ok (.iconst 1, 1) := by decide +kernel
theorem dX3_init_31 : decode cX3_init 31 = .ok (.putfield 22, 3) := by decide +kernel
theorem dX3_init_34 : decode cX3_init 34 = .ok (.return_, 1) := by decide +kernel
theorem dX3_enter_0 : decode cX3_enter 0 = .ok (.iconst 1, 1) := by decide +kernel
theorem dX3_enter_1 : decode cX3_enter 1 = .ok (.istore_n 2, 1) := by decide +kernel
theorem dX3_enter_2 : decode cX3_enter 2 = .ok (.iload_n 1, 1) := by decide +kernel
theorem dX3_enter_3 : decode cX3_enter 3 = .ok (.invokestatic 26, 3) := by decide +kernel
theorem dX3_enter_6 : decode cX3_enter 6 = .ok (.istore_n 3, 1) := by decide +kernel
theorem dX3_enter_7 : decode cX3_enter 7 = .ok (.iload_n 3, 1) := by decide +kernel
theorem dX3_enter_8 : decode cX3_enter 8 = .ok (.iconst 1, 1) := by decide +kernel
theorem dX3_enter_9 : decode cX3_enter 9 = .ok (.if_icmp .le 14, 3) := by decide +kernel
theorem dX3_enter_12 : decode cX3_enter 12 = .ok (.iload_n 2, 1) := by decide +kernel
theorem dX3_enter_13 : decode cX3_enter 13 = .ok (.bipush 10, 2) := by decide +kernel
theorem dX3_enter_15 : decode cX3_enter 15 = .ok (.imul, 1) := by decide +kernel
theorem dX3_enter_16 : decode cX3_enter 16 = .ok (.istore_n 2, 1) := by decide +kernel
theorem dX3_enter_17 : decode cX3_enter 17 = .ok (.iinc 3 (-1), 3) := by decide +kernel
theorem dX3_enter_20 : decode cX3_enter 20 = .ok (.goto (-13), 3) := by decide +kernel
theorem dX3_enter_23 : decode cX3_enter 23 = .ok (.iconst 0, 1) := by decide +kernel
theorem dX3_enter_24 : decode cX3_enter 24 = .ok (.istore_n 3, 1) := by decide +kernel
theorem dX3_enter_25 : decode cX3_enter 25 = .ok (.iload_n 2, 1) := by decide +kernel
theorem dX3_enter_26 : decode cX3_enter 26 = .ok (.ifCond .le 23, 3) := by decide +kernel
theorem dX3_enter_29 : decode cX3_enter 29 = .ok (.aload_n 0, 1) := by decide +kernel
theorem dX3_enter_30 : decode cX3_enter 30 = .ok (.iload_n 3, 1) := by decide +kernel
theorem dX3_enter_31 : decode cX3_enter 31 = .ok (.iload_n 1, 1) := by decide +kernel
theorem dX3_enter_32 : decode cX3_enter 32 = .ok (.iload_n 2, 1) := by decide +kernel
theorem dX3_enter_33 : decode cX3_enter 33 = .ok (.idiv, 1) := by decide +kernel
theorem dX3_enter_34 : decode cX3_enter 34 = .ok (.bipush 10, 2) := by decide +kernel
theorem dX3_enter_36 : decode cX3_enter 36 = .ok (.irem, 1) := by decide +kernel
theorem dX3_enter_37 : decode cX3_enter 37 = .ok (.invokevirtual 30, 3) := by decide +kernel
theorem dX3_enter_40 : decode cX3_enter 40 = .ok (.istore_n 3, 1) := by decide +kernel
theorem dX3_enter_41 : decode cX3_enter 41 = .ok (.iload_n 2, 1) := by decide +kernel
theorem dX3_enter_42 : decode cX3_enter 42 = .ok (.bipush 10, 2) := by decide +kernel
theorem dX3_enter_44 : decode cX3_enter 44 = .ok (.idiv, 1) := by decide +kernel
theorem dX3_enter_45 : decode cX3_enter 45 = .ok (.istore_n 2, 1) := by decide +kernel
theorem dX3_enter_46 : decode cX3_enter 46 = .ok (.goto (-21), 3) := by decide +kernel
theorem dX3_enter_49 : decode cX3_enter 49 = .ok (.aload_n 0, 1) := by decide +kernel
theorem dX3_enter_50 : decode cX3_enter 50 = .ok (.getfield 15, 3) := by decide +kernel
theorem dX3_enter_53 : decode cX3_enter 53 = .ok (.iload_n 3, 1) := by decide +kernel
theorem dX3_enter_54 : decode cX3_enter 54 = .ok (.iconst 1, 1) := by decide +kernel
theorem dX3_enter_55 : decode cX3_enter 55 = .ok (.bastore, 1) := by decide +kernel
theorem dX3_enter_56 : decode cX3_enter 56 = .ok (.return_, 1) := by decide +kernel
theorem dX3_madeBelow_0 : decode cX3_madeBelow 0 = .ok (.iload_n 1, 1) := by decide +kernel
theorem dX3_madeBelow_1 : decode cX3_madeBelow 1 = .ok (.bipush 10, 2) := by decide +kernel
theorem dX3_madeBelow_3 : decode cX3_madeBelow 3 = .ok (.imul, 1) := by decide +kernel
theorem dX3_madeBelow_4 : decode cX3_madeBelow 4 = .ok (.iload_n 2, 1) := by decide +kernel
theorem dX3_madeBelow_5 : decode cX3_madeBelow 5 = .ok (.iadd, 1) := by decide +kernel
theorem dX3_madeBelow_6 : decode cX3_madeBelow 6 = .ok (.istore_n 3, 1) := by decide +kernel
theorem dX3_madeBelow_7 : decode cX3_madeBelow 7 = .ok (.aload_n 0, 1) := by decide +kernel
theorem dX3_madeBelow_8 : decode cX3_madeBelow 8 = .ok (.getfield 11, 3) := by decide +kernel
theorem dX3_madeBelow_11 : decode cX3_madeBelow 11 = .ok (.iload_n 3, 1) := by decide +kernel
theorem dX3_madeBelow_12 : decode cX3_madeBelow 12 = .ok (.iaload, 1) := by decide +kernel
theorem dX3_madeBelow_13 : decode cX3_madeBelow 13 = .ok (.ifCond .ne 32, 3) := by decide +kernel
theorem dX3_madeBelow_16 : decode cX3_madeBelow 16 = .ok (.aload_n 0, 1) := by decide +kernel
theorem dX3_madeBelow_17 : decode cX3_madeBelow 17 = .ok (.getfield 22, 3) := by decide +kernel
theorem dX3_madeBelow_20 : decode cX3_madeBelow 20 = .ok (.bipush 65, 2) := by decide +kernel
theorem dX3_madeBelow_22 : decode cX3_madeBelow 22 = .ok (.if_icmp .ge 23, 3) := by decide +kernel
theorem dX3_madeBelow_25 : decode cX3_madeBelow 25 = .ok (.aload_n 0, 1) := by decide +kernel
theorem dX3_madeBelow_26 : decode cX3_madeBelow 26 = .ok (.getfield 11, 3) := by decide +kernel
theorem dX3_madeBelow_29 : decode cX3_madeBelow 29 = .ok (.iload_n 3, 1) := by decide +kernel
theorem dX3_madeBelow_30 : decode cX3_madeBelow 30 = .ok (.aload_n 0, 1) := by decide +kernel
theorem dX3_madeBelow_31 : decode cX3_madeBelow 31 = .ok (.getfield 22, 3) := by decide +kernel
theorem dX3_madeBelow_34 : decode cX3_madeBelow 34 = .ok (.iastore, 1) := by decide +kernel
theorem dX3_madeBelow_35 : decode cX3_madeBelow 35 = .ok (.aload_n 0, 1) := by decide +kernel
theorem dX3_madeBelow_36 : decode cX3_madeBelow 36 = .ok (.dup, 1) := by decide +kernel
theorem dX3_madeBelow_37 : decode cX3_madeBelow 37 = .ok (.getfield 22, 3) := by decide +kernel
theorem dX3_madeBelow_40 : decode cX3_madeBelow 40 = .ok (.iconst 1, 1) := by decide +kernel
theorem dX3_madeBelow_41 : decode cX3_madeBelow 41 = .ok (.iadd, 1) := by decide +kernel
theorem dX3_madeBelow_42 : decode cX3_madeBelow 42 = .ok (.putfield 22, 3) := by decide +kernel
theorem dX3_madeBelow_45 : decode cX3_madeBelow 45 = .ok (.aload_n 0, 1) := by decide +kernel
theorem dX3_madeBelow_46 : decode cX3_madeBelow 46 = .ok (.getfield 11, 3) := by decide +kernel
theorem dX3_madeBelow_49 : decode cX3_madeBelow 49 = .ok (.iload_n 3, 1) := by decide +kernel
theorem dX3_madeBelow_50 : decode cX3_madeBelow 50 = .ok (.iaload, 1) := by decide +kernel
theorem dX3_madeBelow_51 : decode cX3_madeBelow 51 = .ok (.ireturn, 1) := by decide +kernel
theorem dX3_differentNodes_0 : decode cX3_differentNodes 0 = .ok (.iconst 0, 1) := by decide +kernel
theorem dX3_differentNodes_1 : decode cX3_differentNodes 1 = .ok (.istore_n 1, 1) := by decide +kernel
theorem dX3_differentNodes_2 : decode cX3_differentNodes 2 = .ok (.aload_n 0, 1) := by decide +kernel
theorem dX3_differentNodes_3 : decode cX3_differentNodes 3 = .ok (.getfield 22, 3) := by decide +kernel
theorem dX3_differentNodes_6 : decode cX3_differentNodes 6 = .ok (.iconst 1, 1) := by decide +kernel
theorem dX3_differentNodes_7 : decode cX3_differentNodes 7 = .ok (.isub, 1) := by decide +kernel
theorem dX3_differentNodes_8 : decode cX3_differentNodes 8 = .ok (.istore_n 2, 1) := by decide +kernel
theorem dX3_differentNodes_9 : decode cX3_differentNodes 9 = .ok (.iload_n 2, 1) := by decide +kernel
theorem dX3_differentNodes_10 : decode cX3_differentNodes 10 = .ok (.ifCond .lt 33, 3) := by decide +kernel
theorem dX3_differentNodes_13 : decode cX3_differentNodes 13 = .ok (.aload_n 0, 1) := by decide +kernel
theorem dX3_differentNodes_14 : decode cX3_differentNodes 14 = .ok (.getfield 19, 3) := by decide +kernel
theorem dX3_differentNodes_17 : decode cX3_differentNodes 17 = .ok (.iload_n 2, 1) := by decide +kernel
theorem dX3_differentNodes_18 : decode cX3_differentNodes 18 = .ok (.aload_n 0, 1) := by decide +kernel
theorem dX3_differentNodes_19 : decode cX3_differentNodes 19 = .ok (.iload_n 2, 1) := by decide +kernel
theorem dX3_differentNodes_20 : decode cX3_differentNodes 20 = .ok (.invokevirtual 34, 3) := by decide +kernel
theorem dX3_differentNodes_23 : decode cX3_differentNodes 23 = .ok (.iastore, 1) := by decide +kernel
theorem dX3_differentNodes_24 : decode cX3_differentNodes 24 = .ok (.aload_n 0, 1) := by decide +kernel
theorem dX3_differentNodes_25 : decode cX3_differentNodes 25 = .ok (.getfield 19, 3) := by decide +kernel
theorem dX3_differentNodes_28 : decode cX3_differentNodes 28 = .ok (.iload_n 2, 1) := by decide +kernel
theorem dX3_differentNodes_29 : decode cX3_differentNodes 29 = .ok (.iaload, 1) := by decide +kernel
theorem dX3_differentNodes_30 : decode cX3_differentNodes 30 = .ok (.iload_n 2, 1) := by decide +kernel
theorem dX3_differentNodes_31 : decode cX3_differentNodes 31 = .ok (.if_icmp .ne 6, 3) := by decide +kernel
theorem dX3_differentNodes_34 : decode cX3_differentNodes 34 = .ok (.iinc 1 1, 3) := by decide +kernel
theorem dX3_differentNodes_37 : decode cX3_differentNodes 37 = .ok (.iinc 2 (-1), 3) := by decide +kernel
theorem dX3_differentNodes_40 : decode cX3_differentNodes 40 = .ok (.goto (-31), 3) := by decide +kernel
theorem dX3_differentNodes_43 : decode cX3_differentNodes 43 = .ok (.iload_n 1, 1) := by decide +kernel
theorem dX3_differentNodes_44 : decode cX3_differentNodes 44 = .ok (.ireturn, 1) := by decide +kernel
theorem dX3_twinOf_0 : decode cX3_twinOf 0 = .ok (.aload_n 0, 1) := by decide +kernel
theorem dX3_twinOf_1 : decode cX3_twinOf 1 = .ok (.getfield 22, 3) := by decide +kernel
theorem dX3_twinOf_4 : decode cX3_twinOf 4 = .ok (.iconst 1, 1) := by decide +kernel
theorem dX3_twinOf_5 : decode cX3_twinOf 5 = .ok (.isub, 1) := by decide +kernel
theorem dX3_twinOf_6 : decode cX3_twinOf 6 = .ok (.istore_n 2, 1) := by decide +kernel
theorem dX3_twinOf_7 : decode cX3_twinOf 7 = .ok (.iload_n 2, 1) := by decide +kernel
theorem dX3_twinOf_8 : decode cX3_twinOf 8 = .ok (.iload_n 1, 1) := by decide +kernel
theorem dX3_twinOf_9 : decode cX3_twinOf 9 = .ok (.if_icmp .le 30, 3) := by decide +kernel
theorem dX3_twinOf_12 : decode cX3_twinOf 12 = .ok (.aload_n 0, 1) := by decide +kernel
theorem dX3_twinOf_13 : decode cX3_twinOf 13 = .ok (.getfield 19, 3) := by decide +kernel
theorem dX3_twinOf_16 : decode cX3_twinOf 16 = .ok (.iload_n 2, 1) := by decide +kernel
theorem dX3_twinOf_17 : decode cX3_twinOf 17 = .ok (.iaload, 1) := by decide +kernel
theorem dX3_twinOf_18 : decode cX3_twinOf 18 = .ok (.iload_n 2, 1) := by decide +kernel
theorem dX3_twinOf_19 : decode cX3_twinOf 19 = .ok (.if_icmp .ne 14, 3) := by decide +kernel
theorem dX3_twinOf_22 : decode cX3_twinOf 22 = .ok (.aload_n 0, 1) := by decide +kernel
theorem dX3_twinOf_23 : decode cX3_twinOf 23 = .ok (.iload_n 1, 1) := by decide +kernel
theorem dX3_twinOf_24 : decode cX3_twinOf 24 = .ok (.iload_n 2, 1) := by decide +kernel
theorem dX3_twinOf_25 : decode cX3_twinOf 25 = .ok (.invokevirtual 37, 3) := by decide +kernel
theorem dX3_twinOf_28 : decode cX3_twinOf 28 = .ok (.ifCond .eq 5, 3) := by decide +kernel
theorem dX3_twinOf_31 : decode cX3_twinOf 31 = .ok (.iload_n 2, 1) := by decide +kernel
theorem dX3_twinOf_32 : decode cX3_twinOf 32 = .ok (.ireturn, 1) := by decide +kernel
theorem dX3_twinOf_33 : decode cX3_twinOf 33 = .ok (.iinc 2 (-1), 3) := by decide +kernel
theorem dX3_twinOf_36 : decode cX3_twinOf 36 = .ok (.goto (-29), 3) := by decide +kernel
theorem dX3_twinOf_39 : decode cX3_twinOf 39 = .ok (.iload_n 1, 1) := by decide +kernel
theorem dX3_twinOf_40 : decode cX3_twinOf 40 = .ok (.ireturn, 1) := by decide +kernel
theorem dX3_isFollowedAlike_0 : decode cX3_isFollowedAlike 0 = .ok (.aload_n 0, 1) := by decide +kernel
theorem dX3_isFollowedAlike_1 : decode cX3_isFollowedAlike 1 = .ok (.getfield 15, 3) := by decide +kernel
theorem dX3_isFollowedAlike_4 : decode cX3_isFollowedAlike 4 = .ok (.iload_n 1, 1) := by decide +kernel
theorem dX3_isFollowedAlike_5 : decode cX3_isFollowedAlike 5 = .ok (.baload, 1) := by decide +kernel
theorem dX3_isFollowedAlike_6 : decode cX3_isFollowedAlike 6 = .ok (.aload_n 0, 1) := by decide +kernel
theorem dX3_isFollowedAlike_7 : decode cX3_isFollowedAlike 7 = .ok (.getfield 15, 3) := by decide +kernel
theorem dX3_isFollowedAlike_10 : decode cX3_isFollowedAlike 10 = .ok (.iload_n 2, 1) := by decide +kernel
theorem dX3_isFollowedAlike_11 : decode cX3_isFollowedAlike 11 = .ok (.baload, 1) := by decide +kernel
theorem dX3_isFollowedAlike_12 : decode cX3_isFollowedAlike 12 = .ok (.if_icmp .eq 5, 3) := by decide +kernel
theorem dX3_isFollowedAlike_15 : decode cX3_isFollowedAlike 15 = .ok (.iconst 0, 1) := by decide +kernel
theorem dX3_isFollowedAlike_16 : decode cX3_isFollowedAlike 16 = .ok (.ireturn, 1) := by decide +kernel
theorem dX3_isFollowedAlike_17 : decode cX3_isFollowedAlike 17 = .ok (.iconst 0, 1) := by decide +kernel
theorem dX3_isFollowedAlike_18 : decode cX3_isFollowedAlike 18 = .ok (.istore_n 3, 1) := by decide +kernel
theorem dX3_isFollowedAlike_19 : decode cX3_isFollowedAlike 19 = .ok (.iload_n 3, 1) := by decide +kernel
theorem dX3_isFollowedAlike_20 : decode cX3_isFollowedAlike 20 = .ok (.bipush 10, 2) := by decide +kernel
theorem dX3_isFollowedAlike_22 : decode cX3_isFollowedAlike 22 = .ok (.if_icmp .ge 26, 3) := by decide +kernel
theorem dX3_isFollowedAlike_25 : decode cX3_isFollowedAlike 25 = .ok (.aload_n 0, 1) := by decide +kernel
theorem dX3_isFollowedAlike_26 : decode cX3_isFollowedAlike 26 = .ok (.iload_n 1, 1) := by decide +kernel
theorem dX3_isFollowedAlike_27 : decode cX3_isFollowedAlike 27 = .ok (.iload_n 3, 1) := by decide +kernel
theorem dX3_isFollowedAlike_28 : decode cX3_isFollowedAlike 28 = .ok (.invokevirtual 41, 3) := by decide +kernel
theorem dX3_isFollowedAlike_31 : decode cX3_isFollowedAlike 31 = .ok (.aload_n 0, 1) := by decide +kernel
theorem dX3_isFollowedAlike_32 : decode cX3_isFollowedAlike 32 = .ok (.iload_n 2, 1) := by decide +kernel
theorem dX3_isFollowedAlike_33 : decode cX3_isFollowedAlike 33 = .ok (.iload_n 3, 1) := by decide +kernel
theorem dX3_isFollowedAlike_34 : decode cX3_isFollowedAlike 34 = .ok (.invokevirtual 41, 3) := by decide +kernel
theorem dX3_isFollowedAlike_37 : decode cX3_isFollowedAlike 37 = .ok (.if_icmp .eq 5, 3) := by decide +kernel
theorem dX3_isFollowedAlike_40 : decode cX3_isFollowedAlike 40 = .ok (.iconst 0, 1) := by decide +kernel
theorem dX3_isFollowedAlike_41 : decode cX3_isFollowedAlike 41 = .ok (.ireturn, 1) := by decide +kernel
theorem dX3_isFollowedAlike_42 : decode cX3_isFollowedAlike 42 = .ok (.iinc 3 1, 3) := by decide +kernel
theorem dX3_isFollowedAlike_45 : decode cX3_isFollowedAlike 45 = .ok (.goto (-26), 3) := by decide +kernel
theorem dX3_isFollowedAlike_48 : decode cX3_isFollowedAlike 48 = .ok (.iconst 1, 1) := by decide +kernel
theorem dX3_isFollowedAlike_49 : decode cX3_isFollowedAlike 49 = .ok (.ireturn, 1) := by decide +kernel
theorem dX3_twinBelow_0 : decode cX3_twinBelow 0 = .ok (.aload_n 0, 1) := by decide +kernel
theorem dX3_twinBelow_1 : decode cX3_twinBelow 1 = .ok (.getfield 11, 3) := by decide +kernel
theorem dX3_twinBelow_4 : decode cX3_twinBelow 4 = .ok (.iload_n 1, 1) := by decide +kernel
theorem dX3_twinBelow_5 : decode cX3_twinBelow 5 = .ok (.bipush 10, 2) := by decide +kernel
theorem dX3_twinBelow_7 : decode cX3_twinBelow 7 = .ok (.imul, 1) := by decide +kernel
theorem dX3_twinBelow_8 : decode cX3_twinBelow 8 = .ok (.iload_n 2, 1) := by decide +kernel
theorem dX3_twinBelow_9 : decode cX3_twinBelow 9 = .ok (.iadd, 1) := by decide +kernel
theorem dX3_twinBelow_10 : decode cX3_twinBelow 10 = .ok (.iaload, 1) := by decide +kernel
theorem dX3_twinBelow_11 : decode cX3_twinBelow 11 = .ok (.istore_n 3, 1) := by decide +kernel
theorem dX3_twinBelow_12 : decode cX3_twinBelow 12 = .ok (.iload_n 3, 1) := by decide +kernel
theorem dX3_twinBelow_13 : decode cX3_twinBelow 13 = .ok (.ifCond .ne 7, 3) := by decide +kernel
theorem dX3_twinBelow_16 : decode cX3_twinBelow 16 = .ok (.iconst 0, 1) := by decide +kernel
theorem dX3_twinBelow_17 : decode cX3_twinBelow 17 = .ok (.goto 9, 3) := by decide +kernel
theorem dX3_twinBelow_20 : decode cX3_twinBelow 20 = .ok (.aload_n 0, 1) := by decide +kernel
theorem dX3_twinBelow_21 : decode cX3_twinBelow 21 = .ok (.getfield 19, 3) := by decide +kernel
theorem dX3_twinBelow_24 : decode cX3_twinBelow 24 = .ok (.iload_n 3, 1) := by decide +kernel
theorem dX3_twinBelow_25 : decode cX3_twinBelow 25 = .ok (.iaload, 1) := by decide +kernel
theorem dX3_twinBelow_26 : decode cX3_twinBelow 26 = .ok (.ireturn, 1) := by decide +kernel
theorem dX4_init_0 : decode cX4_init 0 = .ok (.aload_n 0, 1) := by decide +kernel
theorem dX4_init_1 : decode cX4_init 1 = .ok (.invokespecial 3, 3) := by decide +kernel
theorem dX4_init_4 : decode cX4_init 4 = .ok (.aload_n 0, 1) := by decide +kernel
theorem dX4_init_5 : decode cX4_init 5 = .ok (.new 9, 3) := by decide +kernel
theorem dX4_init_8 : decode cX4_init 8 = .ok (.dup, 1) := by decide +kernel
theorem dX4_init_9 : decode cX4_init 9 = .ok (.invokespecial 11, 3) := by decide +kernel
theorem dX4_init_12 : decode cX4_init 12 = .ok (.putfield 12, 3) := by decide +kernel
theorem dX4_init_15 : decode cX4_init 15 = .ok (.aload_n 0, 1) := by decide +kernel
theorem dX4_init_16 : decode cX4_init 16 = .ok (.new 16, 3) := by decide +kernel
theorem dX4_init_19 : decode cX4_init 19 = .ok (.dup, 1) := by decide +kernel
theorem dX4_init_20 : decode cX4_init 20 = .ok (.aload_n 0, 1) := by decide +kernel
theorem dX4_init_21 : decode cX4_init 21 = .ok (.getfield 12, 3) := by decide +kernel
theorem dX4_init_24 : decode cX4_init 24 = .ok (.invokespecial 18, 3) := by decide +kernel
theorem dX4_init_27 : decode cX4_init 27 = .ok (.putfield 21, 3) := by decide +kernel
theorem dX4_init_30 : decode cX4_init 30 = .ok (.aload_n 0, 1) := by decide +kernel
theorem dX4_init_31 : decode cX4_init 31 = .ok (.new 25, 3) := by decide +kernel
theorem dX4_init_34 : decode cX4_init 34 = .ok (.dup, 1) := by decide +kernel
theorem dX4_init_35 : decode cX4_init 35 = .ok (.aload_n 0, 1) := by decide +kernel
theorem dX4_init_36 : decode cX4_init 36 = .ok (.getfield 12, 3) := by decide +kernel
theorem dX4_init_39 : decode cX4_init 39 = .ok (.invokespecial 27, 3) := by decide +kernel
theorem dX4_init_42 : decode cX4_init 42 = .ok (.putfield 28, 3) := by decide +kernel
theorem dX4_init_45 : decode cX4_init 45 = .ok (.return_, 1) := by decide +kernel
theorem dX4_addPart_0 : decode cX4_addPart 0 = .ok (.iload_n 1, 1) := by decide +kernel
theorem dX4_addPart_1 : decode cX4_addPart 1 = .ok (.iconst 4, 1) := by decide +kernel
theorem dX4_addPart_2 : decode cX4_addPart 2 = .ok (.invokestatic 32, 3) := by decide +kernel
theorem dX4_addPart_5 : decode cX4_addPart 5 = .ok (.iload_n 2, 1) := by decide +kernel
theorem dX4_addPart_6 : decode cX4_addPart 6 = .ok (.iconst 1, 1) := by decide +kernel
theorem dX4_addPart_7 : decode cX4_addPart 7 = .ok (.if_icmp .lt 10, 3) := by decide +kernel
theorem dX4_addPart_10 : decode cX4_addPart 10 = .ok (.iload_n 2, 1) := by decide +kernel
theorem dX4_addPart_11 : decode cX4_addPart 11 = .ok (.sipush 9999, 3) := by decide +kernel
theorem dX4_addPart_14 : decode cX4_addPart 14 = .ok (.if_icmp .le 13, 3) := by decide +kernel
theorem dX4_addPart_17 : decode cX4_addPart 17 = .ok (.new 36, 3) := by decide +kernel
theorem dX4_addPart_20 : decode cX4_addPart 20 = .ok (.dup, 1) := by decide +kernel
theorem dX4_addPart_21 : decode cX4_addPart 21 = .ok (.ldc 38, 2) := by decide +kernel
theorem dX4_addPart_23 : decode cX4_addPart 23 = .ok (.invokespecial 40, 3) := by decide +kernel
theorem dX4_addPart_26 : decode cX4_addPart 26 = .ok (.athrow, 1) := by decide +kernel
theorem dX4_addPart_27 : decode cX4_addPart 27 = .ok (.iload_n 3, 1) := by decide +kernel
theorem dX4_addPart_28 : decode cX4_addPart 28 = .ok (.iconst 1, 1) := by decide +kernel
theorem dX4_addPart_29 : decode cX4_addPart 29 = .ok (.if_icmp .lt 9, 3) := by decide +kernel
theorem dX4_addPart_32 : decode cX4_addPart 32 = .ok (.iload_n 3, 1) := by decide +kernel
theorem dX4_addPart_33 : decode cX4_addPart 33 = .ok (.bipush 7, 2) := by decide +kernel
theorem dX4_addPart_35 : decode cX4_addPart 35 = .ok (.if_icmp .le 13, 3) := by decide +kernel
theorem dX4_addPart_38 : decode cX4_addPart 38 = .ok (.new 36, 3) := by decide +kernel
theorem dX4_addPart_41 : decode cX4_addPart 41 = .ok (.dup, 1) := by decide +kernel
theorem dX4_addPart_42 : decode cX4_addPart 42 = .ok (.ldc 43, 2) := by decide +kernel
theorem dX4_addPart_44 : decode cX4_addPart 44 = .ok (.invokespecial 40, 3) := by decide +kernel
theorem dX4_addPart_47 : decode cX4_addPart 47 = .ok (.athrow, 1) := by decide +kernel
theorem dX4_addPart_48 : decode cX4_addPart 48 = .ok (.aload_n 0, 1) := by decide +kernel
theorem dX4_addPart_49 : decode cX4_addPart 49 = .ok (.getfield 12, 3) := by decide +kernel
theorem dX4_addPart_52 : decode cX4_addPart 52 = .ok (.getfield 45, 3) := by decide +kernel
theorem dX4_addPart_55 : decode cX4_addPart 55 = .ok (.bipush 16, 2) := by decide +kernel
theorem dX4_addPart_57 : decode cX4_addPart 57 = .ok (.if_icmp .lt 13, 3) := by decide +kernel
theorem dX4_addPart_60 : decode cX4_addPart 60 = .ok (.new 49, 3) := by decide +kernel
theorem dX4_addPart_63 : decode cX4_addPart 63 = .ok (.dup, 1) := by decide +kernel
theorem dX4_addPart_64 : decode cX4_addPart 64 = .ok (.ldc 51, 2) := by decide +kernel
theorem dX4_addPart_66 : decode cX4_addPart 66 = .ok (.invokespecial 53, 3) := by decide +kernel
theorem dX4_addPart_69 : decode cX4_addPart 69 = .ok (.athrow, 1) := by decide +kernel
theorem dX4_addPart_70 : decode cX4_addPart 70 = .ok (.aload_n 0, 1) := by decide +kernel
theorem dX4_addPart_71 : decode cX4_addPart 71 = .ok (.getfield 12, 3) := by decide +kernel
theorem dX4_addPart_74 : decode cX4_addPart 74 = .ok (.iload_n 1, 1) := by decide +kernel
theorem dX4_addPart_75 : decode cX4_addPart 75 = .ok (.invokevirtual 54, 3) := by decide +kernel
theorem dX4_addPart_78 : decode cX4_addPart 78 = .ok (.iconst (-1), 1) := by decide +kernel
theorem dX4_addPart_79 : decode cX4_addPart 79 = .ok (.if_icmp .eq 13, 3) := by decide +kernel
theorem dX4_addPart_82 : decode cX4_addPart 82 = .ok (.new 49, 3) := by decide +kernel
theorem dX4_addPart_85 : decode cX4_addPart 85 = .ok (.dup, 1) := by decide +kernel
theorem dX4_addPart_86 : decode cX4_addPart 86 = .ok (.ldc 58, 2) := by decide +kernel
theorem dX4_addPart_88 : decode cX4_addPart 88 = .ok (.invokespecial 53, 3) := by decide +kernel
theorem dX4_addPart_91 : decode cX4_addPart 91 = .ok (.athrow, 1) := by decide +kernel
theorem dX4_addPart_92 : decode cX4_addPart 92 = .ok (.aload_n 0, 1) := by decide +kernel
theorem dX4_addPart_93 : decode cX4_addPart 93 = .ok (.getfield 12, 3) := by decide +kernel
theorem dX4_addPart_96 : decode cX4_addPart 96 = .ok (.iload_n 1, 1) := by decide +kernel
theorem dX4_addPart_97 : decode cX4_addPart 97 = .ok (.iload_n 2, 1) := by decide +kernel
theorem dX4_addPart_98 : decode cX4_addPart 98 = .ok (.iload_n 3, 1) := by decide +kernel
theorem dX4_addPart_99 : decode cX4_addPart 99 = .ok (.invokevirtual 60, 3) := by decide +kernel
theorem dX4_addPart_102 : decode cX4_addPart 102 = .ok (.ireturn, 1) := by decide +kernel
theorem dX4_setFlags_0 : decode cX4_setFlags 0 = .ok (.aload_n 0, 1) := by decide +kernel
theorem dX4_setFlags_1 : decode cX4_setFlags 1 = .ok (.iload_n 1, 1) := by decide +kernel
theorem dX4_setFlags_2 : decode cX4_setFlags 2 = .ok (.invokevirtual 64, 3) := by decide +kernel
theorem dX4_setFlags_5 : decode cX4_setFlags 5 = .ok (.iload_n 2, 1) := by decide +kernel
theorem dX4_setFlags_6 : decode cX4_setFlags 6 = .ok (.ifCond .lt 9, 3) := by decide +kernel
theorem dX4_setFlags_9 : decode cX4_setFlags 9 = .ok (.iload_n 2, 1) := by decide +kernel
theorem dX4_setFlags_10 : decode cX4_setFlags 10 = .ok (.bipush 7, 2) := by decide +kernel
theorem dX4_setFlags_12 : decode cX4_setFlags 12 = .ok (.if_icmp .le 13, 3) := by decide +kernel
theorem dX4_setFlags_15 : decode cX4_setFlags 15 = .ok (.new 36, 3) := by decide +kernel
theorem dX4_setFlags_18 : decode cX4_setFlags 18 = .ok (.dup, 1) := by decide +kernel
theorem dX4_setFlags_19 : decode cX4_setFlags 19 = .ok (.ldc 68, 2) := by decide +kernel
theorem dX4_setFlags_21 : decode cX4_setFlags 21 = .ok (.invokespecial 40, 3) := by decide +kernel
theorem dX4_setFlags_24 : decode cX4_setFlags 24 = .ok (.athrow, 1) := by decide +kernel
theorem dX4_setFlags_25 : decode cX4_setFlags 25 = .ok (.aload_n 0, 1) := by decide +kernel
theorem dX4_setFlags_26 : decode cX4_setFlags 26 = .ok (.getfield 12, 3) := by decide +kernel
theorem dX4_setFlags_29 : decode cX4_setFlags 29 = .ok (.getfield 70, 3) := by decide +kernel
theorem dX4_setFlags_32 : decode cX4_setFlags 32 = .ok (.iload_n 1, 1) := by decide +kernel
theorem dX4_setFlags_33 : decode cX4_setFlags 33 = .ok (.iaload, 1) := by decide +kernel
theorem dX4_setFlags_34 : decode cX4_setFlags 34 = .ok (.istore_n 3, 1) := by decide +kernel
theorem dX4_setFlags_35 : decode cX4_setFlags 35 = .ok (.aload_n 0, 1) := by decide +kernel
theorem dX4_setFlags_36 : decode cX4_setFlags 36 = .ok (.getfield 12, 3) := by decide +kernel
theorem dX4_setFlags_39 : decode cX4_setFlags 39 = .ok (.getfield 70, 3) := by decide +kernel
theorem dX4_setFlags_42 : decode cX4_setFlags 42 = .ok (.iload_n 1, 1) := by decide +kernel
theorem dX4_setFlags_43 : decode cX4_setFlags 43 = .ok (.iload_n 2, 1) := by decide +kernel
theorem dX4_setFlags_44 : decode cX4_setFlags 44 = .ok (.iastore, 1) := by decide +kernel
theorem dX4_setFlags_45 : decode cX4_setFlags 45 = .ok (.iload_n 3, 1) := by decide +kernel
theorem dX4_setFlags_46 : decode cX4_setFlags 46 = .ok (.ireturn, 1) := by decide +kernel
theorem dX4_addLink_0 : decode cX4_addLink 0 = .ok (.iload_n 1, 1) := by decide +kernel
theorem dX4_addLink_1 : decode cX4_addLink 1 = .ok (.iconst 2, 1) := by decide +kernel
theorem dX4_addLink_2 : decode cX4_addLink 2 = .ok (.invokestatic 32, 3) := by decide +kernel
theorem dX4_addLink_5 : decode cX4_addLink 5 = .ok (.aload_n 0, 1) := by decide +kernel
theorem dX4_addLink_6 : decode cX4_addLink 6 = .ok (.getfield 12, 3) := by decide +kernel
theorem dX4_addLink_9 : decode cX4_addLink 9 = .ok (.getfield 74, 3) := by decide +kernel
theorem dX4_addLink_12 : decode cX4_addLink 12 = .ok (.bipush 6, 2) := by decide +kernel
theorem dX4_addLink_14 : decode cX4_addLink 14 = .ok (.if_icmp .lt 13, 3) := by decide +kernel
theorem dX4_addLink_17 : decode cX4_addLink 17 = .ok (.new 49, 3) := by decide +kernel
theorem dX4_addLink_20 : decode cX4_addLink 20 = .ok (.dup, 1) := by decide +kernel
theorem dX4_addLink_21 : decode cX4_addLink 21 = .ok (.ldc 77, 2) := by decide +kernel
theorem dX4_addLink_23 : decode cX4_addLink 23 = .ok (.invokespecial 53, 3) := by decide +kernel
theorem dX4_addLink_26 : decode cX4_addLink 26 = .ok (.athrow, 1) := by decide +kernel
theorem dX4_addLink_27 : decode cX4_addLink 27 = .ok (.aload_n 0, 1) := by decide +kernel
theorem dX4_addLink_28 : decode cX4_addLink 28 = .ok (.getfield 12, 3) := by decide +kernel
theorem dX4_addLink_31 : decode cX4_addLink 31 = .ok (.iload_n 1, 1) := by decide +kernel
theorem dX4_addLink_32 : decode cX4_addLink 32 = .ok (.invokevirtual 79, 3) := by decide +kernel
theorem dX4_addLink_35 : decode cX4_addLink 35 = .ok (.iconst (-1), 1) := by decide +kernel
theorem dX4_addLink_36 : decode cX4_addLink 36 = .ok (.if_icmp .eq 13, 3) := by decide +kernel
theorem dX4_addLink_39 : decode cX4_addLink 39 = .ok (.new 49, 3) := by decide +kernel
theorem dX4_addLink_42 : decode cX4_addLink 42 = .ok (.dup, 1) := by decide +kernel
theorem dX4_addLink_43 : decode cX4_addLink 43 = .ok (.ldc 82, 2) := by decide +kernel
theorem dX4_addLink_45 : decode cX4_addLink 45 = .ok (.invokespecial 53, 3) := by decide +kernel
theorem dX4_addLink_48 : decode cX4_addLink 48 = .ok (.athrow, 1) := by decide +kernel
theorem dX4_addLink_49 : decode cX4_addLink 49 = .ok (.aload_n 0, 1) := by decide +kernel
theorem dX4_addLink_50 : decode cX4_addLink 50 = .ok (.getfield 12, 3) := by decide +kernel
theorem dX4_addLink_53 : decode cX4_addLink 53 = .ok (.iload_n 1, 1) := by decide +kernel
theorem dX4_addLink_54 : decode cX4_addLink 54 = .ok (.invokevirtual 84, 3) := by decide +kernel
theorem dX4_addLink_57 : decode cX4_addLink 57 = .ok (.ireturn, 1) := by decide +kernel
theorem dX4_veto_0 : decode cX4_veto 0 = .ok (.aload_n 0, 1) := by decide +kernel
theorem dX4_veto_1 : decode cX4_veto 1 = .ok (.iload_n 1, 1) := by decide +kernel
theorem dX4_veto_2 : decode cX4_veto 2 = .ok (.invokevirtual 64, 3) := by decide +kernel
theorem dX4_veto_5 : decode cX4_veto 5 = .ok (.aload_n 0, 1) := by decide +kernel
theorem dX4_veto_6 : decode cX4_veto 6 = .ok (.iload_n 2, 1) := by decide +kernel
theorem dX4_veto_7 : decode cX4_veto 7 = .ok (.invokevirtual 64, 3) := by decide +kernel
theorem dX4_veto_10 : decode cX4_veto 10 = .ok (.iload_n 1, 1) := by decide +kernel
theorem dX4_veto_11 : decode cX4_veto 11 = .ok (.bipush 16, 2) := by decide +kernel
theorem dX4_veto_13 : decode cX4_veto 13 = .ok (.imul, 1) := by decide +kernel
theorem dX4_veto_14 : decode cX4_veto 14 = .ok (.iload_n 2, 1) := by decide +kernel
theorem dX4_veto_15 : decode cX4_veto 15 = .ok (.iadd, 1) := by decide +kernel
theorem dX4_veto_16 : decode cX4_veto 16 = .ok (.istore 4, 2) := by decide +kernel
theorem dX4_veto_18 : decode cX4_veto 18 = .ok (.aload_n 0, 1) := by decide +kernel
theorem dX4_veto_19 : decode cX4_veto 19 = .ok (.getfield 12, 3) := by decide +kernel
theorem dX4_veto_22 : decode cX4_veto 22 = .ok (.getfield 87, 3) := by decide +kernel
theorem dX4_veto_25 : decode cX4_veto 25 = .ok (.iload 4, 2) := by decide +kernel
theorem dX4_veto_27 : decode cX4_veto 27 = .ok (.baload, 1) := by decide +kernel
theorem dX4_veto_28 : decode cX4_veto 28 = .ok (.istore 5, 2) := by decide +kernel
theorem dX4_veto_30 : decode cX4_veto 30 = .ok (.aload_n 0, 1) := by decide +kernel
theorem dX4_veto_31 : decode cX4_veto 31 = .ok (.getfield 12, 3) := by decide +kernel
theorem dX4_veto_34 : decode cX4_veto 34 = .ok (.getfield 87, 3) := by decide +kernel
theorem dX4_veto_37 : decode cX4_veto 37 = .ok (.iload 4, 2) := by decide +kernel
theorem dX4_veto_39 : decode cX4_veto 39 = .ok (.iload_n 3, 1) := by decide +kernel
theorem dX4_veto_40 : decode cX4_veto 40 = .ok (.bastore, 1) := by decide +kernel
theorem dX4_veto_41 : decode cX4_veto 41 = .ok (.iload 5, 2) := by decide +kernel
theorem dX4_veto_43 : decode cX4_veto 43 = .ok (.ireturn, 1) := by decide +kernel
theorem dX4_bar_0 : decode cX4_bar 0 = .ok (.aload_n 0, 1) := by decide +kernel
theorem dX4_bar_1 : decode cX4_bar 1 = .ok (.iload_n 1, 1) := by decide +kernel
theorem dX4_bar_2 : decode cX4_bar 2 = .ok (.invokevirtual 64, 3) := by decide +kernel
theorem dX4_bar_5 : decode cX4_bar 5 = .ok (.iload_n 2, 1) := by decide +kernel
theorem dX4_bar_6 : decode cX4_bar 6 = .ok (.ifCond .lt 14, 3) := by decide +kernel
theorem dX4_bar_9 : decode cX4_bar 9 = .ok (.iload_n 2, 1) := by decide +kernel
theorem dX4_bar_10 : decode cX4_bar 10 = .ok (.aload_n 0, 1) := by decide +kernel
theorem dX4_bar_11 : decode cX4_bar 11 = .ok (.getfield 12, 3) := by decide +kernel
theorem dX4_bar_14 : decode cX4_bar 14 = .ok (.getfield 74, 3) := by decide +kernel
theorem dX4_bar_17 : decode cX4_bar 17 = .ok (.if_icmp .lt 13, 3) := by decide +kernel
theorem dX4_bar_20 : decode cX4_bar 20 = .ok (.new 91, 3) := by decide +kernel
theorem dX4_bar_23 : decode cX4_bar 23 = .ok (.dup, 1) := by decide +kernel
theorem dX4_bar_24 : decode cX4_bar 24 = .ok (.ldc 93, 2) := by decide +kernel
theorem dX4_bar_26 : decode cX4_bar 26 = .ok (.invokespecial 95, 3) := by decide +kernel
theorem dX4_bar_29 : decode cX4_bar 29 = .ok (.athrow, 1) := by decide +kernel
theorem dX4_bar_30 : decode cX4_bar 30 = .ok (.iload_n 1, 1) := by decide +kernel
theorem dX4_bar_31 : decode cX4_bar 31 = .ok (.bipush 6, 2) := by decide +kernel
theorem dX4_bar_33 : decode cX4_bar 33 = .ok (.imul, 1) := by decide +kernel
theorem dX4_bar_34 : decode cX4_bar 34 = .ok (.iload_n 2, 1) := by decide +kernel
theorem dX4_bar_35 : decode cX4_bar 35 = .ok (.iadd, 1) := by decide +kernel
theorem dX4_bar_36 : decode cX4_bar 36 = .ok (.istore 4, 2) := by decide +kernel
theorem dX4_bar_38 : decode cX4_bar 38 = .ok (.aload_n 0, 1) := by decide +kernel
theorem dX4_bar_39 : decode cX4_bar 39 = .ok (.getfield 12, 3) := by decide +kernel
theorem dX4_bar_42 : decode cX4_bar 42 = .ok (.getfield 96, 3) := by decide +kernel
theorem dX4_bar_45 : decode cX4_bar 45 = .ok (.iload 4, 2) := by decide +kernel
theorem dX4_bar_47 : decode cX4_bar 47 = .ok (.baload, 1) := by decide +kernel
theorem dX4_bar_48 : decode cX4_bar 48 = .ok (.istore 5, 2) := by decide +kernel
theorem dX4_bar_50 : decode cX4_bar 50 = .ok (.aload_n 0, 1) := by decide +kernel
theorem dX4_bar_51 : decode cX4_bar 51 = .ok (.getfield 12, 3) := by decide +kernel
theorem dX4_bar_54 : decode cX4_bar 54 = .ok (.getfield 96, 3) := by decide +kernel
theorem dX4_bar_57 : decode cX4_bar 57 = .ok (.iload 4, 2) := by decide +kernel
theorem dX4_bar_59 : decode cX4_bar 59 = .ok (.iload_n 3, 1) := by decide +kernel
theorem dX4_bar_60 : decode cX4_bar 60 = .ok (.bastore, 1) := by decide +kernel
theorem dX4_bar_61 : decode cX4_bar 61 = .ok (.iload 5, 2) := by decide +kernel
theorem dX4_bar_63 : decode cX4_bar 63 = .ok (.ireturn, 1) := by decide +kernel
theorem dX4_parts_0 : decode cX4_parts 0 = .ok (.aload_n 0, 1) := by decide +kernel
theorem dX4_parts_1 : decode cX4_parts 1 = .ok (.getfield 12, 3) := by decide +kernel
theorem dX4_parts_4 : decode cX4_parts 4 = .ok (.getfield 45, 3) := by decide +kernel
theorem dX4_parts_7 : decode cX4_parts 7 = .ok (.ireturn, 1) := by decide +kernel
theorem dX4_count_0 : decode cX4_count 0 = .ok (.aload_n 0, 1) := by decide +kernel
theorem dX4_count_1 : decode cX4_count 1 = .ok (.iload_n 1, 1) := by decide +kernel
theorem dX4_count_2 : decode cX4_count 2 = .ok (.invokevirtual 64, 3) := by decide +kernel
theorem dX4_count_5 : decode cX4_count 5 = .ok (.aload_n 0, 1) := by decide +kernel
theorem dX4_count_6 : decode cX4_count 6 = .ok (.getfield 12, 3) := by decide +kernel
theorem dX4_count_9 : decode cX4_count 9 = .ok (.getfield 99, 3) := by decide +kernel
theorem dX4_count_12 : decode cX4_count 12 = .ok (.iload_n 1, 1) := by decide +kernel
theorem dX4_count_13 : decode cX4_count 13 = .ok (.iaload, 1) := by decide +kernel
theorem dX4_count_14 : decode cX4_count 14 = .ok (.ireturn, 1) := by decide +kernel
theorem dX4_costOf_0 : decode cX4_costOf 0 = .ok (.aload_n 0, 1) := by decide +kernel
theorem dX4_costOf_1 : decode cX4_costOf 1 = .ok (.iload_n 1, 1) := by decide +kernel
theorem dX4_costOf_2 : decode cX4_costOf 2 = .ok (.invokevirtual 64, 3) := by decide +kernel
theorem dX4_costOf_5 : decode cX4_costOf 5 = .ok (.aload_n 0, 1) := by decide +kernel
theorem dX4_costOf_6 : decode cX4_costOf 6 = .ok (.getfield 12, 3) := by decide +kernel
theorem dX4_costOf_9 : decode cX4_costOf 9 = .ok (.getfield 99, 3) := by decide +kernel
theorem dX4_costOf_12 : decode cX4_costOf 12 = .ok (.iload_n 1, 1) := by decide +kernel
theorem dX4_costOf_13 : decode cX4_costOf 13 = .ok (.iaload, 1) := by decide +kernel
theorem dX4_costOf_14 : decode cX4_costOf 14 = .ok (.invokestatic 102, 3) := by decide +kernel
theorem dX4_costOf_17 : decode cX4_costOf 17 = .ok (.ireturn, 1) := by decide +kernel
theorem dX4_find_0 : decode cX4_find 0 = .ok (.iload_n 1, 1) := by decide +kernel
theorem dX4_find_1 : decode cX4_find 1 = .ok (.bipush 8, 2) := by decide +kernel
theorem dX4_find_3 : decode cX4_find 3 = .ok (.invokestatic 32, 3) := by decide +kernel
theorem dX4_find_6 : decode cX4_find 6 = .ok (.aload_n 0, 1) := by decide +kernel
theorem dX4_find_7 : decode cX4_find 7 = .ok (.getfield 12, 3) := by decide +kernel
theorem dX4_find_10 : decode cX4_find 10 = .ok (.iload_n 1, 1) := by decide +kernel
theorem dX4_find_11 : decode cX4_find 11 = .ok (.invokevirtual 54, 3) := by decide +kernel
theorem dX4_find_14 : decode cX4_find 14 = .ok (.ireturn, 1) := by decide +kernel
theorem dX4_nodes_0 : decode cX4_nodes 0 = .ok (.aload_n 0, 1) := by decide +kernel
theorem dX4_nodes_1 : decode cX4_nodes 1 = .ok (.getfield 12, 3) := by decide +kernel
theorem dX4_nodes_4 : decode cX4_nodes 4 = .ok (.getfield 45, 3) := by decide +kernel
theorem dX4_nodes_7 : decode cX4_nodes 7 = .ok (.ifCond .ne 7, 3) := by decide +kernel
theorem dX4_nodes_10 : decode cX4_nodes 10 = .ok (.iconst 0, 1) := by decide +kernel
theorem dX4_nodes_11 : decode cX4_nodes 11 = .ok (.goto 13, 3) := by decide +kernel
theorem dX4_nodes_14 : decode cX4_nodes 14 = .ok (.aload_n 0, 1) := by decide +kernel
theorem dX4_nodes_15 : decode cX4_nodes 15 = .ok (.getfield 12, 3) := by decide +kernel
theorem dX4_nodes_18 : decode cX4_nodes 18 = .ok (.getfield 105, 3) := by decide +kernel
theorem dX4_nodes_21 : decode cX4_nodes 21 = .ok (.invokevirtual 109, 3) := by decide +kernel
theorem dX4_nodes_24 : decode cX4_nodes 24 = .ok (.ireturn, 1) := by decide +kernel
theorem dX4_splits_0 : decode cX4_splits 0 = .ok (.iload_n 1, 1) := by decide +kernel
theorem dX4_splits_1 : decode cX4_splits 1 = .ok (.bipush 8, 2) := by decide +kernel
theorem dX4_splits_3 : decode cX4_splits 3 = .ok (.invokestatic 32, 3) := by decide +kernel
theorem dX4_splits_6 : decode cX4_splits 6 = .ok (.aload_n 0, 1) := by decide +kernel
theorem dX4_splits_7 : decode cX4_splits 7 = .ok (.getfield 21, 3) := by decide +kernel
theorem dX4_splits_10 : decode cX4_splits 10 = .ok (.iload_n 1, 1) := by decide +kernel
theorem dX4_splits_11 : decode cX4_splits 11 = .ok (.invokevirtual 115, 3) := by decide +kernel
theorem dX4_splits_14 : decode cX4_splits 14 = .ok (.aload_n 0, 1) := by decide +kernel
theorem dX4_splits_15 : decode cX4_splits 15 = .ok (.getfield 21, 3) := by decide +kernel
theorem dX4_splits_18 : decode cX4_splits 18 = .ok (.getfield 118, 3) := by decide +kernel
theorem dX4_splits_21 : decode cX4_splits 21 = .ok (.ireturn, 1) := by decide +kernel
theorem dX4_cost_0 : decode cX4_cost 0 = .ok (.aload_n 0, 1) := by decide +kernel
theorem dX4_cost_1 : decode cX4_cost 1 = .ok (.iload_n 1, 1) := by decide +kernel
theorem dX4_cost_2 : decode cX4_cost 2 = .ok (.iload_n 2, 1) := by decide +kernel
theorem dX4_cost_3 : decode cX4_cost 3 = .ok (.invokevirtual 121, 3) := by decide +kernel
theorem dX4_cost_6 : decode cX4_cost 6 = .ok (.lstore_n 3, 1) := by decide +kernel
theorem dX4_cost_7 : decode cX4_cost 7 = .ok (.lload_n 3, 1) := by decide +kernel
theorem dX4_cost_8 : decode cX4_cost 8 = .ok (.ldc2_w 125, 3) := by decide +kernel
theorem dX4_cost_11 : decode cX4_cost 11 = .ok (.lcmp, 1) := by decide +kernel
theorem dX4_cost_12 : decode cX4_cost 12 = .ok (.ifCond .ne 7, 3) := by decide +kernel
theorem dX4_cost_15 : decode cX4_cost 15 = .ok (.iconst (-1), 1) := by decide +kernel
theorem dX4_cost_16 : decode cX4_cost 16 = .ok (.goto 7, 3) := by decide +kernel
theorem dX4_cost_19 : decode cX4_cost 19 = .ok (.lload_n 3, 1) := by decide +kernel
theorem dX4_cost_20 : decode cX4_cost 20 = .ok (.invokestatic 127, 3) := by decide +kernel
theorem dX4_cost_23 : decode cX4_cost 23 = .ok (.ireturn, 1) := by decide +kernel
theorem dX4_size_0 : decode cX4_size 0 = .ok (.aload_n 0, 1) := by decide +kernel
theorem dX4_size_1 : decode cX4_size 1 = .ok (.iload_n 1, 1) := by decide +kernel
theorem dX4_size_2 : decode cX4_size 2 = .ok (.iload_n 2, 1) := by decide +kernel
theorem dX4_size_3 : decode cX4_size 3 = .ok (.invokevirtual 121, 3) := by decide +kernel
theorem dX4_size_6 : decode cX4_size 6 = .ok (.lstore_n 3, 1) := by decide +kernel
theorem dX4_size_7 : decode cX4_size 7 = .ok (.lload_n 3, 1) := by decide +kernel
theorem dX4_size_8 : decode cX4_size 8 = .ok (.ldc2_w 125, 3) := by decide +kernel
theorem dX4_size_11 : decode cX4_size 11 = .ok (.lcmp, 1) := by decide +kernel
theorem dX4_size_12 : decode cX4_size 12 = .ok (.ifCond .ne 7, 3) := by decide +kernel
theorem dX4_size_15 : decode cX4_size 15 = .ok (.iconst (-1), 1) := by decide +kernel
theorem dX4_size_16 : decode cX4_size 16 = .ok (.goto 7, 3) := by decide +kernel
theorem dX4_size_19 : decode cX4_size 19 = .ok (.lload_n 3, 1) := by decide +kernel
theorem dX4_size_20 : decode cX4_size 20 = .ok (.invokestatic 131, 3) := by decide +kernel
theorem dX4_size_23 : decode cX4_size 23 = .ok (.ireturn, 1) := by decide +kernel
theorem dX4_partAt_0 : decode cX4_partAt 0 = .ok (.iload_n 3, 1) := by decide +kernel
theorem dX4_partAt_1 : decode cX4_partAt 1 = .ok (.ifCond .ge 13, 3) := by decide +kernel
theorem dX4_partAt_4 : decode cX4_partAt 4 = .ok (.new 36, 3) := by decide +kernel
theorem dX4_partAt_7 : decode cX4_partAt 7 = .ok (.dup, 1) := by decide +kernel
theorem dX4_partAt_8 : decode cX4_partAt 8 = .ok (.ldc 134, 2) := by decide +kernel
theorem dX4_partAt_10 : decode cX4_partAt 10 = .ok (.invokespecial 40, 3) := by decide +kernel
theorem dX4_partAt_13 : decode cX4_partAt 13 = .ok (.athrow, 1) := by decide +kernel
theorem dX4_partAt_14 : decode cX4_partAt 14 = .ok (.aload_n 0, 1) := by decide +kernel
theorem dX4_partAt_15 : decode cX4_partAt 15 = .ok (.iload_n 1, 1) := by decide +kernel
theorem dX4_partAt_16 : decode cX4_partAt 16 = .ok (.iload_n 2, 1) := by decide +kernel
theorem dX4_partAt_17 : decode cX4_partAt 17 = .ok (.invokevirtual 121, 3) := by decide +kernel
theorem dX4_partAt_20 : decode cX4_partAt 20 = .ok (.lstore 4, 2) := by decide +kernel
theorem dX4_partAt_22 : decode cX4_partAt 22 = .ok (.lload 4, 2) := by decide +kernel
theorem dX4_partAt_24 : decode cX4_partAt 24 = .ok (.ldc2_w 125, 3) := by decide +kernel
theorem dX4_partAt_27 : decode cX4_partAt 27 = .ok (.lcmp, 1) := by decide +kernel
theorem dX4_partAt_28 : decode cX4_partAt 28 = .ok (.ifCond .eq 12, 3) := by decide +kernel
theorem dX4_partAt_31 : decode cX4_partAt 31 = .ok (.iload_n 3, 1) := by decide +kernel
theorem dX4_partAt_32 : decode cX4_partAt 32 = .ok (.lload 4, 2) := by decide +kernel
theorem dX4_partAt_34 : decode cX4_partAt 34 = .ok (.invokestatic 131, 3) := by decide +kernel
theorem dX4_partAt_37 : decode cX4_partAt 37 = .ok (.if_icmp .lt 5, 3) := by decide +kernel
theorem dX4_partAt_40 : decode cX4_partAt 40 = .ok (.iconst (-1), 1) := by decide +kernel
theorem dX4_partAt_41 : decode cX4_partAt 41 = .ok (.ireturn, 1) := by decide +kernel
theorem dX4_partAt_42 : decode cX4_partAt 42 = .ok (.bipush 10, 2) := by decide +kernel
theorem dX4_partAt_44 : decode cX4_partAt 44 = .ok (.aload_n 0, 1) := by decide +kernel
theorem dX4_partAt_45 : decode cX4_partAt 45 = .ok (.getfield 21, 3) := by decide +kernel
theorem dX4_partAt_48 : decode cX4_partAt 48 = .ok (.lload 4, 2) := by decide +kernel
theorem dX4_partAt_50 : decode cX4_partAt 50 = .ok (.iload_n 3, 1) := by decide +kernel
theorem dX4_partAt_51 : decode cX4_partAt 51 = .ok (.invokevirtual 136, 3) := by decide +kernel
theorem dX4_partAt_54 : decode cX4_partAt 54 = .ok (.imul, 1) := by decide +kernel
theorem dX4_partAt_55 : decode cX4_partAt 55 = .ok (.lload 4, 2) := by decide +kernel
theorem dX4_partAt_57 : decode cX4_partAt 57 = .ok (.iload_n 3, 1) := by decide +kernel
theorem dX4_partAt_58 : decode cX4_partAt 58 = .ok (.invokestatic 140, 3) := by decide +kernel
theorem dX4_partAt_61 : decode cX4_partAt 61 = .ok (.iadd, 1) := by decide +kernel
theorem dX4_partAt_62 : decode cX4_partAt 62 = .ok (.iconst 1, 1) := by decide +kernel
theorem dX4_partAt_63 : decode cX4_partAt 63 = .ok (.iadd, 1) := by decide +kernel
theorem dX4_partAt_64 : decode cX4_partAt 64 = .ok (.ireturn, 1) := by decide +kernel
theorem dX4_head_0 : decode cX4_head 0 = .ok (.aload_n 0, 1) := by decide +kernel
theorem dX4_head_1 : decode cX4_head 1 = .ok (.iload_n 1, 1) := by decide +kernel
theorem dX4_head_2 : decode cX4_head 2 = .ok (.iconst 0, 1) := by decide +kernel
theorem dX4_head_3 : decode cX4_head 3 = .ok (.invokevirtual 121, 3) := by decide +kernel
theorem dX4_head_6 : decode cX4_head 6 = .ok (.lstore_n 2, 1) := by decide +kernel
theorem dX4_head_7 : decode cX4_head 7 = .ok (.lload_n 2, 1) := by decide +kernel
theorem dX4_head_8 : decode cX4_head 8 = .ok (.ldc2_w 125, 3) := by decide +kernel
theorem dX4_head_11 : decode cX4_head 11 = .ok (.lcmp, 1) := by decide +kernel
theorem dX4_head_12 : decode cX4_head 12 = .ok (.ifCond .ne 7, 3) := by decide +kernel
theorem dX4_head_15 : decode cX4_head 15 = .ok (.iconst (-1), 1) := by decide +kernel
theorem dX4_head_16 : decode cX4_head 16 = .ok (.goto 17, 3) := by decide +kernel
theorem dX4_head_19 : decode cX4_head 19 = .ok (.aload_n 0, 1) := by decide +kernel
theorem dX4_head_20 : decode cX4_head 20 = .ok (.getfield 21, 3) := by decide +kernel
theorem dX4_head_23 : decode cX4_head 23 = .ok (.lload_n 2, 1) := by decide +kernel
theorem dX4_head_24 : decode cX4_head 24 = .ok (.lload_n 2, 1) := by decide +kernel
theorem dX4_head_25 : decode cX4_head 25 = .ok (.invokestatic 131, 3) := by decide +kernel
theorem dX4_head_28 : decode cX4_head 28 = .ok (.iconst 1, 1) := by decide +kernel
theorem dX4_head_29 : decode cX4_head 29 = .ok (.isub, 1) := by decide +kernel
theorem dX4_head_30 : decode cX4_head 30 = .ok (.invokevirtual 136, 3) := by decide +kernel
theorem dX4_head_33 : decode cX4_head 33 = .ok (.ireturn, 1) := by decide +kernel
theorem dX4_readings_0 : decode cX4_readings 0 = .ok (.iload_n 1, 1) := by decide +kernel
theorem dX4_readings_1 : decode cX4_readings 1 = .ok (.bipush 8, 2) := by decide +kernel
theorem dX4_readings_3 : decode cX4_readings 3 = .ok (.invokestatic 32, 3) := by decide +kernel
theorem dX4_readings_6 : decode cX4_readings 6 = .ok (.aload_n 0, 1) := by decide +kernel
theorem dX4_readings_7 : decode cX4_readings 7 = .ok (.getfield 21, 3) := by decide +kernel
theorem dX4_readings_10 : decode cX4_readings 10 = .ok (.iload_n 1, 1) := by decide +kernel
theorem dX4_readings_11 : decode cX4_readings 11 = .ok (.invokevirtual 115, 3) := by decide +kernel
theorem dX4_readings_14 : decode cX4_readings 14 = .ok (.iconst 0, 1) := by decide +kernel
theorem dX4_readings_15 : decode cX4_readings 15 = .ok (.istore_n 2, 1) := by decide +kernel
theorem dX4_readings_16 : decode cX4_readings 16 = .ok (.iconst 0, 1) := by decide +kernel
theorem dX4_readings_17 : decode cX4_readings 17 = .ok (.istore_n 3, 1) := by decide +kernel
theorem dX4_readings_18 : decode cX4_readings 18 = .ok (.iload_n 3, 1) := by decide +kernel
theorem dX4_readings_19 : decode cX4_readings 19 = .ok (.aload_n 0, 1) := by decide +kernel
theorem dX4_readings_20 : decode cX4_readings 20 = .ok (.getfield 21, 3) := by decide +kernel
theorem dX4_readings_23 : decode cX4_readings 23 = .ok (.getfield 118, 3) := by decide +kernel
theorem dX4_readings_26 : decode cX4_readings 26 = .ok (.if_icmp .ge 53, 3) := by decide +kernel
theorem dX4_readings_29 : decode cX4_readings 29 = .ok (.iload_n 3, 1) := by decide +kernel
theorem dX4_readings_30 : decode cX4_readings 30 = .ok (.aload_n 0, 1) := by decide +kernel
theorem dX4_readings_31 : decode cX4_readings 31 = .ok (.getfield 21, 3) := by decide +kernel
theorem dX4_readings_34 : decode cX4_readings 34 = .ok (.getfield 143, 3) := by decide +kernel
theorem dX4_readings_37 : decode cX4_readings 37 = .ok (.arraylength, 1) := by decide +kernel
theorem dX4_readings_38 : decode cX4_readings 38 = .ok (.if_icmp .ge 41, 3) := by decide +kernel
theorem dX4_readings_41 : decode cX4_readings 41 = .ok (.aload_n 0, 1) := by decide +kernel
theorem dX4_readings_42 : decode cX4_readings 42 = .ok (.getfield 21, 3) := by decide +kernel
theorem dX4_readings_45 : decode cX4_readings 45 = .ok (.getfield 143, 3) := by decide +kernel
theorem dX4_readings_48 : decode cX4_readings 48 = .ok (.iload_n 3, 1) := by decide +kernel
theorem dX4_readings_49 : decode cX4_readings 49 = .ok (.laload, 1) := by decide +kernel
theorem dX4_readings_50 : decode cX4_readings 50 = .ok (.invokestatic 131, 3) := by decide +kernel
theorem dX4_readings_53 : decode cX4_readings 53 = .ok (.istore 4, 2) := by decide +kernel
theorem dX4_readings_55 : decode cX4_readings 55 = .ok (.iload 4, 2) := by decide +kernel
theorem dX4_readings_57 : decode cX4_readings 57 = .ok (.getstatic 147, 3) := by decide +kernel
theorem dX4_readings_60 : decode cX4_readings 60 = .ok (.arraylength, 1) := by decide +kernel
theorem dX4_readings_61 : decode cX4_readings 61 = .ok (.if_icmp .ge 12, 3) := by decide +kernel
theorem dX4_readings_64 : decode cX4_readings 64 = .ok (.iload_n 2, 1) := by decide +kernel
theorem dX4_readings_65 : decode cX4_readings 65 = .ok (.getstatic 147, 3) := by decide +kernel
theorem dX4_readings_68 : decode cX4_readings 68 = .ok (.iload 4, 2) := by decide +kernel
theorem dX4_readings_70 : decode cX4_readings 70 = .ok (.iaload, 1) := by decide +kernel
theorem dX4_readings_71 : decode cX4_readings 71 = .ok (.iadd, 1) := by decide +kernel
theorem dX4_readings_72 : decode cX4_readings 72 = .ok (.istore_n 2, 1) := by decide +kernel
theorem dX4_readings_73 : decode cX4_readings 73 = .ok (.iinc 3 1, 3) := by decide +kernel
theorem dX4_readings_76 : decode cX4_readings 76 = .ok (.goto (-58), 3) := by decide +kernel
theorem dX4_readings_79 : decode cX4_readings 79 = .ok (.iload_n 2, 1) := by decide +kernel
theorem dX4_readings_80 : decode cX4_readings 80 = .ok (.ireturn, 1) := by decide +kernel
theorem dX4_learn_0 : decode cX4_learn 0 = .ok (.iload_n 1, 1) := by decide +kernel
theorem dX4_learn_1 : decode cX4_learn 1 = .ok (.bipush 8, 2) := by decide +kernel
theorem dX4_learn_3 : decode cX4_learn 3 = .ok (.invokestatic 32, 3) := by decide +kernel
theorem dX4_learn_6 : decode cX4_learn 6 = .ok (.aload_n 0, 1) := by decide +kernel
theorem dX4_learn_7 : decode cX4_learn 7 = .ok (.getfield 28, 3) := by decide +kernel
theorem dX4_learn_10 : decode cX4_learn 10 = .ok (.getfield 150, 3) := by decide +kernel
theorem dX4_learn_13 : decode cX4_learn 13 = .ok (.bipush 50, 2) := by decide +kernel
theorem dX4_learn_15 : decode cX4_learn 15 = .ok (.if_icmp .lt 13, 3) := by decide +kernel
theorem dX4_learn_18 : decode cX4_learn 18 = .ok (.new 49, 3) := by decide +kernel
theorem dX4_learn_21 : decode cX4_learn 21 = .ok (.dup, 1) := by decide +kernel
theorem dX4_learn_22 : decode cX4_learn 22 = .ok (.ldc 153, 2) := by decide +kernel
theorem dX4_learn_24 : decode cX4_learn 24 = .ok (.invokespecial 53, 3) := by decide +kernel
theorem dX4_learn_27 : decode cX4_learn 27 = .ok (.athrow, 1) := by decide +kernel
theorem dX4_learn_28 : decode cX4_learn 28 = .ok (.aload_n 0, 1) := by decide +kernel
theorem dX4_learn_29 : decode cX4_learn 29 = .ok (.getfield 21, 3) := by decide +kernel
theorem dX4_learn_32 : decode cX4_learn 32 = .ok (.iload_n 1, 1) := by decide +kernel
theorem dX4_learn_33 : decode cX4_learn 33 = .ok (.invokevirtual 115, 3) := by decide +kernel
theorem dX4_learn_36 : decode cX4_learn 36 = .ok (.aload_n 0, 1) := by decide +kernel
theorem dX4_learn_37 : decode cX4_learn 37 = .ok (.getfield 21, 3) := by decide +kernel
theorem dX4_learn_40 : decode cX4_learn 40 = .ok (.iconst 0, 1) := by decide +kernel
theorem dX4_learn_41 : decode cX4_learn 41 = .ok (.invokevirtual 155, 3) := by decide +kernel
theorem dX4_learn_44 : decode cX4_learn 44 = .ok (.lstore_n 2, 1) := by decide +kernel
theorem dX4_learn_45 : decode cX4_learn 45 = .ok (.lload_n 2, 1) := by decide +kernel
theorem dX4_learn_46 : decode cX4_learn 46 = .ok (.ldc2_w 125, 3) := by decide +kernel
theorem dX4_learn_49 : decode cX4_learn 49 = .ok (.lcmp, 1) := by decide +kernel
theorem dX4_learn_50 : decode cX4_learn 50 = .ok (.ifCond .eq 18, 3) := by decide +kernel
theorem dX4_learn_53 : decode cX4_learn 53 = .ok (.lload_n 2, 1) := by decide +kernel
theorem dX4_learn_54 : decode cX4_learn 54 = .ok (.aload_n 0, 1) := by decide +kernel
theorem dX4_learn_55 : decode cX4_learn 55 = .ok (.getfield 21, 3) := by decide +kernel
theorem dX4_learn_58 : decode cX4_learn 58 = .ok (.iconst 1, 1) := by decide +kernel
theorem dX4_learn_59 : decode cX4_learn 59 = .ok (.invokevirtual 155, 3) := by decide +kernel
theorem dX4_learn_62 : decode cX4_learn 62 = .ok (.invokestatic 159, 3) := by decide +kernel
theorem dX4_learn_65 : decode cX4_learn 65 = .ok (.ifCond .ne 5, 3) := by decide +kernel
theorem dX4_learn_68 : decode cX4_learn 68 = .ok (.iconst 0, 1) := by decide +kernel
theorem dX4_learn_69 : decode cX4_learn 69 = .ok (.ireturn, 1) := by decide +kernel
theorem dX4_learn_70 : decode cX4_learn 70 = .ok (.aload_n 0, 1) := by decide +kernel
theorem dX4_learn_71 : decode cX4_learn 71 = .ok (.getfield 28, 3) := by decide +kernel
theorem dX4_learn_74 : decode cX4_learn 74 = .ok (.iload_n 1, 1) := by decide +kernel
theorem dX4_learn_75 : decode cX4_learn 75 = .ok (.invokevirtual 163, 3) := by decide +kernel
theorem dX4_learn_78 : decode cX4_learn 78 = .ok (.lload_n 2, 1) := by decide +kernel
theorem dX4_learn_79 : decode cX4_learn 79 = .ok (.invokestatic 131, 3) := by decide +kernel
theorem dX4_learn_82 : decode cX4_learn 82 = .ok (.istore 4, 2) := by decide +kernel
theorem dX4_learn_84 : decode cX4_learn 84 = .ok (.iconst 0, 1) := by decide +kernel
theorem dX4_learn_85 : decode cX4_learn 85 = .ok (.istore 5, 2) := by decide +kernel
theorem dX4_learn_87 : decode cX4_learn 87 = .ok (.iload 5, 2) := by decide +kernel
theorem dX4_learn_89 : decode cX4_learn 89 = .ok (.iload 4, 2) := by decide +kernel
theorem dX4_learn_91 : decode cX4_learn 91 = .ok (.if_icmp .ge 26, 3) := by decide +kernel
theorem dX4_learn_94 : decode cX4_learn 94 = .ok (.aload_n 0, 1) := by decide +kernel
theorem dX4_learn_95 : decode cX4_learn 95 = .ok (.getfield 28, 3) := by decide +kernel
theorem dX4_learn_98 : decode cX4_learn 98 = .ok (.aload_n 0, 1) := by decide +kernel
theorem dX4_learn_99 : decode cX4_learn 99 = .ok (.getfield 21, 3) := by decide +kernel
theorem dX4_learn_102 : decode cX4_learn 102 = .ok (.lload_n 2, 1) := by decide +kernel
theorem dX4_learn_103 : decode cX4_learn 103 = .ok (.iload 5, 2) := by decide +kernel
theorem dX4_learn_105 : decode cX4_learn 105 = .ok (.invokevirtual 136, 3) := by decide +kernel
theorem dX4_learn_108 : decode cX4_learn 108 = .ok (.invokevirtual 166, 3) := by decide +kernel
theorem dX4_learn_111 : decode cX4_learn 111 = .ok (.iinc 5 1, 3) := by decide +kernel
theorem dX4_learn_114 : decode cX4_learn 114 = .ok (.goto (-27), 3) := by decide +kernel
theorem dX4_learn_117 : decode cX4_learn 117 = .ok (.iconst 1, 1) := by decide +kernel
theorem dX4_learn_118 : decode cX4_learn 118 = .ok (.ireturn, 1) := by decide +kernel
theorem dX4_forget_0 : decode cX4_forget 0 = .ok (.aload_n 0, 1) := by decide +kernel
theorem dX4_forget_1 : decode cX4_forget 1 = .ok (.getfield 28, 3) := by decide +kernel
theorem dX4_forget_4 : decode cX4_forget 4 = .ok (.getfield 150, 3) := by decide +kernel
theorem dX4_forget_7 : decode cX4_forget 7 = .ok (.ifCond .gt 13, 3) := by decide +kernel
theorem dX4_forget_10 : decode cX4_forget 10 = .ok (.new 49, 3) := by decide +kernel
theorem dX4_forget_13 : decode cX4_forget 13 = .ok (.dup, 1) := by decide +kernel
theorem dX4_forget_14 : decode cX4_forget 14 = .ok (.ldc 169, 2) := by decide +kernel
theorem dX4_forget_16 : decode cX4_forget 16 = .ok (.invokespecial 53, 3) := by decide +kernel
theorem dX4_forget_19 : decode cX4_forget 19 = .ok (.athrow, 1) := by decide +kernel
theorem dX4_forget_20 : decode cX4_forget 20 = .ok (.aload_n 0, 1) := by decide +kernel
theorem dX4_forget_21 : decode cX4_forget 21 = .ok (.getfield 28, 3) := by decide +kernel
theorem dX4_forget_24 : decode cX4_forget 24 = .ok (.invokevirtual 171, 3) := by decide +kernel
theorem dX4_forget_27 : decode cX4_forget 27 = .ok (.ireturn, 1) := by decide +kernel
theorem dX4_learned_0 : decode cX4_learned 0 = .ok (.aload_n 0, 1) := by decide +kernel
theorem dX4_learned_1 : decode cX4_learned 1 = .ok (.getfield 28, 3) := by decide +kernel
theorem dX4_learned_4 : decode cX4_learned 4 = .ok (.getfield 150, 3) := by decide +kernel
theorem dX4_learned_7 : decode cX4_learned 7 = .ok (.ireturn, 1) := by decide +kernel
theorem dX4_needText_0 : decode cX4_needText 0 = .ok (.iload_n 0, 1) := by decide +kernel
theorem dX4_needText_1 : decode cX4_needText 1 = .ok (.invokestatic 174, 3) := by decide +kernel
theorem dX4_needText_4 : decode cX4_needText 4 = .ok (.istore_n 2, 1) := by decide +kernel
theorem dX4_needText_5 : decode cX4_needText 5 = .ok (.iload_n 2, 1) := by decide +kernel
theorem dX4_needText_6 : decode cX4_needText 6 = .ok (.iconst 1, 1) := by decide +kernel
theorem dX4_needText_7 : decode cX4_needText 7 = .ok (.if_icmp .lt 8, 3) := by decide +kernel
theorem dX4_needText_10 : decode cX4_needText 10 = .ok (.iload_n 2, 1) := by decide +kernel
theorem dX4_needText_11 : decode cX4_needText 11 = .ok (.iload_n 1, 1) := by decide +kernel
theorem dX4_needText_12 : decode cX4_needText 12 = .ok (.if_icmp .le 13, 3) := by decide +kernel
theorem dX4_needText_15 : decode cX4_needText 15 = .ok (.new 36, 3) := by decide +kernel
theorem dX4_needText_18 : decode cX4_needText 18 = .ok (.dup, 1) := by decide +kernel
theorem dX4_needText_19 : decode cX4_needText 19 = .ok (.ldc 177, 2) := by decide +kernel
theorem dX4_needText_21 : decode cX4_needText 21 = .ok (.invokespecial 40, 3) := by decide +kernel
theorem dX4_needText_24 : decode cX4_needText 24 = .ok (.athrow, 1) := by decide +kernel
theorem dX4_needText_25 : decode cX4_needText 25 = .ok (.return_, 1) := by decide +kernel
theorem dX4_needPart_0 : decode cX4_needPart 0 = .ok (.iload_n 1, 1) := by decide +kernel
theorem dX4_needPart_1 : decode cX4_needPart 1 = .ok (.ifCond .lt 14, 3) := by decide +kernel
theorem dX4_needPart_4 : decode cX4_needPart 4 = .ok (.iload_n 1, 1) := by decide +kernel
theorem dX4_needPart_5 : decode cX4_needPart 5 = .ok (.aload_n 0, 1) := by decide +kernel
theorem dX4_needPart_6 : decode cX4_needPart 6 = .ok (.getfield 12, 3) := by decide +kernel
theorem dX4_needPart_9 : decode cX4_needPart 9 = .ok (.getfield 45, 3) := by decide +kernel
theorem dX4_needPart_12 : decode cX4_needPart 12 = .ok (.if_icmp .lt 13, 3) := by decide +kernel
theorem dX4_needPart_15 : decode cX4_needPart 15 = .ok (.new 91, 3) := by decide +kernel
theorem dX4_needPart_18 : decode cX4_needPart 18 = .ok (.dup, 1) := by decide +kernel
theorem dX4_needPart_19 : decode cX4_needPart 19 = .ok (.ldc 179, 2) := by decide +kernel
theorem dX4_needPart_21 : decode cX4_needPart 21 = .ok (.invokespecial 95, 3) := by decide +kernel
theorem dX4_needPart_24 : decode cX4_needPart 24 = .ok (.athrow, 1) := by decide +kernel
theorem dX4_needPart_25 : decode cX4_needPart 25 = .ok (.return_, 1) := by decide +kernel
theorem dX4_splitOf_0 : decode cX4_splitOf 0 = .ok (.iload_n 1, 1) := by decide +kernel
theorem dX4_splitOf_1 : decode cX4_splitOf 1 = .ok (.bipush 8, 2) := by decide +kernel
theorem dX4_splitOf_3 : decode cX4_splitOf 3 = .ok (.invokestatic 32, 3) := by decide +kernel
theorem dX4_splitOf_6 : decode cX4_splitOf 6 = .ok (.iload_n 2, 1) := by decide +kernel
theorem dX4_splitOf_7 : decode cX4_splitOf 7 = .ok (.ifCond .ge 13, 3) := by decide +kernel
theorem dX4_splitOf_10 : decode cX4_splitOf 10 = .ok (.new 36, 3) := by decide +kernel
theorem dX4_splitOf_13 : decode cX4_splitOf 13 = .ok (.dup, 1) := by decide +kernel
theorem dX4_splitOf_14 : decode cX4_splitOf 14 = .ok (.ldc 181, 2) := by decide +kernel
theorem dX4_splitOf_16 : decode cX4_splitOf 16 = .ok (.invokespecial 40, 3) := by decide +kernel
theorem dX4_splitOf_19 : decode cX4_splitOf 19 = .ok (.athrow, 1) := by decide +kernel
theorem dX4_splitOf_20 : decode cX4_splitOf 20 = .ok (.aload_n 0, 1) := by decide +kernel
theorem dX4_splitOf_21 : decode cX4_splitOf 21 = .ok (.getfield 21, 3) := by decide +kernel
theorem dX4_splitOf_24 : decode cX4_splitOf 24 = .ok (.iload_n 1, 1) := by decide +kernel
theorem dX4_splitOf_25 : decode cX4_splitOf 25 = .ok (.invokevirtual 115, 3) := by decide +kernel
theorem dX4_splitOf_28 : decode cX4_splitOf 28 = .ok (.aload_n 0, 1) := by decide +kernel
theorem dX4_splitOf_29 : decode cX4_splitOf 29 = .ok (.getfield 21, 3) := by decide +kernel
theorem dX4_splitOf_32 : decode cX4_splitOf 32 = .ok (.iload_n 2, 1) := by decide +kernel
theorem dX4_splitOf_33 : decode cX4_splitOf 33 = .ok (.invokevirtual 155, 3) := by decide +kernel
theorem dX4_splitOf_36 : decode cX4_splitOf 36 = .ok (.lreturn, 1) := by decide +kernel
theorem dX4_isSure_0 : decode cX4_isSure 0 = .ok (.lload_n 2, 1) := by decide +kernel
theorem dX4_isSure_1 : decode cX4_isSure 1 = .ok (.ldc2_w 125, 3) := by decide +kernel
theorem dX4_isSure_4 : decode cX4_isSure 4 = .ok (.lcmp, 1) := by decide +kernel
theorem dX4_isSure_5 : decode cX4_isSure 5 = .ok (.ifCond .eq 17, 3) := by decide +kernel
theorem dX4_isSure_8 : decode cX4_isSure 8 = .ok (.lload_n 2, 1) := by decide +kernel
theorem dX4_isSure_9 : decode cX4_isSure 9 = .ok (.invokestatic 127, 3) := by decide +kernel
theorem dX4_isSure_12 : decode cX4_isSure 12 = .ok (.lload_n 0, 1) := by decide +kernel
theorem dX4_isSure_13 : decode cX4_isSure 13 = .ok (.invokestatic 127, 3) := by decide +kernel
theorem dX4_isSure_16 : decode cX4_isSure 16 = .ok (.isub, 1) := by decide +kernel
theorem dX4_isSure_17 : decode cX4_isSure 17 = .ok (.bipush 20, 2) := by decide +kernel
theorem dX4_isSure_19 : decode cX4_isSure 19 = .ok (.if_icmp .lt 7, 3) := by decide +kernel
theorem dX4_isSure_22 : decode cX4_isSure 22 = .ok (.iconst 1, 1) := by decide +kernel
theorem dX4_isSure_23 : decode cX4_isSure 23 = .ok (.goto 4, 3) := by decide +kernel
theorem dX4_isSure_26 : decode cX4_isSure 26 = .ok (.iconst 0, 1) := by decide +kernel
theorem dX4_isSure_27 : decode cX4_isSure 27 = .ok (.ireturn, 1) := by decide +kernel
theorem dX4_lettersIn_0 : decode cX4_lettersIn 0 = .ok (.bipush 10, 2) := by decide +kernel
theorem dX4_lettersIn_2 : decode cX4_lettersIn 2 = .ok (.istore_n 1, 1) := by decide +kernel
theorem dX4_lettersIn_3 : decode cX4_lettersIn 3 = .ok (.iconst 1, 1) := by decide +kernel
theorem dX4_lettersIn_4 : decode cX4_lettersIn 4 = .ok (.istore_n 2, 1) := by decide +kernel
theorem dX4_lettersIn_5 : decode cX4_lettersIn 5 = .ok (.iload_n 2, 1) := by decide +kernel
theorem dX4_lettersIn_6 : decode cX4_lettersIn 6 = .ok (.bipush 8, 2) := by decide +kernel
theorem dX4_lettersIn_8 : decode cX4_lettersIn 8 = .ok (.if_icmp .gt 28, 3) := by decide +kernel
theorem dX4_lettersIn_11 : decode cX4_lettersIn 11 = .ok (.iload_n 0, 1) := by decide +kernel
theorem dX4_lettersIn_12 : decode cX4_lettersIn 12 = .ok (.iload_n 1, 1) := by decide +kernel
theorem dX4_lettersIn_13 : decode cX4_lettersIn 13 = .ok (.if_icmp .lt 12, 3) := by decide +kernel
theorem dX4_lettersIn_16 : decode cX4_lettersIn 16 = .ok (.iload_n 0, 1) := by decide +kernel
theorem dX4_lettersIn_17 : decode cX4_lettersIn 17 = .ok (.iconst 2, 1) := by decide +kernel
theorem dX4_lettersIn_18 : decode cX4_lettersIn 18 = .ok (.iload_n 1, 1) := by decide +kernel
theorem dX4_lettersIn_19 : decode cX4_lettersIn 19 = .ok (.imul, 1) := by decide +kernel
theorem dX4_lettersIn_20 : decode cX4_lettersIn 20 = .ok (.if_icmp .ge 5, 3) := by decide +kernel
theorem dX4_lettersIn_23 : decode cX4_lettersIn 23 = .ok (.iload_n 2, 1) := by decide +kernel
theorem dX4_lettersIn_24 : decode cX4_lettersIn 24 = .ok (.ireturn, 1) := by decide +kernel
theorem dX4_lettersIn_25 : decode cX4_lettersIn 25 = .ok (.iload_n 1, 1) := by decide +kernel
theorem dX4_lettersIn_26 : decode cX4_lettersIn 26 = .ok (.bipush 10, 2) := by decide +kernel
theorem dX4_lettersIn_28 : decode cX4_lettersIn 28 = .ok (.imul, 1) := by decide +kernel
theorem dX4_lettersIn_29 : decode cX4_lettersIn 29 = .ok (.istore_n 1, 1) := by decide +kernel
theorem dX4_lettersIn_30 : decode cX4_lettersIn 30 = .ok (.iinc 2 1, 3) := by decide +kernel
theorem dX4_lettersIn_33 : decode cX4_lettersIn 33 = .ok (.goto (-28), 3) := by decide +kernel
theorem dX4_lettersIn_36 : decode cX4_lettersIn 36 = .ok (.iconst 0, 1) := by decide +kernel
theorem dX4_lettersIn_37 : decode cX4_lettersIn 37 = .ok (.ireturn, 1) := by decide +kernel
end
section
theorem dX5_init_0 : decode cX5_init 0 = .ok (.aload_n 0, 1) := by decide +kernel
theorem dX5_init_1 : decode cX5_init 1 = .ok (.invokespecial 1, 3) := by decide +kernel
theorem dX5_init_4 : decode cX5_init 4 = .ok (.aload_n 0, 1) := by decide +kernel
theorem dX5_init_5 : decode cX5_init 5 = .ok (.bipush 16, 2) := by decide +kernel
theorem dX5_init_7 : decode cX5_init 7 = .ok (.newarray .int, 2) := by decide +kernel
theorem dX5_init_9 : decode cX5_init 9 = .ok (.putfield 7, 3) := by decide +kernel
theorem dX5_init_12 : decode cX5_init 12 = .ok (.aload_n 0, 1) := by decide +kernel
theorem dX5_init_13 : decode cX5_init 13 = .ok (.bipush 16, 2) := by decide +kernel
theorem dX5_init_15 : decode cX5_init 15 = .ok (.newarray .int, 2) := by decide +kernel
theorem dX5_init_17 : decode cX5_init 17 = .ok (.putfield 13, 3) := by decide +kernel
theorem dX5_init_20 : decode cX5_init 20 = .ok (.aload_n 0, 1) := by decide +kernel
theorem dX5_init_21 : decode cX5_init 21 = .ok (.bipush 16, 2) := by decide +kernel
theorem dX5_init_23 : decode cX5_init 23 = .ok (.newarray .int, 2) := by decide +kernel
theorem dX5_init_25 : decode cX5_init 25 = .ok (.putfield 16, 3) := by decide +kernel
theorem dX5_init_28 : decode cX5_init 28 = .ok (.aload_n 0, 1) := by decide +kernel
theorem dX5_init_29 : decode cX5_init 29 = .ok (.bipush 16, 2) := by decide +kernel
theorem dX5_init_31 : decode cX5_init 31 = .ok (.newarray .int, 2) := by decide +kernel
theorem dX5_init_33 : decode cX5_init 33 = .ok (.putfield 19, 3) := by decide +kernel
theorem dX5_init_36 : decode cX5_init 36 = .ok (.aload_n 0, 1) := by decide +kernel
theorem dX5_init_37 : decode cX5_init 37 = .ok (.bipush 6, 2) := by decide +kernel
theorem dX5_init_39 : decode cX5_init 39 = .ok (.newarray .int, 2) := by decide +kernel
theorem dX5_init_41 : decode cX5_init 41 = .ok (.putfield 22, 3) := by decide +kernel
theorem dX5_init_44 : decode cX5_init 44 = .ok (.aload_n 0, 1) := by decide +kernel
theorem dX5_init_45 : decode cX5_init 45 = .ok (.bipush 6, 2) := by decide +kernel
theorem dX5_init_47 : decode cX5_init 47 = .ok (.newarray .int, 2) := by decide +kernel
theorem dX5_init_49 : decode cX5_init 49 = .ok (.putfield 25, 3) := by decide +kernel
theorem dX5_init_52 : decode cX5_init 52 = .ok (.aload_n 0, 1) := by decide +kernel
theorem dX5_init_53 : decode cX5_init 53 = .ok (.bipush 16, 2) := by decide +kernel
theorem dX5_init_55 : decode cX5_init 55 = .ok (.newarray .int, 2) := by decide +kernel
theorem dX5_init_57 : decode cX5_init 57 = .ok (.putfield 28, 3) := by decide +kernel
theorem dX5_init_60 : decode cX5_init 60 = .ok (.aload_n 0, 1) := by decide +kernel
theorem dX5_init_61 : decode cX5_init 61 = .ok (.bipush 16, 2) := by decide +kernel
theorem dX5_init_63 : decode cX5_init 63 = .ok (.newarray .int, 2) := by decide +kernel
theorem dX5_init_65 : decode cX5_init 65 = .ok (.putfield 31, 3) := by decide +kernel
theorem dX5_init_68 : decode cX5_init 68 = .ok (.aload_n 0, 1) := by decide +kernel
theorem dX5_init_69 : decode cX5_init 69 = .ok (.bipush 50, 2) := by decide +kernel
theorem dX5_init_71 : decode cX5_init 71 = .ok (.newarray .int, 2) := by decide +kernel
theorem dX5_init_73 : decode cX5_init 73 = .ok (.putfield 34, 3) := by decide +kernel
theorem dX5_init_76 : decode cX5_init 76 = .ok (.aload_n 0, 1) := by decide +kernel
theorem dX5_init_77 : decode cX5_init 77 = .ok (.sipush 800, 3) := by decide +kernel
theorem dX5_init_80 : decode cX5_init 80 = .ok (.newarray .int, 2) := by decide +kernel
theorem dX5_init_82 : decode cX5_init 82 = .ok (.putfield 37, 3) := by decide +kernel
theorem dX5_init_85 : decode cX5_init 85 = .ok (.aload_n 0, 1) := by decide +kernel
theorem dX5_init_86 : decode cX5_init 86 = .ok (.bipush 8, 2) := by decide +kernel
theorem dX5_init_88 : decode cX5_init 88 = .ok (.newarray .int, 2) := by decide +kernel
theorem dX5_init_90 : decode cX5_init 90 = .ok (.putfield 40, 3) := by decide +kernel
theorem dX5_init_93 : decode cX5_init 93 = .ok (.aload_n 0, 1) := by decide +kernel
theorem dX5_init_94 : decode cX5_init 94 = .ok (.bipush 8, 2) := by decide +kernel
theorem dX5_init_96 : decode cX5_init 96 = .ok (.newarray .int, 2) := by decide +kernel
theorem dX5_init_98 : decode cX5_init 98 = .ok (.putfield 43, 3) := by decide +kernel
theorem dX5_init_101 : decode cX5_init 101 = .ok (.aload_n 0, 1) := by decide +kernel
theorem dX5_init_102 : decode cX5_init 102 = .ok (.bipush 9, 2) := by decide +kernel
theorem dX5_init_104 : decode cX5_init 104 = .ok (.newarray .int, 2) := by decide +kernel
theorem dX5_init_106 : decode cX5_init 106 = .ok (.putfield 46, 3) := by decide +kernel
theorem dX5_init_109 : decode cX5_init 109 = .ok (.aload_n 0, 1) := by decide +kernel
theorem dX5_init_110 : decode cX5_init 110 = .ok (.bipush 8, 2) := by decide +kernel
theorem dX5_init_112 : decode cX5_init 112 = .ok (.newarray .int, 2) := by decide +kernel
theorem dX5_init_114 : decode cX5_init 114 = .ok (.putfield 49, 3) := by decide +kernel
theorem dX5_init_117 : decode cX5_init 117 = .ok (.aload_n 0, 1) := by decide +kernel
theorem dX5_init_118 : decode cX5_init 118 = .ok (.sipush 640, 3) := by decide +kernel
theorem dX5_init_121 : decode cX5_init 121 = .ok (.newarray .long, 2) := by decide +kernel
theorem dX5_init_123 : decode cX5_init 123 = .ok (.putfield 52, 3) := by decide +kernel
theorem dX5_init_126 : decode cX5_init 126 = .ok (.return_, 1) := by decide +kernel
theorem dX5_thrown_0 : decode cX5_thrown 0 = .ok (.aload_n 0, 1) := by decide +kernel
theorem dX5_thrown_1 : decode cX5_thrown 1 = .ok (.getfield 56, 3) := by decide +kernel
theorem dX5_thrown_4 : decode cX5_thrown 4 = .ok (.ireturn, 1) := by decide +kernel
theorem dX5_in_0 : decode cX5_in 0 = .ok (.iload_n 0, 1) := by decide +kernel
theorem dX5_in_1 : decode cX5_in 1 = .ok (.iload_n 1, 1) := by decide +kernel
theorem dX5_in_2 : decode cX5_in 2 = .ok (.if_icmp .lt 12, 3) := by decide +kernel
theorem dX5_in_5 : decode cX5_in 5 = .ok (.iload_n 0, 1) := by decide +kernel
theorem dX5_in_6 : decode cX5_in 6 = .ok (.iload_n 2, 1) := by decide +kernel
theorem dX5_in_7 : decode cX5_in 7 = .ok (.if_icmp .gt 7, 3) := by decide +kernel
theorem dX5_in_10 : decode cX5_in 10 = .ok (.iconst 1, 1) := by decide +kernel
theorem dX5_in_11 : decode cX5_in 11 = .ok (.goto 4, 3) := by decide +kernel
theorem dX5_in_14 : decode cX5_in 14 = .ok (.iconst 0, 1) := by decide +kernel
theorem dX5_in_15 : decode cX5_in 15 = .ok (.ireturn, 1) := by decide +kernel
theorem dX5_power_0 : decode cX5_power 0 = .ok (.iconst 1, 1) := by decide +kernel
theorem dX5_power_1 : decode cX5_power 1 = .ok (.istore_n 1, 1) := by decide +kernel
theorem dX5_power_2 : decode cX5_power 2 = .ok (.iconst 0, 1) := by decide +kernel
theorem dX5_power_3 : decode cX5_power 3 = .ok (.istore_n 2, 1) := by decide +kernel
theorem dX5_power_4 : decode cX5_power 4 = .ok (.iload_n 2, 1) := by decide +kernel
theorem dX5_power_5 : decode cX5_power 5 = .ok (.iload_n 0, 1) := by decide +kernel
theorem dX5_power_6 : decode cX5_power 6 = .ok (.if_icmp .ge 14, 3) := by decide +kernel
theorem dX5_power_9 : decode cX5_power 9 = .ok (.iload_n 1, 1) := by decide +kernel
theorem dX5_power_10 : decode cX5_power 10 = .ok (.bipush 10, 2) := by decide +kernel
theorem dX5_power_12 : decode cX5_power 12 = .ok (.imul, 1) := by decide +kernel
theorem dX5_power_13 : decode cX5_power 13 = .ok (.istore_n 1, 1) := by decide +kernel
theorem dX5_power_14 : decode cX5_power 14 = .ok (.iinc 2 1, 3) := by decide +kernel
theorem dX5_power_17 : decode cX5_power 17 = .ok (.goto (-13), 3) := by decide +kernel
theorem dX5_power_20 : decode cX5_power 20 = .ok (.iload_n 1, 1) := by decide +kernel
theorem dX5_power_21 : decode cX5_power 21 = .ok (.ireturn, 1) := by decide +kernel
theorem dX5_sizeOf_0 : decode cX5_sizeOf 0 = .ok (.iconst 0, 1) := by decide +kernel
theorem dX5_sizeOf_1 : decode cX5_sizeOf 1 = .ok (.istore_n 2, 1) := by decide +kernel
theorem dX5_sizeOf_2 : decode cX5_sizeOf 2 = .ok (.iconst 1, 1) := by decide +kernel
theorem dX5_sizeOf_3 : decode cX5_sizeOf 3 = .ok (.istore_n 3, 1) := by decide +kernel
theorem dX5_sizeOf_4 : decode cX5_sizeOf 4 = .ok (.iload_n 3, 1) := by decide +kernel
theorem dX5_sizeOf_5 : decode cX5_sizeOf 5 = .ok (.iload_n 1, 1) := by decide +kernel
theorem dX5_sizeOf_6 : decode cX5_sizeOf 6 = .ok (.if_icmp .gt 34, 3) := by decide +kernel
theorem dX5_sizeOf_9 : decode cX5_sizeOf 9 = .ok (.iload_n 0, 1) := by decide +kernel
theorem dX5_sizeOf_10 : decode cX5_sizeOf 10 = .ok (.iload_n 3, 1) := by decide +kernel
theorem dX5_sizeOf_11 : decode cX5_sizeOf 11 = .ok (.invokestatic 60, 3) := by decide +kernel
theorem dX5_sizeOf_14 : decode cX5_sizeOf 14 = .ok (.iconst 2, 1) := by decide +kernel
theorem dX5_sizeOf_15 : decode cX5_sizeOf 15 = .ok (.iload_n 3, 1) := by decide +kernel
theorem dX5_sizeOf_16 : decode cX5_sizeOf 16 = .ok (.invokestatic 60, 3) := by decide +kernel
theorem dX5_sizeOf_19 : decode cX5_sizeOf 19 = .ok (.imul, 1) := by decide +kernel
theorem dX5_sizeOf_20 : decode cX5_sizeOf 20 = .ok (.iconst 1, 1) := by decide +kernel
theorem dX5_sizeOf_21 : decode cX5_sizeOf 21 = .ok (.isub, 1) := by decide +kernel
theorem dX5_sizeOf_22 : decode cX5_sizeOf 22 = .ok (.invokestatic 64, 3) := by decide +kernel
theorem dX5_sizeOf_25 : decode cX5_sizeOf 25 = .ok (.ifCond .eq 7, 3) := by decide +kernel
theorem dX5_sizeOf_28 : decode cX5_sizeOf 28 = .ok (.iload_n 3, 1) := by decide +kernel
theorem dX5_sizeOf_29 : decode cX5_sizeOf 29 = .ok (.goto 4, 3) := by decide +kernel
theorem dX5_sizeOf_32 : decode cX5_sizeOf 32 = .ok (.iload_n 2, 1) := by decide +kernel
theorem dX5_sizeOf_33 : decode cX5_sizeOf 33 = .ok (.istore_n 2, 1) := by decide +kernel
theorem dX5_sizeOf_34 : decode cX5_sizeOf 34 = .ok (.iinc 3 1, 3) := by decide +kernel
theorem dX5_sizeOf_37 : decode cX5_sizeOf 37 = .ok (.goto (-33), 3) := by decide +kernel
theorem dX5_sizeOf_40 : decode cX5_sizeOf 40 = .ok (.iload_n 2, 1) := by decide +kernel
theorem dX5_sizeOf_41 : decode cX5_sizeOf 41 = .ok (.ireturn, 1) := by decide +kernel
theorem dX5_isPart_0 : decode cX5_isPart 0 = .ok (.iload_n 1, 1) := by decide +kernel
theorem dX5_isPart_1 : decode cX5_isPart 1 = .ok (.iconst 0, 1) := by decide +kernel
theorem dX5_isPart_2 : decode cX5_isPart 2 = .ok (.aload_n 0, 1) := by decide +kernel
theorem dX5_isPart_3 : decode cX5_isPart 3 = .ok (.getfield 68, 3) := by decide +kernel
theorem dX5_isPart_6 : decode cX5_isPart 6 = .ok (.iconst 1, 1) := by decide +kernel
theorem dX5_isPart_7 : decode cX5_isPart 7 = .ok (.isub, 1) := by decide +kernel
theorem dX5_isPart_8 : decode cX5_isPart 8 = .ok (.invokestatic 64, 3) := by decide +kernel
theorem dX5_isPart_11 : decode cX5_isPart 11 = .ok (.ireturn, 1) := by decide +kernel
theorem dX5_partWith_0 : decode cX5_partWith 0 = .ok (.iconst (-1), 1) := by decide +kernel
theorem dX5_partWith_1 : decode cX5_partWith 1 = .ok (.istore_n 2, 1) := by decide +kernel
theorem dX5_partWith_2 : decode cX5_partWith 2 = .ok (.iconst 0, 1) := by decide +kernel
theorem dX5_partWith_3 : decode cX5_partWith 3 = .ok (.istore_n 3, 1) := by decide +kernel
theorem dX5_partWith_4 : decode cX5_partWith 4 = .ok (.iload_n 3, 1) := by decide +kernel
theorem dX5_partWith_5 : decode cX5_partWith 5 = .ok (.aload_n 0, 1) := by decide +kernel
theorem dX5_partWith_6 : decode cX5_partWith 6 = .ok (.getfield 68, 3) := by decide +kernel
theorem dX5_partWith_9 : decode cX5_partWith 9 = .ok (.if_icmp .ge 25, 3) := by decide +kernel
theorem dX5_partWith_12 : decode cX5_partWith 12 = .ok (.aload_n 0, 1) := by decide +kernel
theorem dX5_partWith_13 : decode cX5_partWith 13 = .ok (.getfield 7, 3) := by decide +kernel
theorem dX5_partWith_16 : decode cX5_partWith 16 = .ok (.iload_n 3, 1) := by decide +kernel
theorem dX5_partWith_17 : decode cX5_partWith 17 = .ok (.iaload, 1) := by decide +kernel
theorem dX5_partWith_18 : decode cX5_partWith 18 = .ok (.iload_n 1, 1) := by decide +kernel
theorem dX5_partWith_19 : decode cX5_partWith 19 = .ok (.if_icmp .ne 7, 3) := by decide +kernel
theorem dX5_partWith_22 : decode cX5_partWith 22 = .ok (.iload_n 3, 1) := by decide +kernel
theorem dX5_partWith_23 : decode cX5_partWith 23 = .ok (.goto 4, 3) := by decide +kernel
theorem dX5_partWith_26 : decode cX5_partWith 26 = .ok (.iload_n 2, 1) := by decide +kernel
theorem dX5_partWith_27 : decode cX5_partWith 27 = .ok (.istore_n 2, 1) := by decide +kernel
theorem dX5_partWith_28 : decode cX5_partWith 28 = .ok (.iinc 3 1, 3) := by decide +kernel
theorem dX5_partWith_31 : decode cX5_partWith 31 = .ok (.goto (-27), 3) := by decide +kernel
theorem dX5_partWith_34 : decode cX5_partWith 34 = .ok (.iload_n 2, 1) := by decide +kernel
theorem dX5_partWith_35 : decode cX5_partWith 35 = .ok (.ireturn, 1) := by decide +kernel
theorem dX5_addPart_0 : decode cX5_addPart 0 = .ok (.iload_n 1, 1) := by decide +kernel
theorem dX5_addPart_1 : decode cX5_addPart 1 = .ok (.iconst 4, 1) := by decide +kernel
theorem dX5_addPart_2 : decode cX5_addPart 2 = .ok (.invokestatic 71, 3) := by decide +kernel
theorem dX5_addPart_5 : decode cX5_addPart 5 = .ok (.ifCond .le 28, 3) := by decide +kernel
theorem dX5_addPart_8 : decode cX5_addPart 8 = .ok (.iload_n 2, 1) := by decide +kernel
theorem dX5_addPart_9 : decode cX5_addPart 9 = .ok (.iconst 1, 1) := by decide +kernel
theorem dX5_addPart_10 : decode cX5_addPart 10 = .ok (.sipush 9999, 3) := by decide +kernel
theorem dX5_addPart_13 : decode cX5_addPart 13 = .ok (.invokestatic 64, 3) := by decide +kernel
theorem dX5_addPart_16 : decode cX5_addPart 16 = .ok (.ifCond .eq 17, 3) := by decide +kernel
theorem dX5_addPart_19 : decode cX5_addPart 19 = .ok (.iload_n 3, 1) := by decide +kernel
theorem dX5_addPart_20 : decode cX5_addPart 20 = .ok (.iconst 1, 1) := by decide +kernel
theorem dX5_addPart_21 : decode cX5_addPart 21 = .ok (.bipush 7, 2) := by decide +kernel
theorem dX5_addPart_23 : decode cX5_addPart 23 = .ok (.invokestatic 64, 3) := by decide +kernel
theorem dX5_addPart_26 : decode cX5_addPart 26 = .ok (.ifCond .eq 7, 3) := by decide +kernel
theorem dX5_addPart_29 : decode cX5_addPart 29 = .ok (.iconst 1, 1) := by decide +kernel
theorem dX5_addPart_30 : decode cX5_addPart 30 = .ok (.goto 4, 3) := by decide +kernel
theorem dX5_addPart_33 : decode cX5_addPart 33 = .ok (.iconst 0, 1) := by decide +kernel
theorem dX5_addPart_34 : decode cX5_addPart 34 = .ok (.istore 4, 2) := by decide +kernel
theorem dX5_addPart_36 : decode cX5_addPart 36 = .ok (.aload_n 0, 1) := by decide +kernel
theorem dX5_addPart_37 : decode cX5_addPart 37 = .ok (.iload 4, 2) := by decide +kernel
theorem dX5_addPart_39 : decode cX5_addPart 39 = .ok (.ifCond .ne 7, 3) := by decide +kernel
theorem dX5_addPart_42 : decode cX5_addPart 42 = .ok (.iconst 1, 1) := by decide +kernel
theorem dX5_addPart_43 : decode cX5_addPart 43 = .ok (.goto 26, 3) := by decide +kernel
theorem dX5_addPart_46 : decode cX5_addPart 46 = .ok (.aload_n 0, 1) := by decide +kernel
theorem dX5_addPart_47 : decode cX5_addPart 47 = .ok (.getfield 68, 3) := by decide +kernel
theorem dX5_addPart_50 : decode cX5_addPart 50 = .ok (.bipush 16, 2) := by decide +kernel
theorem dX5_addPart_52 : decode cX5_addPart 52 = .ok (.if_icmp .eq 12, 3) := by decide +kernel
theorem dX5_addPart_55 : decode cX5_addPart 55 = .ok (.aload_n 0, 1) := by decide +kernel
theorem dX5_addPart_56 : decode cX5_addPart 56 = .ok (.iload_n 1, 1) := by decide +kernel
theorem dX5_addPart_57 : decode cX5_addPart 57 = .ok (.invokevirtual 75, 3) := by decide +kernel
theorem dX5_addPart_60 : decode cX5_addPart 60 = .ok (.iconst (-1), 1) := by decide +kernel
theorem dX5_addPart_61 : decode cX5_addPart 61 = .ok (.if_icmp .eq 7, 3) := by decide +kernel
theorem dX5_addPart_64 : decode cX5_addPart 64 = .ok (.iconst 2, 1) := by decide +kernel
theorem dX5_addPart_65 : decode cX5_addPart 65 = .ok (.goto 4, 3) := by decide +kernel
theorem dX5_addPart_68 : decode cX5_addPart 68 = .ok (.iconst 0, 1) := by decide +kernel
theorem dX5_addPart_69 : decode cX5_addPart 69 = .ok (.putfield 56, 3) := by decide +kernel
theorem dX5_addPart_72 : decode cX5_addPart 72 = .ok (.aload_n 0, 1) := by decide +kernel
theorem dX5_addPart_73 : decode cX5_addPart 73 = .ok (.getfield 56, 3) := by decide +kernel
theorem dX5_addPart_76 : decode cX5_addPart 76 = .ok (.ifCond .le 5, 3) := by decide +kernel
theorem dX5_addPart_79 : decode cX5_addPart 79 = .ok (.iconst 0, 1) := by decide +kernel
theorem dX5_addPart_80 : decode cX5_addPart 80 = .ok (.ireturn, 1) := by decide +kernel
theorem dX5_addPart_81 : decode cX5_addPart 81 = .ok (.aload_n 0, 1) := by decide +kernel
theorem dX5_addPart_82 : decode cX5_addPart 82 = .ok (.getfield 7, 3) := by decide +kernel
theorem dX5_addPart_85 : decode cX5_addPart 85 = .ok (.aload_n 0, 1) := by decide +kernel
theorem dX5_addPart_86 : decode cX5_addPart 86 = .ok (.getfield 68, 3) := by decide +kernel
theorem dX5_addPart_89 : decode cX5_addPart 89 = .ok (.iload_n 1, 1) := by decide +kernel
theorem dX5_addPart_90 : decode cX5_addPart 90 = .ok (.iastore, 1) := by decide +kernel
theorem dX5_addPart_91 : decode cX5_addPart 91 = .ok (.aload_n 0, 1) := by decide +kernel
theorem dX5_addPart_92 : decode cX5_addPart 92 = .ok (.getfield 13, 3) := by decide +kernel
theorem dX5_addPart_95 : decode cX5_addPart 95 = .ok (.aload_n 0, 1) := by decide +kernel
theorem dX5_addPart_96 : decode cX5_addPart 96 = .ok (.getfield 68, 3) := by decide +kernel
theorem dX5_addPart_99 : decode cX5_addPart 99 = .ok (.iload_n 1, 1) := by decide +kernel
theorem dX5_addPart_100 : decode cX5_addPart 100 = .ok (.iconst 4, 1) := by decide +kernel
theorem dX5_addPart_101 : decode cX5_addPart 101 = .ok (.invokestatic 71, 3) := by decide +kernel
theorem dX5_addPart_104 : decode cX5_addPart 104 = .ok (.iastore, 1) := by decide +kernel
theorem dX5_addPart_105 : decode cX5_addPart 105 = .ok (.aload_n 0, 1) := by decide +kernel
theorem dX5_addPart_106 : decode cX5_addPart 106 = .ok (.getfield 16, 3) := by decide +kernel
theorem dX5_addPart_109 : decode cX5_addPart 109 = .ok (.aload_n 0, 1) := by decide +kernel
theorem dX5_addPart_110 : decode cX5_addPart 110 = .ok (.getfield 68, 3) := by decide +kernel
theorem dX5_addPart_113 : decode cX5_addPart 113 = .ok (.iload_n 2, 1) := by decide +kernel
theorem dX5_addPart_114 : decode cX5_addPart 114 = .ok (.iastore, 1) := by decide +kernel
theorem dX5_addPart_115 : decode cX5_addPart 115 = .ok (.aload_n 0, 1) := by decide +kernel
theorem dX5_addPart_116 : decode cX5_addPart 116 = .ok (.getfield 19, 3) := by decide +kernel
theorem dX5_addPart_119 : decode cX5_addPart 119 = .ok (.aload_n 0, 1) := by decide +kernel
theorem dX5_addPart_120 : decode cX5_addPart 120 = .ok (.getfield 68, 3) := by decide +kernel
theorem dX5_addPart_123 : decode cX5_addPart 123 = .ok (.iload_n 3, 1) := by decide +kernel
theorem dX5_addPart_124 : decode cX5_addPart 124 = .ok (.iastore, 1) := by decide +kernel
theorem dX5_addPart_125 : decode cX5_addPart 125 = .ok (.aload_n 0, 1) := by decide +kernel
theorem dX5_addPart_126 : decode cX5_addPart 126 = .ok (.dup, 1) := by decide +kernel
theorem dX5_addPart_127 : decode cX5_addPart 127 = .ok (.getfield 68, 3) := by decide +kernel
theorem dX5_addPart_130 : decode cX5_addPart 130 = .ok (.iconst 1, 1) := by decide +kernel
theorem dX5_addPart_131 : decode cX5_addPart 131 = .ok (.iadd, 1) := by decide +kernel
theorem dX5_addPart_132 : decode cX5_addPart 132 = .ok (.putfield 68, 3) := by decide +kernel
theorem dX5_addPart_135 : decode cX5_addPart 135 = .ok (.aload_n 0, 1) := by decide +kernel
theorem dX5_addPart_136 : decode cX5_addPart 136 = .ok (.getfield 68, 3) := by decide +kernel
theorem dX5_addPart_139 : decode cX5_addPart 139 = .ok (.iconst 1, 1) := by decide +kernel
theorem dX5_addPart_140 : decode cX5_addPart 140 = .ok (.isub, 1) := by decide +kernel
theorem dX5_addPart_141 : decode cX5_addPart 141 = .ok (.ireturn, 1) := by decide +kernel
theorem dX5_setFlags_0 : decode cX5_setFlags 0 = .ok (.aload_n 0, 1) := by decide +kernel
theorem dX5_setFlags_1 : decode cX5_setFlags 1 = .ok (.aload_n 0, 1) := by decide +kernel
theorem dX5_setFlags_2 : decode cX5_setFlags 2 = .ok (.iload_n 1, 1) := by decide +kernel
theorem dX5_setFlags_3 : decode cX5_setFlags 3 = .ok (.invokevirtual 78, 3) := by decide +kernel
theorem dX5_setFlags_6 : decode cX5_setFlags 6 = .ok (.ifCond .ne 7, 3) := by decide +kernel
theorem dX5_setFlags_9 : decode cX5_setFlags 9 = .ok (.iconst 1, 1) := by decide +kernel
theorem dX5_setFlags_10 : decode cX5_setFlags 10 = .ok (.goto 18, 3) := by decide +kernel
theorem dX5_setFlags_13 : decode cX5_setFlags 13 = .ok (.iload_n 2, 1) := by decide +kernel
theorem dX5_setFlags_14 : decode cX5_setFlags 14 = .ok (.iconst 0, 1) := by decide +kernel
theorem dX5_setFlags_15 : decode cX5_setFlags 15 = .ok (.bipush 7, 2) := by decide +kernel
theorem dX5_setFlags_17 : decode cX5_setFlags 17 = .ok (.invokestatic 64, 3) := by decide +kernel
theorem dX5_setFlags_20 : decode cX5_setFlags 20 = .ok (.ifCond .eq 7, 3) := by decide +kernel
theorem dX5_setFlags_23 : decode cX5_setFlags 23 = .ok (.iconst 0, 1) := by decide +kernel
theorem dX5_setFlags_24 : decode cX5_setFlags 24 = .ok (.goto 4, 3) := by decide +kernel
theorem dX5_setFlags_27 : decode cX5_setFlags 27 = .ok (.iconst 2, 1) := by decide +kernel
theorem dX5_setFlags_28 : decode cX5_setFlags 28 = .ok (.putfield 56, 3) := by decide +kernel
theorem dX5_setFlags_31 : decode cX5_setFlags 31 = .ok (.aload_n 0, 1) := by decide +kernel
theorem dX5_setFlags_32 : decode cX5_setFlags 32 = .ok (.getfield 56, 3) := by decide +kernel
theorem dX5_setFlags_35 : decode cX5_setFlags 35 = .ok (.ifCond .le 5, 3) := by decide +kernel
theorem dX5_setFlags_38 : decode cX5_setFlags 38 = .ok (.iconst 0, 1) := by decide +kernel
theorem dX5_setFlags_39 : decode cX5_setFlags 39 = .ok (.ireturn, 1) := by decide +kernel
theorem dX5_setFlags_40 : decode cX5_setFlags 40 = .ok (.aload_n 0, 1) := by decide +kernel
theorem dX5_setFlags_41 : decode cX5_setFlags 41 = .ok (.getfield 19, 3) := by decide +kernel
theorem dX5_setFlags_44 : decode cX5_setFlags 44 = .ok (.iload_n 1, 1) := by decide +kernel
theorem dX5_setFlags_45 : decode cX5_setFlags 45 = .ok (.iaload, 1) := by decide +kernel
theorem dX5_setFlags_46 : decode cX5_setFlags 46 = .ok (.istore_n 3, 1) := by decide +kernel
theorem dX5_setFlags_47 : decode cX5_setFlags 47 = .ok (.aload_n 0, 1) := by decide +kernel
theorem dX5_setFlags_48 : decode cX5_setFlags 48 = .ok (.getfield 19, 3) := by decide +kernel
theorem dX5_setFlags_51 : decode cX5_setFlags 51 = .ok (.iload_n 1, 1) := by decide +kernel
theorem dX5_setFlags_52 : decode cX5_setFlags 52 = .ok (.iload_n 2, 1) := by decide +kernel
theorem dX5_setFlags_53 : decode cX5_setFlags 53 = .ok (.iastore, 1) := by decide +kernel
theorem dX5_setFlags_54 : decode cX5_setFlags 54 = .ok (.iload_n 3, 1) := by decide +kernel
theorem dX5_setFlags_55 : decode cX5_setFlags 55 = .ok (.ireturn, 1) := by decide +kernel
theorem dX5_addLink_0 : decode cX5_addLink 0 = .ok (.iconst 0, 1) := by decide +kernel
theorem dX5_addLink_1 : decode cX5_addLink 1 = .ok (.istore_n 2, 1) := by decide +kernel
theorem dX5_addLink_2 : decode cX5_addLink 2 = .ok (.iconst 0, 1) := by decide +kernel
theorem dX5_addLink_3 : decode cX5_addLink 3 = .ok (.istore_n 3, 1) := by decide +kernel
theorem dX5_addLink_4 : decode cX5_addLink 4 = .ok (.iload_n 3, 1) := by decide +kernel
theorem dX5_addLink_5 : decode cX5_addLink 5 = .ok (.aload_n 0, 1) := by decide +kernel
theorem dX5_addLink_6 : decode cX5_addLink 6 = .ok (.getfield 82, 3) := by decide +kernel
theorem dX5_addLink_9 : decode cX5_addLink 9 = .ok (.if_icmp .ge 29, 3) := by decide +kernel
theorem dX5_addLink_12 : decode cX5_addLink 12 = .ok (.iload_n 2, 1) := by decide +kernel
theorem dX5_addLink_13 : decode cX5_addLink 13 = .ok (.ifCond .ne 13, 3) := by decide +kernel
theorem dX5_addLink_16 : decode cX5_addLink 16 = .ok (.aload_n 0, 1) := by decide +kernel
theorem dX5_addLink_17 : decode cX5_addLink 17 = .ok (.getfield 22, 3) := by decide +kernel
theorem dX5_addLink_20 : decode cX5_addLink 20 = .ok (.iload_n 3, 1) := by decide +kernel
theorem dX5_addLink_21 : decode cX5_addLink 21 = .ok (.iaload, 1) := by decide +kernel
theorem dX5_addLink_22 : decode cX5_addLink 22 = .ok (.iload_n 1, 1) := by decide +kernel
theorem dX5_addLink_23 : decode cX5_addLink 23 = .ok (.if_icmp .ne 7, 3) := by decide +kernel
theorem dX5_addLink_26 : decode cX5_addLink 26 = .ok (.iconst 1, 1) := by decide +kernel
theorem dX5_addLink_27 : decode cX5_addLink 27 = .ok (.goto 4, 3) := by decide +kernel
theorem dX5_addLink_30 : decode cX5_addLink 30 = .ok (.iconst 0, 1) := by decide +kernel
theorem dX5_addLink_31 : decode cX5_addLink 31 = .ok (.istore_n 2, 1) := by decide +kernel
theorem dX5_addLink_32 : decode cX5_addLink 32 = .ok (.iinc 3 1, 3) := by decide +kernel
theorem dX5_addLink_35 : decode cX5_addLink 35 = .ok (.goto (-31), 3) := by decide +kernel
theorem dX5_addLink_38 : decode cX5_addLink 38 = .ok (.aload_n 0, 1) := by decide +kernel
theorem dX5_addLink_39 : decode cX5_addLink 39 = .ok (.iload_n 1, 1) := by decide +kernel
theorem dX5_addLink_40 : decode cX5_addLink 40 = .ok (.iconst 2, 1) := by decide +kernel
theorem dX5_addLink_41 : decode cX5_addLink 41 = .ok (.invokestatic 71, 3) := by decide +kernel
theorem dX5_addLink_44 : decode cX5_addLink 44 = .ok (.ifCond .ne 7, 3) := by decide +kernel
theorem dX5_addLink_47 : decode cX5_addLink 47 = .ok (.iconst 1, 1) := by decide +kernel
theorem dX5_addLink_48 : decode cX5_addLink 48 = .ok (.goto 21, 3) := by decide +kernel
theorem dX5_addLink_51 : decode cX5_addLink 51 = .ok (.aload_n 0, 1) := by decide +kernel
theorem dX5_addLink_52 : decode cX5_addLink 52 = .ok (.getfield 82, 3) := by decide +kernel
theorem dX5_addLink_55 : decode cX5_addLink 55 = .ok (.bipush 6, 2) := by decide +kernel
theorem dX5_addLink_57 : decode cX5_addLink 57 = .ok (.if_icmp .eq 7, 3) := by decide +kernel
theorem dX5_addLink_60 : decode cX5_addLink 60 = .ok (.iload_n 2, 1) := by decide +kernel
theorem dX5_addLink_61 : decode cX5_addLink 61 = .ok (.ifCond .eq 7, 3) := by decide +kernel
theorem dX5_addLink_64 : decode cX5_addLink 64 = .ok (.iconst 2, 1) := by decide +kernel
theorem dX5_addLink_65 : decode cX5_addLink 65 = .ok (.goto 4, 3) := by decide +kernel
theorem dX5_addLink_68 : decode cX5_addLink 68 = .ok (.iconst 0, 1) := by decide +kernel
theorem dX5_addLink_69 : decode cX5_addLink 69 = .ok (.putfield 56, 3) := by decide +kernel
theorem dX5_addLink_72 : decode cX5_addLink 72 = .ok (.aload_n 0, 1) := by decide +kernel
theorem dX5_addLink_73 : decode cX5_addLink 73 = .ok (.getfield 56, 3) := by decide +kernel
theorem dX5_addLink_76 : decode cX5_addLink 76 = .ok (.ifCond .le 5, 3) := by decide +kernel
theorem dX5_addLink_79 : decode cX5_addLink 79 = .ok (.iconst 0, 1) := by decide +kernel
theorem dX5_addLink_80 : decode cX5_addLink 80 = .ok (.ireturn, 1) := by decide +kernel
theorem dX5_addLink_81 : decode cX5_addLink 81 = .ok (.aload_n 0, 1) := by decide +kernel
theorem dX5_addLink_82 : decode cX5_addLink 82 = .ok (.getfield 22, 3) := by decide +kernel
theorem dX5_addLink_85 : decode cX5_addLink 85 = .ok (.aload_n 0, 1) := by decide +kernel
theorem dX5_addLink_86 : decode cX5_addLink 86 = .ok (.getfield 82, 3) := by decide +kernel
theorem dX5_addLink_89 : decode cX5_addLink 89 = .ok (.iload_n 1, 1) := by decide +kernel
theorem dX5_addLink_90 : decode cX5_addLink 90 = .ok (.iastore, 1) := by decide +kernel
theorem dX5_addLink_91 : decode cX5_addLink 91 = .ok (.aload_n 0, 1) := by decide +kernel
theorem dX5_addLink_92 : decode cX5_addLink 92 = .ok (.getfield 25, 3) := by decide +kernel
theorem dX5_addLink_95 : decode cX5_addLink 95 = .ok (.aload_n 0, 1) := by decide +kernel
theorem dX5_addLink_96 : decode cX5_addLink 96 = .ok (.getfield 82, 3) := by decide +kernel
theorem dX5_addLink_99 : decode cX5_addLink 99 = .ok (.iload_n 1, 1) := by decide +kernel
theorem dX5_addLink_100 : decode cX5_addLink 100 = .ok (.iconst 2, 1) := by decide +kernel
theorem dX5_addLink_101 : decode cX5_addLink 101 = .ok (.invokestatic 71, 3) := by decide +kernel
theorem dX5_addLink_104 : decode cX5_addLink 104 = .ok (.iastore, 1) := by decide +kernel
theorem dX5_addLink_105 : decode cX5_addLink 105 = .ok (.aload_n 0, 1) := by decide +kernel
theorem dX5_addLink_106 : decode cX5_addLink 106 = .ok (.dup, 1) := by decide +kernel
theorem dX5_addLink_107 : decode cX5_addLink 107 = .ok (.getfield 82, 3) := by decide +kernel
theorem dX5_addLink_110 : decode cX5_addLink 110 = .ok (.iconst 1, 1) := by decide +kernel
theorem dX5_addLink_111 : decode cX5_addLink 111 = .ok (.iadd, 1) := by decide +kernel
theorem dX5_addLink_112 : decode cX5_addLink 112 = .ok (.putfield 82, 3) := by decide +kernel
theorem dX5_addLink_115 : decode cX5_addLink 115 = .ok (.aload_n 0, 1) := by decide +kernel
theorem dX5_addLink_116 : decode cX5_addLink 116 = .ok (.getfield 82, 3) := by decide +kernel
theorem dX5_addLink_119 : decode cX5_addLink 119 = .ok (.iconst 1, 1) := by decide +kernel
theorem dX5_addLink_120 : decode cX5_addLink 120 = .ok (.isub, 1) := by decide +kernel
theorem dX5_addLink_121 : decode cX5_addLink 121 = .ok (.ireturn, 1) := by decide +kernel
theorem dX5_veto_0 : decode cX5_veto 0 = .ok (.aload_n 0, 1) := by decide +kernel
theorem dX5_veto_1 : decode cX5_veto 1 = .ok (.aload_n 0, 1) := by decide +kernel
theorem dX5_veto_2 : decode cX5_veto 2 = .ok (.iload_n 1, 1) := by decide +kernel
theorem dX5_veto_3 : decode cX5_veto 3 = .ok (.invokevirtual 78, 3) := by decide +kernel
theorem dX5_veto_6 : decode cX5_veto 6 = .ok (.ifCond .eq 15, 3) := by decide +kernel
theorem dX5_veto_9 : decode cX5_veto 9 = .ok (.aload_n 0, 1) := by decide +kernel
theorem dX5_veto_10 : decode cX5_veto 10 = .ok (.iload_n 2, 1) := by decide +kernel
theorem dX5_veto_11 : decode cX5_veto 11 = .ok (.invokevirtual 78, 3) := by decide +kernel
theorem dX5_veto_14 : decode cX5_veto 14 = .ok (.ifCond .eq 7, 3) := by decide +kernel
theorem dX5_veto_17 : decode cX5_veto 17 = .ok (.iconst 0, 1) := by decide +kernel
theorem dX5_veto_18 : decode cX5_veto 18 = .ok (.goto 4, 3) := by decide +kernel
theorem dX5_veto_21 : decode cX5_veto 21 = .ok (.iconst 1, 1) := by decide +kernel
theorem dX5_veto_22 : decode cX5_veto 22 = .ok (.putfield 56, 3) := by decide +kernel
theorem dX5_veto_25 : decode cX5_veto 25 = .ok (.aload_n 0, 1) := by decide +kernel
theorem dX5_veto_26 : decode cX5_veto 26 = .ok (.getfield 56, 3) := by decide +kernel
theorem dX5_veto_29 : decode cX5_veto 29 = .ok (.ifCond .le 5, 3) := by decide +kernel
theorem dX5_veto_32 : decode cX5_veto 32 = .ok (.iconst 0, 1) := by decide +kernel
theorem dX5_veto_33 : decode cX5_veto 33 = .ok (.ireturn, 1) := by decide +kernel
theorem dX5_veto_34 : decode cX5_veto 34 = .ok (.aload_n 0, 1) := by decide +kernel
theorem dX5_veto_35 : decode cX5_veto 35 = .ok (.getfield 28, 3) := by decide +kernel
theorem dX5_veto_38 : decode cX5_veto 38 = .ok (.iload_n 1, 1) := by decide +kernel
theorem dX5_veto_39 : decode cX5_veto 39 = .ok (.iaload, 1) := by decide +kernel
theorem dX5_veto_40 : decode cX5_veto 40 = .ok (.istore 4, 2) := by decide +kernel
theorem dX5_veto_42 : decode cX5_veto 42 = .ok (.aload_n 0, 1) := by decide +kernel
theorem dX5_veto_43 : decode cX5_veto 43 = .ok (.getfield 28, 3) := by decide +kernel
theorem dX5_veto_46 : decode cX5_veto 46 = .ok (.iload_n 1, 1) := by decide +kernel
theorem dX5_veto_47 : decode cX5_veto 47 = .ok (.iload_n 3, 1) := by decide +kernel
theorem dX5_veto_48 : decode cX5_veto 48 = .ok (.ifCond .eq 12, 3) := by decide +kernel
theorem dX5_veto_51 : decode cX5_veto 51 = .ok (.iload 4, 2) := by decide +kernel
theorem dX5_veto_53 : decode cX5_veto 53 = .ok (.iconst 1, 1) := by decide +kernel
theorem dX5_veto_54 : decode cX5_veto 54 = .ok (.iload_n 2, 1) := by decide +kernel
theorem dX5_veto_55 : decode cX5_veto 55 = .ok (.ishl, 1) := by decide +kernel
theorem dX5_veto_56 : decode cX5_veto 56 = .ok (.ior, 1) := by decide +kernel
theorem dX5_veto_57 : decode cX5_veto 57 = .ok (.goto 11, 3) := by decide +kernel
theorem dX5_veto_60 : decode cX5_veto 60 = .ok (.iload 4, 2) := by decide +kernel
theorem dX5_veto_62 : decode cX5_veto 62 = .ok (.iconst 1, 1) := by decide +kernel
theorem dX5_veto_63 : decode cX5_veto 63 = .ok (.iload_n 2, 1) := by decide +kernel
theorem dX5_veto_64 : decode cX5_veto 64 = .ok (.ishl, 1) := by decide +kernel
theorem dX5_veto_65 : decode cX5_veto 65 = .ok (.iconst (-1), 1) := by decide +kernel
theorem dX5_veto_66 : decode cX5_veto 66 = .ok (.ixor, 1) := by decide +kernel
theorem dX5_veto_67 : decode cX5_veto 67 = .ok (.iand, 1) := by decide +kernel
theorem dX5_veto_68 : decode cX5_veto 68 = .ok (.iastore, 1) := by decide +kernel
theorem dX5_veto_69 : decode cX5_veto 69 = .ok (.iload 4, 2) := by decide +kernel
theorem dX5_veto_71 : decode cX5_veto 71 = .ok (.iload_n 2, 1) := by decide +kernel
theorem dX5_veto_72 : decode cX5_veto 72 = .ok (.ishr, 1) := by decide +kernel
theorem dX5_veto_73 : decode cX5_veto 73 = .ok (.iconst 1, 1) := by decide +kernel
theorem dX5_veto_74 : decode cX5_veto 74 = .ok (.iand, 1) := by decide +kernel
theorem dX5_veto_75 : decode cX5_veto 75 = .ok (.iconst 1, 1) := by decide +kernel
theorem dX5_veto_76 : decode cX5_veto 76 = .ok (.if_icmp .ne 7, 3) := by decide +kernel
theorem dX5_veto_79 : decode cX5_veto 79 = .ok (.iconst 1, 1) := by decide +kernel
theorem dX5_veto_80 : decode cX5_veto 80 = .ok (.goto 4, 3) := by decide +kernel
theorem dX5_veto_83 : decode cX5_veto 83 = .ok (.iconst 0, 1) := by decide +kernel
theorem dX5_veto_84 : decode cX5_veto 84 = .ok (.ireturn, 1) := by decide +kernel
theorem dX5_bar_0 : decode cX5_bar 0 = .ok (.aload_n 0, 1) := by decide +kernel
theorem dX5_bar_1 : decode cX5_bar 1 = .ok (.aload_n 0, 1) := by decide +kernel
theorem dX5_bar_2 : decode cX5_bar 2 = .ok (.iload_n 1, 1) := by decide +kernel
theorem dX5_bar_3 : decode cX5_bar 3 = .ok (.invokevirtual 78, 3) := by decide +kernel
theorem dX5_bar_6 : decode cX5_bar 6 = .ok (.ifCond .eq 21, 3) := by decide +kernel
theorem dX5_bar_9 : decode cX5_bar 9 = .ok (.iload_n 2, 1) := by decide +kernel
theorem dX5_bar_10 : decode cX5_bar 10 = .ok (.iconst 0, 1) := by decide +kernel
theorem dX5_bar_11 : decode cX5_bar 11 = .ok (.aload_n 0, 1) := by decide +kernel
theorem dX5_bar_12 : decode cX5_bar 12 = .ok (.getfield 82, 3) := by decide +kernel
theorem dX5_bar_15 : decode cX5_bar 15 = .ok (.iconst 1, 1) := by decide +kernel
theorem dX5_bar_16 : decode cX5_bar 16 = .ok (.isub, 1) := by decide +kernel
theorem dX5_bar_17 : decode cX5_bar 17 = .ok (.invokestatic 64, 3) := by decide +kernel
theorem dX5_bar_20 : decode cX5_bar 20 = .ok (.ifCond .eq 7, 3) := by decide +kernel
theorem dX5_bar_23 : decode cX5_bar 23 = .ok (.iconst 0, 1) := by decide +kernel
theorem dX5_bar_24 : decode cX5_bar 24 = .ok (.goto 4, 3) := by decide +kernel
theorem dX5_bar_27 : decode cX5_bar 27 = .ok (.iconst 1, 1) := by decide +kernel
theorem dX5_bar_28 : decode cX5_bar 28 = .ok (.putfield 56, 3) := by decide +kernel
theorem dX5_bar_31 : decode cX5_bar 31 = .ok (.aload_n 0, 1) := by decide +kernel
theorem dX5_bar_32 : decode cX5_bar 32 = .ok (.getfield 56, 3) := by decide +kernel
theorem dX5_bar_35 : decode cX5_bar 35 = .ok (.ifCond .le 5, 3) := by decide +kernel
theorem dX5_bar_38 : decode cX5_bar 38 = .ok (.iconst 0, 1) := by decide +kernel
theorem dX5_bar_39 : decode cX5_bar 39 = .ok (.ireturn, 1) := by decide +kernel
theorem dX5_bar_40 : decode cX5_bar 40 = .ok (.aload_n 0, 1) := by decide +kernel
theorem dX5_bar_41 : decode cX5_bar 41 = .ok (.getfield 31, 3) := by decide +kernel
theorem dX5_bar_44 : decode cX5_bar 44 = .ok (.iload_n 1, 1) := by decide +kernel
theorem dX5_bar_45 : decode cX5_bar 45 = .ok (.iaload, 1) := by decide +kernel
theorem dX5_bar_46 : decode cX5_bar 46 = .ok (.istore 4, 2) := by decide +kernel
theorem dX5_bar_48 : decode cX5_bar 48 = .ok (.aload_n 0, 1) := by decide +kernel
theorem dX5_bar_49 : decode cX5_bar 49 = .ok (.getfield 31, 3) := by decide +kernel
theorem dX5_bar_52 : decode cX5_bar 52 = .ok (.iload_n 1, 1) := by decide +kernel
theorem dX5_bar_53 : decode cX5_bar 53 = .ok (.iload_n 3, 1) := by decide +kernel
theorem dX5_bar_54 : decode cX5_bar 54 = .ok (.ifCond .eq 12, 3) := by decide +kernel
theorem dX5_bar_57 : decode cX5_bar 57 = .ok (.iload 4, 2) := by decide +kernel
theorem dX5_bar_59 : decode cX5_bar 59 = .ok (.iconst 1, 1) := by decide +kernel
theorem dX5_bar_60 : decode cX5_bar 60 = .ok (.iload_n 2, 1) := by decide +kernel
theorem dX5_bar_61 : decode cX5_bar 61 = .ok (.ishl, 1) := by decide +kernel
theorem dX5_bar_62 : decode cX5_bar 62 = .ok (.ior, 1) := by decide +kernel
theorem dX5_bar_63 : decode cX5_bar 63 = .ok (.goto 11, 3) := by decide +kernel
theorem dX5_bar_66 : decode cX5_bar 66 = .ok (.iload 4, 2) := by decide +kernel
theorem dX5_bar_68 : decode cX5_bar 68 = .ok (.iconst 1, 1) := by decide +kernel
theorem dX5_bar_69 : decode cX5_bar 69 = .ok (.iload_n 2, 1) := by decide +kernel
theorem dX5_bar_70 : decode cX5_bar 70 = .ok (.ishl, 1) := by decide +kernel
theorem dX5_bar_71 : decode cX5_bar 71 = .ok (.iconst (-1), 1) := by decide +kernel
theorem dX5_bar_72 : decode cX5_bar 72 = .ok (.ixor, 1) := by decide +kernel
theorem dX5_bar_73 : decode cX5_bar 73 = .ok (.iand, 1) := by decide +kernel
theorem dX5_bar_74 : decode cX5_bar 74 = .ok (.iastore, 1) := by decide +kernel
theorem dX5_bar_75 : decode cX5_bar 75 = .ok (.iload 4, 2) := by decide +kernel
theorem dX5_bar_77 : decode cX5_bar 77 = .ok (.iload_n 2, 1) := by decide +kernel
theorem dX5_bar_78 : decode cX5_bar 78 = .ok (.ishr, 1) := by decide +kernel
theorem dX5_bar_79 : decode cX5_bar 79 = .ok (.iconst 1, 1) := by decide +kernel
theorem dX5_bar_80 : decode cX5_bar 80 = .ok (.iand, 1) := by decide +kernel
theorem dX5_bar_81 : decode cX5_bar 81 = .ok (.iconst 1, 1) := by decide +kernel
theorem dX5_bar_82 : decode cX5_bar 82 = .ok (.if_icmp .ne 7, 3) := by decide +kernel
theorem dX5_bar_85 : decode cX5_bar 85 = .ok (.iconst 1, 1) := by decide +kernel
theorem dX5_bar_86 : decode cX5_bar 86 = .ok (.goto 4, 3) := by decide +kernel
theorem dX5_bar_89 : decode cX5_bar 89 = .ok (.iconst 0, 1) := by decide +kernel
theorem dX5_bar_90 : decode cX5_bar 90 = .ok (.ireturn, 1) := by decide +kernel
theorem dX5_parts_0 : decode cX5_parts 0 = .ok (.aload_n 0, 1) := by decide +kernel
theorem dX5_parts_1 : decode cX5_parts 1 = .ok (.iconst 0, 1) := by decide +kernel
theorem dX5_parts_2 : decode cX5_parts 2 = .ok (.putfield 56, 3) := by decide +kernel
theorem dX5_parts_5 : decode cX5_parts 5 = .ok (.aload_n 0, 1) := by decide +kernel
theorem dX5_parts_6 : decode cX5_parts 6 = .ok (.getfield 68, 3) := by decide +kernel
theorem dX5_parts_9 : decode cX5_parts 9 = .ok (.ireturn, 1) := by decide +kernel
theorem dX5_count_0 : decode cX5_count 0 = .ok (.aload_n 0, 1) := by decide +kernel
theorem dX5_count_1 : decode cX5_count 1 = .ok (.aload_n 0, 1) := by decide +kernel
theorem dX5_count_2 : decode cX5_count 2 = .ok (.iload_n 1, 1) := by decide +kernel
theorem dX5_count_3 : decode cX5_count 3 = .ok (.invokevirtual 78, 3) := by decide +kernel
theorem dX5_count_6 : decode cX5_count 6 = .ok (.ifCond .eq 7, 3) := by decide +kernel
theorem dX5_count_9 : decode cX5_count 9 = .ok (.iconst 0, 1) := by decide +kernel
theorem dX5_count_10 : decode cX5_count 10 = .ok (.goto 4, 3) := by decide +kernel
theorem dX5_count_13 : decode cX5_count 13 = .ok (.iconst 1, 1) := by decide +kernel
theorem dX5_count_14 : decode cX5_count 14 = .ok (.putfield 56, 3) := by decide +kernel
theorem dX5_count_17 : decode cX5_count 17 = .ok (.aload_n 0, 1) := by decide +kernel
theorem dX5_count_18 : decode cX5_count 18 = .ok (.getfield 56, 3) := by decide +kernel
theorem dX5_count_21 : decode cX5_count 21 = .ok (.ifCond .le 7, 3) := by decide +kernel
theorem dX5_count_24 : decode cX5_count 24 = .ok (.iconst 0, 1) := by decide +kernel
theorem dX5_count_25 : decode cX5_count 25 = .ok (.goto 9, 3) := by decide +kernel
theorem dX5_count_28 : decode cX5_count 28 = .ok (.aload_n 0, 1) := by decide +kernel
theorem dX5_count_29 : decode cX5_count 29 = .ok (.getfield 16, 3) := by decide +kernel
theorem dX5_count_32 : decode cX5_count 32 = .ok (.iload_n 1, 1) := by decide +kernel
theorem dX5_count_33 : decode cX5_count 33 = .ok (.iaload, 1) := by decide +kernel
theorem dX5_count_34 : decode cX5_count 34 = .ok (.ireturn, 1) := by decide +kernel
theorem dX5_costNow_0 : decode cX5_costNow 0 = .ok (.bipush 10, 2) := by decide +kernel
theorem dX5_costNow_2 : decode cX5_costNow 2 = .ok (.istore_n 2, 1) := by decide +kernel
theorem dX5_costNow_3 : decode cX5_costNow 3 = .ok (.iconst 2, 1) := by decide +kernel
theorem dX5_costNow_4 : decode cX5_costNow 4 = .ok (.aload_n 0, 1) := by decide +kernel
theorem dX5_costNow_5 : decode cX5_costNow 5 = .ok (.getfield 16, 3) := by decide +kernel
theorem dX5_costNow_8 : decode cX5_costNow 8 = .ok (.iload_n 1, 1) := by decide +kernel
theorem dX5_costNow_9 : decode cX5_costNow 9 = .ok (.iaload, 1) := by decide +kernel
theorem dX5_costNow_10 : decode cX5_costNow 10 = .ok (.imul, 1) := by decide +kernel
theorem dX5_costNow_11 : decode cX5_costNow 11 = .ok (.istore_n 3, 1) := by decide +kernel
theorem dX5_costNow_12 : decode cX5_costNow 12 = .ok (.iload_n 3, 1) := by decide +kernel
theorem dX5_costNow_13 : decode cX5_costNow 13 = .ok (.sipush 10000, 3) := by decide +kernel
theorem dX5_costNow_16 : decode cX5_costNow 16 = .ok (.if_icmp .gt 13, 3) := by decide +kernel
theorem dX5_costNow_19 : decode cX5_costNow 19 = .ok (.iinc 2 10, 3) := by decide +kernel
theorem dX5_costNow_22 : decode cX5_costNow 22 = .ok (.iload_n 3, 1) := by decide +kernel
theorem dX5_costNow_23 : decode cX5_costNow 23 = .ok (.iconst 2, 1) := by decide +kernel
theorem dX5_costNow_24 : decode cX5_costNow 24 = .ok (.imul, 1) := by decide +kernel
theorem dX5_costNow_25 : decode cX5_costNow 25 = .ok (.istore_n 3, 1) := by decide +kernel
theorem dX5_costNow_26 : decode cX5_costNow 26 = .ok (.goto (-14), 3) := by decide +kernel
theorem dX5_costNow_29 : decode cX5_costNow 29 = .ok (.iload_n 2, 1) := by decide +kernel
theorem dX5_costNow_30 : decode cX5_costNow 30 = .ok (.ireturn, 1) := by decide +kernel
theorem dX5_costOf_0 : decode cX5_costOf 0 = .ok (.aload_n 0, 1) := by decide +kernel
theorem dX5_costOf_1 : decode cX5_costOf 1 = .ok (.aload_n 0, 1) := by decide +kernel
theorem dX5_costOf_2 : decode cX5_costOf 2 = .ok (.iload_n 1, 1) := by decide +kernel
theorem dX5_costOf_3 : decode cX5_costOf 3 = .ok (.invokevirtual 78, 3) := by decide +kernel
theorem dX5_costOf_6 : decode cX5_costOf 6 = .ok (.ifCond .eq 7, 3) := by decide +kernel
theorem dX5_costOf_9 : decode cX5_costOf 9 = .ok (.iconst 0, 1) := by decide +kernel
theorem dX5_costOf_10 : decode cX5_costOf 10 = .ok (.goto 4, 3) := by decide +kernel
theorem dX5_costOf_13 : decode cX5_costOf 13 = .ok (.iconst 1, 1) := by decide +kernel
theorem dX5_costOf_14 : decode cX5_costOf 14 = .ok (.putfield 56, 3) := by decide +kernel
theorem dX5_costOf_17 : decode cX5_costOf 17 = .ok (.aload_n 0, 1) := by decide +kernel
theorem dX5_costOf_18 : decode cX5_costOf 18 = .ok (.getfield 56, 3) := by decide +kernel
theorem dX5_costOf_21 : decode cX5_costOf 21 = .ok (.ifCond .le 7, 3) := by decide +kernel
theorem dX5_costOf_24 : decode cX5_costOf 24 = .ok (.iconst 0, 1) := by decide +kernel
theorem dX5_costOf_25 : decode cX5_costOf 25 = .ok (.goto 8, 3) := by decide +kernel
theorem dX5_costOf_28 : decode cX5_costOf 28 = .ok (.aload_n 0, 1) := by decide +kernel
theorem dX5_costOf_29 : decode cX5_costOf 29 = .ok (.iload_n 1, 1) := by decide +kernel
theorem dX5_costOf_30 : decode cX5_costOf 30 = .ok (.invokevirtual 85, 3) := by decide +kernel
theorem dX5_costOf_33 : decode cX5_costOf 33 = .ok (.ireturn, 1) := by decide +kernel
theorem dX5_find_0 : decode cX5_find 0 = .ok (.aload_n 0, 1) := by decide +kernel
theorem dX5_find_1 : decode cX5_find 1 = .ok (.iload_n 1, 1) := by decide +kernel
theorem dX5_find_2 : decode cX5_find 2 = .ok (.bipush 8, 2) := by decide +kernel
theorem dX5_find_4 : decode cX5_find 4 = .ok (.invokestatic 71, 3) := by decide +kernel
theorem dX5_find_7 : decode cX5_find 7 = .ok (.ifCond .le 7, 3) := by decide +kernel
theorem dX5_find_10 : decode cX5_find 10 = .ok (.iconst 0, 1) := by decide +kernel
theorem dX5_find_11 : decode cX5_find 11 = .ok (.goto 4, 3) := by decide +kernel
theorem dX5_find_14 : decode cX5_find 14 = .ok (.iconst 1, 1) := by decide +kernel
theorem dX5_find_15 : decode cX5_find 15 = .ok (.putfield 56, 3) := by decide +kernel
theorem dX5_find_18 : decode cX5_find 18 = .ok (.aload_n 0, 1) := by decide +kernel
theorem dX5_find_19 : decode cX5_find 19 = .ok (.getfield 56, 3) := by decide +kernel
theorem dX5_find_22 : decode cX5_find 22 = .ok (.ifCond .le 7, 3) := by decide +kernel
theorem dX5_find_25 : decode cX5_find 25 = .ok (.iconst 0, 1) := by decide +kernel
theorem dX5_find_26 : decode cX5_find 26 = .ok (.goto 8, 3) := by decide +kernel
theorem dX5_find_29 : decode cX5_find 29 = .ok (.aload_n 0, 1) := by decide +kernel
theorem dX5_find_30 : decode cX5_find 30 = .ok (.iload_n 1, 1) := by decide +kernel
theorem dX5_find_31 : decode cX5_find 31 = .ok (.invokevirtual 75, 3) := by decide +kernel
theorem dX5_find_34 : decode cX5_find 34 = .ok (.ireturn, 1) := by decide +kernel
theorem dX5_beginning_0 : decode cX5_beginning 0 = .ok (.aload_n 0, 1) := by decide +kernel
theorem dX5_beginning_1 : decode cX5_beginning 1 = .ok (.getfield 7, 3) := by decide +kernel
theorem dX5_beginning_4 : decode cX5_beginning 4 = .ok (.iload_n 1, 1) := by decide +kernel
theorem dX5_beginning_5 : decode cX5_beginning 5 = .ok (.iaload, 1) := by decide +kernel
theorem dX5_beginning_6 : decode cX5_beginning 6 = .ok (.aload_n 0, 1) := by decide +kernel
theorem dX5_beginning_7 : decode cX5_beginning 7 = .ok (.getfield 13, 3) := by decide +kernel
theorem dX5_beginning_10 : decode cX5_beginning 10 = .ok (.iload_n 1, 1) := by decide +kernel
theorem dX5_beginning_11 : decode cX5_beginning 11 = .ok (.iaload, 1) := by decide +kernel
theorem dX5_beginning_12 : decode cX5_beginning 12 = .ok (.iload_n 2, 1) := by decide +kernel
theorem dX5_beginning_13 : decode cX5_beginning 13 = .ok (.isub, 1) := by decide +kernel
theorem dX5_beginning_14 : decode cX5_beginning 14 = .ok (.invokestatic 60, 3) := by decide +kernel
theorem dX5_beginning_17 : decode cX5_beginning 17 = .ok (.idiv, 1) := by decide +kernel
theorem dX5_beginning_18 : decode cX5_beginning 18 = .ok (.ireturn, 1) := by decide +kernel
theorem dX5_rest_0 : decode cX5_rest 0 = .ok (.aload_n 0, 1) := by decide +kernel
theorem dX5_rest_1 : decode cX5_rest 1 = .ok (.getfield 7, 3) := by decide +kernel
theorem dX5_rest_4 : decode cX5_rest 4 = .ok (.iload_n 1, 1) := by decide +kernel
theorem dX5_rest_5 : decode cX5_rest 5 = .ok (.iaload, 1) := by decide +kernel
theorem dX5_rest_6 : decode cX5_rest 6 = .ok (.aload_n 0, 1) := by decide +kernel
theorem dX5_rest_7 : decode cX5_rest 7 = .ok (.getfield 13, 3) := by decide +kernel
theorem dX5_rest_10 : decode cX5_rest 10 = .ok (.iload_n 1, 1) := by decide +kernel
theorem dX5_rest_11 : decode cX5_rest 11 = .ok (.iaload, 1) := by decide +kernel
theorem dX5_rest_12 : decode cX5_rest 12 = .ok (.iload_n 2, 1) := by decide +kernel
theorem dX5_rest_13 : decode cX5_rest 13 = .ok (.isub, 1) := by decide +kernel
theorem dX5_rest_14 : decode cX5_rest 14 = .ok (.invokestatic 60, 3) := by decide +kernel
theorem dX5_rest_17 : decode cX5_rest 17 = .ok (.irem, 1) := by decide +kernel
theorem dX5_rest_18 : decode cX5_rest 18 = .ok (.aload_n 0, 1) := by decide +kernel
theorem dX5_rest_19 : decode cX5_rest 19 = .ok (.getfield 13, 3) := by decide +kernel
theorem dX5_rest_22 : decode cX5_rest 22 = .ok (.iload_n 1, 1) := by decide +kernel
theorem dX5_rest_23 : decode cX5_rest 23 = .ok (.iaload, 1) := by decide +kernel
theorem dX5_rest_24 : decode cX5_rest 24 = .ok (.iload_n 2, 1) := by decide +kernel
theorem dX5_rest_25 : decode cX5_rest 25 = .ok (.isub, 1) := by decide +kernel
theorem dX5_rest_26 : decode cX5_rest 26 = .ok (.invokestatic 60, 3) := by decide +kernel
theorem dX5_rest_29 : decode cX5_rest 29 = .ok (.iadd, 1) := by decide +kernel
theorem dX5_rest_30 : decode cX5_rest 30 = .ok (.ireturn, 1) := by decide +kernel
theorem dX5_hasRest_0 : decode cX5_hasRest 0 = .ok (.iconst 0, 1) := by decide +kernel
theorem dX5_hasRest_1 : decode cX5_hasRest 1 = .ok (.istore 4, 2) := by decide +kernel
theorem dX5_hasRest_3 : decode cX5_hasRest 3 = .ok (.iconst 0, 1) := by decide +kernel
theorem dX5_hasRest_4 : decode cX5_hasRest 4 = .ok (.istore 5, 2) := by decide +kernel
theorem dX5_hasRest_6 : decode cX5_hasRest 6 = .ok (.iload 5, 2) := by decide +kernel
theorem dX5_hasRest_8 : decode cX5_hasRest 8 = .ok (.aload_n 0, 1) := by decide +kernel
theorem dX5_hasRest_9 : decode cX5_hasRest 9 = .ok (.getfield 68, 3) := by decide +kernel
theorem dX5_hasRest_12 : decode cX5_hasRest 12 = .ok (.if_icmp .ge 71, 3) := by decide +kernel
theorem dX5_hasRest_15 : decode cX5_hasRest 15 = .ok (.aload_n 0, 1) := by decide +kernel
theorem dX5_hasRest_16 : decode cX5_hasRest 16 = .ok (.getfield 13, 3) := by decide +kernel
theorem dX5_hasRest_19 : decode cX5_hasRest 19 = .ok (.iload 5, 2) := by decide +kernel
theorem dX5_hasRest_21 : decode cX5_hasRest 21 = .ok (.iaload, 1) := by decide +kernel
theorem dX5_hasRest_22 : decode cX5_hasRest 22 = .ok (.iload_n 2, 1) := by decide +kernel
theorem dX5_hasRest_23 : decode cX5_hasRest 23 = .ok (.if_icmp .lt 23, 3) := by decide +kernel
theorem dX5_hasRest_26 : decode cX5_hasRest 26 = .ok (.aload_n 0, 1) := by decide +kernel
theorem dX5_hasRest_27 : decode cX5_hasRest 27 = .ok (.iload 5, 2) := by decide +kernel
theorem dX5_hasRest_29 : decode cX5_hasRest 29 = .ok (.iload_n 2, 1) := by decide +kernel
theorem dX5_hasRest_30 : decode cX5_hasRest 30 = .ok (.invokevirtual 88, 3) := by decide +kernel
theorem dX5_hasRest_33 : decode cX5_hasRest 33 = .ok (.aload_n 0, 1) := by decide +kernel
theorem dX5_hasRest_34 : decode cX5_hasRest 34 = .ok (.iload_n 1, 1) := by decide +kernel
theorem dX5_hasRest_35 : decode cX5_hasRest 35 = .ok (.iload_n 2, 1) := by decide +kernel
theorem dX5_hasRest_36 : decode cX5_hasRest 36 = .ok (.invokevirtual 88, 3) := by decide +kernel
theorem dX5_hasRest_39 : decode cX5_hasRest 39 = .ok (.if_icmp .ne 7, 3) := by decide +kernel
theorem dX5_hasRest_42 : decode cX5_hasRest 42 = .ok (.iconst 1, 1) := by decide +kernel
theorem dX5_hasRest_43 : decode cX5_hasRest 43 = .ok (.goto 4, 3) := by decide +kernel
theorem dX5_hasRest_46 : decode cX5_hasRest 46 = .ok (.iconst 0, 1) := by decide +kernel
theorem dX5_hasRest_47 : decode cX5_hasRest 47 = .ok (.istore 6, 2) := by decide +kernel
theorem dX5_hasRest_49 : decode cX5_hasRest 49 = .ok (.iload 4, 2) := by decide +kernel
theorem dX5_hasRest_51 : decode cX5_hasRest 51 = .ok (.ifCond .ne 19, 3) := by decide +kernel
theorem dX5_hasRest_54 : decode cX5_hasRest 54 = .ok (.iload 6, 2) := by decide +kernel
theorem dX5_hasRest_56 : decode cX5_hasRest 56 = .ok (.ifCond .eq 18, 3) := by decide +kernel
theorem dX5_hasRest_59 : decode cX5_hasRest 59 = .ok (.aload_n 0, 1) := by decide +kernel
theorem dX5_hasRest_60 : decode cX5_hasRest 60 = .ok (.iload 5, 2) := by decide +kernel
theorem dX5_hasRest_62 : decode cX5_hasRest 62 = .ok (.iload_n 2, 1) := by decide +kernel
theorem dX5_hasRest_63 : decode cX5_hasRest 63 = .ok (.invokevirtual 91, 3) := by decide +kernel
theorem dX5_hasRest_66 : decode cX5_hasRest 66 = .ok (.iload_n 3, 1) := by decide +kernel
theorem dX5_hasRest_67 : decode cX5_hasRest 67 = .ok (.if_icmp .ne 7, 3) := by decide +kernel
theorem dX5_hasRest_70 : decode cX5_hasRest 70 = .ok (.iconst 1, 1) := by decide +kernel
theorem dX5_hasRest_71 : decode cX5_hasRest 71 = .ok (.goto 4, 3) := by decide +kernel
theorem dX5_hasRest_74 : decode cX5_hasRest 74 = .ok (.iconst 0, 1) := by decide +kernel
theorem dX5_hasRest_75 : decode cX5_hasRest 75 = .ok (.istore 4, 2) := by decide +kernel
theorem dX5_hasRest_77 : decode cX5_hasRest 77 = .ok (.iinc 5 1, 3) := by decide +kernel
theorem dX5_hasRest_80 : decode cX5_hasRest 80 = .ok (.goto (-74), 3) := by decide +kernel
theorem dX5_hasRest_83 : decode cX5_hasRest 83 = .ok (.iload 4, 2) := by decide +kernel
theorem dX5_hasRest_85 : decode cX5_hasRest 85 = .ok (.ireturn, 1) := by decide +kernel
theorem dX5_areRests_0 : decode cX5_areRests 0 = .ok (.iconst 1, 1) := by decide +kernel
theorem dX5_areRests_1 : decode cX5_areRests 1 = .ok (.istore 5, 2) := by decide +kernel
theorem dX5_areRests_3 : decode cX5_areRests 3 = .ok (.iconst 0, 1) := by decide +kernel
theorem dX5_areRests_4 : decode cX5_areRests 4 = .ok (.istore 6, 2) := by decide +kernel
theorem dX5_areRests_6 : decode cX5_areRests 6 = .ok (.iload 6, 2) := by decide +kernel
theorem dX5_areRests_8 : decode cX5_areRests 8 = .ok (.aload_n 0, 1) := by decide +kernel
theorem dX5_areRests_9 : decode cX5_areRests 9 = .ok (.getfield 68, 3) := by decide +kernel
theorem dX5_areRests_12 : decode cX5_areRests 12 = .ok (.if_icmp .ge 77, 3) := by decide +kernel
theorem dX5_areRests_15 : decode cX5_areRests 15 = .ok (.aload_n 0, 1) := by decide +kernel
theorem dX5_areRests_16 : decode cX5_areRests 16 = .ok (.getfield 13, 3) := by decide +kernel
theorem dX5_areRests_19 : decode cX5_areRests 19 = .ok (.iload 6, 2) := by decide +kernel
theorem dX5_areRests_21 : decode cX5_areRests 21 = .ok (.iaload, 1) := by decide +kernel
theorem dX5_areRests_22 : decode cX5_areRests 22 = .ok (.iload_n 2, 1) := by decide +kernel
theorem dX5_areRests_23 : decode cX5_areRests 23 = .ok (.if_icmp .lt 23, 3) := by decide +kernel
theorem dX5_areRests_26 : decode cX5_areRests 26 = .ok (.aload_n 0, 1) := by decide +kernel
theorem dX5_areRests_27 : decode cX5_areRests 27 = .ok (.iload 6, 2) := by decide +kernel
theorem dX5_areRests_29 : decode cX5_areRests 29 = .ok (.iload_n 2, 1) := by decide +kernel
theorem dX5_areRests_30 : decode cX5_areRests 30 = .ok (.invokevirtual 88, 3) := by decide +kernel
theorem dX5_areRests_33 : decode cX5_areRests 33 = .ok (.aload_n 0, 1) := by decide +kernel
theorem dX5_areRests_34 : decode cX5_areRests 34 = .ok (.iload_n 1, 1) := by decide +kernel
theorem dX5_areRests_35 : decode cX5_areRests 35 = .ok (.iload_n 2, 1) := by decide +kernel
theorem dX5_areRests_36 : decode cX5_areRests 36 = .ok (.invokevirtual 88, 3) := by decide +kernel
theorem dX5_areRests_39 : decode cX5_areRests 39 = .ok (.if_icmp .ne 7, 3) := by decide +kernel
theorem dX5_areRests_42 : decode cX5_areRests 42 = .ok (.iconst 1, 1) := by decide +kernel
theorem dX5_areRests_43 : decode cX5_areRests 43 = .ok (.goto 4, 3) := by decide +kernel
theorem dX5_areRests_46 : decode cX5_areRests 46 = .ok (.iconst 0, 1) := by decide +kernel
theorem dX5_areRests_47 : decode cX5_areRests 47 = .ok (.istore 7, 2) := by decide +kernel
theorem dX5_areRests_49 : decode cX5_areRests 49 = .ok (.iload 5, 2) := by decide +kernel
theorem dX5_areRests_51 : decode cX5_areRests 51 = .ok (.ifCond .eq 29, 3) := by decide +kernel
theorem dX5_areRests_54 : decode cX5_areRests 54 = .ok (.iload 7, 2) := by decide +kernel
theorem dX5_areRests_56 : decode cX5_areRests 56 = .ok (.ifCond .eq 20, 3) := by decide +kernel
theorem dX5_areRests_59 : decode cX5_areRests 59 = .ok (.aload_n 0, 1) := by decide +kernel
theorem dX5_areRests_60 : decode cX5_areRests 60 = .ok (.iload_n 3, 1) := by decide +kernel
theorem dX5_areRests_61 : decode cX5_areRests 61 = .ok (.iload 4, 2) := by decide +kernel
theorem dX5_areRests_63 : decode cX5_areRests 63 = .ok (.aload_n 0, 1) := by decide +kernel
theorem dX5_areRests_64 : decode cX5_areRests 64 = .ok (.iload 6, 2) := by decide +kernel
theorem dX5_areRests_66 : decode cX5_areRests 66 = .ok (.iload_n 2, 1) := by decide +kernel
theorem dX5_areRests_67 : decode cX5_areRests 67 = .ok (.invokevirtual 91, 3) := by decide +kernel
theorem dX5_areRests_70 : decode cX5_areRests 70 = .ok (.invokevirtual 94, 3) := by decide +kernel
theorem dX5_areRests_73 : decode cX5_areRests 73 = .ok (.ifCond .eq 7, 3) := by decide +kernel
theorem dX5_areRests_76 : decode cX5_areRests 76 = .ok (.iconst 1, 1) := by decide +kernel
theorem dX5_areRests_77 : decode cX5_areRests 77 = .ok (.goto 4, 3) := by decide +kernel
theorem dX5_areRests_80 : decode cX5_areRests 80 = .ok (.iconst 0, 1) := by decide +kernel
theorem dX5_areRests_81 : decode cX5_areRests 81 = .ok (.istore 5, 2) := by decide +kernel
theorem dX5_areRests_83 : decode cX5_areRests 83 = .ok (.iinc 6 1, 3) := by decide +kernel
theorem dX5_areRests_86 : decode cX5_areRests 86 = .ok (.goto (-80), 3) := by decide +kernel
theorem dX5_areRests_89 : decode cX5_areRests 89 = .ok (.iload 5, 2) := by decide +kernel
theorem dX5_areRests_91 : decode cX5_areRests 91 = .ok (.ireturn, 1) := by decide +kernel
theorem dX5_nodes_0 : decode cX5_nodes 0 = .ok (.aload_n 0, 1) := by decide +kernel
theorem dX5_nodes_1 : decode cX5_nodes 1 = .ok (.iconst 0, 1) := by decide +kernel
theorem dX5_nodes_2 : decode cX5_nodes 2 = .ok (.putfield 56, 3) := by decide +kernel
theorem dX5_nodes_5 : decode cX5_nodes 5 = .ok (.iconst 0, 1) := by decide +kernel
theorem dX5_nodes_6 : decode cX5_nodes 6 = .ok (.istore_n 1, 1) := by decide +kernel
theorem dX5_nodes_7 : decode cX5_nodes 7 = .ok (.iconst 0, 1) := by decide +kernel
theorem dX5_nodes_8 : decode cX5_nodes 8 = .ok (.istore_n 2, 1) := by decide +kernel
theorem dX5_nodes_9 : decode cX5_nodes 9 = .ok (.iload_n 2, 1) := by decide +kernel
theorem dX5_nodes_10 : decode cX5_nodes 10 = .ok (.aload_n 0, 1) := by decide +kernel
theorem dX5_nodes_11 : decode cX5_nodes 11 = .ok (.getfield 68, 3) := by decide +kernel
theorem dX5_nodes_14 : decode cX5_nodes 14 = .ok (.if_icmp .ge 129, 3) := by decide +kernel
theorem dX5_nodes_17 : decode cX5_nodes 17 = .ok (.iconst 0, 1) := by decide +kernel
theorem dX5_nodes_18 : decode cX5_nodes 18 = .ok (.istore_n 3, 1) := by decide +kernel
theorem dX5_nodes_19 : decode cX5_nodes 19 = .ok (.iload_n 3, 1) := by decide +kernel
theorem dX5_nodes_20 : decode cX5_nodes 20 = .ok (.aload_n 0, 1) := by decide +kernel
theorem dX5_nodes_21 : decode cX5_nodes 21 = .ok (.getfield 13, 3) := by decide +kernel
theorem dX5_nodes_24 : decode cX5_nodes 24 = .ok (.iload_n 2, 1) := by decide +kernel
theorem dX5_nodes_25 : decode cX5_nodes 25 = .ok (.iaload, 1) := by decide +kernel
theorem dX5_nodes_26 : decode cX5_nodes 26 = .ok (.if_icmp .gt 111, 3) := by decide +kernel
theorem dX5_nodes_29 : decode cX5_nodes 29 = .ok (.iconst 1, 1) := by decide +kernel
theorem dX5_nodes_30 : decode cX5_nodes 30 = .ok (.istore 4, 2) := by decide +kernel
theorem dX5_nodes_32 : decode cX5_nodes 32 = .ok (.iconst 0, 1) := by decide +kernel
theorem dX5_nodes_33 : decode cX5_nodes 33 = .ok (.istore 5, 2) := by decide +kernel
theorem dX5_nodes_35 : decode cX5_nodes 35 = .ok (.iload 5, 2) := by decide +kernel
theorem dX5_nodes_37 : decode cX5_nodes 37 = .ok (.iload_n 2, 1) := by decide +kernel
theorem dX5_nodes_38 : decode cX5_nodes 38 = .ok (.if_icmp .gt 80, 3) := by decide +kernel
theorem dX5_nodes_41 : decode cX5_nodes 41 = .ok (.iconst 0, 1) := by decide +kernel
theorem dX5_nodes_42 : decode cX5_nodes 42 = .ok (.istore 6, 2) := by decide +kernel
theorem dX5_nodes_44 : decode cX5_nodes 44 = .ok (.iload 6, 2) := by decide +kernel
theorem dX5_nodes_46 : decode cX5_nodes 46 = .ok (.aload_n 0, 1) := by decide +kernel
theorem dX5_nodes_47 : decode cX5_nodes 47 = .ok (.getfield 13, 3) := by decide +kernel
theorem dX5_nodes_50 : decode cX5_nodes 50 = .ok (.iload 5, 2) := by decide +kernel
theorem dX5_nodes_52 : decode cX5_nodes 52 = .ok (.iaload, 1) := by decide +kernel
theorem dX5_nodes_53 : decode cX5_nodes 53 = .ok (.if_icmp .gt 59, 3) := by decide +kernel
theorem dX5_nodes_56 : decode cX5_nodes 56 = .ok (.iload 5, 2) := by decide +kernel
theorem dX5_nodes_58 : decode cX5_nodes 58 = .ok (.iload_n 2, 1) := by decide +kernel
theorem dX5_nodes_59 : decode cX5_nodes 59 = .ok (.if_icmp .lt 9, 3) := by decide +kernel
theorem dX5_nodes_62 : decode cX5_nodes 62 = .ok (.iload 6, 2) := by decide +kernel
theorem dX5_nodes_64 : decode cX5_nodes 64 = .ok (.iload_n 3, 1) := by decide +kernel
theorem dX5_nodes_65 : decode cX5_nodes 65 = .ok (.if_icmp .ge 47, 3) := by decide +kernel
theorem dX5_nodes_68 : decode cX5_nodes 68 = .ok (.iload 4, 2) := by decide +kernel
theorem dX5_nodes_70 : decode cX5_nodes 70 = .ok (.ifCond .eq 33, 3) := by decide +kernel
theorem dX5_nodes_73 : decode cX5_nodes 73 = .ok (.aload_n 0, 1) := by decide +kernel
theorem dX5_nodes_74 : decode cX5_nodes 74 = .ok (.iload_n 2, 1) := by decide +kernel
theorem dX5_nodes_75 : decode cX5_nodes 75 = .ok (.iload_n 3, 1) := by decide +kernel
theorem dX5_nodes_76 : decode cX5_nodes 76 = .ok (.iload 5, 2) := by decide +kernel
theorem dX5_nodes_78 : decode cX5_nodes 78 = .ok (.iload 6, 2) := by decide +kernel
theorem dX5_nodes_80 : decode cX5_nodes 80 = .ok (.invokevirtual 97, 3) := by decide +kernel
theorem dX5_nodes_83 : decode cX5_nodes 83 = .ok (.ifCond .eq 16, 3) := by decide +kernel
theorem dX5_nodes_86 : decode cX5_nodes 86 = .ok (.aload_n 0, 1) := by decide +kernel
theorem dX5_nodes_87 : decode cX5_nodes 87 = .ok (.iload 5, 2) := by decide +kernel
theorem dX5_nodes_89 : decode cX5_nodes 89 = .ok (.iload 6, 2) := by decide +kernel
theorem dX5_nodes_91 : decode cX5_nodes 91 = .ok (.iload_n 2, 1) := by decide +kernel
theorem dX5_nodes_92 : decode cX5_nodes 92 = .ok (.iload_n 3, 1) := by decide +kernel
theorem dX5_nodes_93 : decode cX5_nodes 93 = .ok (.invokevirtual 97, 3) := by decide +kernel
theorem dX5_nodes_96 : decode cX5_nodes 96 = .ok (.ifCond .ne 7, 3) := by decide +kernel
theorem dX5_nodes_99 : decode cX5_nodes 99 = .ok (.iconst 1, 1) := by decide +kernel
theorem dX5_nodes_100 : decode cX5_nodes 100 = .ok (.goto 4, 3) := by decide +kernel
theorem dX5_nodes_103 : decode cX5_nodes 103 = .ok (.iconst 0, 1) := by decide +kernel
theorem dX5_nodes_104 : decode cX5_nodes 104 = .ok (.istore 4, 2) := by decide +kernel
theorem dX5_nodes_106 : decode cX5_nodes 106 = .ok (.iinc 6 1, 3) := by decide +kernel
theorem dX5_nodes_109 : decode cX5_nodes 109 = .ok (.goto (-65), 3) := by decide +kernel
theorem dX5_nodes_112 : decode cX5_nodes 112 = .ok (.iinc 5 1, 3) := by decide +kernel
theorem dX5_nodes_115 : decode cX5_nodes 115 = .ok (.goto (-80), 3) := by decide +kernel
theorem dX5_nodes_118 : decode cX5_nodes 118 = .ok (.iload_n 1, 1) := by decide +kernel
theorem dX5_nodes_119 : decode cX5_nodes 119 = .ok (.iload 4, 2) := by decide +kernel
theorem dX5_nodes_121 : decode cX5_nodes 121 = .ok (.ifCond .eq 7, 3) := by decide +kernel
theorem dX5_nodes_124 : decode cX5_nodes 124 = .ok (.iconst 1, 1) := by decide +kernel
theorem dX5_nodes_125 : decode cX5_nodes 125 = .ok (.goto 4, 3) := by decide +kernel
theorem dX5_nodes_128 : decode cX5_nodes 128 = .ok (.iconst 0, 1) := by decide +kernel
theorem dX5_nodes_129 : decode cX5_nodes 129 = .ok (.iadd, 1) := by decide +kernel
theorem dX5_nodes_130 : decode cX5_nodes 130 = .ok (.istore_n 1, 1) := by decide +kernel
theorem dX5_nodes_131 : decode cX5_nodes 131 = .ok (.iinc 3 1, 3) := by decide +kernel
theorem dX5_nodes_134 : decode cX5_nodes 134 = .ok (.goto (-115), 3) := by decide +kernel
theorem dX5_nodes_137 : decode cX5_nodes 137 = .ok (.iinc 2 1, 3) := by decide +kernel
theorem dX5_nodes_140 : decode cX5_nodes 140 = .ok (.goto (-131), 3) := by decide +kernel
theorem dX5_nodes_143 : decode cX5_nodes 143 = .ok (.iload_n 1, 1) := by decide +kernel
theorem dX5_nodes_144 : decode cX5_nodes 144 = .ok (.ireturn, 1) := by decide +kernel
theorem dX5_takes_0 : decode cX5_takes 0 = .ok (.aload_n 0, 1) := by decide +kernel
theorem dX5_takes_1 : decode cX5_takes 1 = .ok (.iload_n 1, 1) := by decide +kernel
theorem dX5_takes_2 : decode cX5_takes 2 = .ok (.bipush 8, 2) := by decide +kernel
theorem dX5_takes_4 : decode cX5_takes 4 = .ok (.invokestatic 71, 3) := by decide +kernel
theorem dX5_takes_7 : decode cX5_takes 7 = .ok (.putfield 101, 3) := by decide +kernel
theorem dX5_takes_10 : decode cX5_takes 10 = .ok (.iload_n 1, 1) := by decide +kernel
theorem dX5_takes_11 : decode cX5_takes 11 = .ok (.istore_n 2, 1) := by decide +kernel
theorem dX5_takes_12 : decode cX5_takes 12 = .ok (.aload_n 0, 1) := by decide +kernel
theorem dX5_takes_13 : decode cX5_takes 13 = .ok (.getfield 101, 3) := by decide +kernel
theorem dX5_takes_16 : decode cX5_takes 16 = .ok (.iconst 1, 1) := by decide +kernel
theorem dX5_takes_17 : decode cX5_takes 17 = .ok (.isub, 1) := by decide +kernel
theorem dX5_takes_18 : decode cX5_takes 18 = .ok (.istore_n 3, 1) := by decide +kernel
theorem dX5_takes_19 : decode cX5_takes 19 = .ok (.iload_n 3, 1) := by decide +kernel
theorem dX5_takes_20 : decode cX5_takes 20 = .ok (.ifCond .lt 24, 3) := by decide +kernel
theorem dX5_takes_23 : decode cX5_takes 23 = .ok (.aload_n 0, 1) := by decide +kernel
theorem dX5_takes_24 : decode cX5_takes 24 = .ok (.getfield 40, 3) := by decide +kernel
theorem dX5_takes_27 : decode cX5_takes 27 = .ok (.iload_n 3, 1) := by decide +kernel
theorem dX5_takes_28 : decode cX5_takes 28 = .ok (.iload_n 2, 1) := by decide +kernel
theorem dX5_takes_29 : decode cX5_takes 29 = .ok (.bipush 10, 2) := by decide +kernel
theorem dX5_takes_31 : decode cX5_takes 31 = .ok (.irem, 1) := by decide +kernel
theorem dX5_takes_32 : decode cX5_takes 32 = .ok (.iastore, 1) := by decide +kernel
theorem dX5_takes_33 : decode cX5_takes 33 = .ok (.iload_n 2, 1) := by decide +kernel
theorem dX5_takes_34 : decode cX5_takes 34 = .ok (.bipush 10, 2) := by decide +kernel
theorem dX5_takes_36 : decode cX5_takes 36 = .ok (.idiv, 1) := by decide +kernel
theorem dX5_takes_37 : decode cX5_takes 37 = .ok (.istore_n 2, 1) := by decide +kernel
theorem dX5_takes_38 : decode cX5_takes 38 = .ok (.iinc 3 (-1), 3) := by decide +kernel
theorem dX5_takes_41 : decode cX5_takes 41 = .ok (.goto (-22), 3) := by decide +kernel
theorem dX5_takes_44 : decode cX5_takes 44 = .ok (.aload_n 0, 1) := by decide +kernel
theorem dX5_takes_45 : decode cX5_takes 45 = .ok (.getfield 101, 3) := by decide +kernel
theorem dX5_takes_48 : decode cX5_takes 48 = .ok (.ifCond .le 7, 3) := by decide +kernel
theorem dX5_takes_51 : decode cX5_takes 51 = .ok (.iconst 1, 1) := by decide +kernel
theorem dX5_takes_52 : decode cX5_takes 52 = .ok (.goto 4, 3) := by decide +kernel
theorem dX5_takes_55 : decode cX5_takes 55 = .ok (.iconst 0, 1) := by decide +kernel
theorem dX5_takes_56 : decode cX5_takes 56 = .ok (.ireturn, 1) := by decide +kernel
theorem dX5_textAt_0 : decode cX5_textAt 0 = .ok (.iload_n 1, 1) := by decide +kernel
theorem dX5_textAt_1 : decode cX5_textAt 1 = .ok (.iload_n 2, 1) := by decide +kernel
theorem dX5_textAt_2 : decode cX5_textAt 2 = .ok (.iadd, 1) := by decide +kernel
theorem dX5_textAt_3 : decode cX5_textAt 3 = .ok (.aload_n 0, 1) := by decide +kernel
theorem dX5_textAt_4 : decode cX5_textAt 4 = .ok (.getfield 101, 3) := by decide +kernel
theorem dX5_textAt_7 : decode cX5_textAt 7 = .ok (.if_icmp .le 7, 3) := by decide +kernel
theorem dX5_textAt_10 : decode cX5_textAt 10 = .ok (.iconst (-1), 1) := by decide +kernel
theorem dX5_textAt_11 : decode cX5_textAt 11 = .ok (.goto 4, 3) := by decide +kernel
theorem dX5_textAt_14 : decode cX5_textAt 14 = .ok (.iconst 1, 1) := by decide +kernel
theorem dX5_textAt_15 : decode cX5_textAt 15 = .ok (.istore_n 3, 1) := by decide +kernel
theorem dX5_textAt_16 : decode cX5_textAt 16 = .ok (.iload_n 1, 1) := by decide +kernel
theorem dX5_textAt_17 : decode cX5_textAt 17 = .ok (.istore 4, 2) := by decide +kernel
theorem dX5_textAt_19 : decode cX5_textAt 19 = .ok (.iload 4, 2) := by decide +kernel
theorem dX5_textAt_21 : decode cX5_textAt 21 = .ok (.iload_n 1, 1) := by decide +kernel
theorem dX5_textAt_22 : decode cX5_textAt 22 = .ok (.iload_n 2, 1) := by decide +kernel
theorem dX5_textAt_23 : decode cX5_textAt 23 = .ok (.iadd, 1) := by decide +kernel
theorem dX5_textAt_24 : decode cX5_textAt 24 = .ok (.if_icmp .ge 27, 3) := by decide +kernel
theorem dX5_textAt_27 : decode cX5_textAt 27 = .ok (.iload_n 3, 1) := by decide +kernel
theorem dX5_textAt_28 : decode cX5_textAt 28 = .ok (.iconst (-1), 1) := by decide +kernel
theorem dX5_textAt_29 : decode cX5_textAt 29 = .ok (.if_icmp .eq 22, 3) := by decide +kernel
theorem dX5_textAt_32 : decode cX5_textAt 32 = .ok (.bipush 10, 2) := by decide +kernel
theorem dX5_textAt_34 : decode cX5_textAt 34 = .ok (.iload_n 3, 1) := by decide +kernel
theorem dX5_textAt_35 : decode cX5_textAt 35 = .ok (.imul, 1) := by decide +kernel
theorem dX5_textAt_36 : decode cX5_textAt 36 = .ok (.aload_n 0, 1) := by decide +kernel
theorem dX5_textAt_37 : decode cX5_textAt 37 = .ok (.getfield 40, 3) := by decide +kernel
theorem dX5_textAt_40 : decode cX5_textAt 40 = .ok (.iload 4, 2) := by decide +kernel
theorem dX5_textAt_42 : decode cX5_textAt 42 = .ok (.iaload, 1) := by decide +kernel
theorem dX5_textAt_43 : decode cX5_textAt 43 = .ok (.iadd, 1) := by decide +kernel
theorem dX5_textAt_44 : decode cX5_textAt 44 = .ok (.istore_n 3, 1) := by decide +kernel
theorem dX5_textAt_45 : decode cX5_textAt 45 = .ok (.iinc 4 1, 3) := by decide +kernel
theorem dX5_textAt_48 : decode cX5_textAt 48 = .ok (.goto (-29), 3) := by decide +kernel
theorem dX5_textAt_51 : decode cX5_textAt 51 = .ok (.iload_n 3, 1) := by decide +kernel
theorem dX5_textAt_52 : decode cX5_textAt 52 = .ok (.ireturn, 1) := by decide +kernel
theorem dX5_goesOn_0 : decode cX5_goesOn 0 = .ok (.iconst 4, 1) := by decide +kernel
theorem dX5_goesOn_1 : decode cX5_goesOn 1 = .ok (.iload_n 1, 1) := by decide +kernel
theorem dX5_goesOn_2 : decode cX5_goesOn 2 = .ok (.bipush 7, 2) := by decide +kernel
theorem dX5_goesOn_4 : decode cX5_goesOn 4 = .ok (.idiv, 1) := by decide +kernel
theorem dX5_goesOn_5 : decode cX5_goesOn 5 = .ok (.isub, 1) := by decide +kernel
theorem dX5_goesOn_6 : decode cX5_goesOn 6 = .ok (.istore_n 2, 1) := by decide +kernel
theorem dX5_goesOn_7 : decode cX5_goesOn 7 = .ok (.iload_n 1, 1) := by decide +kernel
theorem dX5_goesOn_8 : decode cX5_goesOn 8 = .ok (.bipush 7, 2) := by decide +kernel
theorem dX5_goesOn_10 : decode cX5_goesOn 10 = .ok (.irem, 1) := by decide +kernel
theorem dX5_goesOn_11 : decode cX5_goesOn 11 = .ok (.iconst 1, 1) := by decide +kernel
theorem dX5_goesOn_12 : decode cX5_goesOn 12 = .ok (.isub, 1) := by decide +kernel
theorem dX5_goesOn_13 : decode cX5_goesOn 13 = .ok (.istore_n 3, 1) := by decide +kernel
theorem dX5_goesOn_14 : decode cX5_goesOn 14 = .ok (.aload_n 0, 1) := by decide +kernel
theorem dX5_goesOn_15 : decode cX5_goesOn 15 = .ok (.getfield 46, 3) := by decide +kernel
theorem dX5_goesOn_18 : decode cX5_goesOn 18 = .ok (.aload_n 0, 1) := by decide +kernel
theorem dX5_goesOn_19 : decode cX5_goesOn 19 = .ok (.getfield 104, 3) := by decide +kernel
theorem dX5_goesOn_22 : decode cX5_goesOn 22 = .ok (.iaload, 1) := by decide +kernel
theorem dX5_goesOn_23 : decode cX5_goesOn 23 = .ok (.istore 4, 2) := by decide +kernel
theorem dX5_goesOn_25 : decode cX5_goesOn 25 = .ok (.aload_n 0, 1) := by decide +kernel
theorem dX5_goesOn_26 : decode cX5_goesOn 26 = .ok (.aload_n 0, 1) := by decide +kernel
theorem dX5_goesOn_27 : decode cX5_goesOn 27 = .ok (.iload 4, 2) := by decide +kernel
theorem dX5_goesOn_29 : decode cX5_goesOn 29 = .ok (.iload_n 2, 1) := by decide +kernel
theorem dX5_goesOn_30 : decode cX5_goesOn 30 = .ok (.invokevirtual 107, 3) := by decide +kernel
theorem dX5_goesOn_33 : decode cX5_goesOn 33 = .ok (.invokevirtual 75, 3) := by decide +kernel
theorem dX5_goesOn_36 : decode cX5_goesOn 36 = .ok (.istore 5, 2) := by decide +kernel
theorem dX5_goesOn_38 : decode cX5_goesOn 38 = .ok (.iload 5, 2) := by decide +kernel
theorem dX5_goesOn_40 : decode cX5_goesOn 40 = .ok (.iconst (-1), 1) := by decide +kernel
theorem dX5_goesOn_41 : decode cX5_goesOn 41 = .ok (.if_icmp .eq 35, 3) := by decide +kernel
theorem dX5_goesOn_44 : decode cX5_goesOn 44 = .ok (.aload_n 0, 1) := by decide +kernel
theorem dX5_goesOn_45 : decode cX5_goesOn 45 = .ok (.getfield 104, 3) := by decide +kernel
theorem dX5_goesOn_48 : decode cX5_goesOn 48 = .ok (.ifCond .le 30, 3) := by decide +kernel
theorem dX5_goesOn_51 : decode cX5_goesOn 51 = .ok (.aload_n 0, 1) := by decide +kernel
theorem dX5_goesOn_52 : decode cX5_goesOn 52 = .ok (.getfield 28, 3) := by decide +kernel
theorem dX5_goesOn_55 : decode cX5_goesOn 55 = .ok (.aload_n 0, 1) := by decide +kernel
theorem dX5_goesOn_56 : decode cX5_goesOn 56 = .ok (.getfield 49, 3) := by decide +kernel
theorem dX5_goesOn_59 : decode cX5_goesOn 59 = .ok (.aload_n 0, 1) := by decide +kernel
theorem dX5_goesOn_60 : decode cX5_goesOn 60 = .ok (.getfield 104, 3) := by decide +kernel
theorem dX5_goesOn_63 : decode cX5_goesOn 63 = .ok (.iconst 1, 1) := by decide +kernel
theorem dX5_goesOn_64 : decode cX5_goesOn 64 = .ok (.isub, 1) := by decide +kernel
theorem dX5_goesOn_65 : decode cX5_goesOn 65 = .ok (.iaload, 1) := by decide +kernel
theorem dX5_goesOn_66 : decode cX5_goesOn 66 = .ok (.iaload, 1) := by decide +kernel
theorem dX5_goesOn_67 : decode cX5_goesOn 67 = .ok (.iload 5, 2) := by decide +kernel
theorem dX5_goesOn_69 : decode cX5_goesOn 69 = .ok (.ishr, 1) := by decide +kernel
theorem dX5_goesOn_70 : decode cX5_goesOn 70 = .ok (.iconst 1, 1) := by decide +kernel
theorem dX5_goesOn_71 : decode cX5_goesOn 71 = .ok (.iand, 1) := by decide +kernel
theorem dX5_goesOn_72 : decode cX5_goesOn 72 = .ok (.iconst 1, 1) := by decide +kernel
theorem dX5_goesOn_73 : decode cX5_goesOn 73 = .ok (.if_icmp .ne 5, 3) := by decide +kernel
theorem dX5_goesOn_76 : decode cX5_goesOn 76 = .ok (.iconst 0, 1) := by decide +kernel
theorem dX5_goesOn_77 : decode cX5_goesOn 77 = .ok (.ireturn, 1) := by decide +kernel
theorem dX5_goesOn_78 : decode cX5_goesOn 78 = .ok (.iload 4, 2) := by decide +kernel
theorem dX5_goesOn_80 : decode cX5_goesOn 80 = .ok (.iload_n 2, 1) := by decide +kernel
theorem dX5_goesOn_81 : decode cX5_goesOn 81 = .ok (.iadd, 1) := by decide +kernel
theorem dX5_goesOn_82 : decode cX5_goesOn 82 = .ok (.istore 6, 2) := by decide +kernel
theorem dX5_goesOn_84 : decode cX5_goesOn 84 = .ok (.iload 6, 2) := by decide +kernel
theorem dX5_goesOn_86 : decode cX5_goesOn 86 = .ok (.aload_n 0, 1) := by decide +kernel
theorem dX5_goesOn_87 : decode cX5_goesOn 87 = .ok (.getfield 101, 3) := by decide +kernel
theorem dX5_goesOn_90 : decode cX5_goesOn 90 = .ok (.if_icmp .ne 7, 3) := by decide +kernel
theorem dX5_goesOn_93 : decode cX5_goesOn 93 = .ok (.iconst 1, 1) := by decide +kernel
theorem dX5_goesOn_94 : decode cX5_goesOn 94 = .ok (.goto 4, 3) := by decide +kernel
theorem dX5_goesOn_97 : decode cX5_goesOn 97 = .ok (.iconst 0, 1) := by decide +kernel
theorem dX5_goesOn_98 : decode cX5_goesOn 98 = .ok (.istore 7, 2) := by decide +kernel
theorem dX5_goesOn_100 : decode cX5_goesOn 100 = .ok (.aload_n 0, 1) := by decide +kernel
theorem dX5_goesOn_101 : decode cX5_goesOn 101 = .ok (.getfield 104, 3) := by decide +kernel
theorem dX5_goesOn_104 : decode cX5_goesOn 104 = .ok (.ifCond .ne 7, 3) := by decide +kernel
theorem dX5_goesOn_107 : decode cX5_goesOn 107 = .ok (.iconst 1, 1) := by decide +kernel
theorem dX5_goesOn_108 : decode cX5_goesOn 108 = .ok (.goto 4, 3) := by decide +kernel
theorem dX5_goesOn_111 : decode cX5_goesOn 111 = .ok (.iconst 0, 1) := by decide +kernel
theorem dX5_goesOn_112 : decode cX5_goesOn 112 = .ok (.iload 7, 2) := by decide +kernel
theorem dX5_goesOn_114 : decode cX5_goesOn 114 = .ok (.ifCond .eq 7, 3) := by decide +kernel
theorem dX5_goesOn_117 : decode cX5_goesOn 117 = .ok (.iconst 4, 1) := by decide +kernel
theorem dX5_goesOn_118 : decode cX5_goesOn 118 = .ok (.goto 4, 3) := by decide +kernel
theorem dX5_goesOn_121 : decode cX5_goesOn 121 = .ok (.iconst 0, 1) := by decide +kernel
theorem dX5_goesOn_122 : decode cX5_goesOn 122 = .ok (.ior, 1) := by decide +kernel
theorem dX5_goesOn_123 : decode cX5_goesOn 123 = .ok (.aload_n 0, 1) := by decide +kernel
theorem dX5_goesOn_124 : decode cX5_goesOn 124 = .ok (.getfield 104, 3) := by decide +kernel
theorem dX5_goesOn_127 : decode cX5_goesOn 127 = .ok (.ifCond .le 12, 3) := by decide +kernel
theorem dX5_goesOn_130 : decode cX5_goesOn 130 = .ok (.iload 7, 2) := by decide +kernel
theorem dX5_goesOn_132 : decode cX5_goesOn 132 = .ok (.ifCond .ne 7, 3) := by decide +kernel
theorem dX5_goesOn_135 : decode cX5_goesOn 135 = .ok (.iconst 2, 1) := by decide +kernel
theorem dX5_goesOn_136 : decode cX5_goesOn 136 = .ok (.goto 4, 3) := by decide +kernel
theorem dX5_goesOn_139 : decode cX5_goesOn 139 = .ok (.iconst 0, 1) := by decide +kernel
theorem dX5_goesOn_140 : decode cX5_goesOn 140 = .ok (.ior, 1) := by decide +kernel
theorem dX5_goesOn_141 : decode cX5_goesOn 141 = .ok (.istore 8, 2) := by decide +kernel
theorem dX5_goesOn_143 : decode cX5_goesOn 143 = .ok (.aload_n 0, 1) := by decide +kernel
theorem dX5_goesOn_144 : decode cX5_goesOn 144 = .ok (.getfield 19, 3) := by decide +kernel
theorem dX5_goesOn_147 : decode cX5_goesOn 147 = .ok (.iload 5, 2) := by decide +kernel
theorem dX5_goesOn_149 : decode cX5_goesOn 149 = .ok (.iaload, 1) := by decide +kernel
theorem dX5_goesOn_150 : decode cX5_goesOn 150 = .ok (.iload 8, 2) := by decide +kernel
theorem dX5_goesOn_152 : decode cX5_goesOn 152 = .ok (.iand, 1) := by decide +kernel
theorem dX5_goesOn_153 : decode cX5_goesOn 153 = .ok (.iload 8, 2) := by decide +kernel
theorem dX5_goesOn_155 : decode cX5_goesOn 155 = .ok (.if_icmp .ne 7, 3) := by decide +kernel
theorem dX5_goesOn_158 : decode cX5_goesOn 158 = .ok (.iconst 1, 1) := by decide +kernel
theorem dX5_goesOn_159 : decode cX5_goesOn 159 = .ok (.goto 4, 3) := by decide +kernel
theorem dX5_goesOn_162 : decode cX5_goesOn 162 = .ok (.iconst 0, 1) := by decide +kernel
theorem dX5_goesOn_163 : decode cX5_goesOn 163 = .ok (.istore 9, 2) := by decide +kernel
theorem dX5_goesOn_165 : decode cX5_goesOn 165 = .ok (.iload_n 3, 1) := by decide +kernel
theorem dX5_goesOn_166 : decode cX5_goesOn 166 = .ok (.iconst (-1), 1) := by decide +kernel
theorem dX5_goesOn_167 : decode cX5_goesOn 167 = .ok (.if_icmp .eq 143, 3) := by decide +kernel
theorem dX5_goesOn_170 : decode cX5_goesOn 170 = .ok (.iload 9, 2) := by decide +kernel
theorem dX5_goesOn_172 : decode cX5_goesOn 172 = .ok (.ifCond .eq 34, 3) := by decide +kernel
theorem dX5_goesOn_175 : decode cX5_goesOn 175 = .ok (.iload 7, 2) := by decide +kernel
theorem dX5_goesOn_177 : decode cX5_goesOn 177 = .ok (.ifCond .ne 29, 3) := by decide +kernel
theorem dX5_goesOn_180 : decode cX5_goesOn 180 = .ok (.iload_n 3, 1) := by decide +kernel
theorem dX5_goesOn_181 : decode cX5_goesOn 181 = .ok (.aload_n 0, 1) := by decide +kernel
theorem dX5_goesOn_182 : decode cX5_goesOn 182 = .ok (.getfield 82, 3) := by decide +kernel
theorem dX5_goesOn_185 : decode cX5_goesOn 185 = .ok (.if_icmp .ge 21, 3) := by decide +kernel
theorem dX5_goesOn_188 : decode cX5_goesOn 188 = .ok (.aload_n 0, 1) := by decide +kernel
theorem dX5_goesOn_189 : decode cX5_goesOn 189 = .ok (.getfield 31, 3) := by decide +kernel
theorem dX5_goesOn_192 : decode cX5_goesOn 192 = .ok (.iload 5, 2) := by decide +kernel
theorem dX5_goesOn_194 : decode cX5_goesOn 194 = .ok (.iaload, 1) := by decide +kernel
theorem dX5_goesOn_195 : decode cX5_goesOn 195 = .ok (.iload_n 3, 1) := by decide +kernel
theorem dX5_goesOn_196 : decode cX5_goesOn 196 = .ok (.ishr, 1) := by decide +kernel
theorem dX5_goesOn_197 : decode cX5_goesOn 197 = .ok (.iconst 1, 1) := by decide +kernel
theorem dX5_goesOn_198 : decode cX5_goesOn 198 = .ok (.iand, 1) := by decide +kernel
theorem dX5_goesOn_199 : decode cX5_goesOn 199 = .ok (.ifCond .ne 7, 3) := by decide +kernel
theorem dX5_goesOn_202 : decode cX5_goesOn 202 = .ok (.iconst 1, 1) := by decide +kernel
theorem dX5_goesOn_203 : decode cX5_goesOn 203 = .ok (.goto 4, 3) := by decide +kernel
theorem dX5_goesOn_206 : decode cX5_goesOn 206 = .ok (.iconst 0, 1) := by decide +kernel
theorem dX5_goesOn_207 : decode cX5_goesOn 207 = .ok (.istore 9, 2) := by decide +kernel
theorem dX5_goesOn_209 : decode cX5_goesOn 209 = .ok (.iload 9, 2) := by decide +kernel
theorem dX5_goesOn_211 : decode cX5_goesOn 211 = .ok (.ifCond .eq 52, 3) := by decide +kernel
theorem dX5_goesOn_214 : decode cX5_goesOn 214 = .ok (.aload_n 0, 1) := by decide +kernel
theorem dX5_goesOn_215 : decode cX5_goesOn 215 = .ok (.iload 6, 2) := by decide +kernel
theorem dX5_goesOn_217 : decode cX5_goesOn 217 = .ok (.aload_n 0, 1) := by decide +kernel
theorem dX5_goesOn_218 : decode cX5_goesOn 218 = .ok (.getfield 25, 3) := by decide +kernel
theorem dX5_goesOn_221 : decode cX5_goesOn 221 = .ok (.iload_n 3, 1) := by decide +kernel
theorem dX5_goesOn_222 : decode cX5_goesOn 222 = .ok (.aload_n 0, 1) := by decide +kernel
theorem dX5_goesOn_223 : decode cX5_goesOn 223 = .ok (.getfield 82, 3) := by decide +kernel
theorem dX5_goesOn_226 : decode cX5_goesOn 226 = .ok (.if_icmp .ge 7, 3) := by decide +kernel
theorem dX5_goesOn_229 : decode cX5_goesOn 229 = .ok (.iload_n 3, 1) := by decide +kernel
theorem dX5_goesOn_230 : decode cX5_goesOn 230 = .ok (.goto 4, 3) := by decide +kernel
theorem dX5_goesOn_233 : decode cX5_goesOn 233 = .ok (.iconst 0, 1) := by decide +kernel
theorem dX5_goesOn_234 : decode cX5_goesOn 234 = .ok (.iaload, 1) := by decide +kernel
theorem dX5_goesOn_235 : decode cX5_goesOn 235 = .ok (.invokevirtual 107, 3) := by decide +kernel
theorem dX5_goesOn_238 : decode cX5_goesOn 238 = .ok (.aload_n 0, 1) := by decide +kernel
theorem dX5_goesOn_239 : decode cX5_goesOn 239 = .ok (.getfield 22, 3) := by decide +kernel
theorem dX5_goesOn_242 : decode cX5_goesOn 242 = .ok (.iload_n 3, 1) := by decide +kernel
theorem dX5_goesOn_243 : decode cX5_goesOn 243 = .ok (.aload_n 0, 1) := by decide +kernel
theorem dX5_goesOn_244 : decode cX5_goesOn 244 = .ok (.getfield 82, 3) := by decide +kernel
theorem dX5_goesOn_247 : decode cX5_goesOn 247 = .ok (.if_icmp .ge 7, 3) := by decide +kernel
theorem dX5_goesOn_250 : decode cX5_goesOn 250 = .ok (.iload_n 3, 1) := by decide +kernel
theorem dX5_goesOn_251 : decode cX5_goesOn 251 = .ok (.goto 4, 3) := by decide +kernel
theorem dX5_goesOn_254 : decode cX5_goesOn 254 = .ok (.iconst 0, 1) := by decide +kernel
theorem dX5_goesOn_255 : decode cX5_goesOn 255 = .ok (.iaload, 1) := by decide +kernel
theorem dX5_goesOn_256 : decode cX5_goesOn 256 = .ok (.if_icmp .ne 7, 3) := by decide +kernel
theorem dX5_goesOn_259 : decode cX5_goesOn 259 = .ok (.iconst 1, 1) := by decide +kernel
theorem dX5_goesOn_260 : decode cX5_goesOn 260 = .ok (.goto 4, 3) := by decide +kernel
theorem dX5_goesOn_263 : decode cX5_goesOn 263 = .ok (.iconst 0, 1) := by decide +kernel
theorem dX5_goesOn_264 : decode cX5_goesOn 264 = .ok (.istore 9, 2) := by decide +kernel
theorem dX5_goesOn_266 : decode cX5_goesOn 266 = .ok (.iload 6, 2) := by decide +kernel
theorem dX5_goesOn_268 : decode cX5_goesOn 268 = .ok (.iload_n 3, 1) := by decide +kernel
theorem dX5_goesOn_269 : decode cX5_goesOn 269 = .ok (.aload_n 0, 1) := by decide +kernel
theorem dX5_goesOn_270 : decode cX5_goesOn 270 = .ok (.getfield 82, 3) := by decide +kernel
theorem dX5_goesOn_273 : decode cX5_goesOn 273 = .ok (.if_icmp .ge 12, 3) := by decide +kernel
theorem dX5_goesOn_276 : decode cX5_goesOn 276 = .ok (.aload_n 0, 1) := by decide +kernel
theorem dX5_goesOn_277 : decode cX5_goesOn 277 = .ok (.getfield 25, 3) := by decide +kernel
theorem dX5_goesOn_280 : decode cX5_goesOn 280 = .ok (.iload_n 3, 1) := by decide +kernel
theorem dX5_goesOn_281 : decode cX5_goesOn 281 = .ok (.iaload, 1) := by decide +kernel
theorem dX5_goesOn_282 : decode cX5_goesOn 282 = .ok (.goto 4, 3) := by decide +kernel
theorem dX5_goesOn_285 : decode cX5_goesOn 285 = .ok (.iconst 0, 1) := by decide +kernel
theorem dX5_goesOn_286 : decode cX5_goesOn 286 = .ok (.iadd, 1) := by decide +kernel
theorem dX5_goesOn_287 : decode cX5_goesOn 287 = .ok (.istore 6, 2) := by decide +kernel
theorem dX5_goesOn_289 : decode cX5_goesOn 289 = .ok (.iload 9, 2) := by decide +kernel
theorem dX5_goesOn_291 : decode cX5_goesOn 291 = .ok (.ifCond .eq 16, 3) := by decide +kernel
theorem dX5_goesOn_294 : decode cX5_goesOn 294 = .ok (.iload 6, 2) := by decide +kernel
theorem dX5_goesOn_296 : decode cX5_goesOn 296 = .ok (.aload_n 0, 1) := by decide +kernel
theorem dX5_goesOn_297 : decode cX5_goesOn 297 = .ok (.getfield 101, 3) := by decide +kernel
theorem dX5_goesOn_300 : decode cX5_goesOn 300 = .ok (.if_icmp .ge 7, 3) := by decide +kernel
theorem dX5_goesOn_303 : decode cX5_goesOn 303 = .ok (.iconst 1, 1) := by decide +kernel
theorem dX5_goesOn_304 : decode cX5_goesOn 304 = .ok (.goto 4, 3) := by decide +kernel
theorem dX5_goesOn_307 : decode cX5_goesOn 307 = .ok (.iconst 0, 1) := by decide +kernel
theorem dX5_goesOn_308 : decode cX5_goesOn 308 = .ok (.istore 9, 2) := by decide +kernel
theorem dX5_goesOn_310 : decode cX5_goesOn 310 = .ok (.iload 9, 2) := by decide +kernel
theorem dX5_goesOn_312 : decode cX5_goesOn 312 = .ok (.ifCond .eq 37, 3) := by decide +kernel
theorem dX5_goesOn_315 : decode cX5_goesOn 315 = .ok (.aload_n 0, 1) := by decide +kernel
theorem dX5_goesOn_316 : decode cX5_goesOn 316 = .ok (.getfield 43, 3) := by decide +kernel
theorem dX5_goesOn_319 : decode cX5_goesOn 319 = .ok (.aload_n 0, 1) := by decide +kernel
theorem dX5_goesOn_320 : decode cX5_goesOn 320 = .ok (.getfield 104, 3) := by decide +kernel
theorem dX5_goesOn_323 : decode cX5_goesOn 323 = .ok (.iload_n 1, 1) := by decide +kernel
theorem dX5_goesOn_324 : decode cX5_goesOn 324 = .ok (.iastore, 1) := by decide +kernel
theorem dX5_goesOn_325 : decode cX5_goesOn 325 = .ok (.aload_n 0, 1) := by decide +kernel
theorem dX5_goesOn_326 : decode cX5_goesOn 326 = .ok (.getfield 49, 3) := by decide +kernel
theorem dX5_goesOn_329 : decode cX5_goesOn 329 = .ok (.aload_n 0, 1) := by decide +kernel
theorem dX5_goesOn_330 : decode cX5_goesOn 330 = .ok (.getfield 104, 3) := by decide +kernel
theorem dX5_goesOn_333 : decode cX5_goesOn 333 = .ok (.iload 5, 2) := by decide +kernel
theorem dX5_goesOn_335 : decode cX5_goesOn 335 = .ok (.iastore, 1) := by decide +kernel
theorem dX5_goesOn_336 : decode cX5_goesOn 336 = .ok (.aload_n 0, 1) := by decide +kernel
theorem dX5_goesOn_337 : decode cX5_goesOn 337 = .ok (.getfield 46, 3) := by decide +kernel
theorem dX5_goesOn_340 : decode cX5_goesOn 340 = .ok (.aload_n 0, 1) := by decide +kernel
theorem dX5_goesOn_341 : decode cX5_goesOn 341 = .ok (.getfield 104, 3) := by decide +kernel
theorem dX5_goesOn_344 : decode cX5_goesOn 344 = .ok (.iconst 1, 1) := by decide +kernel
theorem dX5_goesOn_345 : decode cX5_goesOn 345 = .ok (.iadd, 1) := by decide +kernel
theorem dX5_goesOn_346 : decode cX5_goesOn 346 = .ok (.iload 6, 2) := by decide +kernel
theorem dX5_goesOn_348 : decode cX5_goesOn 348 = .ok (.iastore, 1) := by decide +kernel
theorem dX5_goesOn_349 : decode cX5_goesOn 349 = .ok (.iload 9, 2) := by decide +kernel
theorem dX5_goesOn_351 : decode cX5_goesOn 351 = .ok (.ireturn, 1) := by decide +kernel
theorem dX5_key_0 : decode cX5_key 0 = .ok (.ldc2_w 110, 3) := by decide +kernel
theorem dX5_key_3 : decode cX5_key 3 = .ok (.lstore_n 1, 1) := by decide +kernel
theorem dX5_key_4 : decode cX5_key 4 = .ok (.lconst 0, 1) := by decide +kernel
theorem dX5_key_5 : decode cX5_key 5 = .ok (.lstore_n 3, 1) := by decide +kernel
theorem dX5_key_6 : decode cX5_key 6 = .ok (.iconst 0, 1) := by decide +kernel
theorem dX5_key_7 : decode cX5_key 7 = .ok (.istore 5, 2) := by decide +kernel
theorem dX5_key_9 : decode cX5_key 9 = .ok (.iload 5, 2) := by decide +kernel
theorem dX5_key_11 : decode cX5_key 11 = .ok (.bipush 8, 2) := by decide +kernel
theorem dX5_key_13 : decode cX5_key 13 = .ok (.if_icmp .ge 95, 3) := by decide +kernel
theorem dX5_key_16 : decode cX5_key 16 = .ok (.iload 5, 2) := by decide +kernel
theorem dX5_key_18 : decode cX5_key 18 = .ok (.aload_n 0, 1) := by decide +kernel
theorem dX5_key_19 : decode cX5_key 19 = .ok (.getfield 104, 3) := by decide +kernel
theorem dX5_key_22 : decode cX5_key 22 = .ok (.if_icmp .ge 7, 3) := by decide +kernel
theorem dX5_key_25 : decode cX5_key 25 = .ok (.iconst 1, 1) := by decide +kernel
theorem dX5_key_26 : decode cX5_key 26 = .ok (.goto 4, 3) := by decide +kernel
theorem dX5_key_29 : decode cX5_key 29 = .ok (.iconst 0, 1) := by decide +kernel
theorem dX5_key_30 : decode cX5_key 30 = .ok (.istore 6, 2) := by decide +kernel
theorem dX5_key_32 : decode cX5_key 32 = .ok (.lload_n 1, 1) := by decide +kernel
theorem dX5_key_33 : decode cX5_key 33 = .ok (.iload 6, 2) := by decide +kernel
theorem dX5_key_35 : decode cX5_key 35 = .ok (.ifCond .eq 40, 3) := by decide +kernel
theorem dX5_key_38 : decode cX5_key 38 = .ok (.aload_n 0, 1) := by decide +kernel
theorem dX5_key_39 : decode cX5_key 39 = .ok (.aload_n 0, 1) := by decide +kernel
theorem dX5_key_40 : decode cX5_key 40 = .ok (.getfield 49, 3) := by decide +kernel
theorem dX5_key_43 : decode cX5_key 43 = .ok (.iload 5, 2) := by decide +kernel
theorem dX5_key_45 : decode cX5_key 45 = .ok (.iaload, 1) := by decide +kernel
theorem dX5_key_46 : decode cX5_key 46 = .ok (.invokevirtual 85, 3) := by decide +kernel
theorem dX5_key_49 : decode cX5_key 49 = .ok (.bipush 15, 2) := by decide +kernel
theorem dX5_key_51 : decode cX5_key 51 = .ok (.iadd, 1) := by decide +kernel
theorem dX5_key_52 : decode cX5_key 52 = .ok (.aload_n 0, 1) := by decide +kernel
theorem dX5_key_53 : decode cX5_key 53 = .ok (.getfield 43, 3) := by decide +kernel
theorem dX5_key_56 : decode cX5_key 56 = .ok (.iload 5, 2) := by decide +kernel
theorem dX5_key_58 : decode cX5_key 58 = .ok (.iaload, 1) := by decide +kernel
theorem dX5_key_59 : decode cX5_key 59 = .ok (.bipush 7, 2) := by decide +kernel
theorem dX5_key_61 : decode cX5_key 61 = .ok (.irem, 1) := by decide +kernel
theorem dX5_key_62 : decode cX5_key 62 = .ok (.ifCond .le 7, 3) := by decide +kernel
theorem dX5_key_65 : decode cX5_key 65 = .ok (.iconst 3, 1) := by decide +kernel
theorem dX5_key_66 : decode cX5_key 66 = .ok (.goto 4, 3) := by decide +kernel
theorem dX5_key_69 : decode cX5_key 69 = .ok (.iconst 0, 1) := by decide +kernel
theorem dX5_key_70 : decode cX5_key 70 = .ok (.iadd, 1) := by decide +kernel
theorem dX5_key_71 : decode cX5_key 71 = .ok (.i2l, 1) := by decide +kernel
theorem dX5_key_72 : decode cX5_key 72 = .ok (.goto 4, 3) := by decide +kernel
theorem dX5_key_75 : decode cX5_key 75 = .ok (.lconst 0, 1) := by decide +kernel
theorem dX5_key_76 : decode cX5_key 76 = .ok (.ladd, 1) := by decide +kernel
theorem dX5_key_77 : decode cX5_key 77 = .ok (.lstore_n 1, 1) := by decide +kernel
theorem dX5_key_78 : decode cX5_key 78 = .ok (.ldc2_w 112, 3) := by decide +kernel
theorem dX5_key_81 : decode cX5_key 81 = .ok (.lload_n 3, 1) := by decide +kernel
theorem dX5_key_82 : decode cX5_key 82 = .ok (.lmul, 1) := by decide +kernel
theorem dX5_key_83 : decode cX5_key 83 = .ok (.iload 6, 2) := by decide +kernel
theorem dX5_key_85 : decode cX5_key 85 = .ok (.ifCond .eq 13, 3) := by decide +kernel
theorem dX5_key_88 : decode cX5_key 88 = .ok (.aload_n 0, 1) := by decide +kernel
theorem dX5_key_89 : decode cX5_key 89 = .ok (.getfield 43, 3) := by decide +kernel
theorem dX5_key_92 : decode cX5_key 92 = .ok (.iload 5, 2) := by decide +kernel
theorem dX5_key_94 : decode cX5_key 94 = .ok (.iaload, 1) := by decide +kernel
theorem dX5_key_95 : decode cX5_key 95 = .ok (.goto 4, 3) := by decide +kernel
theorem dX5_key_98 : decode cX5_key 98 = .ok (.iconst 0, 1) := by decide +kernel
theorem dX5_key_99 : decode cX5_key 99 = .ok (.i2l, 1) := by decide +kernel
theorem dX5_key_100 : decode cX5_key 100 = .ok (.ladd, 1) := by decide +kernel
theorem dX5_key_101 : decode cX5_key 101 = .ok (.lstore_n 3, 1) := by decide +kernel
theorem dX5_key_102 : decode cX5_key 102 = .ok (.iinc 5 1, 3) := by decide +kernel
theorem dX5_key_105 : decode cX5_key 105 = .ok (.goto (-96), 3) := by decide +kernel
theorem dX5_key_108 : decode cX5_key 108 = .ok (.ldc2_w 114, 3) := by decide +kernel
theorem dX5_key_111 : decode cX5_key 111 = .ok (.lload_n 1, 1) := by decide +kernel
theorem dX5_key_112 : decode cX5_key 112 = .ok (.lmul, 1) := by decide +kernel
theorem dX5_key_113 : decode cX5_key 113 = .ok (.aload_n 0, 1) := by decide +kernel
theorem dX5_key_114 : decode cX5_key 114 = .ok (.getfield 104, 3) := by decide +kernel
theorem dX5_key_117 : decode cX5_key 117 = .ok (.i2l, 1) := by decide +kernel
theorem dX5_key_118 : decode cX5_key 118 = .ok (.ladd, 1) := by decide +kernel
theorem dX5_key_119 : decode cX5_key 119 = .ok (.ldc2_w 116, 3) := by decide +kernel
theorem dX5_key_122 : decode cX5_key 122 = .ok (.lmul, 1) := by decide +kernel
theorem dX5_key_123 : decode cX5_key 123 = .ok (.lload_n 3, 1) := by decide +kernel
theorem dX5_key_124 : decode cX5_key 124 = .ok (.ladd, 1) := by decide +kernel
theorem dX5_key_125 : decode cX5_key 125 = .ok (.lreturn, 1) := by decide +kernel
theorem dX5_laysSplits_0 : decode cX5_laysSplits 0 = .ok (.aload_n 0, 1) := by decide +kernel
theorem dX5_laysSplits_1 : decode cX5_laysSplits 1 = .ok (.iconst 0, 1) := by decide +kernel
theorem dX5_laysSplits_2 : decode cX5_laysSplits 2 = .ok (.putfield 118, 3) := by decide +kernel
theorem dX5_laysSplits_5 : decode cX5_laysSplits 5 = .ok (.aload_n 0, 1) := by decide +kernel
theorem dX5_laysSplits_6 : decode cX5_laysSplits 6 = .ok (.iconst 0, 1) := by decide +kernel
theorem dX5_laysSplits_7 : decode cX5_laysSplits 7 = .ok (.putfield 104, 3) := by decide +kernel
theorem dX5_laysSplits_10 : decode cX5_laysSplits 10 = .ok (.aload_n 0, 1) := by decide +kernel
theorem dX5_laysSplits_11 : decode cX5_laysSplits 11 = .ok (.getfield 46, 3) := by decide +kernel
theorem dX5_laysSplits_14 : decode cX5_laysSplits 14 = .ok (.iconst 0, 1) := by decide +kernel
theorem dX5_laysSplits_15 : decode cX5_laysSplits 15 = .ok (.iconst 0, 1) := by decide +kernel
theorem dX5_laysSplits_16 : decode cX5_laysSplits 16 = .ok (.iastore, 1) := by decide +kernel
theorem dX5_laysSplits_17 : decode cX5_laysSplits 17 = .ok (.aload_n 0, 1) := by decide +kernel
theorem dX5_laysSplits_18 : decode cX5_laysSplits 18 = .ok (.getfield 43, 3) := by decide +kernel
theorem dX5_laysSplits_21 : decode cX5_laysSplits 21 = .ok (.iconst 0, 1) := by decide +kernel
theorem dX5_laysSplits_22 : decode cX5_laysSplits 22 = .ok (.iconst (-1), 1) := by decide +kernel
theorem dX5_laysSplits_23 : decode cX5_laysSplits 23 = .ok (.iastore, 1) := by decide +kernel
theorem dX5_laysSplits_24 : decode cX5_laysSplits 24 = .ok (.aload_n 0, 1) := by decide +kernel
theorem dX5_laysSplits_25 : decode cX5_laysSplits 25 = .ok (.getfield 104, 3) := by decide +kernel
theorem dX5_laysSplits_28 : decode cX5_laysSplits 28 = .ok (.ifCond .lt 129, 3) := by decide +kernel
theorem dX5_laysSplits_31 : decode cX5_laysSplits 31 = .ok (.aload_n 0, 1) := by decide +kernel
theorem dX5_laysSplits_32 : decode cX5_laysSplits 32 = .ok (.getfield 43, 3) := by decide +kernel
theorem dX5_laysSplits_35 : decode cX5_laysSplits 35 = .ok (.aload_n 0, 1) := by decide +kernel
theorem dX5_laysSplits_36 : decode cX5_laysSplits 36 = .ok (.getfield 104, 3) := by decide +kernel
theorem dX5_laysSplits_39 : decode cX5_laysSplits 39 = .ok (.iaload, 1) := by decide +kernel
theorem dX5_laysSplits_40 : decode cX5_laysSplits 40 = .ok (.iconst 1, 1) := by decide +kernel
theorem dX5_laysSplits_41 : decode cX5_laysSplits 41 = .ok (.iadd, 1) := by decide +kernel
theorem dX5_laysSplits_42 : decode cX5_laysSplits 42 = .ok (.istore_n 1, 1) := by decide +kernel
theorem dX5_laysSplits_43 : decode cX5_laysSplits 43 = .ok (.iload_n 1, 1) := by decide +kernel
theorem dX5_laysSplits_44 : decode cX5_laysSplits 44 = .ok (.bipush 28, 2) := by decide +kernel
theorem dX5_laysSplits_46 : decode cX5_laysSplits 46 = .ok (.if_icmp .ge 17, 3) := by decide +kernel
theorem dX5_laysSplits_49 : decode cX5_laysSplits 49 = .ok (.aload_n 0, 1) := by decide +kernel
theorem dX5_laysSplits_50 : decode cX5_laysSplits 50 = .ok (.iload_n 1, 1) := by decide +kernel
theorem dX5_laysSplits_51 : decode cX5_laysSplits 51 = .ok (.invokevirtual 121, 3) := by decide +kernel
theorem dX5_laysSplits_54 : decode cX5_laysSplits 54 = .ok (.ifCond .ne 9, 3) := by decide +kernel
theorem dX5_laysSplits_57 : decode cX5_laysSplits 57 = .ok (.iinc 1 1, 3) := by decide +kernel
theorem dX5_laysSplits_60 : decode cX5_laysSplits 60 = .ok (.goto (-17), 3) := by decide +kernel
theorem dX5_laysSplits_63 : decode cX5_laysSplits 63 = .ok (.iload_n 1, 1) := by decide +kernel
theorem dX5_laysSplits_64 : decode cX5_laysSplits 64 = .ok (.bipush 28, 2) := by decide +kernel
theorem dX5_laysSplits_66 : decode cX5_laysSplits 66 = .ok (.if_icmp .ne 16, 3) := by decide +kernel
theorem dX5_laysSplits_69 : decode cX5_laysSplits 69 = .ok (.aload_n 0, 1) := by decide +kernel
theorem dX5_laysSplits_70 : decode cX5_laysSplits 70 = .ok (.dup, 1) := by decide +kernel
theorem dX5_laysSplits_71 : decode cX5_laysSplits 71 = .ok (.getfield 104, 3) := by decide +kernel
theorem dX5_laysSplits_74 : decode cX5_laysSplits 74 = .ok (.iconst 1, 1) := by decide +kernel
theorem dX5_laysSplits_75 : decode cX5_laysSplits 75 = .ok (.isub, 1) := by decide +kernel
theorem dX5_laysSplits_76 : decode cX5_laysSplits 76 = .ok (.putfield 104, 3) := by decide +kernel
theorem dX5_laysSplits_79 : decode cX5_laysSplits 79 = .ok (.goto 75, 3) := by decide +kernel
theorem dX5_laysSplits_82 : decode cX5_laysSplits 82 = .ok (.aload_n 0, 1) := by decide +kernel
theorem dX5_laysSplits_83 : decode cX5_laysSplits 83 = .ok (.dup, 1) := by decide +kernel
theorem dX5_laysSplits_84 : decode cX5_laysSplits 84 = .ok (.getfield 104, 3) := by decide +kernel
theorem dX5_laysSplits_87 : decode cX5_laysSplits 87 = .ok (.iconst 1, 1) := by decide +kernel
theorem dX5_laysSplits_88 : decode cX5_laysSplits 88 = .ok (.iadd, 1) := by decide +kernel
theorem dX5_laysSplits_89 : decode cX5_laysSplits 89 = .ok (.putfield 104, 3) := by decide +kernel
theorem dX5_laysSplits_92 : decode cX5_laysSplits 92 = .ok (.aload_n 0, 1) := by decide +kernel
theorem dX5_laysSplits_93 : decode cX5_laysSplits 93 = .ok (.getfield 46, 3) := by decide +kernel
theorem dX5_laysSplits_96 : decode cX5_laysSplits 96 = .ok (.aload_n 0, 1) := by decide +kernel
theorem dX5_laysSplits_97 : decode cX5_laysSplits 97 = .ok (.getfield 104, 3) := by decide +kernel
theorem dX5_laysSplits_100 : decode cX5_laysSplits 100 = .ok (.iaload, 1) := by decide +kernel
theorem dX5_laysSplits_101 : decode cX5_laysSplits 101 = .ok (.aload_n 0, 1) := by decide +kernel
theorem dX5_laysSplits_102 : decode cX5_laysSplits 102 = .ok (.getfield 101, 3) := by decide +kernel
theorem dX5_laysSplits_105 : decode cX5_laysSplits 105 = .ok (.if_icmp .ne 39, 3) := by decide +kernel
theorem dX5_laysSplits_108 : decode cX5_laysSplits 108 = .ok (.aload_n 0, 1) := by decide +kernel
theorem dX5_laysSplits_109 : decode cX5_laysSplits 109 = .ok (.getfield 52, 3) := by decide +kernel
theorem dX5_laysSplits_112 : decode cX5_laysSplits 112 = .ok (.aload_n 0, 1) := by decide +kernel
theorem dX5_laysSplits_113 : decode cX5_laysSplits 113 = .ok (.getfield 118, 3) := by decide +kernel
theorem dX5_laysSplits_116 : decode cX5_laysSplits 116 = .ok (.aload_n 0, 1) := by decide +kernel
theorem dX5_laysSplits_117 : decode cX5_laysSplits 117 = .ok (.invokevirtual 124, 3) := by decide +kernel
theorem dX5_laysSplits_120 : decode cX5_laysSplits 120 = .ok (.lastore, 1) := by decide +kernel
theorem dX5_laysSplits_121 : decode cX5_laysSplits 121 = .ok (.aload_n 0, 1) := by decide +kernel
theorem dX5_laysSplits_122 : decode cX5_laysSplits 122 = .ok (.dup, 1) := by decide +kernel
theorem dX5_laysSplits_123 : decode cX5_laysSplits 123 = .ok (.getfield 118, 3) := by decide +kernel
theorem dX5_laysSplits_126 : decode cX5_laysSplits 126 = .ok (.iconst 1, 1) := by decide +kernel
theorem dX5_laysSplits_127 : decode cX5_laysSplits 127 = .ok (.iadd, 1) := by decide +kernel
theorem dX5_laysSplits_128 : decode cX5_laysSplits 128 = .ok (.putfield 118, 3) := by decide +kernel
theorem dX5_laysSplits_131 : decode cX5_laysSplits 131 = .ok (.aload_n 0, 1) := by decide +kernel
theorem dX5_laysSplits_132 : decode cX5_laysSplits 132 = .ok (.dup, 1) := by decide +kernel
theorem dX5_laysSplits_133 : decode cX5_laysSplits 133 = .ok (.getfield 104, 3) := by decide +kernel
theorem dX5_laysSplits_136 : decode cX5_laysSplits 136 = .ok (.iconst 1, 1) := by decide +kernel
theorem dX5_laysSplits_137 : decode cX5_laysSplits 137 = .ok (.isub, 1) := by decide +kernel
theorem dX5_laysSplits_138 : decode cX5_laysSplits 138 = .ok (.putfield 104, 3) := by decide +kernel
theorem dX5_laysSplits_141 : decode cX5_laysSplits 141 = .ok (.goto 13, 3) := by decide +kernel
theorem dX5_laysSplits_144 : decode cX5_laysSplits 144 = .ok (.aload_n 0, 1) := by decide +kernel
theorem dX5_laysSplits_145 : decode cX5_laysSplits 145 = .ok (.getfield 43, 3) := by decide +kernel
theorem dX5_laysSplits_148 : decode cX5_laysSplits 148 = .ok (.aload_n 0, 1) := by decide +kernel
theorem dX5_laysSplits_149 : decode cX5_laysSplits 149 = .ok (.getfield 104, 3) := by decide +kernel
theorem dX5_laysSplits_152 : decode cX5_laysSplits 152 = .ok (.iconst (-1), 1) := by decide +kernel
theorem dX5_laysSplits_153 : decode cX5_laysSplits 153 = .ok (.iastore, 1) := by decide +kernel
theorem dX5_laysSplits_154 : decode cX5_laysSplits 154 = .ok (.goto (-130), 3) := by decide +kernel
theorem dX5_laysSplits_157 : decode cX5_laysSplits 157 = .ok (.return_, 1) := by decide +kernel
theorem dX5_asks_0 : decode cX5_asks 0 = .ok (.aload_n 0, 1) := by decide +kernel
theorem dX5_asks_1 : decode cX5_asks 1 = .ok (.aload_n 0, 1) := by decide +kernel
theorem dX5_asks_2 : decode cX5_asks 2 = .ok (.iload_n 1, 1) := by decide +kernel
theorem dX5_asks_3 : decode cX5_asks 3 = .ok (.invokevirtual 128, 3) := by decide +kernel
theorem dX5_asks_6 : decode cX5_asks 6 = .ok (.ifCond .eq 7, 3) := by decide +kernel
theorem dX5_asks_9 : decode cX5_asks 9 = .ok (.iconst 0, 1) := by decide +kernel
theorem dX5_asks_10 : decode cX5_asks 10 = .ok (.goto 4, 3) := by decide +kernel
theorem dX5_asks_13 : decode cX5_asks 13 = .ok (.iconst 1, 1) := by decide +kernel
theorem dX5_asks_14 : decode cX5_asks 14 = .ok (.putfield 56, 3) := by decide +kernel
theorem dX5_asks_17 : decode cX5_asks 17 = .ok (.aload_n 0, 1) := by decide +kernel
theorem dX5_asks_18 : decode cX5_asks 18 = .ok (.getfield 56, 3) := by decide +kernel
theorem dX5_asks_21 : decode cX5_asks 21 = .ok (.ifCond .ne 7, 3) := by decide +kernel
theorem dX5_asks_24 : decode cX5_asks 24 = .ok (.aload_n 0, 1) := by decide +kernel
theorem dX5_asks_25 : decode cX5_asks 25 = .ok (.invokevirtual 131, 3) := by decide +kernel
theorem dX5_asks_28 : decode cX5_asks 28 = .ok (.aload_n 0, 1) := by decide +kernel
theorem dX5_asks_29 : decode cX5_asks 29 = .ok (.getfield 56, 3) := by decide +kernel
theorem dX5_asks_32 : decode cX5_asks 32 = .ok (.ifCond .ne 7, 3) := by decide +kernel
theorem dX5_asks_35 : decode cX5_asks 35 = .ok (.iconst 1, 1) := by decide +kernel
theorem dX5_asks_36 : decode cX5_asks 36 = .ok (.goto 4, 3) := by decide +kernel
theorem dX5_asks_39 : decode cX5_asks 39 = .ok (.iconst 0, 1) := by decide +kernel
theorem dX5_asks_40 : decode cX5_asks 40 = .ok (.ireturn, 1) := by decide +kernel
theorem dX5_keyAt_0 : decode cX5_keyAt 0 = .ok (.ldc2_w 134, 3) := by decide +kernel
theorem dX5_keyAt_3 : decode cX5_keyAt 3 = .ok (.lstore_n 2, 1) := by decide +kernel
theorem dX5_keyAt_4 : decode cX5_keyAt 4 = .ok (.iconst 0, 1) := by decide +kernel
theorem dX5_keyAt_5 : decode cX5_keyAt 5 = .ok (.istore 4, 2) := by decide +kernel
theorem dX5_keyAt_7 : decode cX5_keyAt 7 = .ok (.iload 4, 2) := by decide +kernel
theorem dX5_keyAt_9 : decode cX5_keyAt 9 = .ok (.aload_n 0, 1) := by decide +kernel
theorem dX5_keyAt_10 : decode cX5_keyAt 10 = .ok (.getfield 118, 3) := by decide +kernel
theorem dX5_keyAt_13 : decode cX5_keyAt 13 = .ok (.if_icmp .ge 76, 3) := by decide +kernel
theorem dX5_keyAt_16 : decode cX5_keyAt 16 = .ok (.iconst 0, 1) := by decide +kernel
theorem dX5_keyAt_17 : decode cX5_keyAt 17 = .ok (.istore 5, 2) := by decide +kernel
theorem dX5_keyAt_19 : decode cX5_keyAt 19 = .ok (.iconst 0, 1) := by decide +kernel
theorem dX5_keyAt_20 : decode cX5_keyAt 20 = .ok (.istore 6, 2) := by decide +kernel
theorem dX5_keyAt_22 : decode cX5_keyAt 22 = .ok (.iload 6, 2) := by decide +kernel
theorem dX5_keyAt_24 : decode cX5_keyAt 24 = .ok (.aload_n 0, 1) := by decide +kernel
theorem dX5_keyAt_25 : decode cX5_keyAt 25 = .ok (.getfield 118, 3) := by decide +kernel
theorem dX5_keyAt_28 : decode cX5_keyAt 28 = .ok (.if_icmp .ge 37, 3) := by decide +kernel
theorem dX5_keyAt_31 : decode cX5_keyAt 31 = .ok (.iload 5, 2) := by decide +kernel
theorem dX5_keyAt_33 : decode cX5_keyAt 33 = .ok (.aload_n 0, 1) := by decide +kernel
theorem dX5_keyAt_34 : decode cX5_keyAt 34 = .ok (.getfield 52, 3) := by decide +kernel
theorem dX5_keyAt_37 : decode cX5_keyAt 37 = .ok (.iload 6, 2) := by decide +kernel
theorem dX5_keyAt_39 : decode cX5_keyAt 39 = .ok (.laload, 1) := by decide +kernel
theorem dX5_keyAt_40 : decode cX5_keyAt 40 = .ok (.aload_n 0, 1) := by decide +kernel
theorem dX5_keyAt_41 : decode cX5_keyAt 41 = .ok (.getfield 52, 3) := by decide +kernel
theorem dX5_keyAt_44 : decode cX5_keyAt 44 = .ok (.iload 4, 2) := by decide +kernel
theorem dX5_keyAt_46 : decode cX5_keyAt 46 = .ok (.laload, 1) := by decide +kernel
theorem dX5_keyAt_47 : decode cX5_keyAt 47 = .ok (.lcmp, 1) := by decide +kernel
theorem dX5_keyAt_48 : decode cX5_keyAt 48 = .ok (.ifCond .ge 7, 3) := by decide +kernel
theorem dX5_keyAt_51 : decode cX5_keyAt 51 = .ok (.iconst 1, 1) := by decide +kernel
theorem dX5_keyAt_52 : decode cX5_keyAt 52 = .ok (.goto 4, 3) := by decide +kernel
theorem dX5_keyAt_55 : decode cX5_keyAt 55 = .ok (.iconst 0, 1) := by decide +kernel
theorem dX5_keyAt_56 : decode cX5_keyAt 56 = .ok (.iadd, 1) := by decide +kernel
theorem dX5_keyAt_57 : decode cX5_keyAt 57 = .ok (.istore 5, 2) := by decide +kernel
theorem dX5_keyAt_59 : decode cX5_keyAt 59 = .ok (.iinc 6 1, 3) := by decide +kernel
theorem dX5_keyAt_62 : decode cX5_keyAt 62 = .ok (.goto (-40), 3) := by decide +kernel
theorem dX5_keyAt_65 : decode cX5_keyAt 65 = .ok (.iload 5, 2) := by decide +kernel
theorem dX5_keyAt_67 : decode cX5_keyAt 67 = .ok (.iload_n 1, 1) := by decide +kernel
theorem dX5_keyAt_68 : decode cX5_keyAt 68 = .ok (.if_icmp .ne 13, 3) := by decide +kernel
theorem dX5_keyAt_71 : decode cX5_keyAt 71 = .ok (.aload_n 0, 1) := by decide +kernel
theorem dX5_keyAt_72 : decode cX5_keyAt 72 = .ok (.getfield 52, 3) := by decide +kernel
theorem dX5_keyAt_75 : decode cX5_keyAt 75 = .ok (.iload 4, 2) := by decide +kernel
theorem dX5_keyAt_77 : decode cX5_keyAt 77 = .ok (.laload, 1) := by decide +kernel
theorem dX5_keyAt_78 : decode cX5_keyAt 78 = .ok (.goto 4, 3) := by decide +kernel
theorem dX5_keyAt_81 : decode cX5_keyAt 81 = .ok (.lload_n 2, 1) := by decide +kernel
theorem dX5_keyAt_82 : decode cX5_keyAt 82 = .ok (.lstore_n 2, 1) := by decide +kernel
theorem dX5_keyAt_83 : decode cX5_keyAt 83 = .ok (.iinc 4 1, 3) := by decide +kernel
theorem dX5_keyAt_86 : decode cX5_keyAt 86 = .ok (.goto (-79), 3) := by decide +kernel
theorem dX5_keyAt_89 : decode cX5_keyAt 89 = .ok (.lload_n 2, 1) := by decide +kernel
theorem dX5_keyAt_90 : decode cX5_keyAt 90 = .ok (.lreturn, 1) := by decide +kernel
theorem dX5_costOfKey_0 : decode cX5_costOfKey 0 = .ok (.lload_n 0, 1) := by decide +kernel
theorem dX5_costOfKey_1 : decode cX5_costOfKey 1 = .ok (.ldc2_w 116, 3) := by decide +kernel
theorem dX5_costOfKey_4 : decode cX5_costOfKey 4 = .ok (.ldiv, 1) := by decide +kernel
theorem dX5_costOfKey_5 : decode cX5_costOfKey 5 = .ok (.ldc2_w 114, 3) := by decide +kernel
theorem dX5_costOfKey_8 : decode cX5_costOfKey 8 = .ok (.ldiv, 1) := by decide +kernel
theorem dX5_costOfKey_9 : decode cX5_costOfKey 9 = .ok (.l2i, 1) := by decide +kernel
theorem dX5_costOfKey_10 : decode cX5_costOfKey 10 = .ok (.ireturn, 1) := by decide +kernel
theorem dX5_sizeOfKey_0 : decode cX5_sizeOfKey 0 = .ok (.lload_n 0, 1) := by decide +kernel
theorem dX5_sizeOfKey_1 : decode cX5_sizeOfKey 1 = .ok (.ldc2_w 116, 3) := by decide +kernel
theorem dX5_sizeOfKey_4 : decode cX5_sizeOfKey 4 = .ok (.ldiv, 1) := by decide +kernel
theorem dX5_sizeOfKey_5 : decode cX5_sizeOfKey 5 = .ok (.ldc2_w 114, 3) := by decide +kernel
theorem dX5_sizeOfKey_8 : decode cX5_sizeOfKey 8 = .ok (.lrem, 1) := by decide +kernel
theorem dX5_sizeOfKey_9 : decode cX5_sizeOfKey 9 = .ok (.l2i, 1) := by decide +kernel
theorem dX5_sizeOfKey_10 : decode cX5_sizeOfKey 10 = .ok (.ireturn, 1) := by decide +kernel
theorem dX5_unfolds_0 : decode cX5_unfolds 0 = .ok (.aload_n 0, 1) := by decide +kernel
theorem dX5_unfolds_1 : decode cX5_unfolds 1 = .ok (.lload_n 1, 1) := by decide +kernel
theorem dX5_unfolds_2 : decode cX5_unfolds 2 = .ok (.invokestatic 136, 3) := by decide +kernel
theorem dX5_unfolds_5 : decode cX5_unfolds 5 = .ok (.putfield 104, 3) := by decide +kernel
theorem dX5_unfolds_8 : decode cX5_unfolds 8 = .ok (.lload_n 1, 1) := by decide +kernel
theorem dX5_unfolds_9 : decode cX5_unfolds 9 = .ok (.ldc2_w 116, 3) := by decide +kernel
theorem dX5_unfolds_12 : decode cX5_unfolds 12 = .ok (.lrem, 1) := by decide +kernel
theorem dX5_unfolds_13 : decode cX5_unfolds 13 = .ok (.lstore_n 3, 1) := by decide +kernel
theorem dX5_unfolds_14 : decode cX5_unfolds 14 = .ok (.bipush 7, 2) := by decide +kernel
theorem dX5_unfolds_16 : decode cX5_unfolds 16 = .ok (.istore 5, 2) := by decide +kernel
theorem dX5_unfolds_18 : decode cX5_unfolds 18 = .ok (.iload 5, 2) := by decide +kernel
theorem dX5_unfolds_20 : decode cX5_unfolds 20 = .ok (.ifCond .lt 28, 3) := by decide +kernel
theorem dX5_unfolds_23 : decode cX5_unfolds 23 = .ok (.aload_n 0, 1) := by decide +kernel
theorem dX5_unfolds_24 : decode cX5_unfolds 24 = .ok (.getfield 43, 3) := by decide +kernel
theorem dX5_unfolds_27 : decode cX5_unfolds 27 = .ok (.iload 5, 2) := by decide +kernel
theorem dX5_unfolds_29 : decode cX5_unfolds 29 = .ok (.lload_n 3, 1) := by decide +kernel
theorem dX5_unfolds_30 : decode cX5_unfolds 30 = .ok (.ldc2_w 112, 3) := by decide +kernel
theorem dX5_unfolds_33 : decode cX5_unfolds 33 = .ok (.lrem, 1) := by decide +kernel
theorem dX5_unfolds_34 : decode cX5_unfolds 34 = .ok (.l2i, 1) := by decide +kernel
theorem dX5_unfolds_35 : decode cX5_unfolds 35 = .ok (.iastore, 1) := by decide +kernel
theorem dX5_unfolds_36 : decode cX5_unfolds 36 = .ok (.lload_n 3, 1) := by decide +kernel
theorem dX5_unfolds_37 : decode cX5_unfolds 37 = .ok (.ldc2_w 112, 3) := by decide +kernel
theorem dX5_unfolds_40 : decode cX5_unfolds 40 = .ok (.ldiv, 1) := by decide +kernel
theorem dX5_unfolds_41 : decode cX5_unfolds 41 = .ok (.lstore_n 3, 1) := by decide +kernel
theorem dX5_unfolds_42 : decode cX5_unfolds 42 = .ok (.iinc 5 (-1), 3) := by decide +kernel
theorem dX5_unfolds_45 : decode cX5_unfolds 45 = .ok (.goto (-27), 3) := by decide +kernel
theorem dX5_unfolds_48 : decode cX5_unfolds 48 = .ok (.aload_n 0, 1) := by decide +kernel
theorem dX5_unfolds_49 : decode cX5_unfolds 49 = .ok (.getfield 104, 3) := by decide +kernel
theorem dX5_unfolds_52 : decode cX5_unfolds 52 = .ok (.istore 5, 2) := by decide +kernel
theorem dX5_unfolds_54 : decode cX5_unfolds 54 = .ok (.aload_n 0, 1) := by decide +kernel
theorem dX5_unfolds_55 : decode cX5_unfolds 55 = .ok (.getfield 46, 3) := by decide +kernel
theorem dX5_unfolds_58 : decode cX5_unfolds 58 = .ok (.iconst 0, 1) := by decide +kernel
theorem dX5_unfolds_59 : decode cX5_unfolds 59 = .ok (.iconst 0, 1) := by decide +kernel
theorem dX5_unfolds_60 : decode cX5_unfolds 60 = .ok (.iastore, 1) := by decide +kernel
theorem dX5_unfolds_61 : decode cX5_unfolds 61 = .ok (.aload_n 0, 1) := by decide +kernel
theorem dX5_unfolds_62 : decode cX5_unfolds 62 = .ok (.iconst 0, 1) := by decide +kernel
theorem dX5_unfolds_63 : decode cX5_unfolds 63 = .ok (.putfield 104, 3) := by decide +kernel
theorem dX5_unfolds_66 : decode cX5_unfolds 66 = .ok (.aload_n 0, 1) := by decide +kernel
theorem dX5_unfolds_67 : decode cX5_unfolds 67 = .ok (.getfield 104, 3) := by decide +kernel
theorem dX5_unfolds_70 : decode cX5_unfolds 70 = .ok (.iload 5, 2) := by decide +kernel
theorem dX5_unfolds_72 : decode cX5_unfolds 72 = .ok (.if_icmp .ge 30, 3) := by decide +kernel
theorem dX5_unfolds_75 : decode cX5_unfolds 75 = .ok (.aload_n 0, 1) := by decide +kernel
theorem dX5_unfolds_76 : decode cX5_unfolds 76 = .ok (.aload_n 0, 1) := by decide +kernel
theorem dX5_unfolds_77 : decode cX5_unfolds 77 = .ok (.getfield 43, 3) := by decide +kernel
theorem dX5_unfolds_80 : decode cX5_unfolds 80 = .ok (.aload_n 0, 1) := by decide +kernel
theorem dX5_unfolds_81 : decode cX5_unfolds 81 = .ok (.getfield 104, 3) := by decide +kernel
theorem dX5_unfolds_84 : decode cX5_unfolds 84 = .ok (.iaload, 1) := by decide +kernel
theorem dX5_unfolds_85 : decode cX5_unfolds 85 = .ok (.invokevirtual 121, 3) := by decide +kernel
theorem dX5_unfolds_88 : decode cX5_unfolds 88 = .ok (.pop, 1) := by decide +kernel
theorem dX5_unfolds_89 : decode cX5_unfolds 89 = .ok (.aload_n 0, 1) := by decide +kernel
theorem dX5_unfolds_90 : decode cX5_unfolds 90 = .ok (.dup, 1) := by decide +kernel
theorem dX5_unfolds_91 : decode cX5_unfolds 91 = .ok (.getfield 104, 3) := by decide +kernel
theorem dX5_unfolds_94 : decode cX5_unfolds 94 = .ok (.iconst 1, 1) := by decide +kernel
theorem dX5_unfolds_95 : decode cX5_unfolds 95 = .ok (.iadd, 1) := by decide +kernel
theorem dX5_unfolds_96 : decode cX5_unfolds 96 = .ok (.putfield 104, 3) := by decide +kernel
theorem dX5_unfolds_99 : decode cX5_unfolds 99 = .ok (.goto (-33), 3) := by decide +kernel
theorem dX5_unfolds_102 : decode cX5_unfolds 102 = .ok (.return_, 1) := by decide +kernel
theorem dX5_splits_0 : decode cX5_splits 0 = .ok (.aload_n 0, 1) := by decide +kernel
theorem dX5_splits_1 : decode cX5_splits 1 = .ok (.iload_n 1, 1) := by decide +kernel
theorem dX5_splits_2 : decode cX5_splits 2 = .ok (.invokevirtual 140, 3) := by decide +kernel
theorem dX5_splits_5 : decode cX5_splits 5 = .ok (.ifCond .eq 10, 3) := by decide +kernel
theorem dX5_splits_8 : decode cX5_splits 8 = .ok (.aload_n 0, 1) := by decide +kernel
theorem dX5_splits_9 : decode cX5_splits 9 = .ok (.getfield 118, 3) := by decide +kernel
theorem dX5_splits_12 : decode cX5_splits 12 = .ok (.goto 4, 3) := by decide +kernel
theorem dX5_splits_15 : decode cX5_splits 15 = .ok (.iconst 0, 1) := by decide +kernel
theorem dX5_splits_16 : decode cX5_splits 16 = .ok (.ireturn, 1) := by decide +kernel
theorem dX5_asksSplit_0 : decode cX5_asksSplit 0 = .ok (.aload_n 0, 1) := by decide +kernel
theorem dX5_asksSplit_1 : decode cX5_asksSplit 1 = .ok (.aload_n 0, 1) := by decide +kernel
theorem dX5_asksSplit_2 : decode cX5_asksSplit 2 = .ok (.iload_n 1, 1) := by decide +kernel
theorem dX5_asksSplit_3 : decode cX5_asksSplit 3 = .ok (.invokevirtual 128, 3) := by decide +kernel
theorem dX5_asksSplit_6 : decode cX5_asksSplit 6 = .ok (.ifCond .eq 11, 3) := by decide +kernel
theorem dX5_asksSplit_9 : decode cX5_asksSplit 9 = .ok (.iload_n 2, 1) := by decide +kernel
theorem dX5_asksSplit_10 : decode cX5_asksSplit 10 = .ok (.ifCond .lt 7, 3) := by decide +kernel
theorem dX5_asksSplit_13 : decode cX5_asksSplit 13 = .ok (.iconst 0, 1) := by decide +kernel
theorem dX5_asksSplit_14 : decode cX5_asksSplit 14 = .ok (.goto 4, 3) := by decide +kernel
theorem dX5_asksSplit_17 : decode cX5_asksSplit 17 = .ok (.iconst 1, 1) := by decide +kernel
theorem dX5_asksSplit_18 : decode cX5_asksSplit 18 = .ok (.putfield 56, 3) := by decide +kernel
theorem dX5_asksSplit_21 : decode cX5_asksSplit 21 = .ok (.aload_n 0, 1) := by decide +kernel
theorem dX5_asksSplit_22 : decode cX5_asksSplit 22 = .ok (.getfield 56, 3) := by decide +kernel
theorem dX5_asksSplit_25 : decode cX5_asksSplit 25 = .ok (.ifCond .le 7, 3) := by decide +kernel
theorem dX5_asksSplit_28 : decode cX5_asksSplit 28 = .ok (.ldc2_w 134, 3) := by decide +kernel
theorem dX5_asksSplit_31 : decode cX5_asksSplit 31 = .ok (.lreturn, 1) := by decide +kernel
theorem dX5_asksSplit_32 : decode cX5_asksSplit 32 = .ok (.aload_n 0, 1) := by decide +kernel
theorem dX5_asksSplit_33 : decode cX5_asksSplit 33 = .ok (.invokevirtual 131, 3) := by decide +kernel
theorem dX5_asksSplit_36 : decode cX5_asksSplit 36 = .ok (.aload_n 0, 1) := by decide +kernel
theorem dX5_asksSplit_37 : decode cX5_asksSplit 37 = .ok (.iload_n 2, 1) := by decide +kernel
theorem dX5_asksSplit_38 : decode cX5_asksSplit 38 = .ok (.invokevirtual 143, 3) := by decide +kernel
theorem dX5_asksSplit_41 : decode cX5_asksSplit 41 = .ok (.lreturn, 1) := by decide +kernel
theorem dX5_cost_0 : decode cX5_cost 0 = .ok (.aload_n 0, 1) := by decide +kernel
theorem dX5_cost_1 : decode cX5_cost 1 = .ok (.iload_n 1, 1) := by decide +kernel
theorem dX5_cost_2 : decode cX5_cost 2 = .ok (.iload_n 2, 1) := by decide +kernel
theorem dX5_cost_3 : decode cX5_cost 3 = .ok (.invokevirtual 147, 3) := by decide +kernel
theorem dX5_cost_6 : decode cX5_cost 6 = .ok (.lstore_n 3, 1) := by decide +kernel
theorem dX5_cost_7 : decode cX5_cost 7 = .ok (.lload_n 3, 1) := by decide +kernel
theorem dX5_cost_8 : decode cX5_cost 8 = .ok (.ldc2_w 134, 3) := by decide +kernel
theorem dX5_cost_11 : decode cX5_cost 11 = .ok (.lcmp, 1) := by decide +kernel
theorem dX5_cost_12 : decode cX5_cost 12 = .ok (.ifCond .ne 7, 3) := by decide +kernel
theorem dX5_cost_15 : decode cX5_cost 15 = .ok (.iconst (-1), 1) := by decide +kernel
theorem dX5_cost_16 : decode cX5_cost 16 = .ok (.goto 7, 3) := by decide +kernel
theorem dX5_cost_19 : decode cX5_cost 19 = .ok (.lload_n 3, 1) := by decide +kernel
theorem dX5_cost_20 : decode cX5_cost 20 = .ok (.invokestatic 151, 3) := by decide +kernel
theorem dX5_cost_23 : decode cX5_cost 23 = .ok (.ireturn, 1) := by decide +kernel
theorem dX5_size_0 : decode cX5_size 0 = .ok (.aload_n 0, 1) := by decide +kernel
theorem dX5_size_1 : decode cX5_size 1 = .ok (.iload_n 1, 1) := by decide +kernel
theorem dX5_size_2 : decode cX5_size 2 = .ok (.iload_n 2, 1) := by decide +kernel
theorem dX5_size_3 : decode cX5_size 3 = .ok (.invokevirtual 147, 3) := by decide +kernel
theorem dX5_size_6 : decode cX5_size 6 = .ok (.lstore_n 3, 1) := by decide +kernel
theorem dX5_size_7 : decode cX5_size 7 = .ok (.lload_n 3, 1) := by decide +kernel
theorem dX5_size_8 : decode cX5_size 8 = .ok (.ldc2_w 134, 3) := by decide +kernel
theorem dX5_size_11 : decode cX5_size 11 = .ok (.lcmp, 1) := by decide +kernel
theorem dX5_size_12 : decode cX5_size 12 = .ok (.ifCond .ne 7, 3) := by decide +kernel
theorem dX5_size_15 : decode cX5_size 15 = .ok (.iconst (-1), 1) := by decide +kernel
theorem dX5_size_16 : decode cX5_size 16 = .ok (.goto 7, 3) := by decide +kernel
theorem dX5_size_19 : decode cX5_size 19 = .ok (.lload_n 3, 1) := by decide +kernel
theorem dX5_size_20 : decode cX5_size 20 = .ok (.invokestatic 136, 3) := by decide +kernel
theorem dX5_size_23 : decode cX5_size 23 = .ok (.ireturn, 1) := by decide +kernel
theorem dX5_partAt_0 : decode cX5_partAt 0 = .ok (.iload_n 3, 1) := by decide +kernel
theorem dX5_partAt_1 : decode cX5_partAt 1 = .ok (.ifCond .ge 9, 3) := by decide +kernel
theorem dX5_partAt_4 : decode cX5_partAt 4 = .ok (.ldc2_w 134, 3) := by decide +kernel
theorem dX5_partAt_7 : decode cX5_partAt 7 = .ok (.goto 9, 3) := by decide +kernel
theorem dX5_partAt_10 : decode cX5_partAt 10 = .ok (.aload_n 0, 1) := by decide +kernel
theorem dX5_partAt_11 : decode cX5_partAt 11 = .ok (.iload_n 1, 1) := by decide +kernel
theorem dX5_partAt_12 : decode cX5_partAt 12 = .ok (.iload_n 2, 1) := by decide +kernel
theorem dX5_partAt_13 : decode cX5_partAt 13 = .ok (.invokevirtual 147, 3) := by decide +kernel
theorem dX5_partAt_16 : decode cX5_partAt 16 = .ok (.lstore 4, 2) := by decide +kernel
theorem dX5_partAt_18 : decode cX5_partAt 18 = .ok (.iload_n 3, 1) := by decide +kernel
theorem dX5_partAt_19 : decode cX5_partAt 19 = .ok (.ifCond .ge 8, 3) := by decide +kernel
theorem dX5_partAt_22 : decode cX5_partAt 22 = .ok (.aload_n 0, 1) := by decide +kernel
theorem dX5_partAt_23 : decode cX5_partAt 23 = .ok (.iconst 1, 1) := by decide +kernel
theorem dX5_partAt_24 : decode cX5_partAt 24 = .ok (.putfield 56, 3) := by decide +kernel
theorem dX5_partAt_27 : decode cX5_partAt 27 = .ok (.lload 4, 2) := by decide +kernel
theorem dX5_partAt_29 : decode cX5_partAt 29 = .ok (.ldc2_w 134, 3) := by decide +kernel
theorem dX5_partAt_32 : decode cX5_partAt 32 = .ok (.lcmp, 1) := by decide +kernel
theorem dX5_partAt_33 : decode cX5_partAt 33 = .ok (.ifCond .eq 12, 3) := by decide +kernel
theorem dX5_partAt_36 : decode cX5_partAt 36 = .ok (.iload_n 3, 1) := by decide +kernel
theorem dX5_partAt_37 : decode cX5_partAt 37 = .ok (.lload 4, 2) := by decide +kernel
theorem dX5_partAt_39 : decode cX5_partAt 39 = .ok (.invokestatic 136, 3) := by decide +kernel
theorem dX5_partAt_42 : decode cX5_partAt 42 = .ok (.if_icmp .lt 5, 3) := by decide +kernel
theorem dX5_partAt_45 : decode cX5_partAt 45 = .ok (.iconst (-1), 1) := by decide +kernel
theorem dX5_partAt_46 : decode cX5_partAt 46 = .ok (.ireturn, 1) := by decide +kernel
theorem dX5_partAt_47 : decode cX5_partAt 47 = .ok (.aload_n 0, 1) := by decide +kernel
theorem dX5_partAt_48 : decode cX5_partAt 48 = .ok (.lload 4, 2) := by decide +kernel
theorem dX5_partAt_50 : decode cX5_partAt 50 = .ok (.invokevirtual 154, 3) := by decide +kernel
theorem dX5_partAt_53 : decode cX5_partAt 53 = .ok (.bipush 10, 2) := by decide +kernel
theorem dX5_partAt_55 : decode cX5_partAt 55 = .ok (.aload_n 0, 1) := by decide +kernel
theorem dX5_partAt_56 : decode cX5_partAt 56 = .ok (.getfield 49, 3) := by decide +kernel
theorem dX5_partAt_59 : decode cX5_partAt 59 = .ok (.iload_n 3, 1) := by decide +kernel
theorem dX5_partAt_60 : decode cX5_partAt 60 = .ok (.iaload, 1) := by decide +kernel
theorem dX5_partAt_61 : decode cX5_partAt 61 = .ok (.imul, 1) := by decide +kernel
theorem dX5_partAt_62 : decode cX5_partAt 62 = .ok (.aload_n 0, 1) := by decide +kernel
theorem dX5_partAt_63 : decode cX5_partAt 63 = .ok (.getfield 43, 3) := by decide +kernel
theorem dX5_partAt_66 : decode cX5_partAt 66 = .ok (.iload_n 3, 1) := by decide +kernel
theorem dX5_partAt_67 : decode cX5_partAt 67 = .ok (.iaload, 1) := by decide +kernel
theorem dX5_partAt_68 : decode cX5_partAt 68 = .ok (.bipush 7, 2) := by decide +kernel
theorem dX5_partAt_70 : decode cX5_partAt 70 = .ok (.irem, 1) := by decide +kernel
theorem dX5_partAt_71 : decode cX5_partAt 71 = .ok (.iadd, 1) := by decide +kernel
theorem dX5_partAt_72 : decode cX5_partAt 72 = .ok (.ireturn, 1) := by decide +kernel
theorem dX5_head_0 : decode cX5_head 0 = .ok (.aload_n 0, 1) := by decide +kernel
theorem dX5_head_1 : decode cX5_head 1 = .ok (.iload_n 1, 1) := by decide +kernel
theorem dX5_head_2 : decode cX5_head 2 = .ok (.invokevirtual 140, 3) := by decide +kernel
theorem dX5_head_5 : decode cX5_head 5 = .ok (.ifCond .eq 10, 3) := by decide +kernel
theorem dX5_head_8 : decode cX5_head 8 = .ok (.aload_n 0, 1) := by decide +kernel
theorem dX5_head_9 : decode cX5_head 9 = .ok (.getfield 118, 3) := by decide +kernel
theorem dX5_head_12 : decode cX5_head 12 = .ok (.ifCond .ne 5, 3) := by decide +kernel
theorem dX5_head_15 : decode cX5_head 15 = .ok (.iconst (-1), 1) := by decide +kernel
theorem dX5_head_16 : decode cX5_head 16 = .ok (.ireturn, 1) := by decide +kernel
theorem dX5_head_17 : decode cX5_head 17 = .ok (.aload_n 0, 1) := by decide +kernel
theorem dX5_head_18 : decode cX5_head 18 = .ok (.aload_n 0, 1) := by decide +kernel
theorem dX5_head_19 : decode cX5_head 19 = .ok (.iconst 0, 1) := by decide +kernel
theorem dX5_head_20 : decode cX5_head 20 = .ok (.invokevirtual 143, 3) := by decide +kernel
theorem dX5_head_23 : decode cX5_head 23 = .ok (.invokevirtual 154, 3) := by decide +kernel
theorem dX5_head_26 : decode cX5_head 26 = .ok (.aload_n 0, 1) := by decide +kernel
theorem dX5_head_27 : decode cX5_head 27 = .ok (.getfield 49, 3) := by decide +kernel
theorem dX5_head_30 : decode cX5_head 30 = .ok (.aload_n 0, 1) := by decide +kernel
theorem dX5_head_31 : decode cX5_head 31 = .ok (.getfield 104, 3) := by decide +kernel
theorem dX5_head_34 : decode cX5_head 34 = .ok (.iconst 1, 1) := by decide +kernel
theorem dX5_head_35 : decode cX5_head 35 = .ok (.isub, 1) := by decide +kernel
theorem dX5_head_36 : decode cX5_head 36 = .ok (.iaload, 1) := by decide +kernel
theorem dX5_head_37 : decode cX5_head 37 = .ok (.ireturn, 1) := by decide +kernel
theorem dX5_trees_0 : decode cX5_trees 0 = .ok (.lconst 1, 1) := by decide +kernel
theorem dX5_trees_1 : decode cX5_trees 1 = .ok (.lstore_n 1, 1) := by decide +kernel
theorem dX5_trees_2 : decode cX5_trees 2 = .ok (.iconst 1, 1) := by decide +kernel
theorem dX5_trees_3 : decode cX5_trees 3 = .ok (.istore_n 3, 1) := by decide +kernel
theorem dX5_trees_4 : decode cX5_trees 4 = .ok (.iload_n 3, 1) := by decide +kernel
theorem dX5_trees_5 : decode cX5_trees 5 = .ok (.iload_n 0, 1) := by decide +kernel
theorem dX5_trees_6 : decode cX5_trees 6 = .ok (.if_icmp .ge 29, 3) := by decide +kernel
theorem dX5_trees_9 : decode cX5_trees 9 = .ok (.lload_n 1, 1) := by decide +kernel
theorem dX5_trees_10 : decode cX5_trees 10 = .ok (.ldc2_w 158, 3) := by decide +kernel
theorem dX5_trees_13 : decode cX5_trees 13 = .ok (.lmul, 1) := by decide +kernel
theorem dX5_trees_14 : decode cX5_trees 14 = .ok (.ldc2_w 158, 3) := by decide +kernel
theorem dX5_trees_17 : decode cX5_trees 17 = .ok (.iload_n 3, 1) := by decide +kernel
theorem dX5_trees_18 : decode cX5_trees 18 = .ok (.i2l, 1) := by decide +kernel
theorem dX5_trees_19 : decode cX5_trees 19 = .ok (.lmul, 1) := by decide +kernel
theorem dX5_trees_20 : decode cX5_trees 20 = .ok (.lconst 1, 1) := by decide +kernel
theorem dX5_trees_21 : decode cX5_trees 21 = .ok (.lsub, 1) := by decide +kernel
theorem dX5_trees_22 : decode cX5_trees 22 = .ok (.lmul, 1) := by decide +kernel
theorem dX5_trees_23 : decode cX5_trees 23 = .ok (.iload_n 3, 1) := by decide +kernel
theorem dX5_trees_24 : decode cX5_trees 24 = .ok (.i2l, 1) := by decide +kernel
theorem dX5_trees_25 : decode cX5_trees 25 = .ok (.lconst 1, 1) := by decide +kernel
theorem dX5_trees_26 : decode cX5_trees 26 = .ok (.ladd, 1) := by decide +kernel
theorem dX5_trees_27 : decode cX5_trees 27 = .ok (.ldiv, 1) := by decide +kernel
theorem dX5_trees_28 : decode cX5_trees 28 = .ok (.lstore_n 1, 1) := by decide +kernel
theorem dX5_trees_29 : decode cX5_trees 29 = .ok (.iinc 3 1, 3) := by decide +kernel
theorem dX5_trees_32 : decode cX5_trees 32 = .ok (.goto (-28), 3) := by decide +kernel
theorem dX5_trees_35 : decode cX5_trees 35 = .ok (.lload_n 1, 1) := by decide +kernel
theorem dX5_trees_36 : decode cX5_trees 36 = .ok (.l2i, 1) := by decide +kernel
theorem dX5_trees_37 : decode cX5_trees 37 = .ok (.ireturn, 1) := by decide +kernel
theorem dX5_readings_0 : decode cX5_readings 0 = .ok (.aload_n 0, 1) := by decide +kernel
theorem dX5_readings_1 : decode cX5_readings 1 = .ok (.iload_n 1, 1) := by decide +kernel
theorem dX5_readings_2 : decode cX5_readings 2 = .ok (.invokevirtual 140, 3) := by decide +kernel
theorem dX5_readings_5 : decode cX5_readings 5 = .ok (.ifCond .ne 5, 3) := by decide +kernel
theorem dX5_readings_8 : decode cX5_readings 8 = .ok (.iconst 0, 1) := by decide +kernel
theorem dX5_readings_9 : decode cX5_readings 9 = .ok (.ireturn, 1) := by decide +kernel
theorem dX5_readings_10 : decode cX5_readings 10 = .ok (.iconst 0, 1) := by decide +kernel
theorem dX5_readings_11 : decode cX5_readings 11 = .ok (.istore_n 2, 1) := by decide +kernel
theorem dX5_readings_12 : decode cX5_readings 12 = .ok (.iconst 0, 1) := by decide +kernel
theorem dX5_readings_13 : decode cX5_readings 13 = .ok (.istore_n 3, 1) := by decide +kernel
theorem dX5_readings_14 : decode cX5_readings 14 = .ok (.iload_n 3, 1) := by decide +kernel
theorem dX5_readings_15 : decode cX5_readings 15 = .ok (.aload_n 0, 1) := by decide +kernel
theorem dX5_readings_16 : decode cX5_readings 16 = .ok (.getfield 118, 3) := by decide +kernel
theorem dX5_readings_19 : decode cX5_readings 19 = .ok (.if_icmp .ge 24, 3) := by decide +kernel
theorem dX5_readings_22 : decode cX5_readings 22 = .ok (.iload_n 2, 1) := by decide +kernel
theorem dX5_readings_23 : decode cX5_readings 23 = .ok (.aload_n 0, 1) := by decide +kernel
theorem dX5_readings_24 : decode cX5_readings 24 = .ok (.getfield 52, 3) := by decide +kernel
theorem dX5_readings_27 : decode cX5_readings 27 = .ok (.iload_n 3, 1) := by decide +kernel
theorem dX5_readings_28 : decode cX5_readings 28 = .ok (.laload, 1) := by decide +kernel
theorem dX5_readings_29 : decode cX5_readings 29 = .ok (.invokestatic 136, 3) := by decide +kernel
theorem dX5_readings_32 : decode cX5_readings 32 = .ok (.invokestatic 160, 3) := by decide +kernel
theorem dX5_readings_35 : decode cX5_readings 35 = .ok (.iadd, 1) := by decide +kernel
theorem dX5_readings_36 : decode cX5_readings 36 = .ok (.istore_n 2, 1) := by decide +kernel
theorem dX5_readings_37 : decode cX5_readings 37 = .ok (.iinc 3 1, 3) := by decide +kernel
theorem dX5_readings_40 : decode cX5_readings 40 = .ok (.goto (-26), 3) := by decide +kernel
theorem dX5_readings_43 : decode cX5_readings 43 = .ok (.iload_n 2, 1) := by decide +kernel
theorem dX5_readings_44 : decode cX5_readings 44 = .ok (.ireturn, 1) := by decide +kernel
theorem dX5_learns_0 : decode cX5_learns 0 = .ok (.aload_n 0, 1) := by decide +kernel
theorem dX5_learns_1 : decode cX5_learns 1 = .ok (.aload_n 0, 1) := by decide +kernel
theorem dX5_learns_2 : decode cX5_learns 2 = .ok (.iconst 0, 1) := by decide +kernel
theorem dX5_learns_3 : decode cX5_learns 3 = .ok (.invokevirtual 143, 3) := by decide +kernel
theorem dX5_learns_6 : decode cX5_learns 6 = .ok (.invokevirtual 154, 3) := by decide +kernel
theorem dX5_learns_9 : decode cX5_learns 9 = .ok (.iconst 0, 1) := by decide +kernel
theorem dX5_learns_10 : decode cX5_learns 10 = .ok (.istore_n 2, 1) := by decide +kernel
theorem dX5_learns_11 : decode cX5_learns 11 = .ok (.iload_n 2, 1) := by decide +kernel
theorem dX5_learns_12 : decode cX5_learns 12 = .ok (.bipush 16, 2) := by decide +kernel
theorem dX5_learns_14 : decode cX5_learns 14 = .ok (.if_icmp .ge 24, 3) := by decide +kernel
theorem dX5_learns_17 : decode cX5_learns 17 = .ok (.aload_n 0, 1) := by decide +kernel
theorem dX5_learns_18 : decode cX5_learns 18 = .ok (.getfield 37, 3) := by decide +kernel
theorem dX5_learns_21 : decode cX5_learns 21 = .ok (.bipush 16, 2) := by decide +kernel
theorem dX5_learns_23 : decode cX5_learns 23 = .ok (.aload_n 0, 1) := by decide +kernel
theorem dX5_learns_24 : decode cX5_learns 24 = .ok (.getfield 163, 3) := by decide +kernel
theorem dX5_learns_27 : decode cX5_learns 27 = .ok (.imul, 1) := by decide +kernel
theorem dX5_learns_28 : decode cX5_learns 28 = .ok (.iload_n 2, 1) := by decide +kernel
theorem dX5_learns_29 : decode cX5_learns 29 = .ok (.iadd, 1) := by decide +kernel
theorem dX5_learns_30 : decode cX5_learns 30 = .ok (.iconst 0, 1) := by decide +kernel
theorem dX5_learns_31 : decode cX5_learns 31 = .ok (.iastore, 1) := by decide +kernel
theorem dX5_learns_32 : decode cX5_learns 32 = .ok (.iinc 2 1, 3) := by decide +kernel
theorem dX5_learns_35 : decode cX5_learns 35 = .ok (.goto (-24), 3) := by decide +kernel
theorem dX5_learns_38 : decode cX5_learns 38 = .ok (.iconst 0, 1) := by decide +kernel
theorem dX5_learns_39 : decode cX5_learns 39 = .ok (.istore_n 2, 1) := by decide +kernel
theorem dX5_learns_40 : decode cX5_learns 40 = .ok (.iload_n 2, 1) := by decide +kernel
theorem dX5_learns_41 : decode cX5_learns 41 = .ok (.aload_n 0, 1) := by decide +kernel
theorem dX5_learns_42 : decode cX5_learns 42 = .ok (.getfield 104, 3) := by decide +kernel
theorem dX5_learns_45 : decode cX5_learns 45 = .ok (.if_icmp .ge 70, 3) := by decide +kernel
theorem dX5_learns_48 : decode cX5_learns 48 = .ok (.aload_n 0, 1) := by decide +kernel
theorem dX5_learns_49 : decode cX5_learns 49 = .ok (.getfield 16, 3) := by decide +kernel
theorem dX5_learns_52 : decode cX5_learns 52 = .ok (.aload_n 0, 1) := by decide +kernel
theorem dX5_learns_53 : decode cX5_learns 53 = .ok (.getfield 49, 3) := by decide +kernel
theorem dX5_learns_56 : decode cX5_learns 56 = .ok (.iload_n 2, 1) := by decide +kernel
theorem dX5_learns_57 : decode cX5_learns 57 = .ok (.iaload, 1) := by decide +kernel
theorem dX5_learns_58 : decode cX5_learns 58 = .ok (.iaload, 1) := by decide +kernel
theorem dX5_learns_59 : decode cX5_learns 59 = .ok (.sipush 9999, 3) := by decide +kernel
theorem dX5_learns_62 : decode cX5_learns 62 = .ok (.if_icmp .ge 7, 3) := by decide +kernel
theorem dX5_learns_65 : decode cX5_learns 65 = .ok (.iconst 1, 1) := by decide +kernel
theorem dX5_learns_66 : decode cX5_learns 66 = .ok (.goto 4, 3) := by decide +kernel
theorem dX5_learns_69 : decode cX5_learns 69 = .ok (.iconst 0, 1) := by decide +kernel
theorem dX5_learns_70 : decode cX5_learns 70 = .ok (.istore_n 3, 1) := by decide +kernel
theorem dX5_learns_71 : decode cX5_learns 71 = .ok (.aload_n 0, 1) := by decide +kernel
theorem dX5_learns_72 : decode cX5_learns 72 = .ok (.getfield 16, 3) := by decide +kernel
theorem dX5_learns_75 : decode cX5_learns 75 = .ok (.aload_n 0, 1) := by decide +kernel
theorem dX5_learns_76 : decode cX5_learns 76 = .ok (.getfield 49, 3) := by decide +kernel
theorem dX5_learns_79 : decode cX5_learns 79 = .ok (.iload_n 2, 1) := by decide +kernel
theorem dX5_learns_80 : decode cX5_learns 80 = .ok (.iaload, 1) := by decide +kernel
theorem dX5_learns_81 : decode cX5_learns 81 = .ok (.dup2, 1) := by decide +kernel
theorem dX5_learns_82 : decode cX5_learns 82 = .ok (.iaload, 1) := by decide +kernel
theorem dX5_learns_83 : decode cX5_learns 83 = .ok (.iload_n 3, 1) := by decide +kernel
theorem dX5_learns_84 : decode cX5_learns 84 = .ok (.iadd, 1) := by decide +kernel
theorem dX5_learns_85 : decode cX5_learns 85 = .ok (.iastore, 1) := by decide +kernel
theorem dX5_learns_86 : decode cX5_learns 86 = .ok (.aload_n 0, 1) := by decide +kernel
theorem dX5_learns_87 : decode cX5_learns 87 = .ok (.getfield 37, 3) := by decide +kernel
theorem dX5_learns_90 : decode cX5_learns 90 = .ok (.bipush 16, 2) := by decide +kernel
theorem dX5_learns_92 : decode cX5_learns 92 = .ok (.aload_n 0, 1) := by decide +kernel
theorem dX5_learns_93 : decode cX5_learns 93 = .ok (.getfield 163, 3) := by decide +kernel
theorem dX5_learns_96 : decode cX5_learns 96 = .ok (.imul, 1) := by decide +kernel
theorem dX5_learns_97 : decode cX5_learns 97 = .ok (.aload_n 0, 1) := by decide +kernel
theorem dX5_learns_98 : decode cX5_learns 98 = .ok (.getfield 49, 3) := by decide +kernel
theorem dX5_learns_101 : decode cX5_learns 101 = .ok (.iload_n 2, 1) := by decide +kernel
theorem dX5_learns_102 : decode cX5_learns 102 = .ok (.iaload, 1) := by decide +kernel
theorem dX5_learns_103 : decode cX5_learns 103 = .ok (.iadd, 1) := by decide +kernel
theorem dX5_learns_104 : decode cX5_learns 104 = .ok (.dup2, 1) := by decide +kernel
theorem dX5_learns_105 : decode cX5_learns 105 = .ok (.iaload, 1) := by decide +kernel
theorem dX5_learns_106 : decode cX5_learns 106 = .ok (.iload_n 3, 1) := by decide +kernel
theorem dX5_learns_107 : decode cX5_learns 107 = .ok (.iadd, 1) := by decide +kernel
theorem dX5_learns_108 : decode cX5_learns 108 = .ok (.iastore, 1) := by decide +kernel
theorem dX5_learns_109 : decode cX5_learns 109 = .ok (.iinc 2 1, 3) := by decide +kernel
theorem dX5_learns_112 : decode cX5_learns 112 = .ok (.goto (-72), 3) := by decide +kernel
theorem dX5_learns_115 : decode cX5_learns 115 = .ok (.aload_n 0, 1) := by decide +kernel
theorem dX5_learns_116 : decode cX5_learns 116 = .ok (.getfield 34, 3) := by decide +kernel
theorem dX5_learns_119 : decode cX5_learns 119 = .ok (.aload_n 0, 1) := by decide +kernel
theorem dX5_learns_120 : decode cX5_learns 120 = .ok (.getfield 163, 3) := by decide +kernel
theorem dX5_learns_123 : decode cX5_learns 123 = .ok (.iload_n 1, 1) := by decide +kernel
theorem dX5_learns_124 : decode cX5_learns 124 = .ok (.iastore, 1) := by decide +kernel
theorem dX5_learns_125 : decode cX5_learns 125 = .ok (.aload_n 0, 1) := by decide +kernel
theorem dX5_learns_126 : decode cX5_learns 126 = .ok (.dup, 1) := by decide +kernel
theorem dX5_learns_127 : decode cX5_learns 127 = .ok (.getfield 163, 3) := by decide +kernel
theorem dX5_learns_130 : decode cX5_learns 130 = .ok (.iconst 1, 1) := by decide +kernel
theorem dX5_learns_131 : decode cX5_learns 131 = .ok (.iadd, 1) := by decide +kernel
theorem dX5_learns_132 : decode cX5_learns 132 = .ok (.putfield 163, 3) := by decide +kernel
theorem dX5_learns_135 : decode cX5_learns 135 = .ok (.return_, 1) := by decide +kernel
theorem dX5_learn_0 : decode cX5_learn 0 = .ok (.aload_n 0, 1) := by decide +kernel
theorem dX5_learn_1 : decode cX5_learn 1 = .ok (.aload_n 0, 1) := by decide +kernel
theorem dX5_learn_2 : decode cX5_learn 2 = .ok (.iload_n 1, 1) := by decide +kernel
theorem dX5_learn_3 : decode cX5_learn 3 = .ok (.invokevirtual 128, 3) := by decide +kernel
theorem dX5_learn_6 : decode cX5_learn 6 = .ok (.ifCond .ne 7, 3) := by decide +kernel
theorem dX5_learn_9 : decode cX5_learn 9 = .ok (.iconst 1, 1) := by decide +kernel
theorem dX5_learn_10 : decode cX5_learn 10 = .ok (.goto 17, 3) := by decide +kernel
theorem dX5_learn_13 : decode cX5_learn 13 = .ok (.aload_n 0, 1) := by decide +kernel
theorem dX5_learn_14 : decode cX5_learn 14 = .ok (.getfield 163, 3) := by decide +kernel
theorem dX5_learn_17 : decode cX5_learn 17 = .ok (.bipush 50, 2) := by decide +kernel
theorem dX5_learn_19 : decode cX5_learn 19 = .ok (.if_icmp .ne 7, 3) := by decide +kernel
theorem dX5_learn_22 : decode cX5_learn 22 = .ok (.iconst 2, 1) := by decide +kernel
theorem dX5_learn_23 : decode cX5_learn 23 = .ok (.goto 4, 3) := by decide +kernel
theorem dX5_learn_26 : decode cX5_learn 26 = .ok (.iconst 0, 1) := by decide +kernel
theorem dX5_learn_27 : decode cX5_learn 27 = .ok (.putfield 56, 3) := by decide +kernel
theorem dX5_learn_30 : decode cX5_learn 30 = .ok (.aload_n 0, 1) := by decide +kernel
theorem dX5_learn_31 : decode cX5_learn 31 = .ok (.getfield 56, 3) := by decide +kernel
theorem dX5_learn_34 : decode cX5_learn 34 = .ok (.ifCond .le 5, 3) := by decide +kernel
theorem dX5_learn_37 : decode cX5_learn 37 = .ok (.iconst 0, 1) := by decide +kernel
theorem dX5_learn_38 : decode cX5_learn 38 = .ok (.ireturn, 1) := by decide +kernel
theorem dX5_learn_39 : decode cX5_learn 39 = .ok (.aload_n 0, 1) := by decide +kernel
theorem dX5_learn_40 : decode cX5_learn 40 = .ok (.invokevirtual 131, 3) := by decide +kernel
theorem dX5_learn_43 : decode cX5_learn 43 = .ok (.aload_n 0, 1) := by decide +kernel
theorem dX5_learn_44 : decode cX5_learn 44 = .ok (.getfield 118, 3) := by decide +kernel
theorem dX5_learn_47 : decode cX5_learn 47 = .ok (.iconst 1, 1) := by decide +kernel
theorem dX5_learn_48 : decode cX5_learn 48 = .ok (.if_icmp .eq 33, 3) := by decide +kernel
theorem dX5_learn_51 : decode cX5_learn 51 = .ok (.aload_n 0, 1) := by decide +kernel
theorem dX5_learn_52 : decode cX5_learn 52 = .ok (.getfield 118, 3) := by decide +kernel
theorem dX5_learn_55 : decode cX5_learn 55 = .ok (.iconst 1, 1) := by decide +kernel
theorem dX5_learn_56 : decode cX5_learn 56 = .ok (.if_icmp .le 29, 3) := by decide +kernel
theorem dX5_learn_59 : decode cX5_learn 59 = .ok (.aload_n 0, 1) := by decide +kernel
theorem dX5_learn_60 : decode cX5_learn 60 = .ok (.iconst 1, 1) := by decide +kernel
theorem dX5_learn_61 : decode cX5_learn 61 = .ok (.invokevirtual 143, 3) := by decide +kernel
theorem dX5_learn_64 : decode cX5_learn 64 = .ok (.invokestatic 151, 3) := by decide +kernel
theorem dX5_learn_67 : decode cX5_learn 67 = .ok (.aload_n 0, 1) := by decide +kernel
theorem dX5_learn_68 : decode cX5_learn 68 = .ok (.iconst 0, 1) := by decide +kernel
theorem dX5_learn_69 : decode cX5_learn 69 = .ok (.invokevirtual 143, 3) := by decide +kernel
theorem dX5_learn_72 : decode cX5_learn 72 = .ok (.invokestatic 151, 3) := by decide +kernel
theorem dX5_learn_75 : decode cX5_learn 75 = .ok (.bipush 20, 2) := by decide +kernel
theorem dX5_learn_77 : decode cX5_learn 77 = .ok (.iadd, 1) := by decide +kernel
theorem dX5_learn_78 : decode cX5_learn 78 = .ok (.if_icmp .lt 7, 3) := by decide +kernel
theorem dX5_learn_81 : decode cX5_learn 81 = .ok (.iconst 1, 1) := by decide +kernel
theorem dX5_learn_82 : decode cX5_learn 82 = .ok (.goto 4, 3) := by decide +kernel
theorem dX5_learn_85 : decode cX5_learn 85 = .ok (.iconst 0, 1) := by decide +kernel
theorem dX5_learn_86 : decode cX5_learn 86 = .ok (.istore_n 2, 1) := by decide +kernel
theorem dX5_learn_87 : decode cX5_learn 87 = .ok (.iload_n 2, 1) := by decide +kernel
theorem dX5_learn_88 : decode cX5_learn 88 = .ok (.ifCond .eq 8, 3) := by decide +kernel
theorem dX5_learn_91 : decode cX5_learn 91 = .ok (.aload_n 0, 1) := by decide +kernel
theorem dX5_learn_92 : decode cX5_learn 92 = .ok (.iload_n 1, 1) := by decide +kernel
theorem dX5_learn_93 : decode cX5_learn 93 = .ok (.invokevirtual 166, 3) := by decide +kernel
theorem dX5_learn_96 : decode cX5_learn 96 = .ok (.iload_n 2, 1) := by decide +kernel
theorem dX5_learn_97 : decode cX5_learn 97 = .ok (.ireturn, 1) := by decide +kernel
theorem dX5_forget_0 : decode cX5_forget 0 = .ok (.aload_n 0, 1) := by decide +kernel
theorem dX5_forget_1 : decode cX5_forget 1 = .ok (.aload_n 0, 1) := by decide +kernel
theorem dX5_forget_2 : decode cX5_forget 2 = .ok (.getfield 163, 3) := by decide +kernel
theorem dX5_forget_5 : decode cX5_forget 5 = .ok (.ifCond .ne 7, 3) := by decide +kernel
theorem dX5_forget_8 : decode cX5_forget 8 = .ok (.iconst 1, 1) := by decide +kernel
theorem dX5_forget_9 : decode cX5_forget 9 = .ok (.goto 4, 3) := by decide +kernel
theorem dX5_forget_12 : decode cX5_forget 12 = .ok (.iconst 0, 1) := by decide +kernel
theorem dX5_forget_13 : decode cX5_forget 13 = .ok (.putfield 56, 3) := by decide +kernel
theorem dX5_forget_16 : decode cX5_forget 16 = .ok (.aload_n 0, 1) := by decide +kernel
theorem dX5_forget_17 : decode cX5_forget 17 = .ok (.getfield 56, 3) := by decide +kernel
theorem dX5_forget_20 : decode cX5_forget 20 = .ok (.ifCond .le 5, 3) := by decide +kernel
theorem dX5_forget_23 : decode cX5_forget 23 = .ok (.iconst 0, 1) := by decide +kernel
theorem dX5_forget_24 : decode cX5_forget 24 = .ok (.ireturn, 1) := by decide +kernel
theorem dX5_forget_25 : decode cX5_forget 25 = .ok (.aload_n 0, 1) := by decide +kernel
theorem dX5_forget_26 : decode cX5_forget 26 = .ok (.dup, 1) := by decide +kernel
theorem dX5_forget_27 : decode cX5_forget 27 = .ok (.getfield 163, 3) := by decide +kernel
theorem dX5_forget_30 : decode cX5_forget 30 = .ok (.iconst 1, 1) := by decide +kernel
theorem dX5_forget_31 : decode cX5_forget 31 = .ok (.isub, 1) := by decide +kernel
theorem dX5_forget_32 : decode cX5_forget 32 = .ok (.putfield 163, 3) := by decide +kernel
theorem dX5_forget_35 : decode cX5_forget 35 = .ok (.iconst 0, 1) := by decide +kernel
theorem dX5_forget_36 : decode cX5_forget 36 = .ok (.istore_n 1, 1) := by decide +kernel
theorem dX5_forget_37 : decode cX5_forget 37 = .ok (.iload_n 1, 1) := by decide +kernel
theorem dX5_forget_38 : decode cX5_forget 38 = .ok (.aload_n 0, 1) := by decide +kernel
theorem dX5_forget_39 : decode cX5_forget 39 = .ok (.getfield 68, 3) := by decide +kernel
theorem dX5_forget_42 : decode cX5_forget 42 = .ok (.if_icmp .ge 32, 3) := by decide +kernel
theorem dX5_forget_45 : decode cX5_forget 45 = .ok (.aload_n 0, 1) := by decide +kernel
theorem dX5_forget_46 : decode cX5_forget 46 = .ok (.getfield 16, 3) := by decide +kernel
theorem dX5_forget_49 : decode cX5_forget 49 = .ok (.iload_n 1, 1) := by decide +kernel
theorem dX5_forget_50 : decode cX5_forget 50 = .ok (.dup2, 1) := by decide +kernel
theorem dX5_forget_51 : decode cX5_forget 51 = .ok (.iaload, 1) := by decide +kernel
theorem dX5_forget_52 : decode cX5_forget 52 = .ok (.aload_n 0, 1) := by decide +kernel
theorem dX5_forget_53 : decode cX5_forget 53 = .ok (.getfield 37, 3) := by decide +kernel
theorem dX5_forget_56 : decode cX5_forget 56 = .ok (.bipush 16, 2) := by decide +kernel
theorem dX5_forget_58 : decode cX5_forget 58 = .ok (.aload_n 0, 1) := by decide +kernel
theorem dX5_forget_59 : decode cX5_forget 59 = .ok (.getfield 163, 3) := by decide +kernel
theorem dX5_forget_62 : decode cX5_forget 62 = .ok (.imul, 1) := by decide +kernel
theorem dX5_forget_63 : decode cX5_forget 63 = .ok (.iload_n 1, 1) := by decide +kernel
theorem dX5_forget_64 : decode cX5_forget 64 = .ok (.iadd, 1) := by decide +kernel
theorem dX5_forget_65 : decode cX5_forget 65 = .ok (.iaload, 1) := by decide +kernel
theorem dX5_forget_66 : decode cX5_forget 66 = .ok (.isub, 1) := by decide +kernel
theorem dX5_forget_67 : decode cX5_forget 67 = .ok (.iastore, 1) := by decide +kernel
theorem dX5_forget_68 : decode cX5_forget 68 = .ok (.iinc 1 1, 3) := by decide +kernel
theorem dX5_forget_71 : decode cX5_forget 71 = .ok (.goto (-34), 3) := by decide +kernel
theorem dX5_forget_74 : decode cX5_forget 74 = .ok (.aload_n 0, 1) := by decide +kernel
theorem dX5_forget_75 : decode cX5_forget 75 = .ok (.getfield 34, 3) := by decide +kernel
theorem dX5_forget_78 : decode cX5_forget 78 = .ok (.aload_n 0, 1) := by decide +kernel
theorem dX5_forget_79 : decode cX5_forget 79 = .ok (.getfield 163, 3) := by decide +kernel
theorem dX5_forget_82 : decode cX5_forget 82 = .ok (.iaload, 1) := by decide +kernel
theorem dX5_forget_83 : decode cX5_forget 83 = .ok (.ireturn, 1) := by decide +kernel
theorem dX5_learned_0 : decode cX5_learned 0 = .ok (.aload_n 0, 1) := by decide +kernel
theorem dX5_learned_1 : decode cX5_learned 1 = .ok (.iconst 0, 1) := by decide +kernel
theorem dX5_learned_2 : decode cX5_learned 2 = .ok (.putfield 56, 3) := by decide +kernel
theorem dX5_learned_5 : decode cX5_learned 5 = .ok (.aload_n 0, 1) := by decide +kernel
theorem dX5_learned_6 : decode cX5_learned 6 = .ok (.getfield 163, 3) := by decide +kernel
theorem dX5_learned_9 : decode cX5_learned 9 = .ok (.ireturn, 1) := by decide +kernel
end
section
theorem dL_addPart_0 : decode cL_addPart 0 = .ok (.aload 4, 2) := by decide +kernel
theorem dL_addPart_2 : decode cL_addPart 2 = .ok (.iconst 0, 1) := by decide +kernel
theorem dL_addPart_3 : decode cL_addPart 3 = .ok (.aload_n 0, 1) := by decide +kernel
theorem dL_addPart_4 : decode cL_addPart 4 = .ok (.iload_n 1, 1) := by decide +kernel
theorem dL_addPart_5 : decode cL_addPart 5 = .ok (.iload_n 2, 1) := by decide +kernel
theorem dL_addPart_6 : decode cL_addPart 6 = .ok (.iload_n 3, 1) := by decide +kernel
theorem dL_addPart_7 : decode cL_addPart 7 = .ok (.invokevirtual 7, 3) := by decide +kernel
theorem dL_addPart_10 : decode cL_addPart 10 = .ok (.i2l, 1) := by decide +kernel
theorem dL_addPart_11 : decode cL_addPart 11 = .ok (.lastore, 1) := by decide +kernel
theorem dL_addPart_12 : decode cL_addPart 12 = .ok (.goto 11, 3) := by decide +kernel
theorem dL_addPart_15 : decode cL_addPart 15 = .ok (.astore 5, 2) := by decide +kernel
theorem dL_addPart_17 : decode cL_addPart 17 = .ok (.iconst 1, 1) := by decide +kernel
theorem dL_addPart_18 : decode cL_addPart 18 = .ok (.ireturn, 1) := by decide +kernel
theorem dL_addPart_19 : decode cL_addPart 19 = .ok (.astore 5, 2) := by decide +kernel
theorem dL_addPart_21 : decode cL_addPart 21 = .ok (.iconst 2, 1) := by decide +kernel
theorem dL_addPart_22 : decode cL_addPart 22 = .ok (.ireturn, 1) := by decide +kernel
theorem dL_addPart_23 : decode cL_addPart 23 = .ok (.iconst 0, 1) := by decide +kernel
theorem dL_addPart_24 : decode cL_addPart 24 = .ok (.ireturn, 1) := by decide +kernel
theorem dL_setFlags_0 : decode cL_setFlags 0 = .ok (.aload_n 3, 1) := by decide +kernel
theorem dL_setFlags_1 : decode cL_setFlags 1 = .ok (.iconst 0, 1) := by decide +kernel
theorem dL_setFlags_2 : decode cL_setFlags 2 = .ok (.aload_n 0, 1) := by decide +kernel
theorem dL_setFlags_3 : decode cL_setFlags 3 = .ok (.iload_n 1, 1) := by decide +kernel
theorem dL_setFlags_4 : decode cL_setFlags 4 = .ok (.iload_n 2, 1) := by decide +kernel
theorem dL_setFlags_5 : decode cL_setFlags 5 = .ok (.invokevirtual 17, 3) := by decide +kernel
theorem dL_setFlags_8 : decode cL_setFlags 8 = .ok (.i2l, 1) := by decide +kernel
theorem dL_setFlags_9 : decode cL_setFlags 9 = .ok (.lastore, 1) := by decide +kernel
theorem dL_setFlags_10 : decode cL_setFlags 10 = .ok (.goto 11, 3) := by decide +kernel
theorem dL_setFlags_13 : decode cL_setFlags 13 = .ok (.astore 4, 2) := by decide +kernel
theorem dL_setFlags_15 : decode cL_setFlags 15 = .ok (.iconst 1, 1) := by decide +kernel
theorem dL_setFlags_16 : decode cL_setFlags 16 = .ok (.ireturn, 1) := by decide +kernel
theorem dL_setFlags_17 : decode cL_setFlags 17 = .ok (.astore 4, 2) := by decide +kernel
theorem dL_setFlags_19 : decode cL_setFlags 19 = .ok (.iconst 2, 1) := by decide +kernel
theorem dL_setFlags_20 : decode cL_setFlags 20 = .ok (.ireturn, 1) := by decide +kernel
theorem dL_setFlags_21 : decode cL_setFlags 21 = .ok (.iconst 0, 1) := by decide +kernel
theorem dL_setFlags_22 : decode cL_setFlags 22 = .ok (.ireturn, 1) := by decide +kernel
theorem dL_addLink_0 : decode cL_addLink 0 = .ok (.aload_n 2, 1) := by decide +kernel
theorem dL_addLink_1 : decode cL_addLink 1 = .ok (.iconst 0, 1) := by decide +kernel
theorem dL_addLink_2 : decode cL_addLink 2 = .ok (.aload_n 0, 1) := by decide +kernel
theorem dL_addLink_3 : decode cL_addLink 3 = .ok (.iload_n 1, 1) := by decide +kernel
theorem dL_addLink_4 : decode cL_addLink 4 = .ok (.invokevirtual 23, 3) := by decide +kernel
theorem dL_addLink_7 : decode cL_addLink 7 = .ok (.i2l, 1) := by decide +kernel
theorem dL_addLink_8 : decode cL_addLink 8 = .ok (.lastore, 1) := by decide +kernel
theorem dL_addLink_9 : decode cL_addLink 9 = .ok (.goto 9, 3) := by decide +kernel
theorem dL_addLink_12 : decode cL_addLink 12 = .ok (.astore_n 3, 1) := by decide +kernel
theorem dL_addLink_13 : decode cL_addLink 13 = .ok (.iconst 1, 1) := by decide +kernel
theorem dL_addLink_14 : decode cL_addLink 14 = .ok (.ireturn, 1) := by decide +kernel
theorem dL_addLink_15 : decode cL_addLink 15 = .ok (.astore_n 3, 1) := by decide +kernel
theorem dL_addLink_16 : decode cL_addLink 16 = .ok (.iconst 2, 1) := by decide +kernel
theorem dL_addLink_17 : decode cL_addLink 17 = .ok (.ireturn, 1) := by decide +kernel
theorem dL_addLink_18 : decode cL_addLink 18 = .ok (.iconst 0, 1) := by decide +kernel
theorem dL_addLink_19 : decode cL_addLink 19 = .ok (.ireturn, 1) := by decide +kernel
theorem dL_veto_0 : decode cL_veto 0 = .ok (.aload 4, 2) := by decide +kernel
theorem dL_veto_2 : decode cL_veto 2 = .ok (.iconst 0, 1) := by decide +kernel
theorem dL_veto_3 : decode cL_veto 3 = .ok (.aload_n 0, 1) := by decide +kernel
theorem dL_veto_4 : decode cL_veto 4 = .ok (.iload_n 1, 1) := by decide +kernel
theorem dL_veto_5 : decode cL_veto 5 = .ok (.iload_n 2, 1) := by decide +kernel
theorem dL_veto_6 : decode cL_veto 6 = .ok (.iload_n 3, 1) := by decide +kernel
theorem dL_veto_7 : decode cL_veto 7 = .ok (.invokevirtual 27, 3) := by decide +kernel
theorem dL_veto_10 : decode cL_veto 10 = .ok (.ifCond .eq 7, 3) := by decide +kernel
theorem dL_veto_13 : decode cL_veto 13 = .ok (.lconst 1, 1) := by decide +kernel
theorem dL_veto_14 : decode cL_veto 14 = .ok (.goto 4, 3) := by decide +kernel
theorem dL_veto_17 : decode cL_veto 17 = .ok (.lconst 0, 1) := by decide +kernel
theorem dL_veto_18 : decode cL_veto 18 = .ok (.lastore, 1) := by decide +kernel
theorem dL_veto_19 : decode cL_veto 19 = .ok (.goto 7, 3) := by decide +kernel
theorem dL_veto_22 : decode cL_veto 22 = .ok (.astore 5, 2) := by decide +kernel
theorem dL_veto_24 : decode cL_veto 24 = .ok (.iconst 1, 1) := by decide +kernel
theorem dL_veto_25 : decode cL_veto 25 = .ok (.ireturn, 1) := by decide +kernel
theorem dL_veto_26 : decode cL_veto 26 = .ok (.iconst 0, 1) := by decide +kernel
theorem dL_veto_27 : decode cL_veto 27 = .ok (.ireturn, 1) := by decide +kernel
theorem dL_bar_0 : decode cL_bar 0 = .ok (.aload 4, 2) := by decide +kernel
theorem dL_bar_2 : decode cL_bar 2 = .ok (.iconst 0, 1) := by decide +kernel
theorem dL_bar_3 : decode cL_bar 3 = .ok (.aload_n 0, 1) := by decide +kernel
theorem dL_bar_4 : decode cL_bar 4 = .ok (.iload_n 1, 1) := by decide +kernel
theorem dL_bar_5 : decode cL_bar 5 = .ok (.iload_n 2, 1) := by decide +kernel
theorem dL_bar_6 : decode cL_bar 6 = .ok (.iload_n 3, 1) := by decide +kernel
theorem dL_bar_7 : decode cL_bar 7 = .ok (.invokevirtual 31, 3) := by decide +kernel
theorem dL_bar_10 : decode cL_bar 10 = .ok (.ifCond .eq 7, 3) := by decide +kernel
theorem dL_bar_13 : decode cL_bar 13 = .ok (.lconst 1, 1) := by decide +kernel
theorem dL_bar_14 : decode cL_bar 14 = .ok (.goto 4, 3) := by decide +kernel
theorem dL_bar_17 : decode cL_bar 17 = .ok (.lconst 0, 1) := by decide +kernel
theorem dL_bar_18 : decode cL_bar 18 = .ok (.lastore, 1) := by decide +kernel
theorem dL_bar_19 : decode cL_bar 19 = .ok (.goto 7, 3) := by decide +kernel
theorem dL_bar_22 : decode cL_bar 22 = .ok (.astore 5, 2) := by decide +kernel
theorem dL_bar_24 : decode cL_bar 24 = .ok (.iconst 1, 1) := by decide +kernel
theorem dL_bar_25 : decode cL_bar 25 = .ok (.ireturn, 1) := by decide +kernel
theorem dL_bar_26 : decode cL_bar 26 = .ok (.iconst 0, 1) := by decide +kernel
theorem dL_bar_27 : decode cL_bar 27 = .ok (.ireturn, 1) := by decide +kernel
theorem dL_count_0 : decode cL_count 0 = .ok (.aload_n 2, 1) := by decide +kernel
theorem dL_count_1 : decode cL_count 1 = .ok (.iconst 0, 1) := by decide +kernel
theorem dL_count_2 : decode cL_count 2 = .ok (.aload_n 0, 1) := by decide +kernel
theorem dL_count_3 : decode cL_count 3 = .ok (.iload_n 1, 1) := by decide +kernel
theorem dL_count_4 : decode cL_count 4 = .ok (.invokevirtual 34, 3) := by decide +kernel
theorem dL_count_7 : decode cL_count 7 = .ok (.i2l, 1) := by decide +kernel
theorem dL_count_8 : decode cL_count 8 = .ok (.lastore, 1) := by decide +kernel
theorem dL_count_9 : decode cL_count 9 = .ok (.goto 6, 3) := by decide +kernel
theorem dL_count_12 : decode cL_count 12 = .ok (.astore_n 3, 1) := by decide +kernel
theorem dL_count_13 : decode cL_count 13 = .ok (.iconst 1, 1) := by decide +kernel
theorem dL_count_14 : decode cL_count 14 = .ok (.ireturn, 1) := by decide +kernel
theorem dL_count_15 : decode cL_count 15 = .ok (.iconst 0, 1) := by decide +kernel
theorem dL_count_16 : decode cL_count 16 = .ok (.ireturn, 1) := by decide +kernel
theorem dL_costOf_0 : decode cL_costOf 0 = .ok (.aload_n 2, 1) := by decide +kernel
theorem dL_costOf_1 : decode cL_costOf 1 = .ok (.iconst 0, 1) := by decide +kernel
theorem dL_costOf_2 : decode cL_costOf 2 = .ok (.aload_n 0, 1) := by decide +kernel
theorem dL_costOf_3 : decode cL_costOf 3 = .ok (.iload_n 1, 1) := by decide +kernel
theorem dL_costOf_4 : decode cL_costOf 4 = .ok (.invokevirtual 37, 3) := by decide +kernel
theorem dL_costOf_7 : decode cL_costOf 7 = .ok (.i2l, 1) := by decide +kernel
theorem dL_costOf_8 : decode cL_costOf 8 = .ok (.lastore, 1) := by decide +kernel
theorem dL_costOf_9 : decode cL_costOf 9 = .ok (.goto 6, 3) := by decide +kernel
theorem dL_costOf_12 : decode cL_costOf 12 = .ok (.astore_n 3, 1) := by decide +kernel
theorem dL_costOf_13 : decode cL_costOf 13 = .ok (.iconst 1, 1) := by decide +kernel
theorem dL_costOf_14 : decode cL_costOf 14 = .ok (.ireturn, 1) := by decide +kernel
theorem dL_costOf_15 : decode cL_costOf 15 = .ok (.iconst 0, 1) := by decide +kernel
theorem dL_costOf_16 : decode cL_costOf 16 = .ok (.ireturn, 1) := by decide +kernel
theorem dL_find_0 : decode cL_find 0 = .ok (.aload_n 2, 1) := by decide +kernel
theorem dL_find_1 : decode cL_find 1 = .ok (.iconst 0, 1) := by decide +kernel
theorem dL_find_2 : decode cL_find 2 = .ok (.aload_n 0, 1) := by decide +kernel
theorem dL_find_3 : decode cL_find 3 = .ok (.iload_n 1, 1) := by decide +kernel
theorem dL_find_4 : decode cL_find 4 = .ok (.invokevirtual 40, 3) := by decide +kernel
theorem dL_find_7 : decode cL_find 7 = .ok (.i2l, 1) := by decide +kernel
theorem dL_find_8 : decode cL_find 8 = .ok (.lastore, 1) := by decide +kernel
theorem dL_find_9 : decode cL_find 9 = .ok (.goto 6, 3) := by decide +kernel
theorem dL_find_12 : decode cL_find 12 = .ok (.astore_n 3, 1) := by decide +kernel
theorem dL_find_13 : decode cL_find 13 = .ok (.iconst 1, 1) := by decide +kernel
theorem dL_find_14 : decode cL_find 14 = .ok (.ireturn, 1) := by decide +kernel
theorem dL_find_15 : decode cL_find 15 = .ok (.iconst 0, 1) := by decide +kernel
theorem dL_find_16 : decode cL_find 16 = .ok (.ireturn, 1) := by decide +kernel
theorem dL_splits_0 : decode cL_splits 0 = .ok (.aload_n 2, 1) := by decide +kernel
theorem dL_splits_1 : decode cL_splits 1 = .ok (.iconst 0, 1) := by decide +kernel
theorem dL_splits_2 : decode cL_splits 2 = .ok (.aload_n 0, 1) := by decide +kernel
theorem dL_splits_3 : decode cL_splits 3 = .ok (.iload_n 1, 1) := by decide +kernel
theorem dL_splits_4 : decode cL_splits 4 = .ok (.invokevirtual 43, 3) := by decide +kernel
theorem dL_splits_7 : decode cL_splits 7 = .ok (.i2l, 1) := by decide +kernel
theorem dL_splits_8 : decode cL_splits 8 = .ok (.lastore, 1) := by decide +kernel
theorem dL_splits_9 : decode cL_splits 9 = .ok (.goto 6, 3) := by decide +kernel
theorem dL_splits_12 : decode cL_splits 12 = .ok (.astore_n 3, 1) := by decide +kernel
theorem dL_splits_13 : decode cL_splits 13 = .ok (.iconst 1, 1) := by decide +kernel
theorem dL_splits_14 : decode cL_splits 14 = .ok (.ireturn, 1) := by decide +kernel
theorem dL_splits_15 : decode cL_splits 15 = .ok (.iconst 0, 1) := by decide +kernel
theorem dL_splits_16 : decode cL_splits 16 = .ok (.ireturn, 1) := by decide +kernel
theorem dL_cost_0 : decode cL_cost 0 = .ok (.aload_n 3, 1) := by decide +kernel
theorem dL_cost_1 : decode cL_cost 1 = .ok (.iconst 0, 1) := by decide +kernel
theorem dL_cost_2 : decode cL_cost 2 = .ok (.aload_n 0, 1) := by decide +kernel
theorem dL_cost_3 : decode cL_cost 3 = .ok (.iload_n 1, 1) := by decide +kernel
theorem dL_cost_4 : decode cL_cost 4 = .ok (.iload_n 2, 1) := by decide +kernel
theorem dL_cost_5 : decode cL_cost 5 = .ok (.invokevirtual 46, 3) := by decide +kernel
theorem dL_cost_8 : decode cL_cost 8 = .ok (.i2l, 1) := by decide +kernel
theorem dL_cost_9 : decode cL_cost 9 = .ok (.lastore, 1) := by decide +kernel
theorem dL_cost_10 : decode cL_cost 10 = .ok (.goto 7, 3) := by decide +kernel
theorem dL_cost_13 : decode cL_cost 13 = .ok (.astore 4, 2) := by decide +kernel
theorem dL_cost_15 : decode cL_cost 15 = .ok (.iconst 1, 1) := by decide +kernel
theorem dL_cost_16 : decode cL_cost 16 = .ok (.ireturn, 1) := by decide +kernel
theorem dL_cost_17 : decode cL_cost 17 = .ok (.iconst 0, 1) := by decide +kernel
theorem dL_cost_18 : decode cL_cost 18 = .ok (.ireturn, 1) := by decide +kernel
theorem dL_size_0 : decode cL_size 0 = .ok (.aload_n 3, 1) := by decide +kernel
theorem dL_size_1 : decode cL_size 1 = .ok (.iconst 0, 1) := by decide +kernel
theorem dL_size_2 : decode cL_size 2 = .ok (.aload_n 0, 1) := by decide +kernel
theorem dL_size_3 : decode cL_size 3 = .ok (.iload_n 1, 1) := by decide +kernel
theorem dL_size_4 : decode cL_size 4 = .ok (.iload_n 2, 1) := by decide +kernel
theorem dL_size_5 : decode cL_size 5 = .ok (.invokevirtual 49, 3) := by decide +kernel
theorem dL_size_8 : decode cL_size 8 = .ok (.i2l, 1) := by decide +kernel
theorem dL_size_9 : decode cL_size 9 = .ok (.lastore, 1) := by decide +kernel
theorem dL_size_10 : decode cL_size 10 = .ok (.goto 7, 3) := by decide +kernel
theorem dL_size_13 : decode cL_size 13 = .ok (.astore 4, 2) := by decide +kernel
theorem dL_size_15 : decode cL_size 15 = .ok (.iconst 1, 1) := by decide +kernel
theorem dL_size_16 : decode cL_size 16 = .ok (.ireturn, 1) := by decide +kernel
theorem dL_size_17 : decode cL_size 17 = .ok (.iconst 0, 1) := by decide +kernel
theorem dL_size_18 : decode cL_size 18 = .ok (.ireturn, 1) := by decide +kernel
theorem dL_partAt_0 : decode cL_partAt 0 = .ok (.aload 4, 2) := by decide +kernel
theorem dL_partAt_2 : decode cL_partAt 2 = .ok (.iconst 0, 1) := by decide +kernel
theorem dL_partAt_3 : decode cL_partAt 3 = .ok (.aload_n 0, 1) := by decide +kernel
theorem dL_partAt_4 : decode cL_partAt 4 = .ok (.iload_n 1, 1) := by decide +kernel
theorem dL_partAt_5 : decode cL_partAt 5 = .ok (.iload_n 2, 1) := by decide +kernel
theorem dL_partAt_6 : decode cL_partAt 6 = .ok (.iload_n 3, 1) := by decide +kernel
theorem dL_partAt_7 : decode cL_partAt 7 = .ok (.invokevirtual 52, 3) := by decide +kernel
theorem dL_partAt_10 : decode cL_partAt 10 = .ok (.i2l, 1) := by decide +kernel
theorem dL_partAt_11 : decode cL_partAt 11 = .ok (.lastore, 1) := by decide +kernel
theorem dL_partAt_12 : decode cL_partAt 12 = .ok (.goto 7, 3) := by decide +kernel
theorem dL_partAt_15 : decode cL_partAt 15 = .ok (.astore 5, 2) := by decide +kernel
theorem dL_partAt_17 : decode cL_partAt 17 = .ok (.iconst 1, 1) := by decide +kernel
theorem dL_partAt_18 : decode cL_partAt 18 = .ok (.ireturn, 1) := by decide +kernel
theorem dL_partAt_19 : decode cL_partAt 19 = .ok (.iconst 0, 1) := by decide +kernel
theorem dL_partAt_20 : decode cL_partAt 20 = .ok (.ireturn, 1) := by decide +kernel
theorem dL_head_0 : decode cL_head 0 = .ok (.aload_n 2, 1) := by decide +kernel
theorem dL_head_1 : decode cL_head 1 = .ok (.iconst 0, 1) := by decide +kernel
theorem dL_head_2 : decode cL_head 2 = .ok (.aload_n 0, 1) := by decide +kernel
theorem dL_head_3 : decode cL_head 3 = .ok (.iload_n 1, 1) := by decide +kernel
theorem dL_head_4 : decode cL_head 4 = .ok (.invokevirtual 55, 3) := by decide +kernel
theorem dL_head_7 : decode cL_head 7 = .ok (.i2l, 1) := by decide +kernel
theorem dL_head_8 : decode cL_head 8 = .ok (.lastore, 1) := by decide +kernel
theorem dL_head_9 : decode cL_head 9 = .ok (.goto 6, 3) := by decide +kernel
theorem dL_head_12 : decode cL_head 12 = .ok (.astore_n 3, 1) := by decide +kernel
theorem dL_head_13 : decode cL_head 13 = .ok (.iconst 1, 1) := by decide +kernel
theorem dL_head_14 : decode cL_head 14 = .ok (.ireturn, 1) := by decide +kernel
theorem dL_head_15 : decode cL_head 15 = .ok (.iconst 0, 1) := by decide +kernel
theorem dL_head_16 : decode cL_head 16 = .ok (.ireturn, 1) := by decide +kernel
theorem dL_readings_0 : decode cL_readings 0 = .ok (.aload_n 2, 1) := by decide +kernel
theorem dL_readings_1 : decode cL_readings 1 = .ok (.iconst 0, 1) := by decide +kernel
theorem dL_readings_2 : decode cL_readings 2 = .ok (.aload_n 0, 1) := by decide +kernel
theorem dL_readings_3 : decode cL_readings 3 = .ok (.iload_n 1, 1) := by decide +kernel
theorem dL_readings_4 : decode cL_readings 4 = .ok (.invokevirtual 58, 3) := by decide +kernel
theorem dL_readings_7 : decode cL_readings 7 = .ok (.i2l, 1) := by decide +kernel
theorem dL_readings_8 : decode cL_readings 8 = .ok (.lastore, 1) := by decide +kernel
theorem dL_readings_9 : decode cL_readings 9 = .ok (.goto 6, 3) := by decide +kernel
theorem dL_readings_12 : decode cL_readings 12 = .ok (.astore_n 3, 1) := by decide +kernel
theorem dL_readings_13 : decode cL_readings 13 = .ok (.iconst 1, 1) := by decide +kernel
theorem dL_readings_14 : decode cL_readings 14 = .ok (.ireturn, 1) := by decide +kernel
theorem dL_readings_15 : decode cL_readings 15 = .ok (.iconst 0, 1) := by decide +kernel
theorem dL_readings_16 : decode cL_readings 16 = .ok (.ireturn, 1) := by decide +kernel
theorem dL_learn_0 : decode cL_learn 0 = .ok (.aload_n 2, 1) := by decide +kernel
theorem dL_learn_1 : decode cL_learn 1 = .ok (.iconst 0, 1) := by decide +kernel
theorem dL_learn_2 : decode cL_learn 2 = .ok (.aload_n 0, 1) := by decide +kernel
theorem dL_learn_3 : decode cL_learn 3 = .ok (.iload_n 1, 1) := by decide +kernel
theorem dL_learn_4 : decode cL_learn 4 = .ok (.invokevirtual 61, 3) := by decide +kernel
theorem dL_learn_7 : decode cL_learn 7 = .ok (.ifCond .eq 7, 3) := by decide +kernel
theorem dL_learn_10 : decode cL_learn 10 = .ok (.lconst 1, 1) := by decide +kernel
theorem dL_learn_11 : decode cL_learn 11 = .ok (.goto 4, 3) := by decide +kernel
theorem dL_learn_14 : decode cL_learn 14 = .ok (.lconst 0, 1) := by decide +kernel
theorem dL_learn_15 : decode cL_learn 15 = .ok (.lastore, 1) := by decide +kernel
theorem dL_learn_16 : decode cL_learn 16 = .ok (.goto 9, 3) := by decide +kernel
theorem dL_learn_19 : decode cL_learn 19 = .ok (.astore_n 3, 1) := by decide +kernel
theorem dL_learn_20 : decode cL_learn 20 = .ok (.iconst 1, 1) := by decide +kernel
theorem dL_learn_21 : decode cL_learn 21 = .ok (.ireturn, 1) := by decide +kernel
theorem dL_learn_22 : decode cL_learn 22 = .ok (.astore_n 3, 1) := by decide +kernel
theorem dL_learn_23 : decode cL_learn 23 = .ok (.iconst 2, 1) := by decide +kernel
theorem dL_learn_24 : decode cL_learn 24 = .ok (.ireturn, 1) := by decide +kernel
theorem dL_learn_25 : decode cL_learn 25 = .ok (.iconst 0, 1) := by decide +kernel
theorem dL_learn_26 : decode cL_learn 26 = .ok (.ireturn, 1) := by decide +kernel
theorem dL_forget_0 : decode cL_forget 0 = .ok (.aload_n 1, 1) := by decide +kernel
theorem dL_forget_1 : decode cL_forget 1 = .ok (.iconst 0, 1) := by decide +kernel
theorem dL_forget_2 : decode cL_forget 2 = .ok (.aload_n 0, 1) := by decide +kernel
theorem dL_forget_3 : decode cL_forget 3 = .ok (.invokevirtual 65, 3) := by decide +kernel
theorem dL_forget_6 : decode cL_forget 6 = .ok (.i2l, 1) := by decide +kernel
theorem dL_forget_7 : decode cL_forget 7 = .ok (.lastore, 1) := by decide +kernel
theorem dL_forget_8 : decode cL_forget 8 = .ok (.goto 6, 3) := by decide +kernel
theorem dL_forget_11 : decode cL_forget 11 = .ok (.astore_n 2, 1) := by decide +kernel
theorem dL_forget_12 : decode cL_forget 12 = .ok (.iconst 1, 1) := by decide +kernel
theorem dL_forget_13 : decode cL_forget 13 = .ok (.ireturn, 1) := by decide +kernel
theorem dL_forget_14 : decode cL_forget 14 = .ok (.iconst 0, 1) := by decide +kernel
theorem dL_forget_15 : decode cL_forget 15 = .ok (.ireturn, 1) := by decide +kernel
theorem dL_law_0 : decode cL_law 0 = .ok (.new 8, 3) := by decide +kernel
theorem dL_law_3 : decode cL_law 3 = .ok (.dup, 1) := by decide +kernel
theorem dL_law_4 : decode cL_law 4 = .ok (.invokespecial 69, 3) := by decide +kernel
theorem dL_law_7 : decode cL_law 7 = .ok (.astore_n 1, 1) := by decide +kernel
theorem dL_law_8 : decode cL_law 8 = .ok (.new 70, 3) := by decide +kernel
theorem dL_law_11 : decode cL_law 11 = .ok (.dup, 1) := by decide +kernel
theorem dL_law_12 : decode cL_law 12 = .ok (.invokespecial 72, 3) := by decide +kernel
theorem dL_law_15 : decode cL_law 15 = .ok (.astore_n 2, 1) := by decide +kernel
theorem dL_law_16 : decode cL_law 16 = .ok (.iconst 1, 1) := by decide +kernel
theorem dL_law_17 : decode cL_law 17 = .ok (.newarray .long, 2) := by decide +kernel
theorem dL_law_19 : decode cL_law 19 = .ok (.astore_n 3, 1) := by decide +kernel
theorem dL_law_20 : decode cL_law 20 = .ok (.iconst 0, 1) := by decide +kernel
theorem dL_law_21 : decode cL_law 21 = .ok (.istore 4, 2) := by decide +kernel
theorem dL_law_23 : decode cL_law 23 = .ok (.iload 4, 2) := by decide +kernel
theorem dL_law_25 : decode cL_law 25 = .ok (.aload_n 0, 1) := by decide +kernel
theorem dL_law_26 : decode cL_law 26 = .ok (.arraylength, 1) := by decide +kernel
theorem dL_law_27 : decode cL_law 27 = .ok (.iconst 4, 1) := by decide +kernel
theorem dL_law_28 : decode cL_law 28 = .ok (.isub, 1) := by decide +kernel
theorem dL_law_29 : decode cL_law 29 = .ok (.if_icmp .gt 1213, 3) := by decide +kernel
theorem dL_law_32 : decode cL_law 32 = .ok (.aload_n 0, 1) := by decide +kernel
theorem dL_law_33 : decode cL_law 33 = .ok (.iload 4, 2) := by decide +kernel
theorem dL_law_35 : decode cL_law 35 = .ok (.iaload, 1) := by decide +kernel
theorem dL_law_36 : decode cL_law 36 = .ok (.bipush 31, 2) := by decide +kernel
theorem dL_law_38 : decode cL_law 38 = .ok (.iand, 1) := by decide +kernel
theorem dL_law_39 : decode cL_law 39 = .ok (.tableswitch 1197 0 18 #[89, 169, 237, 293, 396, 499, 512, 568, 624, 680, 693, 749, 817, 885, 965, 1021, 1077, 1140, 1184], 89) := by decide +kernel
theorem dL_law_128 : decode cL_law 128 = .ok (.aload_n 1, 1) := by decide +kernel
theorem dL_law_129 : decode cL_law 129 = .ok (.aload_n 0, 1) := by decide +kernel
theorem dL_law_130 : decode cL_law 130 = .ok (.iload 4, 2) := by decide +kernel
theorem dL_law_132 : decode cL_law 132 = .ok (.iconst 1, 1) := by decide +kernel
theorem dL_law_133 : decode cL_law 133 = .ok (.iadd, 1) := by decide +kernel
theorem dL_law_134 : decode cL_law 134 = .ok (.iaload, 1) := by decide +kernel
theorem dL_law_135 : decode cL_law 135 = .ok (.aload_n 0, 1) := by decide +kernel
theorem dL_law_136 : decode cL_law 136 = .ok (.iload 4, 2) := by decide +kernel
theorem dL_law_138 : decode cL_law 138 = .ok (.iconst 2, 1) := by decide +kernel
theorem dL_law_139 : decode cL_law 139 = .ok (.iadd, 1) := by decide +kernel
theorem dL_law_140 : decode cL_law 140 = .ok (.iaload, 1) := by decide +kernel
theorem dL_law_141 : decode cL_law 141 = .ok (.aload_n 0, 1) := by decide +kernel
theorem dL_law_142 : decode cL_law 142 = .ok (.iload 4, 2) := by decide +kernel
theorem dL_law_144 : decode cL_law 144 = .ok (.iconst 3, 1) := by decide +kernel
theorem dL_law_145 : decode cL_law 145 = .ok (.iadd, 1) := by decide +kernel
theorem dL_law_146 : decode cL_law 146 = .ok (.iaload, 1) := by decide +kernel
theorem dL_law_147 : decode cL_law 147 = .ok (.aload_n 3, 1) := by decide +kernel
theorem dL_law_148 : decode cL_law 148 = .ok (.invokestatic 73, 3) := by decide +kernel
theorem dL_law_151 : decode cL_law 151 = .ok (.istore 5, 2) := by decide +kernel
theorem dL_law_153 : decode cL_law 153 = .ok (.aload_n 2, 1) := by decide +kernel
theorem dL_law_154 : decode cL_law 154 = .ok (.aload_n 0, 1) := by decide +kernel
theorem dL_law_155 : decode cL_law 155 = .ok (.iload 4, 2) := by decide +kernel
theorem dL_law_157 : decode cL_law 157 = .ok (.iconst 1, 1) := by decide +kernel
theorem dL_law_158 : decode cL_law 158 = .ok (.iadd, 1) := by decide +kernel
theorem dL_law_159 : decode cL_law 159 = .ok (.iaload, 1) := by decide +kernel
theorem dL_law_160 : decode cL_law 160 = .ok (.aload_n 0, 1) := by decide +kernel
theorem dL_law_161 : decode cL_law 161 = .ok (.iload 4, 2) := by decide +kernel
theorem dL_law_163 : decode cL_law 163 = .ok (.iconst 2, 1) := by decide +kernel
theorem dL_law_164 : decode cL_law 164 = .ok (.iadd, 1) := by decide +kernel
theorem dL_law_165 : decode cL_law 165 = .ok (.iaload, 1) := by decide +kernel
theorem dL_law_166 : decode cL_law 166 = .ok (.aload_n 0, 1) := by decide +kernel
theorem dL_law_167 : decode cL_law 167 = .ok (.iload 4, 2) := by decide +kernel
theorem dL_law_169 : decode cL_law 169 = .ok (.iconst 3, 1) := by decide +kernel
theorem dL_law_170 : decode cL_law 170 = .ok (.iadd, 1) := by decide +kernel
theorem dL_law_171 : decode cL_law 171 = .ok (.iaload, 1) := by decide +kernel
theorem dL_law_172 : decode cL_law 172 = .ok (.invokevirtual 78, 3) := by decide +kernel
theorem dL_law_175 : decode cL_law 175 = .ok (.istore 6, 2) := by decide +kernel
theorem dL_law_177 : decode cL_law 177 = .ok (.aload_n 2, 1) := by decide +kernel
theorem dL_law_178 : decode cL_law 178 = .ok (.invokevirtual 79, 3) := by decide +kernel
theorem dL_law_181 : decode cL_law 181 = .ok (.iload 5, 2) := by decide +kernel
theorem dL_law_183 : decode cL_law 183 = .ok (.if_icmp .eq 5, 3) := by decide +kernel
theorem dL_law_186 : decode cL_law 186 = .ok (.iconst 0, 1) := by decide +kernel
theorem dL_law_187 : decode cL_law 187 = .ok (.ireturn, 1) := by decide +kernel
theorem dL_law_188 : decode cL_law 188 = .ok (.iload 5, 2) := by decide +kernel
theorem dL_law_190 : decode cL_law 190 = .ok (.ifCond .ne 15, 3) := by decide +kernel
theorem dL_law_193 : decode cL_law 193 = .ok (.aload_n 3, 1) := by decide +kernel
theorem dL_law_194 : decode cL_law 194 = .ok (.iconst 0, 1) := by decide +kernel
theorem dL_law_195 : decode cL_law 195 = .ok (.laload, 1) := by decide +kernel
theorem dL_law_196 : decode cL_law 196 = .ok (.iload 6, 2) := by decide +kernel
theorem dL_law_198 : decode cL_law 198 = .ok (.i2l, 1) := by decide +kernel
theorem dL_law_199 : decode cL_law 199 = .ok (.lcmp, 1) := by decide +kernel
theorem dL_law_200 : decode cL_law 200 = .ok (.ifCond .eq 5, 3) := by decide +kernel
theorem dL_law_203 : decode cL_law 203 = .ok (.iconst 0, 1) := by decide +kernel
theorem dL_law_204 : decode cL_law 204 = .ok (.ireturn, 1) := by decide +kernel
theorem dL_law_205 : decode cL_law 205 = .ok (.goto 1031, 3) := by decide +kernel
theorem dL_law_208 : decode cL_law 208 = .ok (.aload_n 1, 1) := by decide +kernel
theorem dL_law_209 : decode cL_law 209 = .ok (.aload_n 0, 1) := by decide +kernel
theorem dL_law_210 : decode cL_law 210 = .ok (.iload 4, 2) := by decide +kernel
theorem dL_law_212 : decode cL_law 212 = .ok (.iconst 1, 1) := by decide +kernel
theorem dL_law_213 : decode cL_law 213 = .ok (.iadd, 1) := by decide +kernel
theorem dL_law_214 : decode cL_law 214 = .ok (.iaload, 1) := by decide +kernel
theorem dL_law_215 : decode cL_law 215 = .ok (.aload_n 0, 1) := by decide +kernel
theorem dL_law_216 : decode cL_law 216 = .ok (.iload 4, 2) := by decide +kernel
theorem dL_law_218 : decode cL_law 218 = .ok (.iconst 2, 1) := by decide +kernel
theorem dL_law_219 : decode cL_law 219 = .ok (.iadd, 1) := by decide +kernel
theorem dL_law_220 : decode cL_law 220 = .ok (.iaload, 1) := by decide +kernel
theorem dL_law_221 : decode cL_law 221 = .ok (.aload_n 3, 1) := by decide +kernel
theorem dL_law_222 : decode cL_law 222 = .ok (.invokestatic 82, 3) := by decide +kernel
theorem dL_law_225 : decode cL_law 225 = .ok (.istore 5, 2) := by decide +kernel
theorem dL_law_227 : decode cL_law 227 = .ok (.aload_n 2, 1) := by decide +kernel
theorem dL_law_228 : decode cL_law 228 = .ok (.aload_n 0, 1) := by decide +kernel
theorem dL_law_229 : decode cL_law 229 = .ok (.iload 4, 2) := by decide +kernel
theorem dL_law_231 : decode cL_law 231 = .ok (.iconst 1, 1) := by decide +kernel
theorem dL_law_232 : decode cL_law 232 = .ok (.iadd, 1) := by decide +kernel
theorem dL_law_233 : decode cL_law 233 = .ok (.iaload, 1) := by decide +kernel
theorem dL_law_234 : decode cL_law 234 = .ok (.aload_n 0, 1) := by decide +kernel
theorem dL_law_235 : decode cL_law 235 = .ok (.iload 4, 2) := by decide +kernel
theorem dL_law_237 : decode cL_law 237 = .ok (.iconst 2, 1) := by decide +kernel
theorem dL_law_238 : decode cL_law 238 = .ok (.iadd, 1) := by decide +kernel
theorem dL_law_239 : decode cL_law 239 = .ok (.iaload, 1) := by decide +kernel
theorem dL_law_240 : decode cL_law 240 = .ok (.invokevirtual 85, 3) := by decide +kernel
theorem dL_law_243 : decode cL_law 243 = .ok (.istore 6, 2) := by decide +kernel
theorem dL_law_245 : decode cL_law 245 = .ok (.aload_n 2, 1) := by decide +kernel
theorem dL_law_246 : decode cL_law 246 = .ok (.invokevirtual 79, 3) := by decide +kernel
theorem dL_law_249 : decode cL_law 249 = .ok (.iload 5, 2) := by decide +kernel
theorem dL_law_251 : decode cL_law 251 = .ok (.if_icmp .eq 5, 3) := by decide +kernel
theorem dL_law_254 : decode cL_law 254 = .ok (.iconst 0, 1) := by decide +kernel
theorem dL_law_255 : decode cL_law 255 = .ok (.ireturn, 1) := by decide +kernel
theorem dL_law_256 : decode cL_law 256 = .ok (.iload 5, 2) := by decide +kernel
theorem dL_law_258 : decode cL_law 258 = .ok (.ifCond .ne 15, 3) := by decide +kernel
theorem dL_law_261 : decode cL_law 261 = .ok (.aload_n 3, 1) := by decide +kernel
theorem dL_law_262 : decode cL_law 262 = .ok (.iconst 0, 1) := by decide +kernel
theorem dL_law_263 : decode cL_law 263 = .ok (.laload, 1) := by decide +kernel
theorem dL_law_264 : decode cL_law 264 = .ok (.iload 6, 2) := by decide +kernel
theorem dL_law_266 : decode cL_law 266 = .ok (.i2l, 1) := by decide +kernel
theorem dL_law_267 : decode cL_law 267 = .ok (.lcmp, 1) := by decide +kernel
theorem dL_law_268 : decode cL_law 268 = .ok (.ifCond .eq 5, 3) := by decide +kernel
theorem dL_law_271 : decode cL_law 271 = .ok (.iconst 0, 1) := by decide +kernel
theorem dL_law_272 : decode cL_law 272 = .ok (.ireturn, 1) := by decide +kernel
theorem dL_law_273 : decode cL_law 273 = .ok (.goto 963, 3) := by decide +kernel
theorem dL_law_276 : decode cL_law 276 = .ok (.aload_n 1, 1) := by decide +kernel
theorem dL_law_277 : decode cL_law 277 = .ok (.aload_n 0, 1) := by decide +kernel
theorem dL_law_278 : decode cL_law 278 = .ok (.iload 4, 2) := by decide +kernel
theorem dL_law_280 : decode cL_law 280 = .ok (.iconst 1, 1) := by decide +kernel
theorem dL_law_281 : decode cL_law 281 = .ok (.iadd, 1) := by decide +kernel
theorem dL_law_282 : decode cL_law 282 = .ok (.iaload, 1) := by decide +kernel
theorem dL_law_283 : decode cL_law 283 = .ok (.aload_n 3, 1) := by decide +kernel
theorem dL_law_284 : decode cL_law 284 = .ok (.invokestatic 86, 3) := by decide +kernel
theorem dL_law_287 : decode cL_law 287 = .ok (.istore 5, 2) := by decide +kernel
theorem dL_law_289 : decode cL_law 289 = .ok (.aload_n 2, 1) := by decide +kernel
theorem dL_law_290 : decode cL_law 290 = .ok (.aload_n 0, 1) := by decide +kernel
theorem dL_law_291 : decode cL_law 291 = .ok (.iload 4, 2) := by decide +kernel
theorem dL_law_293 : decode cL_law 293 = .ok (.iconst 1, 1) := by decide +kernel
theorem dL_law_294 : decode cL_law 294 = .ok (.iadd, 1) := by decide +kernel
theorem dL_law_295 : decode cL_law 295 = .ok (.iaload, 1) := by decide +kernel
theorem dL_law_296 : decode cL_law 296 = .ok (.invokevirtual 89, 3) := by decide +kernel
theorem dL_law_299 : decode cL_law 299 = .ok (.istore 6, 2) := by decide +kernel
theorem dL_law_301 : decode cL_law 301 = .ok (.aload_n 2, 1) := by decide +kernel
theorem dL_law_302 : decode cL_law 302 = .ok (.invokevirtual 79, 3) := by decide +kernel
theorem dL_law_305 : decode cL_law 305 = .ok (.iload 5, 2) := by decide +kernel
theorem dL_law_307 : decode cL_law 307 = .ok (.if_icmp .eq 5, 3) := by decide +kernel
theorem dL_law_310 : decode cL_law 310 = .ok (.iconst 0, 1) := by decide +kernel
theorem dL_law_311 : decode cL_law 311 = .ok (.ireturn, 1) := by decide +kernel
theorem dL_law_312 : decode cL_law 312 = .ok (.iload 5, 2) := by decide +kernel
theorem dL_law_314 : decode cL_law 314 = .ok (.ifCond .ne 15, 3) := by decide +kernel
theorem dL_law_317 : decode cL_law 317 = .ok (.aload_n 3, 1) := by decide +kernel
theorem dL_law_318 : decode cL_law 318 = .ok (.iconst 0, 1) := by decide +kernel
theorem dL_law_319 : decode cL_law 319 = .ok (.laload, 1) := by decide +kernel
theorem dL_law_320 : decode cL_law 320 = .ok (.iload 6, 2) := by decide +kernel
theorem dL_law_322 : decode cL_law 322 = .ok (.i2l, 1) := by decide +kernel
theorem dL_law_323 : decode cL_law 323 = .ok (.lcmp, 1) := by decide +kernel
theorem dL_law_324 : decode cL_law 324 = .ok (.ifCond .eq 5, 3) := by decide +kernel
theorem dL_law_327 : decode cL_law 327 = .ok (.iconst 0, 1) := by decide +kernel
theorem dL_law_328 : decode cL_law 328 = .ok (.ireturn, 1) := by decide +kernel
theorem dL_law_329 : decode cL_law 329 = .ok (.goto 907, 3) := by decide +kernel
theorem dL_law_332 : decode cL_law 332 = .ok (.aload_n 1, 1) := by decide +kernel
theorem dL_law_333 : decode cL_law 333 = .ok (.aload_n 0, 1) := by decide +kernel
theorem dL_law_334 : decode cL_law 334 = .ok (.iload 4, 2) := by decide +kernel
theorem dL_law_336 : decode cL_law 336 = .ok (.iconst 1, 1) := by decide +kernel
theorem dL_law_337 : decode cL_law 337 = .ok (.iadd, 1) := by decide +kernel
theorem dL_law_338 : decode cL_law 338 = .ok (.iaload, 1) := by decide +kernel
theorem dL_law_339 : decode cL_law 339 = .ok (.aload_n 0, 1) := by decide +kernel
theorem dL_law_340 : decode cL_law 340 = .ok (.iload 4, 2) := by decide +kernel
theorem dL_law_342 : decode cL_law 342 = .ok (.iconst 2, 1) := by decide +kernel
theorem dL_law_343 : decode cL_law 343 = .ok (.iadd, 1) := by decide +kernel
theorem dL_law_344 : decode cL_law 344 = .ok (.iaload, 1) := by decide +kernel
theorem dL_law_345 : decode cL_law 345 = .ok (.aload_n 0, 1) := by decide +kernel
theorem dL_law_346 : decode cL_law 346 = .ok (.iload 4, 2) := by decide +kernel
theorem dL_law_348 : decode cL_law 348 = .ok (.iconst 3, 1) := by decide +kernel
theorem dL_law_349 : decode cL_law 349 = .ok (.iadd, 1) := by decide +kernel
theorem dL_law_350 : decode cL_law 350 = .ok (.iaload, 1) := by decide +kernel
theorem dL_law_351 : decode cL_law 351 = .ok (.ifCond .eq 7, 3) := by decide +kernel
theorem dL_law_354 : decode cL_law 354 = .ok (.iconst 1, 1) := by decide +kernel
theorem dL_law_355 : decode cL_law 355 = .ok (.goto 4, 3) := by decide +kernel
theorem dL_law_358 : decode cL_law 358 = .ok (.iconst 0, 1) := by decide +kernel
theorem dL_law_359 : decode cL_law 359 = .ok (.aload_n 3, 1) := by decide +kernel
theorem dL_law_360 : decode cL_law 360 = .ok (.invokestatic 90, 3) := by decide +kernel
theorem dL_law_363 : decode cL_law 363 = .ok (.istore 5, 2) := by decide +kernel
theorem dL_law_365 : decode cL_law 365 = .ok (.aload_n 2, 1) := by decide +kernel
theorem dL_law_366 : decode cL_law 366 = .ok (.aload_n 0, 1) := by decide +kernel
theorem dL_law_367 : decode cL_law 367 = .ok (.iload 4, 2) := by decide +kernel
theorem dL_law_369 : decode cL_law 369 = .ok (.iconst 1, 1) := by decide +kernel
theorem dL_law_370 : decode cL_law 370 = .ok (.iadd, 1) := by decide +kernel
theorem dL_law_371 : decode cL_law 371 = .ok (.iaload, 1) := by decide +kernel
theorem dL_law_372 : decode cL_law 372 = .ok (.aload_n 0, 1) := by decide +kernel
theorem dL_law_373 : decode cL_law 373 = .ok (.iload 4, 2) := by decide +kernel
theorem dL_law_375 : decode cL_law 375 = .ok (.iconst 2, 1) := by decide +kernel
theorem dL_law_376 : decode cL_law 376 = .ok (.iadd, 1) := by decide +kernel
theorem dL_law_377 : decode cL_law 377 = .ok (.iaload, 1) := by decide +kernel
theorem dL_law_378 : decode cL_law 378 = .ok (.aload_n 0, 1) := by decide +kernel
theorem dL_law_379 : decode cL_law 379 = .ok (.iload 4, 2) := by decide +kernel
theorem dL_law_381 : decode cL_law 381 = .ok (.iconst 3, 1) := by decide +kernel
theorem dL_law_382 : decode cL_law 382 = .ok (.iadd, 1) := by decide +kernel
theorem dL_law_383 : decode cL_law 383 = .ok (.iaload, 1) := by decide +kernel
theorem dL_law_384 : decode cL_law 384 = .ok (.ifCond .eq 7, 3) := by decide +kernel
theorem dL_law_387 : decode cL_law 387 = .ok (.iconst 1, 1) := by decide +kernel
theorem dL_law_388 : decode cL_law 388 = .ok (.goto 4, 3) := by decide +kernel
theorem dL_law_391 : decode cL_law 391 = .ok (.iconst 0, 1) := by decide +kernel
theorem dL_law_392 : decode cL_law 392 = .ok (.invokevirtual 93, 3) := by decide +kernel
theorem dL_law_395 : decode cL_law 395 = .ok (.istore 6, 2) := by decide +kernel
theorem dL_law_397 : decode cL_law 397 = .ok (.aload_n 2, 1) := by decide +kernel
theorem dL_law_398 : decode cL_law 398 = .ok (.invokevirtual 79, 3) := by decide +kernel
theorem dL_law_401 : decode cL_law 401 = .ok (.iload 5, 2) := by decide +kernel
theorem dL_law_403 : decode cL_law 403 = .ok (.if_icmp .eq 5, 3) := by decide +kernel
theorem dL_law_406 : decode cL_law 406 = .ok (.iconst 0, 1) := by decide +kernel
theorem dL_law_407 : decode cL_law 407 = .ok (.ireturn, 1) := by decide +kernel
theorem dL_law_408 : decode cL_law 408 = .ok (.iload 5, 2) := by decide +kernel
theorem dL_law_410 : decode cL_law 410 = .ok (.ifCond .ne 22, 3) := by decide +kernel
theorem dL_law_413 : decode cL_law 413 = .ok (.aload_n 3, 1) := by decide +kernel
theorem dL_law_414 : decode cL_law 414 = .ok (.iconst 0, 1) := by decide +kernel
theorem dL_law_415 : decode cL_law 415 = .ok (.laload, 1) := by decide +kernel
theorem dL_law_416 : decode cL_law 416 = .ok (.iload 6, 2) := by decide +kernel
theorem dL_law_418 : decode cL_law 418 = .ok (.ifCond .eq 7, 3) := by decide +kernel
theorem dL_law_421 : decode cL_law 421 = .ok (.lconst 1, 1) := by decide +kernel
theorem dL_law_422 : decode cL_law 422 = .ok (.goto 4, 3) := by decide +kernel
theorem dL_law_425 : decode cL_law 425 = .ok (.lconst 0, 1) := by decide +kernel
theorem dL_law_426 : decode cL_law 426 = .ok (.lcmp, 1) := by decide +kernel
theorem dL_law_427 : decode cL_law 427 = .ok (.ifCond .eq 5, 3) := by decide +kernel
theorem dL_law_430 : decode cL_law 430 = .ok (.iconst 0, 1) := by decide +kernel
theorem dL_law_431 : decode cL_law 431 = .ok (.ireturn, 1) := by decide +kernel
theorem dL_law_432 : decode cL_law 432 = .ok (.goto 804, 3) := by decide +kernel
theorem dL_law_435 : decode cL_law 435 = .ok (.aload_n 1, 1) := by decide +kernel
theorem dL_law_436 : decode cL_law 436 = .ok (.aload_n 0, 1) := by decide +kernel
theorem dL_law_437 : decode cL_law 437 = .ok (.iload 4, 2) := by decide +kernel
theorem dL_law_439 : decode cL_law 439 = .ok (.iconst 1, 1) := by decide +kernel
theorem dL_law_440 : decode cL_law 440 = .ok (.iadd, 1) := by decide +kernel
theorem dL_law_441 : decode cL_law 441 = .ok (.iaload, 1) := by decide +kernel
theorem dL_law_442 : decode cL_law 442 = .ok (.aload_n 0, 1) := by decide +kernel
theorem dL_law_443 : decode cL_law 443 = .ok (.iload 4, 2) := by decide +kernel
theorem dL_law_445 : decode cL_law 445 = .ok (.iconst 2, 1) := by decide +kernel
theorem dL_law_446 : decode cL_law 446 = .ok (.iadd, 1) := by decide +kernel
theorem dL_law_447 : decode cL_law 447 = .ok (.iaload, 1) := by decide +kernel
theorem dL_law_448 : decode cL_law 448 = .ok (.aload_n 0, 1) := by decide +kernel
theorem dL_law_449 : decode cL_law 449 = .ok (.iload 4, 2) := by decide +kernel
theorem dL_law_451 : decode cL_law 451 = .ok (.iconst 3, 1) := by decide +kernel
theorem dL_law_452 : decode cL_law 452 = .ok (.iadd, 1) := by decide +kernel
theorem dL_law_453 : decode cL_law 453 = .ok (.iaload, 1) := by decide +kernel
theorem dL_law_454 : decode cL_law 454 = .ok (.ifCond .eq 7, 3) := by decide +kernel
theorem dL_law_457 : decode cL_law 457 = .ok (.iconst 1, 1) := by decide +kernel
theorem dL_law_458 : decode cL_law 458 = .ok (.goto 4, 3) := by decide +kernel
theorem dL_law_461 : decode cL_law 461 = .ok (.iconst 0, 1) := by decide +kernel
theorem dL_law_462 : decode cL_law 462 = .ok (.aload_n 3, 1) := by decide +kernel
theorem dL_law_463 : decode cL_law 463 = .ok (.invokestatic 94, 3) := by decide +kernel
theorem dL_law_466 : decode cL_law 466 = .ok (.istore 5, 2) := by decide +kernel
theorem dL_law_468 : decode cL_law 468 = .ok (.aload_n 2, 1) := by decide +kernel
theorem dL_law_469 : decode cL_law 469 = .ok (.aload_n 0, 1) := by decide +kernel
theorem dL_law_470 : decode cL_law 470 = .ok (.iload 4, 2) := by decide +kernel
theorem dL_law_472 : decode cL_law 472 = .ok (.iconst 1, 1) := by decide +kernel
theorem dL_law_473 : decode cL_law 473 = .ok (.iadd, 1) := by decide +kernel
theorem dL_law_474 : decode cL_law 474 = .ok (.iaload, 1) := by decide +kernel
theorem dL_law_475 : decode cL_law 475 = .ok (.aload_n 0, 1) := by decide +kernel
theorem dL_law_476 : decode cL_law 476 = .ok (.iload 4, 2) := by decide +kernel
theorem dL_law_478 : decode cL_law 478 = .ok (.iconst 2, 1) := by decide +kernel
theorem dL_law_479 : decode cL_law 479 = .ok (.iadd, 1) := by decide +kernel
theorem dL_law_480 : decode cL_law 480 = .ok (.iaload, 1) := by decide +kernel
theorem dL_law_481 : decode cL_law 481 = .ok (.aload_n 0, 1) := by decide +kernel
theorem dL_law_482 : decode cL_law 482 = .ok (.iload 4, 2) := by decide +kernel
theorem dL_law_484 : decode cL_law 484 = .ok (.iconst 3, 1) := by decide +kernel
theorem dL_law_485 : decode cL_law 485 = .ok (.iadd, 1) := by decide +kernel
theorem dL_law_486 : decode cL_law 486 = .ok (.iaload, 1) := by decide +kernel
theorem dL_law_487 : decode cL_law 487 = .ok (.ifCond .eq 7, 3) := by decide +kernel
theorem dL_law_490 : decode cL_law 490 = .ok (.iconst 1, 1) := by decide +kernel
theorem dL_law_491 : decode cL_law 491 = .ok (.goto 4, 3) := by decide +kernel
theorem dL_law_494 : decode cL_law 494 = .ok (.iconst 0, 1) := by decide +kernel
theorem dL_law_495 : decode cL_law 495 = .ok (.invokevirtual 96, 3) := by decide +kernel
theorem dL_law_498 : decode cL_law 498 = .ok (.istore 6, 2) := by decide +kernel
theorem dL_law_500 : decode cL_law 500 = .ok (.aload_n 2, 1) := by decide +kernel
theorem dL_law_501 : decode cL_law 501 = .ok (.invokevirtual 79, 3) := by decide +kernel
theorem dL_law_504 : decode cL_law 504 = .ok (.iload 5, 2) := by decide +kernel
theorem dL_law_506 : decode cL_law 506 = .ok (.if_icmp .eq 5, 3) := by decide +kernel
theorem dL_law_509 : decode cL_law 509 = .ok (.iconst 0, 1) := by decide +kernel
theorem dL_law_510 : decode cL_law 510 = .ok (.ireturn, 1) := by decide +kernel
theorem dL_law_511 : decode cL_law 511 = .ok (.iload 5, 2) := by decide +kernel
theorem dL_law_513 : decode cL_law 513 = .ok (.ifCond .ne 22, 3) := by decide +kernel
theorem dL_law_516 : decode cL_law 516 = .ok (.aload_n 3, 1) := by decide +kernel
theorem dL_law_517 : decode cL_law 517 = .ok (.iconst 0, 1) := by decide +kernel
theorem dL_law_518 : decode cL_law 518 = .ok (.laload, 1) := by decide +kernel
theorem dL_law_519 : decode cL_law 519 = .ok (.iload 6, 2) := by decide +kernel
theorem dL_law_521 : decode cL_law 521 = .ok (.ifCond .eq 7, 3) := by decide +kernel
theorem dL_law_524 : decode cL_law 524 = .ok (.lconst 1, 1) := by decide +kernel
theorem dL_law_525 : decode cL_law 525 = .ok (.goto 4, 3) := by decide +kernel
theorem dL_law_528 : decode cL_law 528 = .ok (.lconst 0, 1) := by decide +kernel
theorem dL_law_529 : decode cL_law 529 = .ok (.lcmp, 1) := by decide +kernel
theorem dL_law_530 : decode cL_law 530 = .ok (.ifCond .eq 5, 3) := by decide +kernel
theorem dL_law_533 : decode cL_law 533 = .ok (.iconst 0, 1) := by decide +kernel
theorem dL_law_534 : decode cL_law 534 = .ok (.ireturn, 1) := by decide +kernel
theorem dL_law_535 : decode cL_law 535 = .ok (.goto 701, 3) := by decide +kernel
theorem dL_law_538 : decode cL_law 538 = .ok (.aload_n 1, 1) := by decide +kernel
theorem dL_law_539 : decode cL_law 539 = .ok (.invokevirtual 97, 3) := by decide +kernel
theorem dL_law_542 : decode cL_law 542 = .ok (.aload_n 2, 1) := by decide +kernel
theorem dL_law_543 : decode cL_law 543 = .ok (.invokevirtual 100, 3) := by decide +kernel
theorem dL_law_546 : decode cL_law 546 = .ok (.if_icmp .eq 690, 3) := by decide +kernel
theorem dL_law_549 : decode cL_law 549 = .ok (.iconst 0, 1) := by decide +kernel
theorem dL_law_550 : decode cL_law 550 = .ok (.ireturn, 1) := by decide +kernel
theorem dL_law_551 : decode cL_law 551 = .ok (.aload_n 1, 1) := by decide +kernel
theorem dL_law_552 : decode cL_law 552 = .ok (.aload_n 0, 1) := by decide +kernel
theorem dL_law_553 : decode cL_law 553 = .ok (.iload 4, 2) := by decide +kernel
theorem dL_law_555 : decode cL_law 555 = .ok (.iconst 1, 1) := by decide +kernel
theorem dL_law_556 : decode cL_law 556 = .ok (.iadd, 1) := by decide +kernel
theorem dL_law_557 : decode cL_law 557 = .ok (.iaload, 1) := by decide +kernel
theorem dL_law_558 : decode cL_law 558 = .ok (.aload_n 3, 1) := by decide +kernel
theorem dL_law_559 : decode cL_law 559 = .ok (.invokestatic 101, 3) := by decide +kernel
theorem dL_law_562 : decode cL_law 562 = .ok (.istore 5, 2) := by decide +kernel
theorem dL_law_564 : decode cL_law 564 = .ok (.aload_n 2, 1) := by decide +kernel
theorem dL_law_565 : decode cL_law 565 = .ok (.aload_n 0, 1) := by decide +kernel
theorem dL_law_566 : decode cL_law 566 = .ok (.iload 4, 2) := by decide +kernel
theorem dL_law_568 : decode cL_law 568 = .ok (.iconst 1, 1) := by decide +kernel
theorem dL_law_569 : decode cL_law 569 = .ok (.iadd, 1) := by decide +kernel
theorem dL_law_570 : decode cL_law 570 = .ok (.iaload, 1) := by decide +kernel
theorem dL_law_571 : decode cL_law 571 = .ok (.invokevirtual 103, 3) := by decide +kernel
theorem dL_law_574 : decode cL_law 574 = .ok (.istore 6, 2) := by decide +kernel
theorem dL_law_576 : decode cL_law 576 = .ok (.aload_n 2, 1) := by decide +kernel
theorem dL_law_577 : decode cL_law 577 = .ok (.invokevirtual 79, 3) := by decide +kernel
theorem dL_law_580 : decode cL_law 580 = .ok (.iload 5, 2) := by decide +kernel
theorem dL_law_582 : decode cL_law 582 = .ok (.if_icmp .eq 5, 3) := by decide +kernel
theorem dL_law_585 : decode cL_law 585 = .ok (.iconst 0, 1) := by decide +kernel
theorem dL_law_586 : decode cL_law 586 = .ok (.ireturn, 1) := by decide +kernel
theorem dL_law_587 : decode cL_law 587 = .ok (.iload 5, 2) := by decide +kernel
theorem dL_law_589 : decode cL_law 589 = .ok (.ifCond .ne 15, 3) := by decide +kernel
theorem dL_law_592 : decode cL_law 592 = .ok (.aload_n 3, 1) := by decide +kernel
theorem dL_law_593 : decode cL_law 593 = .ok (.iconst 0, 1) := by decide +kernel
theorem dL_law_594 : decode cL_law 594 = .ok (.laload, 1) := by decide +kernel
theorem dL_law_595 : decode cL_law 595 = .ok (.iload 6, 2) := by decide +kernel
theorem dL_law_597 : decode cL_law 597 = .ok (.i2l, 1) := by decide +kernel
theorem dL_law_598 : decode cL_law 598 = .ok (.lcmp, 1) := by decide +kernel
theorem dL_law_599 : decode cL_law 599 = .ok (.ifCond .eq 5, 3) := by decide +kernel
theorem dL_law_602 : decode cL_law 602 = .ok (.iconst 0, 1) := by decide +kernel
theorem dL_law_603 : decode cL_law 603 = .ok (.ireturn, 1) := by decide +kernel
theorem dL_law_604 : decode cL_law 604 = .ok (.goto 632, 3) := by decide +kernel
theorem dL_law_607 : decode cL_law 607 = .ok (.aload_n 1, 1) := by decide +kernel
theorem dL_law_608 : decode cL_law 608 = .ok (.aload_n 0, 1) := by decide +kernel
theorem dL_law_609 : decode cL_law 609 = .ok (.iload 4, 2) := by decide +kernel
theorem dL_law_611 : decode cL_law 611 = .ok (.iconst 1, 1) := by decide +kernel
theorem dL_law_612 : decode cL_law 612 = .ok (.iadd, 1) := by decide +kernel
theorem dL_law_613 : decode cL_law 613 = .ok (.iaload, 1) := by decide +kernel
theorem dL_law_614 : decode cL_law 614 = .ok (.aload_n 3, 1) := by decide +kernel
theorem dL_law_615 : decode cL_law 615 = .ok (.invokestatic 104, 3) := by decide +kernel
theorem dL_law_618 : decode cL_law 618 = .ok (.istore 5, 2) := by decide +kernel
theorem dL_law_620 : decode cL_law 620 = .ok (.aload_n 2, 1) := by decide +kernel
theorem dL_law_621 : decode cL_law 621 = .ok (.aload_n 0, 1) := by decide +kernel
theorem dL_law_622 : decode cL_law 622 = .ok (.iload 4, 2) := by decide +kernel
theorem dL_law_624 : decode cL_law 624 = .ok (.iconst 1, 1) := by decide +kernel
theorem dL_law_625 : decode cL_law 625 = .ok (.iadd, 1) := by decide +kernel
theorem dL_law_626 : decode cL_law 626 = .ok (.iaload, 1) := by decide +kernel
theorem dL_law_627 : decode cL_law 627 = .ok (.invokevirtual 106, 3) := by decide +kernel
theorem dL_law_630 : decode cL_law 630 = .ok (.istore 6, 2) := by decide +kernel
theorem dL_law_632 : decode cL_law 632 = .ok (.aload_n 2, 1) := by decide +kernel
theorem dL_law_633 : decode cL_law 633 = .ok (.invokevirtual 79, 3) := by decide +kernel
theorem dL_law_636 : decode cL_law 636 = .ok (.iload 5, 2) := by decide +kernel
theorem dL_law_638 : decode cL_law 638 = .ok (.if_icmp .eq 5, 3) := by decide +kernel
theorem dL_law_641 : decode cL_law 641 = .ok (.iconst 0, 1) := by decide +kernel
theorem dL_law_642 : decode cL_law 642 = .ok (.ireturn, 1) := by decide +kernel
theorem dL_law_643 : decode cL_law 643 = .ok (.iload 5, 2) := by decide +kernel
theorem dL_law_645 : decode cL_law 645 = .ok (.ifCond .ne 15, 3) := by decide +kernel
theorem dL_law_648 : decode cL_law 648 = .ok (.aload_n 3, 1) := by decide +kernel
theorem dL_law_649 : decode cL_law 649 = .ok (.iconst 0, 1) := by decide +kernel
theorem dL_law_650 : decode cL_law 650 = .ok (.laload, 1) := by decide +kernel
theorem dL_law_651 : decode cL_law 651 = .ok (.iload 6, 2) := by decide +kernel
theorem dL_law_653 : decode cL_law 653 = .ok (.i2l, 1) := by decide +kernel
theorem dL_law_654 : decode cL_law 654 = .ok (.lcmp, 1) := by decide +kernel
theorem dL_law_655 : decode cL_law 655 = .ok (.ifCond .eq 5, 3) := by decide +kernel
theorem dL_law_658 : decode cL_law 658 = .ok (.iconst 0, 1) := by decide +kernel
theorem dL_law_659 : decode cL_law 659 = .ok (.ireturn, 1) := by decide +kernel
theorem dL_law_660 : decode cL_law 660 = .ok (.goto 576, 3) := by decide +kernel
theorem dL_law_663 : decode cL_law 663 = .ok (.aload_n 1, 1) := by decide +kernel
theorem dL_law_664 : decode cL_law 664 = .ok (.aload_n 0, 1) := by decide +kernel
theorem dL_law_665 : decode cL_law 665 = .ok (.iload 4, 2) := by decide +kernel
theorem dL_law_667 : decode cL_law 667 = .ok (.iconst 1, 1) := by decide +kernel
theorem dL_law_668 : decode cL_law 668 = .ok (.iadd, 1) := by decide +kernel
theorem dL_law_669 : decode cL_law 669 = .ok (.iaload, 1) := by decide +kernel
theorem dL_law_670 : decode cL_law 670 = .ok (.aload_n 3, 1) := by decide +kernel
theorem dL_law_671 : decode cL_law 671 = .ok (.invokestatic 107, 3) := by decide +kernel
theorem dL_law_674 : decode cL_law 674 = .ok (.istore 5, 2) := by decide +kernel
theorem dL_law_676 : decode cL_law 676 = .ok (.aload_n 2, 1) := by decide +kernel
theorem dL_law_677 : decode cL_law 677 = .ok (.aload_n 0, 1) := by decide +kernel
theorem dL_law_678 : decode cL_law 678 = .ok (.iload 4, 2) := by decide +kernel
theorem dL_law_680 : decode cL_law 680 = .ok (.iconst 1, 1) := by decide +kernel
theorem dL_law_681 : decode cL_law 681 = .ok (.iadd, 1) := by decide +kernel
theorem dL_law_682 : decode cL_law 682 = .ok (.iaload, 1) := by decide +kernel
theorem dL_law_683 : decode cL_law 683 = .ok (.invokevirtual 109, 3) := by decide +kernel
theorem dL_law_686 : decode cL_law 686 = .ok (.istore 6, 2) := by decide +kernel
theorem dL_law_688 : decode cL_law 688 = .ok (.aload_n 2, 1) := by decide +kernel
theorem dL_law_689 : decode cL_law 689 = .ok (.invokevirtual 79, 3) := by decide +kernel
theorem dL_law_692 : decode cL_law 692 = .ok (.iload 5, 2) := by decide +kernel
theorem dL_law_694 : decode cL_law 694 = .ok (.if_icmp .eq 5, 3) := by decide +kernel
theorem dL_law_697 : decode cL_law 697 = .ok (.iconst 0, 1) := by decide +kernel
theorem dL_law_698 : decode cL_law 698 = .ok (.ireturn, 1) := by decide +kernel
theorem dL_law_699 : decode cL_law 699 = .ok (.iload 5, 2) := by decide +kernel
theorem dL_law_701 : decode cL_law 701 = .ok (.ifCond .ne 15, 3) := by decide +kernel
theorem dL_law_704 : decode cL_law 704 = .ok (.aload_n 3, 1) := by decide +kernel
theorem dL_law_705 : decode cL_law 705 = .ok (.iconst 0, 1) := by decide +kernel
theorem dL_law_706 : decode cL_law 706 = .ok (.laload, 1) := by decide +kernel
theorem dL_law_707 : decode cL_law 707 = .ok (.iload 6, 2) := by decide +kernel
theorem dL_law_709 : decode cL_law 709 = .ok (.i2l, 1) := by decide +kernel
theorem dL_law_710 : decode cL_law 710 = .ok (.lcmp, 1) := by decide +kernel
theorem dL_law_711 : decode cL_law 711 = .ok (.ifCond .eq 5, 3) := by decide +kernel
theorem dL_law_714 : decode cL_law 714 = .ok (.iconst 0, 1) := by decide +kernel
theorem dL_law_715 : decode cL_law 715 = .ok (.ireturn, 1) := by decide +kernel
theorem dL_law_716 : decode cL_law 716 = .ok (.goto 520, 3) := by decide +kernel
theorem dL_law_719 : decode cL_law 719 = .ok (.aload_n 1, 1) := by decide +kernel
theorem dL_law_720 : decode cL_law 720 = .ok (.invokevirtual 110, 3) := by decide +kernel
theorem dL_law_723 : decode cL_law 723 = .ok (.aload_n 2, 1) := by decide +kernel
theorem dL_law_724 : decode cL_law 724 = .ok (.invokevirtual 113, 3) := by decide +kernel
theorem dL_law_727 : decode cL_law 727 = .ok (.if_icmp .eq 509, 3) := by decide +kernel
theorem dL_law_730 : decode cL_law 730 = .ok (.iconst 0, 1) := by decide +kernel
theorem dL_law_731 : decode cL_law 731 = .ok (.ireturn, 1) := by decide +kernel
theorem dL_law_732 : decode cL_law 732 = .ok (.aload_n 1, 1) := by decide +kernel
theorem dL_law_733 : decode cL_law 733 = .ok (.aload_n 0, 1) := by decide +kernel
theorem dL_law_734 : decode cL_law 734 = .ok (.iload 4, 2) := by decide +kernel
theorem dL_law_736 : decode cL_law 736 = .ok (.iconst 1, 1) := by decide +kernel
theorem dL_law_737 : decode cL_law 737 = .ok (.iadd, 1) := by decide +kernel
theorem dL_law_738 : decode cL_law 738 = .ok (.iaload, 1) := by decide +kernel
theorem dL_law_739 : decode cL_law 739 = .ok (.aload_n 3, 1) := by decide +kernel
theorem dL_law_740 : decode cL_law 740 = .ok (.invokestatic 114, 3) := by decide +kernel
theorem dL_law_743 : decode cL_law 743 = .ok (.istore 5, 2) := by decide +kernel
theorem dL_law_745 : decode cL_law 745 = .ok (.aload_n 2, 1) := by decide +kernel
theorem dL_law_746 : decode cL_law 746 = .ok (.aload_n 0, 1) := by decide +kernel
theorem dL_law_747 : decode cL_law 747 = .ok (.iload 4, 2) := by decide +kernel
theorem dL_law_749 : decode cL_law 749 = .ok (.iconst 1, 1) := by decide +kernel
theorem dL_law_750 : decode cL_law 750 = .ok (.iadd, 1) := by decide +kernel
theorem dL_law_751 : decode cL_law 751 = .ok (.iaload, 1) := by decide +kernel
theorem dL_law_752 : decode cL_law 752 = .ok (.invokevirtual 116, 3) := by decide +kernel
theorem dL_law_755 : decode cL_law 755 = .ok (.istore 6, 2) := by decide +kernel
theorem dL_law_757 : decode cL_law 757 = .ok (.aload_n 2, 1) := by decide +kernel
theorem dL_law_758 : decode cL_law 758 = .ok (.invokevirtual 79, 3) := by decide +kernel
theorem dL_law_761 : decode cL_law 761 = .ok (.iload 5, 2) := by decide +kernel
theorem dL_law_763 : decode cL_law 763 = .ok (.if_icmp .eq 5, 3) := by decide +kernel
theorem dL_law_766 : decode cL_law 766 = .ok (.iconst 0, 1) := by decide +kernel
theorem dL_law_767 : decode cL_law 767 = .ok (.ireturn, 1) := by decide +kernel
theorem dL_law_768 : decode cL_law 768 = .ok (.iload 5, 2) := by decide +kernel
theorem dL_law_770 : decode cL_law 770 = .ok (.ifCond .ne 15, 3) := by decide +kernel
theorem dL_law_773 : decode cL_law 773 = .ok (.aload_n 3, 1) := by decide +kernel
theorem dL_law_774 : decode cL_law 774 = .ok (.iconst 0, 1) := by decide +kernel
theorem dL_law_775 : decode cL_law 775 = .ok (.laload, 1) := by decide +kernel
theorem dL_law_776 : decode cL_law 776 = .ok (.iload 6, 2) := by decide +kernel
theorem dL_law_778 : decode cL_law 778 = .ok (.i2l, 1) := by decide +kernel
theorem dL_law_779 : decode cL_law 779 = .ok (.lcmp, 1) := by decide +kernel
theorem dL_law_780 : decode cL_law 780 = .ok (.ifCond .eq 5, 3) := by decide +kernel
theorem dL_law_783 : decode cL_law 783 = .ok (.iconst 0, 1) := by decide +kernel
theorem dL_law_784 : decode cL_law 784 = .ok (.ireturn, 1) := by decide +kernel
theorem dL_law_785 : decode cL_law 785 = .ok (.goto 451, 3) := by decide +kernel
theorem dL_law_788 : decode cL_law 788 = .ok (.aload_n 1, 1) := by decide +kernel
theorem dL_law_789 : decode cL_law 789 = .ok (.aload_n 0, 1) := by decide +kernel
theorem dL_law_790 : decode cL_law 790 = .ok (.iload 4, 2) := by decide +kernel
theorem dL_law_792 : decode cL_law 792 = .ok (.iconst 1, 1) := by decide +kernel
theorem dL_law_793 : decode cL_law 793 = .ok (.iadd, 1) := by decide +kernel
theorem dL_law_794 : decode cL_law 794 = .ok (.iaload, 1) := by decide +kernel
theorem dL_law_795 : decode cL_law 795 = .ok (.aload_n 0, 1) := by decide +kernel
theorem dL_law_796 : decode cL_law 796 = .ok (.iload 4, 2) := by decide +kernel
theorem dL_law_798 : decode cL_law 798 = .ok (.iconst 2, 1) := by decide +kernel
theorem dL_law_799 : decode cL_law 799 = .ok (.iadd, 1) := by decide +kernel
theorem dL_law_800 : decode cL_law 800 = .ok (.iaload, 1) := by decide +kernel
theorem dL_law_801 : decode cL_law 801 = .ok (.aload_n 3, 1) := by decide +kernel
theorem dL_law_802 : decode cL_law 802 = .ok (.invokestatic 117, 3) := by decide +kernel
theorem dL_law_805 : decode cL_law 805 = .ok (.istore 5, 2) := by decide +kernel
theorem dL_law_807 : decode cL_law 807 = .ok (.aload_n 2, 1) := by decide +kernel
theorem dL_law_808 : decode cL_law 808 = .ok (.aload_n 0, 1) := by decide +kernel
theorem dL_law_809 : decode cL_law 809 = .ok (.iload 4, 2) := by decide +kernel
theorem dL_law_811 : decode cL_law 811 = .ok (.iconst 1, 1) := by decide +kernel
theorem dL_law_812 : decode cL_law 812 = .ok (.iadd, 1) := by decide +kernel
theorem dL_law_813 : decode cL_law 813 = .ok (.iaload, 1) := by decide +kernel
theorem dL_law_814 : decode cL_law 814 = .ok (.aload_n 0, 1) := by decide +kernel
theorem dL_law_815 : decode cL_law 815 = .ok (.iload 4, 2) := by decide +kernel
theorem dL_law_817 : decode cL_law 817 = .ok (.iconst 2, 1) := by decide +kernel
theorem dL_law_818 : decode cL_law 818 = .ok (.iadd, 1) := by decide +kernel
theorem dL_law_819 : decode cL_law 819 = .ok (.iaload, 1) := by decide +kernel
theorem dL_law_820 : decode cL_law 820 = .ok (.invokevirtual 119, 3) := by decide +kernel
theorem dL_law_823 : decode cL_law 823 = .ok (.istore 6, 2) := by decide +kernel
theorem dL_law_825 : decode cL_law 825 = .ok (.aload_n 2, 1) := by decide +kernel
theorem dL_law_826 : decode cL_law 826 = .ok (.invokevirtual 79, 3) := by decide +kernel
theorem dL_law_829 : decode cL_law 829 = .ok (.iload 5, 2) := by decide +kernel
theorem dL_law_831 : decode cL_law 831 = .ok (.if_icmp .eq 5, 3) := by decide +kernel
theorem dL_law_834 : decode cL_law 834 = .ok (.iconst 0, 1) := by decide +kernel
theorem dL_law_835 : decode cL_law 835 = .ok (.ireturn, 1) := by decide +kernel
theorem dL_law_836 : decode cL_law 836 = .ok (.iload 5, 2) := by decide +kernel
theorem dL_law_838 : decode cL_law 838 = .ok (.ifCond .ne 15, 3) := by decide +kernel
theorem dL_law_841 : decode cL_law 841 = .ok (.aload_n 3, 1) := by decide +kernel
theorem dL_law_842 : decode cL_law 842 = .ok (.iconst 0, 1) := by decide +kernel
theorem dL_law_843 : decode cL_law 843 = .ok (.laload, 1) := by decide +kernel
theorem dL_law_844 : decode cL_law 844 = .ok (.iload 6, 2) := by decide +kernel
theorem dL_law_846 : decode cL_law 846 = .ok (.i2l, 1) := by decide +kernel
theorem dL_law_847 : decode cL_law 847 = .ok (.lcmp, 1) := by decide +kernel
theorem dL_law_848 : decode cL_law 848 = .ok (.ifCond .eq 5, 3) := by decide +kernel
theorem dL_law_851 : decode cL_law 851 = .ok (.iconst 0, 1) := by decide +kernel
theorem dL_law_852 : decode cL_law 852 = .ok (.ireturn, 1) := by decide +kernel
theorem dL_law_853 : decode cL_law 853 = .ok (.goto 383, 3) := by decide +kernel
theorem dL_law_856 : decode cL_law 856 = .ok (.aload_n 1, 1) := by decide +kernel
theorem dL_law_857 : decode cL_law 857 = .ok (.aload_n 0, 1) := by decide +kernel
theorem dL_law_858 : decode cL_law 858 = .ok (.iload 4, 2) := by decide +kernel
theorem dL_law_860 : decode cL_law 860 = .ok (.iconst 1, 1) := by decide +kernel
theorem dL_law_861 : decode cL_law 861 = .ok (.iadd, 1) := by decide +kernel
theorem dL_law_862 : decode cL_law 862 = .ok (.iaload, 1) := by decide +kernel
theorem dL_law_863 : decode cL_law 863 = .ok (.aload_n 0, 1) := by decide +kernel
theorem dL_law_864 : decode cL_law 864 = .ok (.iload 4, 2) := by decide +kernel
theorem dL_law_866 : decode cL_law 866 = .ok (.iconst 2, 1) := by decide +kernel
theorem dL_law_867 : decode cL_law 867 = .ok (.iadd, 1) := by decide +kernel
theorem dL_law_868 : decode cL_law 868 = .ok (.iaload, 1) := by decide +kernel
theorem dL_law_869 : decode cL_law 869 = .ok (.aload_n 3, 1) := by decide +kernel
theorem dL_law_870 : decode cL_law 870 = .ok (.invokestatic 120, 3) := by decide +kernel
theorem dL_law_873 : decode cL_law 873 = .ok (.istore 5, 2) := by decide +kernel
theorem dL_law_875 : decode cL_law 875 = .ok (.aload_n 2, 1) := by decide +kernel
theorem dL_law_876 : decode cL_law 876 = .ok (.aload_n 0, 1) := by decide +kernel
theorem dL_law_877 : decode cL_law 877 = .ok (.iload 4, 2) := by decide +kernel
theorem dL_law_879 : decode cL_law 879 = .ok (.iconst 1, 1) := by decide +kernel
theorem dL_law_880 : decode cL_law 880 = .ok (.iadd, 1) := by decide +kernel
theorem dL_law_881 : decode cL_law 881 = .ok (.iaload, 1) := by decide +kernel
theorem dL_law_882 : decode cL_law 882 = .ok (.aload_n 0, 1) := by decide +kernel
theorem dL_law_883 : decode cL_law 883 = .ok (.iload 4, 2) := by decide +kernel
theorem dL_law_885 : decode cL_law 885 = .ok (.iconst 2, 1) := by decide +kernel
theorem dL_law_886 : decode cL_law 886 = .ok (.iadd, 1) := by decide +kernel
theorem dL_law_887 : decode cL_law 887 = .ok (.iaload, 1) := by decide +kernel
theorem dL_law_888 : decode cL_law 888 = .ok (.invokevirtual 122, 3) := by decide +kernel
theorem dL_law_891 : decode cL_law 891 = .ok (.istore 6, 2) := by decide +kernel
theorem dL_law_893 : decode cL_law 893 = .ok (.aload_n 2, 1) := by decide +kernel
theorem dL_law_894 : decode cL_law 894 = .ok (.invokevirtual 79, 3) := by decide +kernel
theorem dL_law_897 : decode cL_law 897 = .ok (.iload 5, 2) := by decide +kernel
theorem dL_law_899 : decode cL_law 899 = .ok (.if_icmp .eq 5, 3) := by decide +kernel
theorem dL_law_902 : decode cL_law 902 = .ok (.iconst 0, 1) := by decide +kernel
theorem dL_law_903 : decode cL_law 903 = .ok (.ireturn, 1) := by decide +kernel
theorem dL_law_904 : decode cL_law 904 = .ok (.iload 5, 2) := by decide +kernel
theorem dL_law_906 : decode cL_law 906 = .ok (.ifCond .ne 15, 3) := by decide +kernel
theorem dL_law_909 : decode cL_law 909 = .ok (.aload_n 3, 1) := by decide +kernel
theorem dL_law_910 : decode cL_law 910 = .ok (.iconst 0, 1) := by decide +kernel
theorem dL_law_911 : decode cL_law 911 = .ok (.laload, 1) := by decide +kernel
theorem dL_law_912 : decode cL_law 912 = .ok (.iload 6, 2) := by decide +kernel
theorem dL_law_914 : decode cL_law 914 = .ok (.i2l, 1) := by decide +kernel
theorem dL_law_915 : decode cL_law 915 = .ok (.lcmp, 1) := by decide +kernel
theorem dL_law_916 : decode cL_law 916 = .ok (.ifCond .eq 5, 3) := by decide +kernel
theorem dL_law_919 : decode cL_law 919 = .ok (.iconst 0, 1) := by decide +kernel
theorem dL_law_920 : decode cL_law 920 = .ok (.ireturn, 1) := by decide +kernel
theorem dL_law_921 : decode cL_law 921 = .ok (.goto 315, 3) := by decide +kernel
theorem dL_law_924 : decode cL_law 924 = .ok (.aload_n 1, 1) := by decide +kernel
theorem dL_law_925 : decode cL_law 925 = .ok (.aload_n 0, 1) := by decide +kernel
theorem dL_law_926 : decode cL_law 926 = .ok (.iload 4, 2) := by decide +kernel
theorem dL_law_928 : decode cL_law 928 = .ok (.iconst 1, 1) := by decide +kernel
theorem dL_law_929 : decode cL_law 929 = .ok (.iadd, 1) := by decide +kernel
theorem dL_law_930 : decode cL_law 930 = .ok (.iaload, 1) := by decide +kernel
theorem dL_law_931 : decode cL_law 931 = .ok (.aload_n 0, 1) := by decide +kernel
theorem dL_law_932 : decode cL_law 932 = .ok (.iload 4, 2) := by decide +kernel
theorem dL_law_934 : decode cL_law 934 = .ok (.iconst 2, 1) := by decide +kernel
theorem dL_law_935 : decode cL_law 935 = .ok (.iadd, 1) := by decide +kernel
theorem dL_law_936 : decode cL_law 936 = .ok (.iaload, 1) := by decide +kernel
theorem dL_law_937 : decode cL_law 937 = .ok (.aload_n 0, 1) := by decide +kernel
theorem dL_law_938 : decode cL_law 938 = .ok (.iload 4, 2) := by decide +kernel
theorem dL_law_940 : decode cL_law 940 = .ok (.iconst 3, 1) := by decide +kernel
theorem dL_law_941 : decode cL_law 941 = .ok (.iadd, 1) := by decide +kernel
theorem dL_law_942 : decode cL_law 942 = .ok (.iaload, 1) := by decide +kernel
theorem dL_law_943 : decode cL_law 943 = .ok (.aload_n 3, 1) := by decide +kernel
theorem dL_law_944 : decode cL_law 944 = .ok (.invokestatic 123, 3) := by decide +kernel
theorem dL_law_947 : decode cL_law 947 = .ok (.istore 5, 2) := by decide +kernel
theorem dL_law_949 : decode cL_law 949 = .ok (.aload_n 2, 1) := by decide +kernel
theorem dL_law_950 : decode cL_law 950 = .ok (.aload_n 0, 1) := by decide +kernel
theorem dL_law_951 : decode cL_law 951 = .ok (.iload 4, 2) := by decide +kernel
theorem dL_law_953 : decode cL_law 953 = .ok (.iconst 1, 1) := by decide +kernel
theorem dL_law_954 : decode cL_law 954 = .ok (.iadd, 1) := by decide +kernel
theorem dL_law_955 : decode cL_law 955 = .ok (.iaload, 1) := by decide +kernel
theorem dL_law_956 : decode cL_law 956 = .ok (.aload_n 0, 1) := by decide +kernel
theorem dL_law_957 : decode cL_law 957 = .ok (.iload 4, 2) := by decide +kernel
theorem dL_law_959 : decode cL_law 959 = .ok (.iconst 2, 1) := by decide +kernel
theorem dL_law_960 : decode cL_law 960 = .ok (.iadd, 1) := by decide +kernel
theorem dL_law_961 : decode cL_law 961 = .ok (.iaload, 1) := by decide +kernel
theorem dL_law_962 : decode cL_law 962 = .ok (.aload_n 0, 1) := by decide +kernel
theorem dL_law_963 : decode cL_law 963 = .ok (.iload 4, 2) := by decide +kernel
theorem dL_law_965 : decode cL_law 965 = .ok (.iconst 3, 1) := by decide +kernel
theorem dL_law_966 : decode cL_law 966 = .ok (.iadd, 1) := by decide +kernel
theorem dL_law_967 : decode cL_law 967 = .ok (.iaload, 1) := by decide +kernel
theorem dL_law_968 : decode cL_law 968 = .ok (.invokevirtual 125, 3) := by decide +kernel
theorem dL_law_971 : decode cL_law 971 = .ok (.istore 6, 2) := by decide +kernel
theorem dL_law_973 : decode cL_law 973 = .ok (.aload_n 2, 1) := by decide +kernel
theorem dL_law_974 : decode cL_law 974 = .ok (.invokevirtual 79, 3) := by decide +kernel
theorem dL_law_977 : decode cL_law 977 = .ok (.iload 5, 2) := by decide +kernel
theorem dL_law_979 : decode cL_law 979 = .ok (.if_icmp .eq 5, 3) := by decide +kernel
theorem dL_law_982 : decode cL_law 982 = .ok (.iconst 0, 1) := by decide +kernel
theorem dL_law_983 : decode cL_law 983 = .ok (.ireturn, 1) := by decide +kernel
theorem dL_law_984 : decode cL_law 984 = .ok (.iload 5, 2) := by decide +kernel
theorem dL_law_986 : decode cL_law 986 = .ok (.ifCond .ne 15, 3) := by decide +kernel
theorem dL_law_989 : decode cL_law 989 = .ok (.aload_n 3, 1) := by decide +kernel
theorem dL_law_990 : decode cL_law 990 = .ok (.iconst 0, 1) := by decide +kernel
theorem dL_law_991 : decode cL_law 991 = .ok (.laload, 1) := by decide +kernel
theorem dL_law_992 : decode cL_law 992 = .ok (.iload 6, 2) := by decide +kernel
theorem dL_law_994 : decode cL_law 994 = .ok (.i2l, 1) := by decide +kernel
theorem dL_law_995 : decode cL_law 995 = .ok (.lcmp, 1) := by decide +kernel
theorem dL_law_996 : decode cL_law 996 = .ok (.ifCond .eq 5, 3) := by decide +kernel
theorem dL_law_999 : decode cL_law 999 = .ok (.iconst 0, 1) := by decide +kernel
theorem dL_law_1000 : decode cL_law 1000 = .ok (.ireturn, 1) := by decide +kernel
theorem dL_law_1001 : decode cL_law 1001 = .ok (.goto 235, 3) := by decide +kernel
theorem dL_law_1004 : decode cL_law 1004 = .ok (.aload_n 1, 1) := by decide +kernel
theorem dL_law_1005 : decode cL_law 1005 = .ok (.aload_n 0, 1) := by decide +kernel
theorem dL_law_1006 : decode cL_law 1006 = .ok (.iload 4, 2) := by decide +kernel
theorem dL_law_1008 : decode cL_law 1008 = .ok (.iconst 1, 1) := by decide +kernel
theorem dL_law_1009 : decode cL_law 1009 = .ok (.iadd, 1) := by decide +kernel
theorem dL_law_1010 : decode cL_law 1010 = .ok (.iaload, 1) := by decide +kernel
theorem dL_law_1011 : decode cL_law 1011 = .ok (.aload_n 3, 1) := by decide +kernel
theorem dL_law_1012 : decode cL_law 1012 = .ok (.invokestatic 126, 3) := by decide +kernel
theorem dL_law_1015 : decode cL_law 1015 = .ok (.istore 5, 2) := by decide +kernel
theorem dL_law_1017 : decode cL_law 1017 = .ok (.aload_n 2, 1) := by decide +kernel
theorem dL_law_1018 : decode cL_law 1018 = .ok (.aload_n 0, 1) := by decide +kernel
theorem dL_law_1019 : decode cL_law 1019 = .ok (.iload 4, 2) := by decide +kernel
theorem dL_law_1021 : decode cL_law 1021 = .ok (.iconst 1, 1) := by decide +kernel
theorem dL_law_1022 : decode cL_law 1022 = .ok (.iadd, 1) := by decide +kernel
theorem dL_law_1023 : decode cL_law 1023 = .ok (.iaload, 1) := by decide +kernel
theorem dL_law_1024 : decode cL_law 1024 = .ok (.invokevirtual 128, 3) := by decide +kernel
theorem dL_law_1027 : decode cL_law 1027 = .ok (.istore 6, 2) := by decide +kernel
theorem dL_law_1029 : decode cL_law 1029 = .ok (.aload_n 2, 1) := by decide +kernel
theorem dL_law_1030 : decode cL_law 1030 = .ok (.invokevirtual 79, 3) := by decide +kernel
theorem dL_law_1033 : decode cL_law 1033 = .ok (.iload 5, 2) := by decide +kernel
theorem dL_law_1035 : decode cL_law 1035 = .ok (.if_icmp .eq 5, 3) := by decide +kernel
theorem dL_law_1038 : decode cL_law 1038 = .ok (.iconst 0, 1) := by decide +kernel
theorem dL_law_1039 : decode cL_law 1039 = .ok (.ireturn, 1) := by decide +kernel
theorem dL_law_1040 : decode cL_law 1040 = .ok (.iload 5, 2) := by decide +kernel
theorem dL_law_1042 : decode cL_law 1042 = .ok (.ifCond .ne 15, 3) := by decide +kernel
theorem dL_law_1045 : decode cL_law 1045 = .ok (.aload_n 3, 1) := by decide +kernel
theorem dL_law_1046 : decode cL_law 1046 = .ok (.iconst 0, 1) := by decide +kernel
theorem dL_law_1047 : decode cL_law 1047 = .ok (.laload, 1) := by decide +kernel
theorem dL_law_1048 : decode cL_law 1048 = .ok (.iload 6, 2) := by decide +kernel
theorem dL_law_1050 : decode cL_law 1050 = .ok (.i2l, 1) := by decide +kernel
theorem dL_law_1051 : decode cL_law 1051 = .ok (.lcmp, 1) := by decide +kernel
theorem dL_law_1052 : decode cL_law 1052 = .ok (.ifCond .eq 5, 3) := by decide +kernel
theorem dL_law_1055 : decode cL_law 1055 = .ok (.iconst 0, 1) := by decide +kernel
theorem dL_law_1056 : decode cL_law 1056 = .ok (.ireturn, 1) := by decide +kernel
theorem dL_law_1057 : decode cL_law 1057 = .ok (.goto 179, 3) := by decide +kernel
theorem dL_law_1060 : decode cL_law 1060 = .ok (.aload_n 1, 1) := by decide +kernel
theorem dL_law_1061 : decode cL_law 1061 = .ok (.aload_n 0, 1) := by decide +kernel
theorem dL_law_1062 : decode cL_law 1062 = .ok (.iload 4, 2) := by decide +kernel
theorem dL_law_1064 : decode cL_law 1064 = .ok (.iconst 1, 1) := by decide +kernel
theorem dL_law_1065 : decode cL_law 1065 = .ok (.iadd, 1) := by decide +kernel
theorem dL_law_1066 : decode cL_law 1066 = .ok (.iaload, 1) := by decide +kernel
theorem dL_law_1067 : decode cL_law 1067 = .ok (.aload_n 3, 1) := by decide +kernel
theorem dL_law_1068 : decode cL_law 1068 = .ok (.invokestatic 129, 3) := by decide +kernel
theorem dL_law_1071 : decode cL_law 1071 = .ok (.istore 5, 2) := by decide +kernel
theorem dL_law_1073 : decode cL_law 1073 = .ok (.aload_n 2, 1) := by decide +kernel
theorem dL_law_1074 : decode cL_law 1074 = .ok (.aload_n 0, 1) := by decide +kernel
theorem dL_law_1075 : decode cL_law 1075 = .ok (.iload 4, 2) := by decide +kernel
theorem dL_law_1077 : decode cL_law 1077 = .ok (.iconst 1, 1) := by decide +kernel
theorem dL_law_1078 : decode cL_law 1078 = .ok (.iadd, 1) := by decide +kernel
theorem dL_law_1079 : decode cL_law 1079 = .ok (.iaload, 1) := by decide +kernel
theorem dL_law_1080 : decode cL_law 1080 = .ok (.invokevirtual 131, 3) := by decide +kernel
theorem dL_law_1083 : decode cL_law 1083 = .ok (.istore 6, 2) := by decide +kernel
theorem dL_law_1085 : decode cL_law 1085 = .ok (.aload_n 2, 1) := by decide +kernel
theorem dL_law_1086 : decode cL_law 1086 = .ok (.invokevirtual 79, 3) := by decide +kernel
theorem dL_law_1089 : decode cL_law 1089 = .ok (.iload 5, 2) := by decide +kernel
theorem dL_law_1091 : decode cL_law 1091 = .ok (.if_icmp .eq 5, 3) := by decide +kernel
theorem dL_law_1094 : decode cL_law 1094 = .ok (.iconst 0, 1) := by decide +kernel
theorem dL_law_1095 : decode cL_law 1095 = .ok (.ireturn, 1) := by decide +kernel
theorem dL_law_1096 : decode cL_law 1096 = .ok (.iload 5, 2) := by decide +kernel
theorem dL_law_1098 : decode cL_law 1098 = .ok (.ifCond .ne 15, 3) := by decide +kernel
theorem dL_law_1101 : decode cL_law 1101 = .ok (.aload_n 3, 1) := by decide +kernel
theorem dL_law_1102 : decode cL_law 1102 = .ok (.iconst 0, 1) := by decide +kernel
theorem dL_law_1103 : decode cL_law 1103 = .ok (.laload, 1) := by decide +kernel
theorem dL_law_1104 : decode cL_law 1104 = .ok (.iload 6, 2) := by decide +kernel
theorem dL_law_1106 : decode cL_law 1106 = .ok (.i2l, 1) := by decide +kernel
theorem dL_law_1107 : decode cL_law 1107 = .ok (.lcmp, 1) := by decide +kernel
theorem dL_law_1108 : decode cL_law 1108 = .ok (.ifCond .eq 5, 3) := by decide +kernel
theorem dL_law_1111 : decode cL_law 1111 = .ok (.iconst 0, 1) := by decide +kernel
theorem dL_law_1112 : decode cL_law 1112 = .ok (.ireturn, 1) := by decide +kernel
theorem dL_law_1113 : decode cL_law 1113 = .ok (.goto 123, 3) := by decide +kernel
theorem dL_law_1116 : decode cL_law 1116 = .ok (.aload_n 1, 1) := by decide +kernel
theorem dL_law_1117 : decode cL_law 1117 = .ok (.aload_n 0, 1) := by decide +kernel
theorem dL_law_1118 : decode cL_law 1118 = .ok (.iload 4, 2) := by decide +kernel
theorem dL_law_1120 : decode cL_law 1120 = .ok (.iconst 1, 1) := by decide +kernel
theorem dL_law_1121 : decode cL_law 1121 = .ok (.iadd, 1) := by decide +kernel
theorem dL_law_1122 : decode cL_law 1122 = .ok (.iaload, 1) := by decide +kernel
theorem dL_law_1123 : decode cL_law 1123 = .ok (.aload_n 3, 1) := by decide +kernel
theorem dL_law_1124 : decode cL_law 1124 = .ok (.invokestatic 132, 3) := by decide +kernel
theorem dL_law_1127 : decode cL_law 1127 = .ok (.istore 5, 2) := by decide +kernel
theorem dL_law_1129 : decode cL_law 1129 = .ok (.aload_n 2, 1) := by decide +kernel
theorem dL_law_1130 : decode cL_law 1130 = .ok (.aload_n 0, 1) := by decide +kernel
theorem dL_law_1131 : decode cL_law 1131 = .ok (.iload 4, 2) := by decide +kernel
theorem dL_law_1133 : decode cL_law 1133 = .ok (.iconst 1, 1) := by decide +kernel
theorem dL_law_1134 : decode cL_law 1134 = .ok (.iadd, 1) := by decide +kernel
theorem dL_law_1135 : decode cL_law 1135 = .ok (.iaload, 1) := by decide +kernel
theorem dL_law_1136 : decode cL_law 1136 = .ok (.invokevirtual 134, 3) := by decide +kernel
theorem dL_law_1139 : decode cL_law 1139 = .ok (.istore 6, 2) := by decide +kernel
theorem dL_law_1141 : decode cL_law 1141 = .ok (.aload_n 2, 1) := by decide +kernel
theorem dL_law_1142 : decode cL_law 1142 = .ok (.invokevirtual 79, 3) := by decide +kernel
theorem dL_law_1145 : decode cL_law 1145 = .ok (.iload 5, 2) := by decide +kernel
theorem dL_law_1147 : decode cL_law 1147 = .ok (.if_icmp .eq 5, 3) := by decide +kernel
theorem dL_law_1150 : decode cL_law 1150 = .ok (.iconst 0, 1) := by decide +kernel
theorem dL_law_1151 : decode cL_law 1151 = .ok (.ireturn, 1) := by decide +kernel
theorem dL_law_1152 : decode cL_law 1152 = .ok (.iload 5, 2) := by decide +kernel
theorem dL_law_1154 : decode cL_law 1154 = .ok (.ifCond .ne 22, 3) := by decide +kernel
theorem dL_law_1157 : decode cL_law 1157 = .ok (.aload_n 3, 1) := by decide +kernel
theorem dL_law_1158 : decode cL_law 1158 = .ok (.iconst 0, 1) := by decide +kernel
theorem dL_law_1159 : decode cL_law 1159 = .ok (.laload, 1) := by decide +kernel
theorem dL_law_1160 : decode cL_law 1160 = .ok (.iload 6, 2) := by decide +kernel
theorem dL_law_1162 : decode cL_law 1162 = .ok (.ifCond .eq 7, 3) := by decide +kernel
theorem dL_law_1165 : decode cL_law 1165 = .ok (.lconst 1, 1) := by decide +kernel
theorem dL_law_1166 : decode cL_law 1166 = .ok (.goto 4, 3) := by decide +kernel
theorem dL_law_1169 : decode cL_law 1169 = .ok (.lconst 0, 1) := by decide +kernel
theorem dL_law_1170 : decode cL_law 1170 = .ok (.lcmp, 1) := by decide +kernel
theorem dL_law_1171 : decode cL_law 1171 = .ok (.ifCond .eq 5, 3) := by decide +kernel
theorem dL_law_1174 : decode cL_law 1174 = .ok (.iconst 0, 1) := by decide +kernel
theorem dL_law_1175 : decode cL_law 1175 = .ok (.ireturn, 1) := by decide +kernel
theorem dL_law_1176 : decode cL_law 1176 = .ok (.goto 60, 3) := by decide +kernel
theorem dL_law_1179 : decode cL_law 1179 = .ok (.aload_n 1, 1) := by decide +kernel
theorem dL_law_1180 : decode cL_law 1180 = .ok (.aload_n 3, 1) := by decide +kernel
theorem dL_law_1181 : decode cL_law 1181 = .ok (.invokestatic 135, 3) := by decide +kernel
theorem dL_law_1184 : decode cL_law 1184 = .ok (.istore 5, 2) := by decide +kernel
theorem dL_law_1186 : decode cL_law 1186 = .ok (.aload_n 2, 1) := by decide +kernel
theorem dL_law_1187 : decode cL_law 1187 = .ok (.invokevirtual 138, 3) := by decide +kernel
theorem dL_law_1190 : decode cL_law 1190 = .ok (.istore 6, 2) := by decide +kernel
theorem dL_law_1192 : decode cL_law 1192 = .ok (.aload_n 2, 1) := by decide +kernel
theorem dL_law_1193 : decode cL_law 1193 = .ok (.invokevirtual 79, 3) := by decide +kernel
theorem dL_law_1196 : decode cL_law 1196 = .ok (.iload 5, 2) := by decide +kernel
theorem dL_law_1198 : decode cL_law 1198 = .ok (.if_icmp .eq 5, 3) := by decide +kernel
theorem dL_law_1201 : decode cL_law 1201 = .ok (.iconst 0, 1) := by decide +kernel
theorem dL_law_1202 : decode cL_law 1202 = .ok (.ireturn, 1) := by decide +kernel
theorem dL_law_1203 : decode cL_law 1203 = .ok (.iload 5, 2) := by decide +kernel
theorem dL_law_1205 : decode cL_law 1205 = .ok (.ifCond .ne 15, 3) := by decide +kernel
theorem dL_law_1208 : decode cL_law 1208 = .ok (.aload_n 3, 1) := by decide +kernel
theorem dL_law_1209 : decode cL_law 1209 = .ok (.iconst 0, 1) := by decide +kernel
theorem dL_law_1210 : decode cL_law 1210 = .ok (.laload, 1) := by decide +kernel
theorem dL_law_1211 : decode cL_law 1211 = .ok (.iload 6, 2) := by decide +kernel
theorem dL_law_1213 : decode cL_law 1213 = .ok (.i2l, 1) := by decide +kernel
theorem dL_law_1214 : decode cL_law 1214 = .ok (.lcmp, 1) := by decide +kernel
theorem dL_law_1215 : decode cL_law 1215 = .ok (.ifCond .eq 5, 3) := by decide +kernel
theorem dL_law_1218 : decode cL_law 1218 = .ok (.iconst 0, 1) := by decide +kernel
theorem dL_law_1219 : decode cL_law 1219 = .ok (.ireturn, 1) := by decide +kernel
theorem dL_law_1220 : decode cL_law 1220 = .ok (.goto 16, 3) := by decide +kernel
theorem dL_law_1223 : decode cL_law 1223 = .ok (.aload_n 1, 1) := by decide +kernel
theorem dL_law_1224 : decode cL_law 1224 = .ok (.invokevirtual 139, 3) := by decide +kernel
theorem dL_law_1227 : decode cL_law 1227 = .ok (.aload_n 2, 1) := by decide +kernel
theorem dL_law_1228 : decode cL_law 1228 = .ok (.invokevirtual 142, 3) := by decide +kernel
theorem dL_law_1231 : decode cL_law 1231 = .ok (.if_icmp .eq 5, 3) := by decide +kernel
theorem dL_law_1234 : decode cL_law 1234 = .ok (.iconst 0, 1) := by decide +kernel
theorem dL_law_1235 : decode cL_law 1235 = .ok (.ireturn, 1) := by decide +kernel
theorem dL_law_1236 : decode cL_law 1236 = .ok (.iinc 4 4, 3) := by decide +kernel
theorem dL_law_1239 : decode cL_law 1239 = .ok (.goto (-1216), 3) := by decide +kernel
theorem dL_law_1242 : decode cL_law 1242 = .ok (.iconst 1, 1) := by decide +kernel
theorem dL_law_1243 : decode cL_law 1243 = .ok (.ireturn, 1) := by decide +kernel
end
section
abbrev vX : Type := Program × Launch × Env × Room × State × MethodId × Array Value × List Frame × Method × Code
abbrev xp (X : vX) : Program := X.1
abbrev xl (X : vX) : Launch := X.2.1
abbrev xe (X : vX) : Env := X.2.2.1
abbrev xR (X : vX) : Room := X.2.2.2.1
abbrev xs (X : vX) : State := X.2.2.2.2.1
abbrev xm (X : vX) : MethodId := X.2.2.2.2.2.1
abbrev xa (X : vX) : Array Value := X.2.2.2.2.2.2.1
abbrev xb (X : vX) : List Frame := X.2.2.2.2.2.2.2.1
abbrev xh (X : vX) : Method := X.2.2.2.2.2.2.2.2.1
abbrev xc (X : vX) : Code := X.2.2.2.2.2.2.2.2.2
abbrev vG : Type := va_G × ClassId × ClassId × ClassId
abbrev gT (G : vG) : List (ClassId × FieldType) := [(G.2.1, .int), (G.2.2.1, .long), (G.2.2.2, .boolean)]
def Lo (lo : Nat) : Nat → Prop := fun q => lo ≤ q
/-- links of nest mates, and what is castable: words that ride beside the tables' own -/
def wsN : List Cond := [.fieldLinkNest RX4 105 "PartSplitter$Lexicon" "tree" "LPartSplitter$Tree;" "PartSplitter", .fieldLinkNest RX4 118 "PartSplitter$SplitRow" "found" "I" "PartSplitter", .fieldLinkNest RX4 143 "PartSplitter$SplitRow" "keys" "[J" "PartSplitter", .fieldLinkNest RX4 150 "PartSplitter$Lessons" "used" "I" "PartSplitter", .fieldLinkNest RX4 45 "PartSplitter$Lexicon" "partsUsed" "I" "PartSplitter", .fieldLinkNest RX4 70 "PartSplitter$Lexicon" "partFlags" "[I" "PartSplitter", .fieldLinkNest RX4 74 "PartSplitter$Lexicon" "linksUsed" "I" "PartSplitter", .fieldLinkNest RX4 87 "PartSplitter$Lexicon" "vetoes" "[Z" "PartSplitter", .fieldLinkNest RX4 96 "PartSplitter$Lexicon" "bars" "[Z" "PartSplitter", .fieldLinkNest RX4 99 "PartSplitter$Lexicon" "partCounts" "[I" "PartSplitter", .fieldLinkNest RX0 29 "PartSplitter$Lexicon" "partCounts" "[I" "PartSplitter", .fieldLinkNest RX2 63 "PartSplitter$Lexicon" "partCounts" "[I" "PartSplitter", .fieldLinkNest RX2 83 "PartSplitter$Lexicon" "vetoes" "[Z" "PartSplitter", .fieldLinkNest RX2 87 "PartSplitter$Lexicon" "bars" "[Z" "PartSplitter", .methodLinkNest RX4 11 yX1_init "PartSplitter", .methodLinkNest RX1 33 yX3_init "PartSplitter", .methodLinkNest RX1 53 yX4_lettersIn "PartSplitter", .methodLinkNest RX2 47 yX4_lettersIn "PartSplitter", .methodLinkNest RX3 26 yX4_lettersIn "PartSplitter", .castable "java/lang/IllegalArgumentException" "java/lang/IllegalArgumentException", .castable "java/lang/IllegalStateException" "java/lang/IllegalStateException", .castable "java/lang/IndexOutOfBoundsException" "java/lang/IndexOutOfBoundsException"]
def strsN : List (Nat × String) := [(134, "place is below 0"), (153, "50 words are learned"), (169, "no word is learned"), (177, "no text of so many letters"), (179, "no such part"), (181, "k is below 0"), (38, "count is not 1 to 9999"), (43, "flags are not 1 to 7"), (51, "there are 16 parts"), (58, "there is a part with these letters"), (68, "flags are not 0 to 7"), (77, "there are 6 links"), (82, "there is a link with these letters"), (93, "no such link")]
def trees9 (j : Nat) : Value := .int ([0, 1, 1, 2, 5, 14, 42, 132, 429].getD j 0)
/-- what holds of the machine beside the world, below lo -/
def GX (lo : Nat) (U : State) (H : Heap) : Prop :=
  (∀ w ∈ wsN, va_Nw w U) ∧ (∀ q ∈ strsN, ∃ sa : Nat, vk_R "PartSplitter" q.1 q.2 sa U) ∧ vx_Zq Bundle.tN "UNASSIGNED_STACK" Bundle.steD (Lo lo) U H ∧ vx_Zq Bundle.tN "SUPPRESSED_SENTINEL" Bundle.listD (Lo lo) U H ∧ ∃ t : Nat, va_Z "PartSplitter" "TREES" "[I" (.ref t) (Lo lo) U H ∧ va_T .int t 9 trees9 (Lo lo) U H
theorem wsN_warm {s U : State} (hW : s.WarmedH U.vm) : ∀ w ∈ wsN, va_Nw w s → va_Nw w U := by
  intro w hw h
  simp only [wsN, List.mem_cons, List.not_mem_nil, or_false] at hw
  rcases hw with rfl | rfl | rfl | rfl | rfl | rfl | rfl | rfl | rfl | rfl | rfl | rfl | rfl | rfl | rfl | rfl | rfl | rfl | rfl | rfl | rfl | rfl <;> first | exact va_Nw.warmF hW h | exact va_Nw.warmM hW h | exact va_Nw.warmC hW h
theorem GX.moved {lo : Nat} {s U : State} {H H1 : Heap} (h : GX lo s H) (hW : s.WarmedH U.vm) (hq : ∀ a : Nat, a < H.size → ¬ Lo lo a → H1[a]? = H[a]?) : GX lo U H1 := by
  obtain ⟨h1, h2, h3, h4, t, h5, h6⟩ := h
  refine ⟨fun w hw => wsN_warm hW w hw (h1 w hw), fun q hq' => ?_, (vx_Zq.moved hW.alike h3).kept hq, (vx_Zq.moved hW.alike h4).kept hq, t, (va_Z.moved hW.alike h5).kept hq, (va_T.moved hW.alike h6).kept hq⟩
  obtain ⟨sa, hs⟩ := h2 q hq'
  exact ⟨sa, hs.warm hW⟩
theorem GX.calling {lo : Nat} {U : State} {H : Heap} (h : GX lo U H) (g : JFrame) (mk : MethodId) (a : Array Value) : GX lo (U.calling g mk a) H := h.moved (U := U.calling g mk a) (State.WarmedH.refl (s := U)) (fun _ _ _ => rfl)
/-- what a method finds -/
def BI (lo : Nat) (G : vG) (ws : va_W) (U : State) : Prop := lo ≤ U.heap.size ∧ va_P G.1 vwCl ws U.heap ∧ va_D (Lo lo) ws ∧ va_K G.1 vwCl (gT G) U ∧ GX lo U U.heap
/-- what it leaves -/
def BO (lo : Nat) (G : vG) (ws : va_W) (t : State) : Prop := va_P G.1 vwCl ws t.heap ∧ va_D (Lo lo) ws
theorem bi_blind (av : List Value) (lo : Nat) (G : vG) (ws : va_W) : FrameBlind (va_Pc av (BI lo G ws)) := fun a U g mk q => by
  obtain ⟨q0, q1, q2, q3, q4, q5⟩ := q
  exact ⟨q0, q1, q2, q3, va_K.moved (u := U) (U := U.calling g mk a) (Vm.Alike.refl U.vm) q4, q5.calling g mk a⟩
def V (X : vX) (lo nL : Nat) (G : vG) (Q : State → Prop) (k n : Nat) (ws : va_W) (lc : List (Nat × Value)) (st : List Value) (pc : Nat) : Prop :=
  ∀ (H : Heap) (locs : List Loc) (ls : Array Slot), va_P G.1 vwCl ws H → va_D (Lo lo) ws → va_S (Lo lo) (xs X).heap H locs → lv_has ls nL lc → W (xp X) (xl X) (xe X) (xR X) (xs X) (xm X) (xa X) (xb X) (xh X) (xc X) H locs k n Q (F0 (xm X) pc ls st)
def Cx (X : vX) (lo nL : Nat) (G : vG) (cc : ByteArray) (own : String) : Prop :=
  (xp X).tables.exec = Jvm.exec ∧ (xc X).code = cc ∧ (xc X).maxLocals = nL ∧ (xs X).vm.findClass own = some (xm X).cls ∧ (∀ w ∈ WA, w.before (xa X) (xs X) = true) ∧ va_K G.1 vwCl (gT G) (xs X) ∧ GX lo (xs X) (xs X).heap ∧ lo ≤ (xs X).heap.size ∧ (xh X).locks = false
section VR
variable {X : vX} {lo nL : Nat} {G : vG} {Q : State → Prop} {k n : Nat} {ws : va_W} {lc : List (Nat × Value)} {st : List Value} {pc : Nat} {cc : ByteArray} {own : String}
theorem Cx.hA (C : Cx X lo nL G cc own) : ∀ q, (xs X).heap.size ≤ q → Lo lo q := fun q h => Nat.le_trans C.2.2.2.2.2.2.2.1 h
theorem Cx.word (C : Cx X lo nL G cc own) {w : Cond} (h : w ∈ WA) : w.before (xa X) (xs X) = true := C.2.2.2.2.1 w h
/-- a weaker world, in another order -/
theorem V.sub {ws' : va_W} (is : List Nat) (hn : va_nd is = true) (h1 : is.map (fun i => ws[i]?) = ws'.map some) (kk : V X lo nL G Q k n ws' lc st pc) : V X lo nL G Q k n ws lc st pc := fun H locs ls hP hD hS hl => kk H locs ls (hP.sub is (by
    have := congrArg (fun l => l.filterMap id) h1
    simpa [List.filterMap_map, Function.comp_def] using this)) (hD.sub is hn h1) hS hl
theorem V.swap {a b c : va_W} (kk : V X lo nL G Q k n (b ++ (a ++ c)) lc st pc) : V X lo nL G Q k n (a ++ (b ++ c)) lc st pc := fun H locs ls hP hD hS hl => by
  have key : ∀ (i : Nat) (q : Nat × va_E), (b ++ (a ++ c))[i]? = some q → ∃ j, (a ++ (b ++ c))[j]? = some q ∧ ((i < b.length ∧ j = a.length + i) ∨ (b.length ≤ i ∧ i < b.length + a.length ∧ j = i - b.length) ∨ (b.length + a.length ≤ i ∧ j = i)) := by
    intro i q hi
    by_cases h1 : i < b.length
    · refine ⟨a.length + i, ?_, Or.inl ⟨h1, rfl⟩⟩
      rw [List.getElem?_append_left h1] at hi
      rw [List.getElem?_append_right (by omega), Nat.add_sub_cancel_left, List.getElem?_append_left h1]
      exact hi
    · rw [List.getElem?_append_right (by omega)] at hi
      by_cases h2 : i - b.length < a.length
      · rw [List.getElem?_append_left h2] at hi
        refine ⟨i - b.length, ?_, Or.inr (Or.inl ⟨by omega, by omega, rfl⟩)⟩
        rw [List.getElem?_append_left h2]
        exact hi
      · rw [List.getElem?_append_right (by omega)] at hi
        refine ⟨i, ?_, Or.inr (Or.inr ⟨by omega, rfl⟩)⟩
        rw [List.getElem?_append_right (by omega), List.getElem?_append_right (by omega), show i - a.length - b.length = i - b.length - a.length by omega]
        exact hi
  refine kk H locs ls (fun i q hi => ?_) ⟨fun i j p q hi hj hpq => ?_, fun i q hi => ?_⟩ hS hl
  · obtain ⟨j, hj, -⟩ := key i q hi
    exact hP j q hj
  · obtain ⟨i', hi', e1⟩ := key i p hi
    obtain ⟨j', hj', e2⟩ := key j q hj
    have := hD.1 i' j' p q hi' hj' hpq
    omega
  · obtain ⟨j, hj, -⟩ := key i q hi
    exact hD.2 j q hj
theorem V.widen {k' n' : Nat} (h1 : k ≤ k') (h2 : n ≤ n') (kk : V X lo nL G Q k' n' ws lc st pc) : V X lo nL G Q k n ws lc st pc := fun H locs ls hP hD hS hl => W.widen h1 h2 (kk H locs ls hP hD hS hl)
theorem V.locs {lc' : List (Nat × Value)} (ks : List Nat) (h : lv_pick lc ks = lc') (kk : V X lo nL G Q k n ws lc' st pc) : V X lo nL G Q k n ws lc st pc := fun H locs ls hP hD hS hl => kk H locs ls hP hD hS (lv_sub hl ks h)
theorem V.worldEq {ws' : va_W} (h : ws = ws') (kk : V X lo nL G Q k n ws' lc st pc) : V X lo nL G Q k n ws lc st pc := h ▸ kk
theorem V_iconst (C : Cx X lo nL G cc own) {i : Int} {v : Int32} (p1 : Nat) (hp : pc + 1 = p1) (d : decode cc pc = .ok (.iconst i, 1)) (hv : Int32.ofInt i = v) (kk : V X lo nL G Q k n ws lc (.int v :: st) p1) : V X lo nL G Q k n ws lc (st) pc := by
  subst hp
  exact fun H locs ls hP hD hS hl => lv_iconst C.1 C.2.1 d hv (kk H locs ls hP hD hS hl)
theorem V_bipush (C : Cx X lo nL G cc own) {i : Int} {v : Int32} (p1 : Nat) (hp : pc + 2 = p1) (d : decode cc pc = .ok (.bipush i, 2)) (hv : (Int8.ofInt i).toInt32 = v) (kk : V X lo nL G Q k n ws lc (.int v :: st) p1) : V X lo nL G Q k n ws lc (st) pc := by
  subst hp
  exact fun H locs ls hP hD hS hl => lv_bipush C.1 C.2.1 d hv (kk H locs ls hP hD hS hl)
theorem V_sipush (C : Cx X lo nL G cc own) {i : Int} {v : Int32} (p1 : Nat) (hp : pc + 3 = p1) (d : decode cc pc = .ok (.sipush i, 3)) (hv : (Int16.ofInt i).toInt32 = v) (kk : V X lo nL G Q k n ws lc (.int v :: st) p1) : V X lo nL G Q k n ws lc (st) pc := by
  subst hp
  exact fun H locs ls hP hD hS hl => lv_sipush C.1 C.2.1 d hv (kk H locs ls hP hD hS hl)
theorem V_lconst (C : Cx X lo nL G cc own) {i : Fin 2} {v : Int64} (p1 : Nat) (hp : pc + 1 = p1) (d : decode cc pc = .ok (.lconst i, 1)) (hv : Int64.ofNat (i : Nat) = v) (kk : V X lo nL G Q k n ws lc (.long v :: st) p1) : V X lo nL G Q k n ws lc (st) pc := by
  subst hp
  exact fun H locs ls hP hD hS hl => lv_lconst C.1 C.2.1 d hv (kk H locs ls hP hD hS hl)
theorem V_ldc2 (C : Cx X lo nL G cc own) {i : Nat} {v : Int64} (p1 : Nat) (hp : pc + 3 = p1) (d : decode cc pc = .ok (.ldc2_w i, 3)) (hw : Cond.constantLong own i v ∈ WA) (kk : V X lo nL G Q k n ws lc (.long v :: st) p1) : V X lo nL G Q k n ws lc (st) pc := by
  subst hp
  exact fun H locs ls hP hD hS hl => lv_ldc2 C.1 C.2.1 C.2.2.2.1 (C.word hw) d (kk H locs ls hP hD hS hl)
theorem V_iload_n (C : Cx X lo nL G cc own) {i : Fin 4} {x : Int32} (p1 : Nat) (hp : pc + 1 = p1) (d : decode cc pc = .ok (.iload_n i, 1)) (j : Nat) (hj : lc[j]? = some ((i : Nat), .int x)) (kk : V X lo nL G Q k n ws lc (.int x :: st) p1) : V X lo nL G Q k n ws lc (st) pc := by
  subst hp
  exact fun H locs ls hP hD hS hl => lv_iload_n C.1 C.2.1 d rfl (lv_at hl j hj) (kk H locs ls hP hD hS hl)
theorem V_iload (C : Cx X lo nL G cc own) {i : Nat} {x : Int32} (p1 : Nat) (hp : pc + 2 = p1) (d : decode cc pc = .ok (.iload i, 2)) (j : Nat) (hj : lc[j]? = some (i, .int x)) (kk : V X lo nL G Q k n ws lc (.int x :: st) p1) : V X lo nL G Q k n ws lc (st) pc := by
  subst hp
  exact fun H locs ls hP hD hS hl => lv_iload C.1 C.2.1 d (lv_at hl j hj) (kk H locs ls hP hD hS hl)
theorem V_istore_n (C : Cx X lo nL G cc own) {i : Fin 4} {x : Int32} {lc1 : List (Nat × Value)} (p1 : Nat) (hp : pc + 1 = p1) (d : decode cc pc = .ok (.istore_n i, 1)) (hn : (i : Nat) < nL) (hlc : ((i : Nat), Value.int x) :: lc.filter (fun q => !(q.1 == (i : Nat)) && !(q.1 + 1 == (i : Nat) && q.2.category == 2)) = lc1) (kk : V X lo nL G Q k n ws lc1 (st) p1) : V X lo nL G Q k n ws lc (.int x :: st) pc := by
  subst hp
  exact fun H locs ls hP hD hS hl => lv_istore_n C.1 C.2.1 d rfl hl hn hlc (fun ls hl => kk H locs ls hP hD hS hl)
theorem V_istore (C : Cx X lo nL G cc own) {i : Nat} {x : Int32} {lc1 : List (Nat × Value)} (p1 : Nat) (hp : pc + 2 = p1) (d : decode cc pc = .ok (.istore i, 2)) (hn : i < nL) (hlc : (i, Value.int x) :: lc.filter (fun q => !(q.1 == i) && !(q.1 + 1 == i && q.2.category == 2)) = lc1) (kk : V X lo nL G Q k n ws lc1 (st) p1) : V X lo nL G Q k n ws lc (.int x :: st) pc := by
  subst hp
  exact fun H locs ls hP hD hS hl => lv_istore C.1 C.2.1 d hl hn hlc (fun ls hl => kk H locs ls hP hD hS hl)
theorem V_lload_n (C : Cx X lo nL G cc own) {i : Fin 4} {x : Int64} (p1 : Nat) (hp : pc + 1 = p1) (d : decode cc pc = .ok (.lload_n i, 1)) (j : Nat) (hj : lc[j]? = some ((i : Nat), .long x)) (kk : V X lo nL G Q k n ws lc (.long x :: st) p1) : V X lo nL G Q k n ws lc (st) pc := by
  subst hp
  exact fun H locs ls hP hD hS hl => lv_lload_n C.1 C.2.1 d rfl (lv_at hl j hj) (kk H locs ls hP hD hS hl)
theorem V_lload (C : Cx X lo nL G cc own) {i : Nat} {x : Int64} (p1 : Nat) (hp : pc + 2 = p1) (d : decode cc pc = .ok (.lload i, 2)) (j : Nat) (hj : lc[j]? = some (i, .long x)) (kk : V X lo nL G Q k n ws lc (.long x :: st) p1) : V X lo nL G Q k n ws lc (st) pc := by
  subst hp
  exact fun H locs ls hP hD hS hl => lv_lload C.1 C.2.1 d (lv_at hl j hj) (kk H locs ls hP hD hS hl)
theorem V_lstore_n (C : Cx X lo nL G cc own) {i : Fin 4} {x : Int64} {lc1 : List (Nat × Value)} (p1 : Nat) (hp : pc + 1 = p1) (d : decode cc pc = .ok (.lstore_n i, 1)) (hn : (i : Nat) + 1 < nL) (hlc : ((i : Nat), Value.long x) :: lc.filter (fun q => !(q.1 == (i : Nat)) && (!(q.1 == (i : Nat) + 1) && !(q.1 + 1 == (i : Nat) && q.2.category == 2))) = lc1) (kk : V X lo nL G Q k n ws lc1 (st) p1) : V X lo nL G Q k n ws lc (.long x :: st) pc := by
  subst hp
  exact fun H locs ls hP hD hS hl => lv_lstore_n C.1 C.2.1 d rfl hl hn hlc (fun ls hl => kk H locs ls hP hD hS hl)
theorem V_lstore (C : Cx X lo nL G cc own) {i : Nat} {x : Int64} {lc1 : List (Nat × Value)} (p1 : Nat) (hp : pc + 2 = p1) (d : decode cc pc = .ok (.lstore i, 2)) (hn : i + 1 < nL) (hlc : (i, Value.long x) :: lc.filter (fun q => !(q.1 == i) && (!(q.1 == i + 1) && !(q.1 + 1 == i && q.2.category == 2))) = lc1) (kk : V X lo nL G Q k n ws lc1 (st) p1) : V X lo nL G Q k n ws lc (.long x :: st) pc := by
  subst hp
  exact fun H locs ls hP hD hS hl => lv_lstore C.1 C.2.1 d hl hn hlc (fun ls hl => kk H locs ls hP hD hS hl)
theorem V_aload_n (C : Cx X lo nL G cc own) {i : Fin 4} {x : Nat} (p1 : Nat) (hp : pc + 1 = p1) (d : decode cc pc = .ok (.aload_n i, 1)) (j : Nat) (hj : lc[j]? = some ((i : Nat), .ref x)) (kk : V X lo nL G Q k n ws lc (.ref x :: st) p1) : V X lo nL G Q k n ws lc (st) pc := by
  subst hp
  exact fun H locs ls hP hD hS hl => lv_aload_n C.1 C.2.1 d rfl (lv_at hl j hj) (kk H locs ls hP hD hS hl)
theorem V_aload (C : Cx X lo nL G cc own) {i : Nat} {x : Nat} (p1 : Nat) (hp : pc + 2 = p1) (d : decode cc pc = .ok (.aload i, 2)) (j : Nat) (hj : lc[j]? = some (i, .ref x)) (kk : V X lo nL G Q k n ws lc (.ref x :: st) p1) : V X lo nL G Q k n ws lc (st) pc := by
  subst hp
  exact fun H locs ls hP hD hS hl => lv_aload C.1 C.2.1 d (lv_at hl j hj) (kk H locs ls hP hD hS hl)
theorem V_astore_n (C : Cx X lo nL G cc own) {i : Fin 4} {x : Nat} {lc1 : List (Nat × Value)} (p1 : Nat) (hp : pc + 1 = p1) (d : decode cc pc = .ok (.astore_n i, 1)) (hn : (i : Nat) < nL) (hlc : ((i : Nat), Value.ref x) :: lc.filter (fun q => !(q.1 == (i : Nat)) && !(q.1 + 1 == (i : Nat) && q.2.category == 2)) = lc1) (kk : V X lo nL G Q k n ws lc1 (st) p1) : V X lo nL G Q k n ws lc (.ref x :: st) pc := by
  subst hp
  exact fun H locs ls hP hD hS hl => lv_astore_n C.1 C.2.1 d rfl hl hn hlc (fun ls hl => kk H locs ls hP hD hS hl)
theorem V_astore (C : Cx X lo nL G cc own) {i : Nat} {x : Nat} {lc1 : List (Nat × Value)} (p1 : Nat) (hp : pc + 2 = p1) (d : decode cc pc = .ok (.astore i, 2)) (hn : i < nL) (hlc : (i, Value.ref x) :: lc.filter (fun q => !(q.1 == i) && !(q.1 + 1 == i && q.2.category == 2)) = lc1) (kk : V X lo nL G Q k n ws lc1 (st) p1) : V X lo nL G Q k n ws lc (.ref x :: st) pc := by
  subst hp
  exact fun H locs ls hP hD hS hl => lv_astore C.1 C.2.1 d hl hn hlc (fun ls hl => kk H locs ls hP hD hS hl)
theorem V_iinc (C : Cx X lo nL G cc own) {i : Nat} {a : Int} {x v : Int32} {lc1 : List (Nat × Value)} (p1 : Nat) (hp : pc + 3 = p1) (d : decode cc pc = .ok (.iinc i a, 3)) (j : Nat) (hj : lc[j]? = some (i, .int x)) (hv : x + Int32.ofInt a = v) (hn : i < nL) (hlc : (i, Value.int v) :: lc.filter (fun q => !(q.1 == i) && !(q.1 + 1 == i && q.2.category == 2)) = lc1) (kk : V X lo nL G Q k n ws lc1 (st) p1) : V X lo nL G Q k n ws lc (st) pc := by
  subst hp
  exact fun H locs ls hP hD hS hl => lv_iinc C.1 C.2.1 d hl hj hv hn hlc (fun ls hl => kk H locs ls hP hD hS hl)
theorem V_iadd (C : Cx X lo nL G cc own) {x y : Int32} (p1 : Nat) (hp : pc + 1 = p1) (d : decode cc pc = .ok (.iadd, 1))  (kk : V X lo nL G Q k n ws lc (.int (x + y) :: st) p1) : V X lo nL G Q k n ws lc (.int y :: .int x :: st) pc := by
  subst hp
  exact fun H locs ls hP hD hS hl => lv_iadd C.1 C.2.1 d (kk H locs ls hP hD hS hl)
theorem V_isub (C : Cx X lo nL G cc own) {x y : Int32} (p1 : Nat) (hp : pc + 1 = p1) (d : decode cc pc = .ok (.isub, 1))  (kk : V X lo nL G Q k n ws lc (.int (x - y) :: st) p1) : V X lo nL G Q k n ws lc (.int y :: .int x :: st) pc := by
  subst hp
  exact fun H locs ls hP hD hS hl => lv_isub C.1 C.2.1 d (kk H locs ls hP hD hS hl)
theorem V_imul (C : Cx X lo nL G cc own) {x y : Int32} (p1 : Nat) (hp : pc + 1 = p1) (d : decode cc pc = .ok (.imul, 1))  (kk : V X lo nL G Q k n ws lc (.int (x * y) :: st) p1) : V X lo nL G Q k n ws lc (.int y :: .int x :: st) pc := by
  subst hp
  exact fun H locs ls hP hD hS hl => lv_imul C.1 C.2.1 d (kk H locs ls hP hD hS hl)
theorem V_iand (C : Cx X lo nL G cc own) {x y : Int32} (p1 : Nat) (hp : pc + 1 = p1) (d : decode cc pc = .ok (.iand, 1))  (kk : V X lo nL G Q k n ws lc (.int (x &&& y) :: st) p1) : V X lo nL G Q k n ws lc (.int y :: .int x :: st) pc := by
  subst hp
  exact fun H locs ls hP hD hS hl => lv_iand C.1 C.2.1 d (kk H locs ls hP hD hS hl)
theorem V_ior (C : Cx X lo nL G cc own) {x y : Int32} (p1 : Nat) (hp : pc + 1 = p1) (d : decode cc pc = .ok (.ior, 1))  (kk : V X lo nL G Q k n ws lc (.int (x ||| y) :: st) p1) : V X lo nL G Q k n ws lc (.int y :: .int x :: st) pc := by
  subst hp
  exact fun H locs ls hP hD hS hl => lv_ior C.1 C.2.1 d (kk H locs ls hP hD hS hl)
theorem V_ixor (C : Cx X lo nL G cc own) {x y : Int32} (p1 : Nat) (hp : pc + 1 = p1) (d : decode cc pc = .ok (.ixor, 1))  (kk : V X lo nL G Q k n ws lc (.int (x ^^^ y) :: st) p1) : V X lo nL G Q k n ws lc (.int y :: .int x :: st) pc := by
  subst hp
  exact fun H locs ls hP hD hS hl => lv_ixor C.1 C.2.1 d (kk H locs ls hP hD hS hl)
theorem V_ishl (C : Cx X lo nL G cc own) {x y : Int32} (p1 : Nat) (hp : pc + 1 = p1) (d : decode cc pc = .ok (.ishl, 1))  (kk : V X lo nL G Q k n ws lc (.int (x <<< (y &&& 31)) :: st) p1) : V X lo nL G Q k n ws lc (.int y :: .int x :: st) pc := by
  subst hp
  exact fun H locs ls hP hD hS hl => lv_ishl C.1 C.2.1 d (kk H locs ls hP hD hS hl)
theorem V_ishr (C : Cx X lo nL G cc own) {x y : Int32} (p1 : Nat) (hp : pc + 1 = p1) (d : decode cc pc = .ok (.ishr, 1))  (kk : V X lo nL G Q k n ws lc (.int (x >>> (y &&& 31)) :: st) p1) : V X lo nL G Q k n ws lc (.int y :: .int x :: st) pc := by
  subst hp
  exact fun H locs ls hP hD hS hl => lv_ishr C.1 C.2.1 d (kk H locs ls hP hD hS hl)
theorem V_idiv (C : Cx X lo nL G cc own) {x y : Int32} (p1 : Nat) (hp : pc + 1 = p1) (d : decode cc pc = .ok (.idiv, 1)) (hne : ¬ y = 0) (kk : V X lo nL G Q k n ws lc (.int (x / y) :: st) p1) : V X lo nL G Q k n ws lc (.int y :: .int x :: st) pc := by
  subst hp
  exact fun H locs ls hP hD hS hl => lv_idiv C.1 C.2.1 d hne (kk H locs ls hP hD hS hl)
theorem V_irem (C : Cx X lo nL G cc own) {x y : Int32} (p1 : Nat) (hp : pc + 1 = p1) (d : decode cc pc = .ok (.irem, 1)) (hne : ¬ y = 0) (kk : V X lo nL G Q k n ws lc (.int (x - x / y * y) :: st) p1) : V X lo nL G Q k n ws lc (.int y :: .int x :: st) pc := by
  subst hp
  exact fun H locs ls hP hD hS hl => lv_irem C.1 C.2.1 d hne (kk H locs ls hP hD hS hl)
theorem V_ladd (C : Cx X lo nL G cc own) {x y : Int64} (p1 : Nat) (hp : pc + 1 = p1) (d : decode cc pc = .ok (.ladd, 1))  (kk : V X lo nL G Q k n ws lc (.long (x + y) :: st) p1) : V X lo nL G Q k n ws lc (.long y :: .long x :: st) pc := by
  subst hp
  exact fun H locs ls hP hD hS hl => lv_ladd C.1 C.2.1 d (kk H locs ls hP hD hS hl)
theorem V_lsub (C : Cx X lo nL G cc own) {x y : Int64} (p1 : Nat) (hp : pc + 1 = p1) (d : decode cc pc = .ok (.lsub, 1))  (kk : V X lo nL G Q k n ws lc (.long (x - y) :: st) p1) : V X lo nL G Q k n ws lc (.long y :: .long x :: st) pc := by
  subst hp
  exact fun H locs ls hP hD hS hl => lv_lsub C.1 C.2.1 d (kk H locs ls hP hD hS hl)
theorem V_lmul (C : Cx X lo nL G cc own) {x y : Int64} (p1 : Nat) (hp : pc + 1 = p1) (d : decode cc pc = .ok (.lmul, 1))  (kk : V X lo nL G Q k n ws lc (.long (x * y) :: st) p1) : V X lo nL G Q k n ws lc (.long y :: .long x :: st) pc := by
  subst hp
  exact fun H locs ls hP hD hS hl => lv_lmul C.1 C.2.1 d (kk H locs ls hP hD hS hl)
theorem V_lor (C : Cx X lo nL G cc own) {x y : Int64} (p1 : Nat) (hp : pc + 1 = p1) (d : decode cc pc = .ok (.lor, 1))  (kk : V X lo nL G Q k n ws lc (.long (x ||| y) :: st) p1) : V X lo nL G Q k n ws lc (.long y :: .long x :: st) pc := by
  subst hp
  exact fun H locs ls hP hD hS hl => lv_lor C.1 C.2.1 d (kk H locs ls hP hD hS hl)
theorem V_ldiv (C : Cx X lo nL G cc own) {x y : Int64} (p1 : Nat) (hp : pc + 1 = p1) (d : decode cc pc = .ok (.ldiv, 1)) (hne : ¬ y = 0) (kk : V X lo nL G Q k n ws lc (.long (x / y) :: st) p1) : V X lo nL G Q k n ws lc (.long y :: .long x :: st) pc := by
  subst hp
  exact fun H locs ls hP hD hS hl => lv_ldiv C.1 C.2.1 d hne (kk H locs ls hP hD hS hl)
theorem V_lrem (C : Cx X lo nL G cc own) {x y : Int64} (p1 : Nat) (hp : pc + 1 = p1) (d : decode cc pc = .ok (.lrem, 1)) (hne : ¬ y = 0) (kk : V X lo nL G Q k n ws lc (.long (x - x / y * y) :: st) p1) : V X lo nL G Q k n ws lc (.long y :: .long x :: st) pc := by
  subst hp
  exact fun H locs ls hP hD hS hl => lv_lrem C.1 C.2.1 d hne (kk H locs ls hP hD hS hl)
theorem V_lushr (C : Cx X lo nL G cc own) {x : Int64} {y : Int32} (p1 : Nat) (hp : pc + 1 = p1) (d : decode cc pc = .ok (.lushr, 1))  (kk : V X lo nL G Q k n ws lc (.long ((x.toUInt64 >>> (y.toInt64.toUInt64 &&& Int64.toUInt64 63)).toInt64) :: st) p1) : V X lo nL G Q k n ws lc (.int y :: .long x :: st) pc := by
  subst hp
  exact fun H locs ls hP hD hS hl => lv_lushr C.1 C.2.1 d rfl (kk H locs ls hP hD hS hl)
theorem V_lshl (C : Cx X lo nL G cc own) {x : Int64} {y : Int32} (p1 : Nat) (hp : pc + 1 = p1) (d : decode cc pc = .ok (.lshl, 1))  (kk : V X lo nL G Q k n ws lc (.long (x <<< (y.toInt64 &&& 63)) :: st) p1) : V X lo nL G Q k n ws lc (.int y :: .long x :: st) pc := by
  subst hp
  exact fun H locs ls hP hD hS hl => lv_lshl C.1 C.2.1 d rfl (kk H locs ls hP hD hS hl)
theorem V_i2l (C : Cx X lo nL G cc own) {x : Int32} (p1 : Nat) (hp : pc + 1 = p1) (d : decode cc pc = .ok (.i2l, 1))  (kk : V X lo nL G Q k n ws lc (.long x.toInt64 :: st) p1) : V X lo nL G Q k n ws lc (.int x :: st) pc := by
  subst hp
  exact fun H locs ls hP hD hS hl => lv_i2l C.1 C.2.1 d rfl (kk H locs ls hP hD hS hl)
theorem V_l2i (C : Cx X lo nL G cc own) {x : Int64} (p1 : Nat) (hp : pc + 1 = p1) (d : decode cc pc = .ok (.l2i, 1))  (kk : V X lo nL G Q k n ws lc (.int x.toInt32 :: st) p1) : V X lo nL G Q k n ws lc (.long x :: st) pc := by
  subst hp
  exact fun H locs ls hP hD hS hl => lv_l2i C.1 C.2.1 d rfl (kk H locs ls hP hD hS hl)
theorem V_lcmp (C : Cx X lo nL G cc own) {x y : Int64} (p1 : Nat) (hp : pc + 1 = p1) (d : decode cc pc = .ok (.lcmp, 1))  (kk : V X lo nL G Q k n ws lc (.int (lg_cmp x y) :: st) p1) : V X lo nL G Q k n ws lc (.long y :: .long x :: st) pc := by
  subst hp
  exact fun H locs ls hP hD hS hl => W.lcmp C.1 C.2.1 d (kk H locs ls hP hD hS hl)
theorem V_dup (C : Cx X lo nL G cc own) {v : Value} (p1 : Nat) (hp : pc + 1 = p1) (d : decode cc pc = .ok (.dup, 1)) (hv : v.category = 1) (kk : V X lo nL G Q k n ws lc (v :: v :: st) p1) : V X lo nL G Q k n ws lc (v :: st) pc := by
  subst hp
  exact fun H locs ls hP hD hS hl => lv_dup C.1 C.2.1 d hv (kk H locs ls hP hD hS hl)
theorem V_dup2 (C : Cx X lo nL G cc own) {v u : Value} (p1 : Nat) (hp : pc + 1 = p1) (d : decode cc pc = .ok (.dup2, 1)) (hv : v.category = 1) (hu : u.category = 1) (kk : V X lo nL G Q k n ws lc (v :: u :: v :: u :: st) p1) : V X lo nL G Q k n ws lc (v :: u :: st) pc := by
  subst hp
  exact fun H locs ls hP hD hS hl => lv_dup2_11 C.1 C.2.1 d hv hu (kk H locs ls hP hD hS hl)
theorem V_pop (C : Cx X lo nL G cc own) {v : Value} (p1 : Nat) (hp : pc + 1 = p1) (d : decode cc pc = .ok (.pop, 1)) (hv : v.category = 1) (kk : V X lo nL G Q k n ws lc (st) p1) : V X lo nL G Q k n ws lc (v :: st) pc := by
  subst hp
  exact fun H locs ls hP hD hS hl => lv_pop C.1 C.2.1 d hv (kk H locs ls hP hD hS hl)
theorem V_if_eq (C : Cx X lo nL G cc own) {x : Int32} {off : Int} (p1 tgt : Nat) (hp : pc + 3 = p1) (d : decode cc pc = .ok (.ifCond .eq off, 3)) (ht : (pc : Int) + off = (tgt : Int)) (kt : x = 0 → V X lo nL G Q k n ws lc st tgt) (kf : ¬ x = 0 → V X lo nL G Q k n ws lc st p1) : V X lo nL G Q k n ws lc (.int x :: st) pc := by
  subst hp
  exact fun H locs ls hP hD hS hl => lv_if_eq C.1 C.2.1 d ht (fun c => kt c H locs ls hP hD hS hl) (fun c => kf c H locs ls hP hD hS hl)
theorem V_if_ne (C : Cx X lo nL G cc own) {x : Int32} {off : Int} (p1 tgt : Nat) (hp : pc + 3 = p1) (d : decode cc pc = .ok (.ifCond .ne off, 3)) (ht : (pc : Int) + off = (tgt : Int)) (kt : ¬ x = 0 → V X lo nL G Q k n ws lc st tgt) (kf : x = 0 → V X lo nL G Q k n ws lc st p1) : V X lo nL G Q k n ws lc (.int x :: st) pc := by
  subst hp
  exact fun H locs ls hP hD hS hl => lv_if_ne C.1 C.2.1 d ht (fun c => kt c H locs ls hP hD hS hl) (fun c => kf c H locs ls hP hD hS hl)
theorem V_if_lt (C : Cx X lo nL G cc own) {x : Int32} {off : Int} (p1 tgt : Nat) (hp : pc + 3 = p1) (d : decode cc pc = .ok (.ifCond .lt off, 3)) (ht : (pc : Int) + off = (tgt : Int)) (kt : x < 0 → V X lo nL G Q k n ws lc st tgt) (kf : ¬ x < 0 → V X lo nL G Q k n ws lc st p1) : V X lo nL G Q k n ws lc (.int x :: st) pc := by
  subst hp
  exact fun H locs ls hP hD hS hl => lv_if_lt C.1 C.2.1 d ht (fun c => kt c H locs ls hP hD hS hl) (fun c => kf c H locs ls hP hD hS hl)
theorem V_if_ge (C : Cx X lo nL G cc own) {x : Int32} {off : Int} (p1 tgt : Nat) (hp : pc + 3 = p1) (d : decode cc pc = .ok (.ifCond .ge off, 3)) (ht : (pc : Int) + off = (tgt : Int)) (kt : 0 ≤ x → V X lo nL G Q k n ws lc st tgt) (kf : ¬ 0 ≤ x → V X lo nL G Q k n ws lc st p1) : V X lo nL G Q k n ws lc (.int x :: st) pc := by
  subst hp
  exact fun H locs ls hP hD hS hl => lv_if_ge C.1 C.2.1 d ht (fun c => kt c H locs ls hP hD hS hl) (fun c => kf c H locs ls hP hD hS hl)
theorem V_if_gt (C : Cx X lo nL G cc own) {x : Int32} {off : Int} (p1 tgt : Nat) (hp : pc + 3 = p1) (d : decode cc pc = .ok (.ifCond .gt off, 3)) (ht : (pc : Int) + off = (tgt : Int)) (kt : 0 < x → V X lo nL G Q k n ws lc st tgt) (kf : ¬ 0 < x → V X lo nL G Q k n ws lc st p1) : V X lo nL G Q k n ws lc (.int x :: st) pc := by
  subst hp
  exact fun H locs ls hP hD hS hl => lv_if_gt C.1 C.2.1 d ht (fun c => kt c H locs ls hP hD hS hl) (fun c => kf c H locs ls hP hD hS hl)
theorem V_if_le (C : Cx X lo nL G cc own) {x : Int32} {off : Int} (p1 tgt : Nat) (hp : pc + 3 = p1) (d : decode cc pc = .ok (.ifCond .le off, 3)) (ht : (pc : Int) + off = (tgt : Int)) (kt : x ≤ 0 → V X lo nL G Q k n ws lc st tgt) (kf : ¬ x ≤ 0 → V X lo nL G Q k n ws lc st p1) : V X lo nL G Q k n ws lc (.int x :: st) pc := by
  subst hp
  exact fun H locs ls hP hD hS hl => lv_if_le C.1 C.2.1 d ht (fun c => kt c H locs ls hP hD hS hl) (fun c => kf c H locs ls hP hD hS hl)
theorem V_icmp_eq (C : Cx X lo nL G cc own) {x y : Int32} {off : Int} (p1 tgt : Nat) (hp : pc + 3 = p1) (d : decode cc pc = .ok (.if_icmp .eq off, 3)) (ht : (pc : Int) + off = (tgt : Int)) (kt : x = y → V X lo nL G Q k n ws lc st tgt) (kf : ¬ x = y → V X lo nL G Q k n ws lc st p1) : V X lo nL G Q k n ws lc (.int y :: .int x :: st) pc := by
  subst hp
  exact fun H locs ls hP hD hS hl => lv_icmp_eq C.1 C.2.1 d ht (fun c => kt c H locs ls hP hD hS hl) (fun c => kf c H locs ls hP hD hS hl)
theorem V_icmp_ne (C : Cx X lo nL G cc own) {x y : Int32} {off : Int} (p1 tgt : Nat) (hp : pc + 3 = p1) (d : decode cc pc = .ok (.if_icmp .ne off, 3)) (ht : (pc : Int) + off = (tgt : Int)) (kt : ¬ x = y → V X lo nL G Q k n ws lc st tgt) (kf : x = y → V X lo nL G Q k n ws lc st p1) : V X lo nL G Q k n ws lc (.int y :: .int x :: st) pc := by
  subst hp
  exact fun H locs ls hP hD hS hl => lv_icmp_ne C.1 C.2.1 d ht (fun c => kt c H locs ls hP hD hS hl) (fun c => kf c H locs ls hP hD hS hl)
theorem V_icmp_lt (C : Cx X lo nL G cc own) {x y : Int32} {off : Int} (p1 tgt : Nat) (hp : pc + 3 = p1) (d : decode cc pc = .ok (.if_icmp .lt off, 3)) (ht : (pc : Int) + off = (tgt : Int)) (kt : x < y → V X lo nL G Q k n ws lc st tgt) (kf : ¬ x < y → V X lo nL G Q k n ws lc st p1) : V X lo nL G Q k n ws lc (.int y :: .int x :: st) pc := by
  subst hp
  exact fun H locs ls hP hD hS hl => lv_icmp_lt C.1 C.2.1 d ht (fun c => kt c H locs ls hP hD hS hl) (fun c => kf c H locs ls hP hD hS hl)
theorem V_icmp_ge (C : Cx X lo nL G cc own) {x y : Int32} {off : Int} (p1 tgt : Nat) (hp : pc + 3 = p1) (d : decode cc pc = .ok (.if_icmp .ge off, 3)) (ht : (pc : Int) + off = (tgt : Int)) (kt : y ≤ x → V X lo nL G Q k n ws lc st tgt) (kf : ¬ y ≤ x → V X lo nL G Q k n ws lc st p1) : V X lo nL G Q k n ws lc (.int y :: .int x :: st) pc := by
  subst hp
  exact fun H locs ls hP hD hS hl => lv_icmp_ge C.1 C.2.1 d ht (fun c => kt c H locs ls hP hD hS hl) (fun c => kf c H locs ls hP hD hS hl)
theorem V_icmp_gt (C : Cx X lo nL G cc own) {x y : Int32} {off : Int} (p1 tgt : Nat) (hp : pc + 3 = p1) (d : decode cc pc = .ok (.if_icmp .gt off, 3)) (ht : (pc : Int) + off = (tgt : Int)) (kt : y < x → V X lo nL G Q k n ws lc st tgt) (kf : ¬ y < x → V X lo nL G Q k n ws lc st p1) : V X lo nL G Q k n ws lc (.int y :: .int x :: st) pc := by
  subst hp
  exact fun H locs ls hP hD hS hl => lv_icmp_gt C.1 C.2.1 d ht (fun c => kt c H locs ls hP hD hS hl) (fun c => kf c H locs ls hP hD hS hl)
theorem V_icmp_le (C : Cx X lo nL G cc own) {x y : Int32} {off : Int} (p1 tgt : Nat) (hp : pc + 3 = p1) (d : decode cc pc = .ok (.if_icmp .le off, 3)) (ht : (pc : Int) + off = (tgt : Int)) (kt : x ≤ y → V X lo nL G Q k n ws lc st tgt) (kf : ¬ x ≤ y → V X lo nL G Q k n ws lc st p1) : V X lo nL G Q k n ws lc (.int y :: .int x :: st) pc := by
  subst hp
  exact fun H locs ls hP hD hS hl => lv_icmp_le C.1 C.2.1 d ht (fun c => kt c H locs ls hP hD hS hl) (fun c => kf c H locs ls hP hD hS hl)
theorem V_goto (C : Cx X lo nL G cc own) {off : Int} (tgt : Nat) (d : decode cc pc = .ok (.goto off, 3)) (ht : (pc : Int) + off = (tgt : Int)) (kk : V X lo nL G Q k n ws lc st tgt) : V X lo nL G Q k n ws lc st pc := fun H locs ls hP hD hS hl => lv_goto C.1 C.2.1 d ht (kk H locs ls hP hD hS hl)
theorem V_topi {x : Int32} (kk : ∀ y : Int32, y = x → V X lo nL G Q k n ws lc (.int y :: st) pc) : V X lo nL G Q k n ws lc (.int x :: st) pc := kk x rfl
theorem V_topl {x : Int64} (kk : ∀ y : Int64, y = x → V X lo nL G Q k n ws lc (.long y :: st) pc) : V X lo nL G Q k n ws lc (.long x :: st) pc := kk x rfl
theorem V_toi {x : Int32} (y : Int32) (h : x = y) (kk : V X lo nL G Q k n ws lc (.int y :: st) pc) : V X lo nL G Q k n ws lc (.int x :: st) pc := h ▸ kk
theorem V_tol {x : Int64} (y : Int64) (h : x = y) (kk : V X lo nL G Q k n ws lc (.long y :: st) pc) : V X lo nL G Q k n ws lc (.long x :: st) pc := h ▸ kk
theorem V_iald (C : Cx X lo nL G cc own) {i : Int32} {a N : Nat} {f : Nat → Int32} (p1 : Nat) (hp : pc + 1 = p1) (d : decode cc pc = .ok (.iaload, 1)) (q0 : Nat) (ha : ws[q0]? = some (a, .inl (G.2.1, N, .inl f))) (hin : vp_in i N) (kk : V X lo nL G Q k n ws lc (.int (f i.toNatClampNeg) :: st) p1) : V X lo nL G Q k n ws lc (.int i :: .ref a :: st) pc := by
  subst hp
  exact fun H locs ls hP hD hS hl => va_iald C.1 C.2.1 C.2.2.2.2.2.1 hP q0 0 ha rfl hin d (kk H locs ls hP hD hS hl)
theorem V_lald (C : Cx X lo nL G cc own) {i : Int32} {a N : Nat} {f : Nat → Int64} (p1 : Nat) (hp : pc + 1 = p1) (d : decode cc pc = .ok (.laload, 1)) (q0 : Nat) (ha : ws[q0]? = some (a, .inl (G.2.2.1, N, .inr (.inl f)))) (hin : vp_in i N) (kk : V X lo nL G Q k n ws lc (.long (f i.toNatClampNeg) :: st) p1) : V X lo nL G Q k n ws lc (.int i :: .ref a :: st) pc := by
  subst hp
  exact fun H locs ls hP hD hS hl => va_lald C.1 C.2.1 C.2.2.2.2.2.1 hP q0 1 ha rfl hin d (kk H locs ls hP hD hS hl)
theorem V_zald (C : Cx X lo nL G cc own) {i : Int32} {a N : Nat} {f : Nat → Int32} (p1 : Nat) (hp : pc + 1 = p1) (d : decode cc pc = .ok (.baload, 1)) (q0 : Nat) (ha : ws[q0]? = some (a, .inl (G.2.2.2, N, .inl f))) (hin : vp_in i N) (kk : V X lo nL G Q k n ws lc (.int (f i.toNatClampNeg) :: st) p1) : V X lo nL G Q k n ws lc (.int i :: .ref a :: st) pc := by
  subst hp
  exact fun H locs ls hP hD hS hl => va_zald C.1 C.2.1 C.2.2.2.2.2.1 hP q0 2 ha rfl hin d (kk H locs ls hP hD hS hl)
theorem V_iast (C : Cx X lo nL G cc own) {i : Int32} {x : Int32} {a N : Nat} {f : Nat → Int32} (p1 : Nat) (hp : pc + 1 = p1) (d : decode cc pc = .ok (.iastore, 1)) (q0 : Nat) (ha : ws[q0]? = some (a, .inl (G.2.1, N, .inl f))) (hin : vp_in i N) (ws1 : va_W) (hw : ws.set q0 (a, .inl (G.2.1, N, .inl (upd f i.toNatClampNeg x))) = ws1) (kk : V X lo nL G Q k n ws1 lc (st) p1) : V X lo nL G Q k n ws lc (.int x :: .int i :: .ref a :: st) pc := by
  subst hp
  exact fun H locs ls hP hD hS hl => va_iast C.1 C.2.1 C.2.2.2.2.2.1 hP hD hS q0 0 ha rfl hin d (fun H locs hP hD hS => kk H locs ls (hw ▸ hP) (hw ▸ hD) hS hl)
theorem V_last (C : Cx X lo nL G cc own) {i : Int32} {x : Int64} {a N : Nat} {f : Nat → Int64} (p1 : Nat) (hp : pc + 1 = p1) (d : decode cc pc = .ok (.lastore, 1)) (q0 : Nat) (ha : ws[q0]? = some (a, .inl (G.2.2.1, N, .inr (.inl f)))) (hin : vp_in i N) (ws1 : va_W) (hw : ws.set q0 (a, .inl (G.2.2.1, N, .inr (.inl (vp_updL f i.toNatClampNeg x)))) = ws1) (kk : V X lo nL G Q k n ws1 lc (st) p1) : V X lo nL G Q k n ws lc (.long x :: .int i :: .ref a :: st) pc := by
  subst hp
  exact fun H locs ls hP hD hS hl => va_last C.1 C.2.1 C.2.2.2.2.2.1 hP hD hS q0 1 ha rfl hin d (fun H locs hP hD hS => kk H locs ls (hw ▸ hP) (hw ▸ hD) hS hl)
theorem V_zast (C : Cx X lo nL G cc own) {i : Int32} {x : Int32} {a N : Nat} {f : Nat → Int32} (p1 : Nat) (hp : pc + 1 = p1) (d : decode cc pc = .ok (.bastore, 1)) (q0 : Nat) (ha : ws[q0]? = some (a, .inl (G.2.2.2, N, .inl f))) (hin : vp_in i N) (ws1 : va_W) (hw : ws.set q0 (a, .inl (G.2.2.2, N, .inl (upd f i.toNatClampNeg (vp_nar .boolean x)))) = ws1) (kk : V X lo nL G Q k n ws1 lc (st) p1) : V X lo nL G Q k n ws lc (.int x :: .int i :: .ref a :: st) pc := by
  subst hp
  exact fun H locs ls hP hD hS hl => va_zast C.1 C.2.1 C.2.2.2.2.2.1 hP hD hS q0 2 ha rfl hin d (fun H locs hP hD hS => kk H locs ls (hw ▸ hP) (hw ▸ hD) hS hl)
theorem V_get (C : Cx X lo nL G cc own) {ref : String} {ci index N a : Nat} {Cn : String} {T : u_T} (hin : ∀ w ∈ u_ws Cn T N, w ∈ WA) (hc : vwCl[ci]? = some (Cn, T, N)) (kf : Nat) (hk : kf < N) (hlink : Cond.fieldLink own index ref (T kf).2.1 (T kf).2.2.1 ∈ WA) (hsame : (T kf).1 = ref) (q0 : Nat) {fs : List Value} (he : ws[q0]? = some (a, .inr (ci, fs))) {v : Value} (hv : fs[kf]? = some v) (p1 : Nat) (hp : pc + 3 = p1) (d : decode cc pc = .ok (.getfield index, 3)) (kk : V X lo nL G Q k n ws lc (v :: st) p1) : V X lo nL G Q k n ws lc (.ref a :: st) pc := by
  subst hp
  subst hsame
  exact fun H locs ls hP hD hS hl => va_get C.1 C.2.1 C.2.2.2.2.1 hin C.2.2.2.1 C.2.2.2.2.2.1 hP q0 he hc kf hk (C.word hlink) (fun _ h => h) hv d (kk H locs ls hP hD hS hl)
theorem V_getN (C : Cx X lo nL G cc own) {ref host : String} {ci index N a : Nat} {Cn : String} {T : u_T} (hin : ∀ w ∈ u_ws Cn T N, w ∈ WA) (hc : vwCl[ci]? = some (Cn, T, N)) (kf : Nat) (hk : kf < N) (hlink : Cond.fieldLinkNest own index ref (T kf).2.1 (T kf).2.2.1 host ∈ wsN) (hsame : (T kf).1 = ref) (q0 : Nat) {fs : List Value} (he : ws[q0]? = some (a, .inr (ci, fs))) {v : Value} (hv : fs[kf]? = some v) (p1 : Nat) (hp : pc + 3 = p1) (d : decode cc pc = .ok (.getfield index, 3)) (kk : V X lo nL G Q k n ws lc (v :: st) p1) : V X lo nL G Q k n ws lc (.ref a :: st) pc := by
  subst hp
  subst hsame
  exact fun H locs ls hP hD hS hl => va_getN C.1 C.2.1 C.2.2.2.2.1 hin C.2.2.2.1 C.2.2.2.2.2.1 hP q0 he hc kf hk (va_Nw.use rfl (C.2.2.2.2.2.2.1.1 _ hlink)) (fun _ h => h) hv d (kk H locs ls hP hD hS hl)
theorem V_put (C : Cx X lo nL G cc own) {ref : String} {ci index N a : Nat} {Cn : String} {T : u_T} (hin : ∀ w ∈ u_ws Cn T N, w ∈ WA) (ty0 : Nat → FieldType) (hty : ∀ k, k < N → parseFieldDescriptor (T k).2.2.1 = some (ty0 k)) (hnm : ∀ a, a < N → ∀ b, b < N → a ≠ b → (T a).2.1 ≠ (T b).2.1) (hc : vwCl[ci]? = some (Cn, T, N)) (kf : Nat) (hk : kf < N) (hlink : Cond.fieldLink own index ref (T kf).2.1 (T kf).2.2.1 ∈ WA) (hsame : (T kf).1 = ref) (hfin : (T kf).2.2.2 = false) (q0 : Nat) {fs : List Value} (he : ws[q0]? = some (a, .inr (ci, fs))) {v : Value} (hn : narrow (ty0 kf) v = v) (hfit : fits (ty0 kf) v = true) (hl0 : kf < fs.length) (ws1 : va_W) (hw : ws.set q0 (a, .inr (ci, fs.set kf v)) = ws1) (p1 : Nat) (hp : pc + 3 = p1) (d : decode cc pc = .ok (.putfield index, 3)) (kk : V X lo nL G Q k n ws1 lc st p1) : V X lo nL G Q k n ws lc (v :: .ref a :: st) pc := by
  subst hp
  subst hsame
  exact fun H locs ls hP hD hS hl => va_put C.1 C.2.1 C.2.2.2.2.1 hin ty0 hty hnm C.2.2.2.1 C.2.2.2.2.2.1 hP hD hS q0 he hc kf hk (C.word hlink) (fun _ h => h) hfin (hty kf hk) hn hfit hl0 d (fun H locs hP hD hS => kk H locs ls (hw ▸ hP) (hw ▸ hD) hS hl)
theorem V_putN (C : Cx X lo nL G cc own) {ref host : String} {ci index N a : Nat} {Cn : String} {T : u_T} (hin : ∀ w ∈ u_ws Cn T N, w ∈ WA) (ty0 : Nat → FieldType) (hty : ∀ k, k < N → parseFieldDescriptor (T k).2.2.1 = some (ty0 k)) (hnm : ∀ a, a < N → ∀ b, b < N → a ≠ b → (T a).2.1 ≠ (T b).2.1) (hc : vwCl[ci]? = some (Cn, T, N)) (kf : Nat) (hk : kf < N) (hlink : Cond.fieldLinkNest own index ref (T kf).2.1 (T kf).2.2.1 host ∈ wsN) (hsame : (T kf).1 = ref) (hfin : (T kf).2.2.2 = false) (q0 : Nat) {fs : List Value} (he : ws[q0]? = some (a, .inr (ci, fs))) {v : Value} (hn : narrow (ty0 kf) v = v) (hfit : fits (ty0 kf) v = true) (hl0 : kf < fs.length) (ws1 : va_W) (hw : ws.set q0 (a, .inr (ci, fs.set kf v)) = ws1) (p1 : Nat) (hp : pc + 3 = p1) (d : decode cc pc = .ok (.putfield index, 3)) (kk : V X lo nL G Q k n ws1 lc st p1) : V X lo nL G Q k n ws lc (v :: .ref a :: st) pc := by
  subst hp
  subst hsame
  exact fun H locs ls hP hD hS hl => va_putN C.1 C.2.1 C.2.2.2.2.1 hin ty0 hty hnm C.2.2.2.1 C.2.2.2.2.2.1 hP hD hS q0 he hc kf hk (va_Nw.use rfl (C.2.2.2.2.2.2.1.1 _ hlink)) (fun _ h => h) hfin (hty kf hk) hn hfit hl0 d (fun H locs hP hD hS => kk H locs ls (hw ▸ hP) (hw ▸ hD) hS hl)
end VR
def rmD (d mc ms : Nat) : Room := { frames := d, cells := mc, slots := ms, locals := 40 * d }
theorem good_sub {ws : List Cond} (h : ∀ w ∈ ws, w ∈ WA) : GoodIn WA ws := fun w hw => ⟨h w hw, good_of_word (WA_good w (h w hw))⟩
theorem good_V {own : String} {index : Nat} {Cn : String} {y : MethodName} {cw : Cond} (h1 : Cond.methodLink own index y ∈ WA) (h2 : Cond.instanceMethod y ∈ WA) (h3 : Cond.selects Cn y y ∈ WA) (h4 : Cond.initialized Cn ∈ WA) (h5 : cw ∈ WA) : GoodIn WA (wsV own index Cn y (cw :: WA)) := good_sub (fun w hw => by
  rcases List.mem_append.mp hw with h | h
  · simp only [List.mem_cons, List.not_mem_nil, or_false] at h
    rcases h with rfl | rfl | rfl | rfl <;> assumption
  · rcases List.mem_cons.mp h with rfl | h
    · exact h5
    · exact h)
theorem good_S {own : String} {index : Nat} {y : MethodName} {cw : Cond} (h1 : Cond.methodLink own index y ∈ WA) (h2 : Cond.static y ∈ WA) (h4 : Cond.initialized y.cls ∈ WA) (h5 : cw ∈ WA) : GoodIn WA (va_wsS own index y (cw :: WA)) := good_sub (fun w hw => by
  rcases List.mem_append.mp hw with h | h
  · simp only [List.mem_cons, List.not_mem_nil, or_false] at h
    rcases h with rfl | rfl | rfl <;> assumption
  · rcases List.mem_cons.mp h with rfl | h
    · exact h5
    · exact h)
theorem good_C {cw : Cond} (h5 : cw ∈ WA) : GoodIn WA (cw :: WA) := good_sub (fun w hw => by
  rcases List.mem_cons.mp hw with rfl | h
  · exact h5
  · exact h)
/-- a method's contract: it finds a world, and leaves one -/
def Mi (l : Launch) (y : MethodName) (cw : Cond) (d mc ms lo : Nat) (G : vG) (av : List Value) (wi : va_W) {S : Type} (post : Int32 → S → Prop) (wo : S → va_W) : Prop := Met l y (cw :: WA) (rmD d mc ms) (va_Pc av (BI lo G wi)) (va_Qi post (fun u t => BO lo G (wo u) t) (Lo lo)) mc ms (Lo lo)
def Ml (l : Launch) (y : MethodName) (cw : Cond) (d mc ms lo : Nat) (G : vG) (av : List Value) (wi : va_W) {S : Type} (post : Int64 → S → Prop) (wo : S → va_W) : Prop := Met l y (cw :: WA) (rmD d mc ms) (va_Pc av (BI lo G wi)) (va_Ql post (fun u t => BO lo G (wo u) t) (Lo lo)) mc ms (Lo lo)
def Mv (l : Launch) (y : MethodName) (cw : Cond) (d mc ms lo : Nat) (G : vG) (av : List Value) (wi : va_W) {S : Type} (post : S → Prop) (wo : S → va_W) : Prop := Met l y (cw :: WA) (rmD d mc ms) (va_Pc av (BI lo G wi)) (va_Qv post (fun u t => BO lo G (wo u) t) (Lo lo)) mc ms (Lo lo)
/-- what is thrown: the world stays as it was -/
def XC (lo : Nat) (G : vG) (px : String → Prop) (wx : va_W) : String → State → State → Prop := vx_X (fun _ : Unit => True) (fun E _ t => px E ∧ BO lo G wx t) (Lo lo)
def Xi (l : Launch) (y : MethodName) (cw : Cond) (d mc ms lo : Nat) (G : vG) (av : List Value) (wi : va_W) (px : String → Prop) {S : Type} (post : Int32 → S → Prop) (wo : S → va_W) : Prop := vx_Met l y (cw :: WA) (rmD d mc ms) (va_Pc av (BI lo G wi)) (va_Qi post (fun u t => BO lo G (wo u) t) (Lo lo)) (XC lo G px wi) mc ms (Lo lo)
def Xl (l : Launch) (y : MethodName) (cw : Cond) (d mc ms lo : Nat) (G : vG) (av : List Value) (wi : va_W) (px : String → Prop) {S : Type} (post : Int64 → S → Prop) (wo : S → va_W) : Prop := vx_Met l y (cw :: WA) (rmD d mc ms) (va_Pc av (BI lo G wi)) (va_Ql post (fun u t => BO lo G (wo u) t) (Lo lo)) (XC lo G px wi) mc ms (Lo lo)
def Xv (l : Launch) (y : MethodName) (cw : Cond) (d mc ms lo : Nat) (G : vG) (av : List Value) (wi : va_W) (px : String → Prop) {S : Type} (post : S → Prop) (wo : S → va_W) : Prop := vx_Met l y (cw :: WA) (rmD d mc ms) (va_Pc av (BI lo G wi)) (va_Qv post (fun u t => BO lo G (wo u) t) (Lo lo)) (XC lo G px wi) mc ms (Lo lo)
def Qi (X : vX) (lo : Nat) (G : vG) {S : Type} (post : Int32 → S → Prop) (wo : S → va_W) (mc ms : Nat) : State → Prop := MQ (xb X) (va_Qi post (fun u t => BO lo G (wo u) t) (Lo lo)) (xa X) (xs X) mc ms (Lo lo)
def Ql (X : vX) (lo : Nat) (G : vG) {S : Type} (post : Int64 → S → Prop) (wo : S → va_W) (mc ms : Nat) : State → Prop := MQ (xb X) (va_Ql post (fun u t => BO lo G (wo u) t) (Lo lo)) (xa X) (xs X) mc ms (Lo lo)
def Qv (X : vX) (lo : Nat) (G : vG) {S : Type} (post : S → Prop) (wo : S → va_W) (mc ms : Nat) : State → Prop := MQ (xb X) (va_Qv post (fun u t => BO lo G (wo u) t) (Lo lo)) (xa X) (xs X) mc ms (Lo lo)
def QXi (X : vX) (lo : Nat) (G : vG) (px : String → Prop) (wx : va_W) {S : Type} (post : Int32 → S → Prop) (wo : S → va_W) (mc ms : Nat) : State → Prop := vx_MQ (xb X) (va_Qi post (fun u t => BO lo G (wo u) t) (Lo lo)) (XC lo G px wx) (xa X) (xs X) mc ms (Lo lo)
def QXl (X : vX) (lo : Nat) (G : vG) (px : String → Prop) (wx : va_W) {S : Type} (post : Int64 → S → Prop) (wo : S → va_W) (mc ms : Nat) : State → Prop := vx_MQ (xb X) (va_Ql post (fun u t => BO lo G (wo u) t) (Lo lo)) (XC lo G px wx) (xa X) (xs X) mc ms (Lo lo)
def QXv (X : vX) (lo : Nat) (G : vG) (px : String → Prop) (wx : va_W) {S : Type} (post : S → Prop) (wo : S → va_W) (mc ms : Nat) : State → Prop := vx_MQ (xb X) (va_Qv post (fun u t => BO lo G (wo u) t) (Lo lo)) (XC lo G px wx) (xa X) (xs X) mc ms (Lo lo)

theorem Mi_of {l : Launch} {y : MethodName} {cc : ByteArray} {maxL d mc ms lo : Nat} {ret : Option FieldType} {G : vG} {av : List Value} {wi : va_W} {S : Type} {post : Int32 → S → Prop} {wo : S → va_W} {lc : List (Nat × Value)} (hy : plainName y.cls = true) (hlen : (lg_sl av).length ≤ maxL) (hav : lv_args 0 av = lc)
    (body : ∀ X : vX, Cx X lo maxL G cc y.cls → xR X = rmD d mc ms → xl X = l → (xh X).sig.returnType = ret → (xh X).name = y.name → V X lo maxL G (Qi X lo G post wo mc ms) 0 0 wi lc [] 0) : Mi l y (.code y cc maxL ret) d mc ms lo G av wi post wo := by
  refine Met.ofW (cc := cc) (maxL := maxL) (ret := ret) hy rfl ?_
  intro p e s m args below meth c s₁ B hml hv
  obtain ⟨rfl, hlo, hP, hD, hK, hG⟩ := hv
  rw [lg_entry_eq]
  have hts := atoms_spec (ws := Cond.code y cc maxL ret :: WA) B.pre
  exact body (p, l, e, rmD d mc ms, s, m, _, below, meth, c) ⟨B.exec, B.bytes, hml, findClass_of_methodNamed B.named, fun w hw => hts w (List.mem_cons_of_mem _ hw), hK, hG, hlo, B.notSynchronized⟩ rfl rfl B.returns (name_of_methodNamed B.named B.method).1 s.heap [] _ hP hD va_S.rf (hav ▸ lv_entry av hlen)
theorem Xi_of {l : Launch} {y : MethodName} {cc : ByteArray} {maxL d mc ms lo : Nat} {ret : Option FieldType} {G : vG} {av : List Value} {wi : va_W} {px : String → Prop} {S : Type} {post : Int32 → S → Prop} {wo : S → va_W} {lc : List (Nat × Value)} (hy : plainName y.cls = true) (hlen : (lg_sl av).length ≤ maxL) (hav : lv_args 0 av = lc)
    (body : ∀ X : vX, Cx X lo maxL G cc y.cls → xR X = rmD d mc ms → xl X = l → (xh X).sig.returnType = ret → (∀ x ∈ (xc X).exceptionTable.toList, False) → V X lo maxL G (QXi X lo G px wi post wo mc ms) 0 0 wi lc [] 0) : Xi l y (.code y cc maxL ret) d mc ms lo G av wi px post wo := by
  refine vx_ofW (cc := cc) (maxL := maxL) (ret := ret) hy rfl ?_
  intro p e s m args below meth c s₁ B hml hout hv
  obtain ⟨rfl, hlo, hP, hD, hK, hG⟩ := hv
  rw [lg_entry_eq]
  have hts := atoms_spec (ws := Cond.code y cc maxL ret :: WA) B.pre
  exact body (p, l, e, rmD d mc ms, s, m, _, below, meth, c) ⟨B.exec, B.bytes, hml, findClass_of_methodNamed B.named, fun w hw => hts w (List.mem_cons_of_mem _ hw), hK, hG, hlo, B.notSynchronized⟩ rfl rfl B.returns hout s.heap [] _ hP hD va_S.rf (hav ▸ lv_entry av hlen)
theorem Ml_of {l : Launch} {y : MethodName} {cc : ByteArray} {maxL d mc ms lo : Nat} {ret : Option FieldType} {G : vG} {av : List Value} {wi : va_W} {S : Type} {post : Int64 → S → Prop} {wo : S → va_W} {lc : List (Nat × Value)} (hy : plainName y.cls = true) (hlen : (lg_sl av).length ≤ maxL) (hav : lv_args 0 av = lc)
    (body : ∀ X : vX, Cx X lo maxL G cc y.cls → xR X = rmD d mc ms → xl X = l → (xh X).sig.returnType = ret → (xh X).name = y.name → V X lo maxL G (Ql X lo G post wo mc ms) 0 0 wi lc [] 0) : Ml l y (.code y cc maxL ret) d mc ms lo G av wi post wo := by
  refine Met.ofW (cc := cc) (maxL := maxL) (ret := ret) hy rfl ?_
  intro p e s m args below meth c s₁ B hml hv
  obtain ⟨rfl, hlo, hP, hD, hK, hG⟩ := hv
  rw [lg_entry_eq]
  have hts := atoms_spec (ws := Cond.code y cc maxL ret :: WA) B.pre
  exact body (p, l, e, rmD d mc ms, s, m, _, below, meth, c) ⟨B.exec, B.bytes, hml, findClass_of_methodNamed B.named, fun w hw => hts w (List.mem_cons_of_mem _ hw), hK, hG, hlo, B.notSynchronized⟩ rfl rfl B.returns (name_of_methodNamed B.named B.method).1 s.heap [] _ hP hD va_S.rf (hav ▸ lv_entry av hlen)
theorem Xl_of {l : Launch} {y : MethodName} {cc : ByteArray} {maxL d mc ms lo : Nat} {ret : Option FieldType} {G : vG} {av : List Value} {wi : va_W} {px : String → Prop} {S : Type} {post : Int64 → S → Prop} {wo : S → va_W} {lc : List (Nat × Value)} (hy : plainName y.cls = true) (hlen : (lg_sl av).length ≤ maxL) (hav : lv_args 0 av = lc)
    (body : ∀ X : vX, Cx X lo maxL G cc y.cls → xR X = rmD d mc ms → xl X = l → (xh X).sig.returnType = ret → (∀ x ∈ (xc X).exceptionTable.toList, False) → V X lo maxL G (QXl X lo G px wi post wo mc ms) 0 0 wi lc [] 0) : Xl l y (.code y cc maxL ret) d mc ms lo G av wi px post wo := by
  refine vx_ofW (cc := cc) (maxL := maxL) (ret := ret) hy rfl ?_
  intro p e s m args below meth c s₁ B hml hout hv
  obtain ⟨rfl, hlo, hP, hD, hK, hG⟩ := hv
  rw [lg_entry_eq]
  have hts := atoms_spec (ws := Cond.code y cc maxL ret :: WA) B.pre
  exact body (p, l, e, rmD d mc ms, s, m, _, below, meth, c) ⟨B.exec, B.bytes, hml, findClass_of_methodNamed B.named, fun w hw => hts w (List.mem_cons_of_mem _ hw), hK, hG, hlo, B.notSynchronized⟩ rfl rfl B.returns hout s.heap [] _ hP hD va_S.rf (hav ▸ lv_entry av hlen)
theorem Mv_of {l : Launch} {y : MethodName} {cc : ByteArray} {maxL d mc ms lo : Nat} {ret : Option FieldType} {G : vG} {av : List Value} {wi : va_W} {S : Type} {post : S → Prop} {wo : S → va_W} {lc : List (Nat × Value)} (hy : plainName y.cls = true) (hlen : (lg_sl av).length ≤ maxL) (hav : lv_args 0 av = lc)
    (body : ∀ X : vX, Cx X lo maxL G cc y.cls → xR X = rmD d mc ms → xl X = l → (xh X).sig.returnType = ret → (xh X).name = y.name → V X lo maxL G (Qv X lo G post wo mc ms) 0 0 wi lc [] 0) : Mv l y (.code y cc maxL ret) d mc ms lo G av wi post wo := by
  refine Met.ofW (cc := cc) (maxL := maxL) (ret := ret) hy rfl ?_
  intro p e s m args below meth c s₁ B hml hv
  obtain ⟨rfl, hlo, hP, hD, hK, hG⟩ := hv
  rw [lg_entry_eq]
  have hts := atoms_spec (ws := Cond.code y cc maxL ret :: WA) B.pre
  exact body (p, l, e, rmD d mc ms, s, m, _, below, meth, c) ⟨B.exec, B.bytes, hml, findClass_of_methodNamed B.named, fun w hw => hts w (List.mem_cons_of_mem _ hw), hK, hG, hlo, B.notSynchronized⟩ rfl rfl B.returns (name_of_methodNamed B.named B.method).1 s.heap [] _ hP hD va_S.rf (hav ▸ lv_entry av hlen)
theorem Xv_of {l : Launch} {y : MethodName} {cc : ByteArray} {maxL d mc ms lo : Nat} {ret : Option FieldType} {G : vG} {av : List Value} {wi : va_W} {px : String → Prop} {S : Type} {post : S → Prop} {wo : S → va_W} {lc : List (Nat × Value)} (hy : plainName y.cls = true) (hlen : (lg_sl av).length ≤ maxL) (hav : lv_args 0 av = lc)
    (body : ∀ X : vX, Cx X lo maxL G cc y.cls → xR X = rmD d mc ms → xl X = l → (xh X).sig.returnType = ret → (∀ x ∈ (xc X).exceptionTable.toList, False) → V X lo maxL G (QXv X lo G px wi post wo mc ms) 0 0 wi lc [] 0) : Xv l y (.code y cc maxL ret) d mc ms lo G av wi px post wo := by
  refine vx_ofW (cc := cc) (maxL := maxL) (ret := ret) hy rfl ?_
  intro p e s m args below meth c s₁ B hml hout hv
  obtain ⟨rfl, hlo, hP, hD, hK, hG⟩ := hv
  rw [lg_entry_eq]
  have hts := atoms_spec (ws := Cond.code y cc maxL ret :: WA) B.pre
  exact body (p, l, e, rmD d mc ms, s, m, _, below, meth, c) ⟨B.exec, B.bytes, hml, findClass_of_methodNamed B.named, fun w hw => hts w (List.mem_cons_of_mem _ hw), hK, hG, hlo, B.notSynchronized⟩ rfl rfl B.returns hout s.heap [] _ hP hD va_S.rf (hav ▸ lv_entry av hlen)
section VR2
variable {X : vX} {lo nL : Nat} {G : vG} {Q : State → Prop} {k n : Nat} {ws : va_W} {lc : List (Nat × Value)} {st : List Value} {pc : Nat} {cc : ByteArray} {own : String}
theorem V_ireturn (C : Cx X lo nL G cc own) {v : Int32} {S : Type} {post : Int32 → S → Prop} {wo : S → va_W} {mc ms : Nat} (hr : (xh X).sig.returnType = some .int) (u : S) (hp : post v u) (hw : ws = wo u) (hk : k ≤ mc) (hn : n ≤ ms) (d : decode cc pc = .ok (.ireturn, 1)) : V X lo nL G (Qi X lo G post wo mc ms) k n ws lc [.int v] pc := fun H locs ls hP hD hS hl => by
  subst hw
  exact W.widen hk hn (W.iret C.1 C.2.1 hr (fun t ht hW => ⟨⟨v, u, rfl, hp, by rw [ht]; exact hP, hD⟩, hS.F ht⟩) hS.2.2 d (hlocks := C.2.2.2.2.2.2.2.2))
theorem V_ireturnX (C : Cx X lo nL G cc own) {v : Int32} {S : Type} {px : String → Prop} {wx : va_W} {post : Int32 → S → Prop} {wo : S → va_W} {mc ms : Nat} (hr : (xh X).sig.returnType = some .int) (u : S) (hp : post v u) (hw : ws = wo u) (hk : k ≤ mc) (hn : n ≤ ms) (d : decode cc pc = .ok (.ireturn, 1)) : V X lo nL G (QXi X lo G px wx post wo mc ms) k n ws lc [.int v] pc := fun H locs ls hP hD hS hl => by
  subst hw
  exact vx_ret (W.widen hk hn (W.iret C.1 C.2.1 hr (fun t ht hW => ⟨⟨v, u, rfl, hp, by rw [ht]; exact hP, hD⟩, hS.F ht⟩) hS.2.2 d (hlocks := C.2.2.2.2.2.2.2.2)))
theorem V_zreturn (C : Cx X lo nL G cc own) {v : Int32} {S : Type} {post : Int32 → S → Prop} {wo : S → va_W} {mc ms : Nat} (hr : (xh X).sig.returnType = some .boolean) (hz : narrow .boolean (.int v) = .int v) (u : S) (hp : post v u) (hw : ws = wo u) (hk : k ≤ mc) (hn : n ≤ ms) (d : decode cc pc = .ok (.ireturn, 1)) : V X lo nL G (Qi X lo G post wo mc ms) k n ws lc [.int v] pc := fun H locs ls hP hD hS hl => by
  subst hw
  exact W.widen hk hn (W.zret C.1 C.2.1 hr hz (fun t ht hW => ⟨⟨v, u, rfl, hp, by rw [ht]; exact hP, hD⟩, hS.F ht⟩) hS.2.2 d (hlocks := C.2.2.2.2.2.2.2.2))
theorem V_zreturnX (C : Cx X lo nL G cc own) {v : Int32} {S : Type} {px : String → Prop} {wx : va_W} {post : Int32 → S → Prop} {wo : S → va_W} {mc ms : Nat} (hr : (xh X).sig.returnType = some .boolean) (hz : narrow .boolean (.int v) = .int v) (u : S) (hp : post v u) (hw : ws = wo u) (hk : k ≤ mc) (hn : n ≤ ms) (d : decode cc pc = .ok (.ireturn, 1)) : V X lo nL G (QXi X lo G px wx post wo mc ms) k n ws lc [.int v] pc := fun H locs ls hP hD hS hl => by
  subst hw
  exact vx_ret (W.widen hk hn (W.zret C.1 C.2.1 hr hz (fun t ht hW => ⟨⟨v, u, rfl, hp, by rw [ht]; exact hP, hD⟩, hS.F ht⟩) hS.2.2 d (hlocks := C.2.2.2.2.2.2.2.2)))
theorem V_lreturn (C : Cx X lo nL G cc own) {v : Int64} {S : Type} {post : Int64 → S → Prop} {wo : S → va_W} {mc ms : Nat} (hr : (xh X).sig.returnType = some .long) (u : S) (hp : post v u) (hw : ws = wo u) (hk : k ≤ mc) (hn : n ≤ ms) (d : decode cc pc = .ok (.lreturn, 1)) : V X lo nL G (Ql X lo G post wo mc ms) k n ws lc [.long v] pc := fun H locs ls hP hD hS hl => by
  subst hw
  exact W.widen hk hn (W.lret C.1 C.2.1 hr (fun t ht hW => ⟨⟨v, u, rfl, hp, by rw [ht]; exact hP, hD⟩, hS.F ht⟩) hS.2.2 d (hlocks := C.2.2.2.2.2.2.2.2))
theorem V_lreturnX (C : Cx X lo nL G cc own) {v : Int64} {S : Type} {px : String → Prop} {wx : va_W} {post : Int64 → S → Prop} {wo : S → va_W} {mc ms : Nat} (hr : (xh X).sig.returnType = some .long) (u : S) (hp : post v u) (hw : ws = wo u) (hk : k ≤ mc) (hn : n ≤ ms) (d : decode cc pc = .ok (.lreturn, 1)) : V X lo nL G (QXl X lo G px wx post wo mc ms) k n ws lc [.long v] pc := fun H locs ls hP hD hS hl => by
  subst hw
  exact vx_ret (W.widen hk hn (W.lret C.1 C.2.1 hr (fun t ht hW => ⟨⟨v, u, rfl, hp, by rw [ht]; exact hP, hD⟩, hS.F ht⟩) hS.2.2 d (hlocks := C.2.2.2.2.2.2.2.2)))
theorem V_vreturn (C : Cx X lo nL G cc own) {S : Type} {post : S → Prop} {wo : S → va_W} {mc ms : Nat} (hr : (xh X).sig.returnType = none) (u : S) (hp : post u) (hw : ws = wo u) (hk : k ≤ mc) (hn : n ≤ ms) (d : decode cc pc = .ok (.return_, 1)) : V X lo nL G (Qv X lo G post wo mc ms) k n ws lc [] pc := fun H locs ls hP hD hS hl => by
  subst hw
  exact W.widen hk hn (W.vret C.1 C.2.1 hr (fun t ht hW => ⟨⟨u, rfl, hp, by rw [ht]; exact hP, hD⟩, hS.F ht⟩) hS.2.2 d (hlocks := C.2.2.2.2.2.2.2.2))
theorem V_vreturnX (C : Cx X lo nL G cc own) {S : Type} {px : String → Prop} {wx : va_W} {post : S → Prop} {wo : S → va_W} {mc ms : Nat} (hr : (xh X).sig.returnType = none) (u : S) (hp : post u) (hw : ws = wo u) (hk : k ≤ mc) (hn : n ≤ ms) (d : decode cc pc = .ok (.return_, 1)) : V X lo nL G (QXv X lo G px wx post wo mc ms) k n ws lc [] pc := fun H locs ls hP hD hS hl => by
  subst hw
  exact vx_ret (W.widen hk hn (W.vret C.1 C.2.1 hr (fun t ht hW => ⟨⟨u, rfl, hp, by rw [ht]; exact hP, hD⟩, hS.F ht⟩) hS.2.2 d (hlocks := C.2.2.2.2.2.2.2.2)))
def VRun (X : vX) (lo nL : Nat) (G : vG) (k n mc ms : Nat) (ws : va_W) (lc : List (Nat × Value)) (st rest : List Value) (pc : Nat) (Qa : State → Outcome → State → Prop) : Prop :=
  ∀ (H : Heap) (locs : List Loc) (ls : Array Slot), va_P G.1 vwCl ws H → va_D (Lo lo) ws → va_S (Lo lo) (xs X).heap H locs → lv_has ls nL lc → va_Run (xp X) (xl X) (xe X) (xR X) (xs X) (xm X) (xa X) (xb X) (xh X) (xc X) H locs k n mc ms (F0 (xm X) pc ls st) rest Qa (Lo lo)
def VRunX (X : vX) (lo nL : Nat) (G : vG) (k n mc ms : Nat) (ws : va_W) (lc : List (Nat × Value)) (st rest : List Value) (pc : Nat) (Qa : State → Outcome → State → Prop) (XC : String → State → State → Prop) : Prop :=
  ∀ (H : Heap) (locs : List Loc) (ls : Array Slot), va_P G.1 vwCl ws H → va_D (Lo lo) ws → va_S (Lo lo) (xs X).heap H locs → lv_has ls nL lc → vx_Run (xp X) (xl X) (xe X) (xR X) (xs X) (xm X) (xa X) (xb X) (xh X) (xc X) H locs k n mc ms (F0 (xm X) pc ls st) rest Qa XC (Lo lo)
theorem Cx.bi (C : Cx X lo nL G cc own) {H : Heap} {locs : List Loc} (hP : va_P G.1 vwCl ws H) (hD : va_D (Lo lo) ws) (hS : va_S (Lo lo) (xs X).heap H locs) : ∀ U : State, U.heap = H → (xs X).WarmedH U.vm → BI lo G ws U := fun U hU hW => by
  subst hU
  exact ⟨Nat.le_trans C.2.2.2.2.2.2.2.1 hS.1, hP, hD, va_K.moved hW.alike C.2.2.2.2.2.1, C.2.2.2.2.2.2.1.moved hW (fun a h1 h2 => hS.2.1 a h1 h2)⟩
theorem lg_room {ls : Array Slot} {m : MethodId} {pc : Nat} {st rest : List Value} (h : (rest.map fun v => v.category).sum ≤ 8) : 2 * (F0 m pc ls st).monitorRoom + (rest.map fun v => v.category).sum ≤ 8 := lv_room h
theorem V_runV (C : Cx X lo nL G cc own) {y : MethodName} {Cn : String} {bytes : ByteArray} {maxL d mc ms index nA ci q0 N b : Nat} {ret : Option FieldType} {T : u_T} {fs As rest : List Value} {Qc : Array Value → State → Outcome → State → Prop} (hM : Met (xl X) y (Cond.code y bytes maxL ret :: WA) (rmD d mc ms) (va_Pc (.ref b :: As) (BI lo G ws)) Qc mc ms (Lo lo)) (hw : Cond.methodLink own index y ∈ WA ∧ Cond.instanceMethod y ∈ WA ∧ Cond.selects Cn y y ∈ WA ∧ Cond.initialized Cn ∈ WA ∧ Cond.code y bytes maxL ret ∈ WA) (hd : y.cls = Cn ∧ y.cls ≠ "java/lang/invoke/MethodHandle" ∧ y.cls ≠ "java/lang/invoke/VarHandle" ∧ (parseMethodDescriptor y.desc).map (fun d => d.parameters.length) = some nA) (hR : (rmD d mc ms).frames + 1 ≤ (xR X).frames ∧ 8 + (maxL + 11) + (rmD d mc ms).locals ≤ (xR X).locals) (he : ws[q0]? = some (b, .inr (ci, fs))) (hc : vwCl[ci]? = some (Cn, T, N)) (hn : As.length = nA) (hst : st = As.reverse ++ .ref b :: rest) (hrest : (rest.map fun v => v.category).sum ≤ 8) (hf : k + mc ≤ (xR X).cells ∧ n + ms ≤ (xR X).slots) (d : decode cc pc = .ok (.invokevirtual index, 3)) : VRun X lo nL G k n mc ms ws lc st rest pc (Qc (Value.ref b :: As).toArray) := fun H locs ls hP hD hS hl =>
  va_runV (As := As) (rest := rest) ⟨C.1, C.2.1, C.2.2.1, C.2.2.2.1, C.2.2.2.2.1⟩ hM (cwV nA C.2.2.2.2.1 (good_V hw.1 hw.2.1 hw.2.2.1 hw.2.2.2.1 hw.2.2.2.2) rfl rfl rfl hd hR) ⟨bi_blind _ lo G ws, va_recv C.2.2.2.2.2.1 hP hc he, fun U hU hW => ⟨rfl, C.bi hP hD hS U hU hW⟩⟩ rfl hn hl.1 hst (lg_room hrest) d hf
theorem V_runVX (C : Cx X lo nL G cc own) {y : MethodName} {Cn : String} {bytes : ByteArray} {maxL d mc ms index nA ci q0 N b : Nat} {ret : Option FieldType} {T : u_T} {fs As rest : List Value} {Qc : Array Value → State → Outcome → State → Prop} {XC0 : String → State → State → Prop} (hM : vx_Met (xl X) y (Cond.code y bytes maxL ret :: WA) (rmD d mc ms) (va_Pc (.ref b :: As) (BI lo G ws)) Qc XC0 mc ms (Lo lo)) (hw : Cond.methodLink own index y ∈ WA ∧ Cond.instanceMethod y ∈ WA ∧ Cond.selects Cn y y ∈ WA ∧ Cond.initialized Cn ∈ WA ∧ Cond.code y bytes maxL ret ∈ WA) (hd : y.cls = Cn ∧ y.cls ≠ "java/lang/invoke/MethodHandle" ∧ y.cls ≠ "java/lang/invoke/VarHandle" ∧ (parseMethodDescriptor y.desc).map (fun d => d.parameters.length) = some nA) (hR : (rmD d mc ms).frames + 1 ≤ (xR X).frames ∧ 8 + (maxL + 11) + (rmD d mc ms).locals ≤ (xR X).locals) (he : ws[q0]? = some (b, .inr (ci, fs))) (hc : vwCl[ci]? = some (Cn, T, N)) (hn : As.length = nA) (hst : st = As.reverse ++ .ref b :: rest) (hrest : (rest.map fun v => v.category).sum ≤ 8) (hf : k + mc ≤ (xR X).cells ∧ n + ms ≤ (xR X).slots) (d : decode cc pc = .ok (.invokevirtual index, 3)) : VRunX X lo nL G k n mc ms ws lc st rest pc (Qc (Value.ref b :: As).toArray) XC0 := fun H locs ls hP hD hS hl =>
  vx_runV (As := As) (rest := rest) ⟨C.1, C.2.1, C.2.2.1, C.2.2.2.1, C.2.2.2.2.1⟩ hM (cwV nA C.2.2.2.2.1 (good_V hw.1 hw.2.1 hw.2.2.1 hw.2.2.2.1 hw.2.2.2.2) rfl rfl rfl hd hR) ⟨bi_blind _ lo G ws, va_recv C.2.2.2.2.2.1 hP hc he, fun U hU hW => ⟨rfl, C.bi hP hD hS U hU hW⟩⟩ rfl hn hl.1 hst (lg_room hrest) d hf
theorem V_runS (C : Cx X lo nL G cc own) {y : MethodName} {bytes : ByteArray} {maxL d mc ms index nA : Nat} {ret : Option FieldType} {As rest : List Value} {Qc : Array Value → State → Outcome → State → Prop} (hM : Met (xl X) y (Cond.code y bytes maxL ret :: WA) (rmD d mc ms) (va_Pc As (BI lo G ws)) Qc mc ms (Lo lo)) (hw : Cond.methodLink own index y ∈ WA ∧ Cond.static y ∈ WA ∧ Cond.initialized y.cls ∈ WA ∧ Cond.code y bytes maxL ret ∈ WA) (hd : y.cls ≠ "java/lang/invoke/MethodHandle" ∧ y.cls ≠ "java/lang/invoke/VarHandle" ∧ (parseMethodDescriptor y.desc).map (fun d => d.parameters.length) = some nA) (hR : (rmD d mc ms).frames + 1 ≤ (xR X).frames ∧ 8 + (maxL + 11) + (rmD d mc ms).locals ≤ (xR X).locals) (hn : As.length = nA) (hst : st = As.reverse ++ rest) (hrest : (rest.map fun v => v.category).sum ≤ 8) (hf : k + mc ≤ (xR X).cells ∧ n + ms ≤ (xR X).slots) (d : decode cc pc = .ok (.invokestatic index, 3)) : VRun X lo nL G k n mc ms ws lc st rest pc (Qc As.toArray) := fun H locs ls hP hD hS hl =>
  va_runS (As := As) (rest := rest) ⟨C.1, C.2.1, C.2.2.1, C.2.2.2.1, C.2.2.2.2.1⟩ hM (va_cwS nA C.2.2.2.2.1 (good_S hw.1 hw.2.1 hw.2.2.1 hw.2.2.2) rfl rfl rfl hd hR) ⟨bi_blind _ lo G ws, fun U hU hW => ⟨rfl, C.bi hP hD hS U hU hW⟩⟩ rfl hn hl.1 hst (lg_room hrest) d hf
theorem V_runSX (C : Cx X lo nL G cc own) {y : MethodName} {bytes : ByteArray} {maxL d mc ms index nA : Nat} {ret : Option FieldType} {As rest : List Value} {Qc : Array Value → State → Outcome → State → Prop} {XC0 : String → State → State → Prop} (hM : vx_Met (xl X) y (Cond.code y bytes maxL ret :: WA) (rmD d mc ms) (va_Pc As (BI lo G ws)) Qc XC0 mc ms (Lo lo)) (hw : Cond.methodLink own index y ∈ WA ∧ Cond.static y ∈ WA ∧ Cond.initialized y.cls ∈ WA ∧ Cond.code y bytes maxL ret ∈ WA) (hd : y.cls ≠ "java/lang/invoke/MethodHandle" ∧ y.cls ≠ "java/lang/invoke/VarHandle" ∧ (parseMethodDescriptor y.desc).map (fun d => d.parameters.length) = some nA) (hR : (rmD d mc ms).frames + 1 ≤ (xR X).frames ∧ 8 + (maxL + 11) + (rmD d mc ms).locals ≤ (xR X).locals) (hn : As.length = nA) (hst : st = As.reverse ++ rest) (hrest : (rest.map fun v => v.category).sum ≤ 8) (hf : k + mc ≤ (xR X).cells ∧ n + ms ≤ (xR X).slots) (d : decode cc pc = .ok (.invokestatic index, 3)) : VRunX X lo nL G k n mc ms ws lc st rest pc (Qc As.toArray) XC0 := fun H locs ls hP hD hS hl =>
  vx_runS (As := As) (rest := rest) ⟨C.1, C.2.1, C.2.2.1, C.2.2.2.1, C.2.2.2.2.1⟩ hM (va_cwS nA C.2.2.2.2.1 (good_S hw.1 hw.2.1 hw.2.2.1 hw.2.2.2) rfl rfl rfl hd hR) ⟨bi_blind _ lo G ws, fun U hU hW => ⟨rfl, C.bi hP hD hS U hU hW⟩⟩ rfl hn hl.1 hst (lg_room hrest) d hf
theorem V_runSN (C : Cx X lo nL G cc own) {y : MethodName} {host : String} {bytes : ByteArray} {maxL d mc ms index nA : Nat} {ret : Option FieldType} {As rest : List Value} {Qc : Array Value → State → Outcome → State → Prop} (hM : Met (xl X) y (Cond.code y bytes maxL ret :: WA) (rmD d mc ms) (va_Pc As (BI lo G ws)) Qc mc ms (Lo lo)) (hw : Cond.methodLinkNest own index y host ∈ wsN ∧ Cond.static y ∈ WA ∧ Cond.initialized y.cls ∈ WA ∧ Cond.code y bytes maxL ret ∈ WA) (hd : y.cls ≠ "java/lang/invoke/MethodHandle" ∧ y.cls ≠ "java/lang/invoke/VarHandle" ∧ (parseMethodDescriptor y.desc).map (fun d => d.parameters.length) = some nA) (hR : (rmD d mc ms).frames + 1 ≤ (xR X).frames ∧ 8 + (maxL + 11) + (rmD d mc ms).locals ≤ (xR X).locals) (hn : As.length = nA) (hst : st = As.reverse ++ rest) (hrest : (rest.map fun v => v.category).sum ≤ 8) (hf : k + mc ≤ (xR X).cells ∧ n + ms ≤ (xR X).slots) (d : decode cc pc = .ok (.invokestatic index, 3)) : VRun X lo nL G k n mc ms ws lc st rest pc (Qc As.toArray) := fun H locs ls hP hD hS hl =>
  va_runSN (As := As) (rest := rest) ⟨C.1, C.2.1, C.2.2.1, C.2.2.2.1, C.2.2.2.2.1⟩ hM ⟨va_cnB nA C.2.2.2.2.1 (good_C hw.2.2.2) rfl rfl rfl (C.2.2.2.2.2.2.1.1 _ hw.1) (C.word hw.2.2.1) hd hR, C.word hw.2.1, trivial⟩ ⟨bi_blind _ lo G ws, fun U hU hW => ⟨rfl, C.bi hP hD hS U hU hW⟩⟩ rfl hn hl.1 hst (lg_room hrest) d hf
theorem V_calli {S : Type} {post : Int32 → S → Prop} {wo : S → va_W} {mc ms : Nat} {rest : List Value} {a : Array Value} (hr : VRun X lo nL G k n mc ms ws lc st rest pc (va_Qi post (fun u t => BO lo G (wo u) t) (Lo lo) a)) (p1 k1 n1 : Nat) (hp : pc + 3 = p1) (hk : k + mc = k1) (hn : n + ms = n1) (kk : ∀ (r : Int32) (u : S), post r u → V X lo nL G Q k1 n1 (wo u) lc (.int r :: rest) p1) : V X lo nL G Q k n ws lc st pc := by
  subst hp; subst hk; subst hn
  exact fun H locs ls hP hD hS hl => va_calli (hr H locs ls hP hD hS hl) hS (fun q _ h => h) (fun q h => h) (fun r u t H1 locs1 ht hvm hw hB hz hk1 hS1 => kk r u hw H1 locs1 ls (ht ▸ hB.1) hB.2 hS1 hl)
theorem V_callXi {S : Type} {post : Int32 → S → Prop} {px : String → Prop} {wx : va_W} {wo : S → va_W} {mc ms : Nat} {rest : List Value} {a : Array Value} (hr : VRunX X lo nL G k n mc ms ws lc st rest pc (va_Qi post (fun u t => BO lo G (wo u) t) (Lo lo) a) (XC lo G px wx)) (p1 k1 n1 : Nat) (hp : pc + 3 = p1) (hk : k + mc = k1) (hn : n + ms = n1)
    (kx : ∀ (E : String) (ce : Cell) (q9 : Addr) (H1 : Heap) (locs1 : List Loc) (ls : Array Slot), px E → va_P G.1 vwCl wx H1 → va_D (Lo lo) wx → va_S (Lo lo) (xs X).heap H1 locs1 → lv_has ls nL lc → H1[q9]? = some ce → ce.vm = .none → (xs X).vm.findClass E = some ce.cls → vx_W (xp X) (xl X) (xe X) (xR X) (xs X) (xm X) (xa X) (xb X) (xh X) (xc X) H1 locs1 k1 n1 Q (F0 (xm X) pc ls rest) q9) (kk : ∀ (r : Int32) (u : S), post r u → V X lo nL G Q k1 n1 (wo u) lc (.int r :: rest) p1) : V X lo nL G Q k n ws lc st pc := by
  subst hp; subst hk; subst hn
  exact fun H locs ls hP hD hS hl => vx_calli (hr H locs ls hP hD hS hl) hS (fun q _ h => h) (fun q h => h) (fun q _ h => h) (fun E ce q9 u t H1 locs1 ht hvm hu hB hz hk1 hS1 h1 h2 h3 => kx E ce q9 H1 locs1 ls hB.1 (ht ▸ hB.2.1) hB.2.2 hS1 hl h1 h2 h3) (fun r u t H1 locs1 ht hvm hw hB hz hk1 hS1 => kk r u hw H1 locs1 ls (ht ▸ hB.1) hB.2 hS1 hl)
theorem V_calll {S : Type} {post : Int64 → S → Prop} {wo : S → va_W} {mc ms : Nat} {rest : List Value} {a : Array Value} (hr : VRun X lo nL G k n mc ms ws lc st rest pc (va_Ql post (fun u t => BO lo G (wo u) t) (Lo lo) a)) (p1 k1 n1 : Nat) (hp : pc + 3 = p1) (hk : k + mc = k1) (hn : n + ms = n1) (kk : ∀ (r : Int64) (u : S), post r u → V X lo nL G Q k1 n1 (wo u) lc (.long r :: rest) p1) : V X lo nL G Q k n ws lc st pc := by
  subst hp; subst hk; subst hn
  exact fun H locs ls hP hD hS hl => va_calll (hr H locs ls hP hD hS hl) hS (fun q _ h => h) (fun q h => h) (fun r u t H1 locs1 ht hvm hw hB hz hk1 hS1 => kk r u hw H1 locs1 ls (ht ▸ hB.1) hB.2 hS1 hl)
theorem V_callXl {S : Type} {post : Int64 → S → Prop} {px : String → Prop} {wx : va_W} {wo : S → va_W} {mc ms : Nat} {rest : List Value} {a : Array Value} (hr : VRunX X lo nL G k n mc ms ws lc st rest pc (va_Ql post (fun u t => BO lo G (wo u) t) (Lo lo) a) (XC lo G px wx)) (p1 k1 n1 : Nat) (hp : pc + 3 = p1) (hk : k + mc = k1) (hn : n + ms = n1)
    (kx : ∀ (E : String) (ce : Cell) (q9 : Addr) (H1 : Heap) (locs1 : List Loc) (ls : Array Slot), px E → va_P G.1 vwCl wx H1 → va_D (Lo lo) wx → va_S (Lo lo) (xs X).heap H1 locs1 → lv_has ls nL lc → H1[q9]? = some ce → ce.vm = .none → (xs X).vm.findClass E = some ce.cls → vx_W (xp X) (xl X) (xe X) (xR X) (xs X) (xm X) (xa X) (xb X) (xh X) (xc X) H1 locs1 k1 n1 Q (F0 (xm X) pc ls rest) q9) (kk : ∀ (r : Int64) (u : S), post r u → V X lo nL G Q k1 n1 (wo u) lc (.long r :: rest) p1) : V X lo nL G Q k n ws lc st pc := by
  subst hp; subst hk; subst hn
  exact fun H locs ls hP hD hS hl => vx_calll (hr H locs ls hP hD hS hl) hS (fun q _ h => h) (fun q h => h) (fun q _ h => h) (fun E ce q9 u t H1 locs1 ht hvm hu hB hz hk1 hS1 h1 h2 h3 => kx E ce q9 H1 locs1 ls hB.1 (ht ▸ hB.2.1) hB.2.2 hS1 hl h1 h2 h3) (fun r u t H1 locs1 ht hvm hw hB hz hk1 hS1 => kk r u hw H1 locs1 ls (ht ▸ hB.1) hB.2 hS1 hl)
theorem V_callv {S : Type} {post : S → Prop} {wo : S → va_W} {mc ms : Nat} {rest : List Value} {a : Array Value} (hr : VRun X lo nL G k n mc ms ws lc st rest pc (va_Qv post (fun u t => BO lo G (wo u) t) (Lo lo) a)) (p1 k1 n1 : Nat) (hp : pc + 3 = p1) (hk : k + mc = k1) (hn : n + ms = n1) (kk : ∀ u : S, post u → V X lo nL G Q k1 n1 (wo u) lc rest p1) : V X lo nL G Q k n ws lc st pc := by
  subst hp; subst hk; subst hn
  exact fun H locs ls hP hD hS hl => va_callv (hr H locs ls hP hD hS hl) hS (fun q _ h => h) (fun q h => h) (fun u t H1 locs1 ht hvm hw hB hz hk1 hS1 => kk u hw H1 locs1 ls (ht ▸ hB.1) hB.2 hS1 hl)
theorem V_callXv {S : Type} {post : S → Prop} {px : String → Prop} {wx : va_W} {wo : S → va_W} {mc ms : Nat} {rest : List Value} {a : Array Value} (hr : VRunX X lo nL G k n mc ms ws lc st rest pc (va_Qv post (fun u t => BO lo G (wo u) t) (Lo lo) a) (XC lo G px wx)) (p1 k1 n1 : Nat) (hp : pc + 3 = p1) (hk : k + mc = k1) (hn : n + ms = n1)
    (kx : ∀ (E : String) (ce : Cell) (q9 : Addr) (H1 : Heap) (locs1 : List Loc) (ls : Array Slot), px E → va_P G.1 vwCl wx H1 → va_D (Lo lo) wx → va_S (Lo lo) (xs X).heap H1 locs1 → lv_has ls nL lc → H1[q9]? = some ce → ce.vm = .none → (xs X).vm.findClass E = some ce.cls → vx_W (xp X) (xl X) (xe X) (xR X) (xs X) (xm X) (xa X) (xb X) (xh X) (xc X) H1 locs1 k1 n1 Q (F0 (xm X) pc ls rest) q9) (kk : ∀ u : S, post u → V X lo nL G Q k1 n1 (wo u) lc rest p1) : V X lo nL G Q k n ws lc st pc := by
  subst hp; subst hk; subst hn
  exact fun H locs ls hP hD hS hl => vx_callv (hr H locs ls hP hD hS hl) hS (fun q _ h => h) (fun q h => h) (fun q _ h => h) (fun E ce q9 u t H1 locs1 ht hvm hu hB hz hk1 hS1 h1 h2 h3 => kx E ce q9 H1 locs1 ls hB.1 (ht ▸ hB.2.1) hB.2.2 hS1 hl h1 h2 h3) (fun u t H1 locs1 ht hvm hw hB hz hk1 hS1 => kk u hw H1 locs1 ls (ht ▸ hB.1) hB.2 hS1 hl)
/-- what a callee threw leaves this method too: no handler here -/
theorem vx_leave (C : Cx X lo nL G cc own) {px px0 : String → Prop} {wx : va_W} {mc ms : Nat} {Qc : Array Value → State → Outcome → State → Prop} {rest : List Value} (hout : ∀ x ∈ (xc X).exceptionTable.toList, False) (hpx : ∀ E, px0 E → px E) (hk : k ≤ mc) (hn : n ≤ ms) : ∀ (E : String) (ce : Cell) (q9 : Addr) (H1 : Heap) (locs1 : List Loc) (ls : Array Slot), px0 E → va_P G.1 vwCl wx H1 → va_D (Lo lo) wx → va_S (Lo lo) (xs X).heap H1 locs1 → lv_has ls nL lc → H1[q9]? = some ce → ce.vm = .none → (xs X).vm.findClass E = some ce.cls → vx_W (xp X) (xl X) (xe X) (xR X) (xs X) (xm X) (xa X) (xb X) (xh X) (xc X) H1 locs1 k n (vx_MQ (xb X) Qc (XC lo G px wx) (xa X) (xs X) mc ms (Lo lo)) (F0 (xm X) pc ls rest) q9 := fun E ce q9 H1 locs1 ls he hP hD hS hl h1 h2 h3 => vx_out (fun x hx => absurd hx (fun h => hout x h)) C.2.2.2.2.2.2.2.2 h1 h2 h3 (fun t ht hvm => ⟨(), trivial, ⟨hpx E he, by rw [ht]; exact hP, hD⟩, hS.F ht⟩) hS.2.2 hk hn
end VR2
section VR3
variable {X : vX} {lo nL : Nat} {G : vG} {Q : State → Prop} {k n : Nat} {ws : va_W} {lc : List (Nat × Value)} {st : List Value} {pc : Nat} {cc : ByteArray} {own : String}
theorem V_putF (C : Cx X lo nL G cc own) {ref : String} {ci index N a : Nat} {Cn : String} {T : u_T} (hin : ∀ w ∈ u_ws Cn T N, w ∈ WA) (ty0 : Nat → FieldType) (hty : ∀ k, k < N → parseFieldDescriptor (T k).2.2.1 = some (ty0 k)) (hnm : ∀ a, a < N → ∀ b, b < N → a ≠ b → (T a).2.1 ≠ (T b).2.1) (hc : vwCl[ci]? = some (Cn, T, N)) (kf : Nat) (hk : kf < N) (hlink : Cond.fieldLink own index ref (T kf).2.1 (T kf).2.2.1 ∈ WA) (hsame : (T kf).1 = ref) (hfin : (T kf).2.2.2 = true) (hin2 : (xh X).name = "<init>") (hdecl : (T kf).1 = own) (q0 : Nat) {fs : List Value} (he : ws[q0]? = some (a, .inr (ci, fs))) {v : Value} (hn : narrow (ty0 kf) v = v) (hfit : fits (ty0 kf) v = true) (hl0 : kf < fs.length) (ws1 : va_W) (hw : ws.set q0 (a, .inr (ci, fs.set kf v)) = ws1) (p1 : Nat) (hp : pc + 3 = p1) (d : decode cc pc = .ok (.putfield index, 3)) (kk : V X lo nL G Q k n ws1 lc st p1) : V X lo nL G Q k n ws lc (v :: .ref a :: st) pc := by
  subst hp
  subst hsame
  exact fun H locs ls hP hD hS hl => va_putF C.1 C.2.1 C.2.2.2.2.1 hin ty0 hty hnm C.2.2.2.1 C.2.2.2.2.2.1 hP hD hS q0 he hc kf hk (C.word hlink) (fun _ h => h) hfin hin2 hdecl (hty kf hk) hn hfit hl0 d (fun H locs hP hD hS => kk H locs ls (hw ▸ hP) (hw ▸ hD) hS hl)
theorem V_new (C : Cx X lo nL G cc own) {Cn : String} {T : u_T} {N ci index : Nat} (hin : ∀ w ∈ u_ws Cn T N, w ∈ WA) (ty0 : Nat → FieldType) (hty : ∀ k, k < N → parseFieldDescriptor (T k).2.2.1 = some (ty0 k)) (hcl : Cond.classLink own index Cn ∈ WA) (hinst : Cond.instantiable Cn N ∈ WA) (hini : Cond.initialized Cn ∈ WA) (hc : vwCl[ci]? = some (Cn, T, N)) {fs : List Value} (hfs : ∀ j, j < N → defaultValue (ty0 j) = vp_V fs j) (k1 n1 : Nat) (hk : k + 1 = k1) (hn : n + N = n1) (hcells : k1 ≤ (xR X).cells) (hslots : n1 ≤ (xR X).slots) (p1 : Nat) (hp : pc + 3 = p1) (d : decode cc pc = .ok (.new index, 3)) (kk : ∀ q : Nat, V X lo nL G Q k1 n1 (ws ++ [(q, .inr (ci, fs))]) lc (.ref q :: st) p1) : V X lo nL G Q k n ws lc st pc := by
  subst hp; subst hk; subst hn
  exact fun H locs ls hP hD hS hl => va_new C.1 C.2.1 C.2.2.2.2.1 hin ty0 hty C.2.2.2.1 (C.word hcl) (C.word hinst) (C.word hini) C.2.2.2.2.2.1 hP hD hS C.hA hc hfs hcells hslots d (fun q H1 hP hD hS => kk q H1 locs ls hP hD hS hl)
theorem gK_eq {G : vG} {U : State} {cA : ClassId} {ty : FieldType} (i : Nat) (c0 : ClassId) (h : va_K G.1 vwCl (gT G ++ [(cA, ty)]) U) (hi : (gT G)[i]? = some (c0, ty)) (hr : ∀ c : ClassId, va_RA U c ty → U.vm.findClass ("[" ++ ty.toString) = some c) : cA = c0 := by
  have h1 := hr _ (h.2 3 (cA, ty) rfl).2
  have h2 := hr _ (h.2 i (c0, ty) (by rw [List.getElem?_append_left (List.getElem?_eq_some_iff.mp hi).1]; exact hi)).2
  exact Option.some.inj (h1.symm.trans h2)

theorem V_newaI (C : Cx X lo nL G cc own) {N : Int32} (N1 : Nat) (hNN : N.toNatClampNeg = N1) (hneg : ¬ N < 0) (hN : N1 ≤ 60000) (k1 n1 : Nat) (hk : k + 1 = k1) (hn : n + N1 = n1) (hcells : k1 ≤ (xR X).cells) (hslots : n1 ≤ (xR X).slots) (p1 : Nat) (hp : pc + 2 = p1) (d : decode cc pc = .ok (.newarray .int, 2)) (kk : ∀ q : Nat, V X lo nL G Q k1 n1 (ws ++ [(q, .inl (G.2.1, N1, .inl (fun _ => 0)))]) lc (.ref q :: st) p1) : V X lo nL G Q k n ws lc (.int N :: st) pc := by
  subst hp; subst hk; subst hn
  exact fun H locs ls hP hD hS hl => va_newa (atype := .int) (ty := .int) (a0 := (N1, .inl (fun _ => 0))) C.1 C.2.1 (C.word ac_int) rfl C.2.2.2.2.2.1 hP hD hS C.hA (fun _ => rfl) hneg hNN (by show N1 * 4 ≤ 536870912; omega) hcells hslots d (fun q cA H1 hK hP hD hS => by
    have e := gK_eq 0 G.2.1 hK rfl (fun _ h => h)
    subst e
    exact kk q H1 locs ls hP hD hS hl)
theorem V_newaJ (C : Cx X lo nL G cc own) {N : Int32} (N1 : Nat) (hNN : N.toNatClampNeg = N1) (hneg : ¬ N < 0) (hN : N1 ≤ 60000) (k1 n1 : Nat) (hk : k + 1 = k1) (hn : n + N1 = n1) (hcells : k1 ≤ (xR X).cells) (hslots : n1 ≤ (xR X).slots) (p1 : Nat) (hp : pc + 2 = p1) (d : decode cc pc = .ok (.newarray .long, 2)) (kk : ∀ q : Nat, V X lo nL G Q k1 n1 (ws ++ [(q, .inl (G.2.2.1, N1, .inr (.inl (fun _ => 0))))]) lc (.ref q :: st) p1) : V X lo nL G Q k n ws lc (.int N :: st) pc := by
  subst hp; subst hk; subst hn
  exact fun H locs ls hP hD hS hl => va_newa (atype := .long) (ty := .long) (a0 := (N1, .inr (.inl (fun _ => 0)))) C.1 C.2.1 (C.word ac_long) rfl C.2.2.2.2.2.1 hP hD hS C.hA (fun _ => rfl) hneg hNN (by show N1 * 8 ≤ 536870912; omega) hcells hslots d (fun q cA H1 hK hP hD hS => by
    have e := gK_eq 1 G.2.2.1 hK rfl (fun _ h => h)
    subst e
    exact kk q H1 locs ls hP hD hS hl)
theorem V_newaZ (C : Cx X lo nL G cc own) {N : Int32} (N1 : Nat) (hNN : N.toNatClampNeg = N1) (hneg : ¬ N < 0) (hN : N1 ≤ 60000) (k1 n1 : Nat) (hk : k + 1 = k1) (hn : n + N1 = n1) (hcells : k1 ≤ (xR X).cells) (hslots : n1 ≤ (xR X).slots) (p1 : Nat) (hp : pc + 2 = p1) (d : decode cc pc = .ok (.newarray .boolean, 2)) (kk : ∀ q : Nat, V X lo nL G Q k1 n1 (ws ++ [(q, .inl (G.2.2.2, N1, .inl (fun _ => 0)))]) lc (.ref q :: st) p1) : V X lo nL G Q k n ws lc (.int N :: st) pc := by
  subst hp; subst hk; subst hn
  exact fun H locs ls hP hD hS hl => va_newa (atype := .boolean) (ty := .boolean) (a0 := (N1, .inl (fun _ => 0))) C.1 C.2.1 (C.word ac_boolean) rfl C.2.2.2.2.2.1 hP hD hS C.hA (fun _ => rfl) hneg hNN (by show N1 * 1 ≤ 536870912; omega) hcells hslots d (fun q cA H1 hK hP hD hS => by
    have e := gK_eq 2 G.2.2.2 hK rfl (fun _ h => h)
    subst e
    exact kk q H1 locs ls hP hD hS hl)
theorem V_objInit (C : Cx X lo nL G cc own) {index a : Nat} {rest : List Value} (hlink : Cond.methodLink own index objectInit ∈ WA) (hR : 1 ≤ (xR X).frames ∧ 20 ≤ (xR X).locals) (hrest : (rest.map fun v => v.category).sum ≤ 8) (p1 : Nat) (hp : pc + 3 = p1) (d : decode cc pc = .ok (.invokespecial index, 3)) (kk : V X lo nL G Q k n ws lc rest p1) : V X lo nL G Q k n ws lc (.ref a :: rest) pc := by
  subst hp
  exact fun H locs ls hP hD hS hl => W.objInit C.1 C.2.1 C.2.2.2.1 (C.word hlink) (C.word im_obj) (C.word co_obj) rfl (by rw [C.2.2.1]; exact hl.1) rfl d hR.1 (by have := lg_room (ls := ls) (m := xm X) (pc := pc) (st := .ref a :: rest) hrest; omega) (kk H locs ls hP hD hS hl)
theorem V_runI (C : Cx X lo nL G cc own) {y : MethodName} {bytes : ByteArray} {maxL d mc ms index nA b : Nat} {As rest : List Value} {Qc : Array Value → State → Outcome → State → Prop} (hM : Met (xl X) y (Cond.code y bytes maxL none :: WA) (rmD d mc ms) (va_Pc (.ref b :: As) (BI lo G ws)) Qc mc ms (Lo lo)) (hw : Cond.methodLink own index y ∈ WA ∧ Cond.instanceMethod y ∈ WA ∧ Cond.initialized y.cls ∈ WA ∧ Cond.code y bytes maxL none ∈ WA) (hy : y.name = "<init>") (hd : y.cls ≠ "java/lang/invoke/MethodHandle" ∧ y.cls ≠ "java/lang/invoke/VarHandle" ∧ (parseMethodDescriptor y.desc).map (fun d => d.parameters.length) = some nA) (hR : (rmD d mc ms).frames + 1 ≤ (xR X).frames ∧ 8 + (maxL + 11) + (rmD d mc ms).locals ≤ (xR X).locals) (hn : As.length = nA) (hst : st = As.reverse ++ .ref b :: rest) (hrest : (rest.map fun v => v.category).sum ≤ 8) (hf : k + mc ≤ (xR X).cells ∧ n + ms ≤ (xR X).slots) (d : decode cc pc = .ok (.invokespecial index, 3)) : VRun X lo nL G k n mc ms ws lc st rest pc (Qc (Value.ref b :: As).toArray) := fun H locs ls hP hD hS hl =>
  va_runI (As := As) (rest := rest) ⟨C.1, C.2.1, C.2.2.1, C.2.2.2.1, C.2.2.2.2.1⟩ hM (cwI nA C.2.2.2.2.1 (good_C hw.2.2.2) rfl rfl rfl (C.word hw.2.2.1) (C.word hw.1) (C.word hw.2.1) hy hd hR) ⟨bi_blind _ lo G ws, fun U hU hW => ⟨rfl, C.bi hP hD hS U hU hW⟩⟩ rfl hn hl.1 hst (lg_room hrest) d hf
theorem V_runIN (C : Cx X lo nL G cc own) {y : MethodName} {host : String} {bytes : ByteArray} {maxL d mc ms index nA b : Nat} {As rest : List Value} {Qc : Array Value → State → Outcome → State → Prop} (hM : Met (xl X) y (Cond.code y bytes maxL none :: WA) (rmD d mc ms) (va_Pc (.ref b :: As) (BI lo G ws)) Qc mc ms (Lo lo)) (hw : Cond.methodLinkNest own index y host ∈ wsN ∧ Cond.instanceMethod y ∈ WA ∧ Cond.initialized y.cls ∈ WA ∧ Cond.code y bytes maxL none ∈ WA) (hy : y.name = "<init>") (hd : y.cls ≠ "java/lang/invoke/MethodHandle" ∧ y.cls ≠ "java/lang/invoke/VarHandle" ∧ (parseMethodDescriptor y.desc).map (fun d => d.parameters.length) = some nA) (hR : (rmD d mc ms).frames + 1 ≤ (xR X).frames ∧ 8 + (maxL + 11) + (rmD d mc ms).locals ≤ (xR X).locals) (hn : As.length = nA) (hst : st = As.reverse ++ .ref b :: rest) (hrest : (rest.map fun v => v.category).sum ≤ 8) (hf : k + mc ≤ (xR X).cells ∧ n + ms ≤ (xR X).slots) (d : decode cc pc = .ok (.invokespecial index, 3)) : VRun X lo nL G k n mc ms ws lc st rest pc (Qc (Value.ref b :: As).toArray) := fun H locs ls hP hD hS hl =>
  va_runIN (As := As) (rest := rest) ⟨C.1, C.2.1, C.2.2.1, C.2.2.2.1, C.2.2.2.2.1⟩ hM ⟨va_cnB nA C.2.2.2.2.1 (good_C hw.2.2.2) rfl rfl rfl (C.2.2.2.2.2.2.1.1 _ hw.1) (C.word hw.2.2.1) hd hR, hy, C.word hw.2.1⟩ ⟨bi_blind _ lo G ws, fun U hU hW => ⟨rfl, C.bi hP hD hS U hU hW⟩⟩ rfl hn hl.1 hst (lg_room hrest) d hf
/-- array cells by a natural number -/
theorem V_ialdN (C : Cx X lo nL G cc own) {i : Int32} {a N : Nat} {f : Nat → Int32} (j : Nat) (hi : i = nI j) (hj : j < N) (hN : N ≤ 60000) (q0 : Nat) (ha : ws[q0]? = some (a, .inl (G.2.1, N, .inl f))) (p1 : Nat) (hp : pc + 1 = p1) (d : decode cc pc = .ok (.iaload, 1)) (kk : V X lo nL G Q k n ws lc (.int (f j) :: st) p1) : V X lo nL G Q k n ws lc (.int i :: .ref a :: st) pc := by
  subst hi
  refine V_iald C p1 hp d q0 ha (vp_in_nI hj (by omega)) ?_
  rw [nI_clamp (by omega)]
  exact kk
theorem V_zaldN (C : Cx X lo nL G cc own) {i : Int32} {a N : Nat} {f : Nat → Int32} (j : Nat) (hi : i = nI j) (hj : j < N) (hN : N ≤ 60000) (q0 : Nat) (ha : ws[q0]? = some (a, .inl (G.2.2.2, N, .inl f))) (p1 : Nat) (hp : pc + 1 = p1) (d : decode cc pc = .ok (.baload, 1)) (kk : V X lo nL G Q k n ws lc (.int (f j) :: st) p1) : V X lo nL G Q k n ws lc (.int i :: .ref a :: st) pc := by
  subst hi
  refine V_zald C p1 hp d q0 ha (vp_in_nI hj (by omega)) ?_
  rw [nI_clamp (by omega)]
  exact kk
theorem V_laldN (C : Cx X lo nL G cc own) {i : Int32} {a N : Nat} {f : Nat → Int64} (j : Nat) (hi : i = nI j) (hj : j < N) (hN : N ≤ 60000) (q0 : Nat) (ha : ws[q0]? = some (a, .inl (G.2.2.1, N, .inr (.inl f)))) (p1 : Nat) (hp : pc + 1 = p1) (d : decode cc pc = .ok (.laload, 1)) (kk : V X lo nL G Q k n ws lc (.long (f j) :: st) p1) : V X lo nL G Q k n ws lc (.int i :: .ref a :: st) pc := by
  subst hi
  refine V_lald C p1 hp d q0 ha (vp_in_nI hj (by omega)) ?_
  rw [nI_clamp (by omega)]
  exact kk
theorem V_iastN (C : Cx X lo nL G cc own) {i x : Int32} {a N : Nat} {f : Nat → Int32} (j : Nat) (hi : i = nI j) (hj : j < N) (hN : N ≤ 60000) (q0 : Nat) (ha : ws[q0]? = some (a, .inl (G.2.1, N, .inl f))) (ws1 : va_W) (hw : ws.set q0 (a, .inl (G.2.1, N, .inl (upd f j x))) = ws1) (p1 : Nat) (hp : pc + 1 = p1) (d : decode cc pc = .ok (.iastore, 1)) (kk : V X lo nL G Q k n ws1 lc st p1) : V X lo nL G Q k n ws lc (.int x :: .int i :: .ref a :: st) pc := by
  subst hi
  exact V_iast C p1 hp d q0 ha (vp_in_nI hj (by omega)) ws1 (by rw [nI_clamp (by omega)]; exact hw) kk
theorem V_lastN (C : Cx X lo nL G cc own) {i : Int32} {x : Int64} {a N : Nat} {f : Nat → Int64} (j : Nat) (hi : i = nI j) (hj : j < N) (hN : N ≤ 60000) (q0 : Nat) (ha : ws[q0]? = some (a, .inl (G.2.2.1, N, .inr (.inl f)))) (ws1 : va_W) (hw : ws.set q0 (a, .inl (G.2.2.1, N, .inr (.inl (vp_updL f j x)))) = ws1) (p1 : Nat) (hp : pc + 1 = p1) (d : decode cc pc = .ok (.lastore, 1)) (kk : V X lo nL G Q k n ws1 lc st p1) : V X lo nL G Q k n ws lc (.long x :: .int i :: .ref a :: st) pc := by
  subst hi
  exact V_last C p1 hp d q0 ha (vp_in_nI hj (by omega)) ws1 (by rw [nI_clamp (by omega)]; exact hw) kk
theorem V_zastN (C : Cx X lo nL G cc own) {i x : Int32} {a N : Nat} {f : Nat → Int32} (j : Nat) (hi : i = nI j) (hx : vp_nar .boolean x = x) (hj : j < N) (hN : N ≤ 60000) (q0 : Nat) (ha : ws[q0]? = some (a, .inl (G.2.2.2, N, .inl f))) (ws1 : va_W) (hw : ws.set q0 (a, .inl (G.2.2.2, N, .inl (upd f j x))) = ws1) (p1 : Nat) (hp : pc + 1 = p1) (d : decode cc pc = .ok (.bastore, 1)) (kk : V X lo nL G Q k n ws1 lc st p1) : V X lo nL G Q k n ws lc (.int x :: .int i :: .ref a :: st) pc := by
  subst hi
  exact V_zast C p1 hp d q0 ha (vp_in_nI hj (by omega)) ws1 (by rw [hx, nI_clamp (by omega)]; exact hw) kk
end VR3
end
section
def RmX (X : vX) (d c s : Nat) : Prop := d ≤ (xR X).frames ∧ 40 * d ≤ (xR X).locals ∧ c ≤ (xR X).cells ∧ s ≤ (xR X).slots
theorem RmX.of {X : vX} {d c s : Nat} (h : xR X = rmD d c s) : RmX X d c s := by
  unfold RmX
  rw [h]
  exact ⟨Nat.le_refl _, Nat.le_refl _, Nat.le_refl _, Nat.le_refl _⟩
section LK
variable {X : vX} {lo nL : Nat} {G : vG} {Q : State → Prop} {k n : Nat} {ws : va_W} {lc : List (Nat × Value)} {st : List Value} {pc : Nat} {cc : ByteArray}
theorem KX4_11 (C : Cx X lo nL G cc RX4) {D0 c0 s0 d0 mc ms : Nat} {b : Nat} {As rest : List Value} {S : Type} {post : S → Prop} {wo : S → va_W} (hM : Mv (xl X) yX1_init (.code yX1_init prog_3_method_1_code 1 none) d0 mc ms lo G (.ref b :: As) ws post wo) (hX : RmX X D0 c0 s0) (hd : d0 + 1 ≤ D0) (hn : As.length = 0) (hst : st = As.reverse ++ .ref b :: rest) (hrest : (rest.map fun v => v.category).sum ≤ 8) (p1 k1 n1 : Nat) (hp : pc + 3 = p1) (hk : k + mc = k1) (hn1 : n + ms = n1) (hk1 : k1 ≤ c0) (hs1 : n1 ≤ s0) (d : decode cc pc = .ok (.invokespecial 11, 3)) (kk : ∀ u : S, post u → V X lo nL G Q k1 n1 (wo u) lc rest p1) : V X lo nL G Q k n ws lc st pc := by
  have hR : (rmD d0 mc ms).frames + 1 ≤ (xR X).frames ∧ 8 + (1 + 11) + (rmD d0 mc ms).locals ≤ (xR X).locals := ⟨by show d0 + 1 ≤ _; have := hX.1; omega, by show 8 + (1 + 11) + 40 * d0 ≤ _; have := hX.2.1; omega⟩
  have hf : k + mc ≤ (xR X).cells ∧ n + ms ≤ (xR X).slots := ⟨by have := hX.2.2.1; omega, by have := hX.2.2.2; omega⟩
  exact V_callv (V_runIN (host := "PartSplitter") C hM ⟨by decide +kernel, im_X1_init, ii_X1, co_X1_init⟩ rfl ⟨by decide, by decide, by decide +kernel⟩ hR hn hst hrest hf d) p1 k1 n1 hp hk hn1 kk
theorem GX4_12 (C : Cx X lo nL G cc RX4) (q0 : Nat) {fs : List Value} {a : Nat} (he : ws[q0]? = some (a, .inr (4, fs))) {v : Value} (hv : fs[0]? = some v) (p1 : Nat) (hp : pc + 3 = p1) (d : decode cc pc = .ok (.getfield 12, 3)) (kk : V X lo nL G Q k n ws lc (v :: st) p1) : V X lo nL G Q k n ws lc (.ref a :: st) pc := V_get (ref := "PartSplitter") C uw_X4 rfl 0 (by decide) fl_X4_12 rfl q0 he hv p1 hp d kk
theorem PX4_12 (C : Cx X lo nL G cc RX4) (hin2 : (xh X).name = "<init>") (q0 : Nat) {fs : List Value} {a : Nat} (he : ws[q0]? = some (a, .inr (4, fs))) {x : Nat} (hl0 : 0 < fs.length) (ws1 : va_W) (hw : ws.set q0 (a, .inr (4, fs.set 0 (.ref x))) = ws1) (p1 : Nat) (hp : pc + 3 = p1) (d : decode cc pc = .ok (.putfield 12, 3)) (kk : V X lo nL G Q k n ws1 lc st p1) : V X lo nL G Q k n ws lc (.ref x :: .ref a :: st) pc := V_putF (ref := "PartSplitter") C uw_X4 tyX4 tyX4_ok nmX4 rfl 0 (by decide) fl_X4_12 rfl rfl hin2 rfl q0 he rfl rfl hl0 ws1 hw p1 hp d kk
theorem KX4_18 (C : Cx X lo nL G cc RX4) {D0 c0 s0 d0 mc ms : Nat} {b : Nat} {As rest : List Value} {S : Type} {post : S → Prop} {wo : S → va_W} (hM : Mv (xl X) yX2_init (.code yX2_init prog_4_method_1_code 2 none) d0 mc ms lo G (.ref b :: As) ws post wo) (hX : RmX X D0 c0 s0) (hd : d0 + 1 ≤ D0) (hn : As.length = 1) (hst : st = As.reverse ++ .ref b :: rest) (hrest : (rest.map fun v => v.category).sum ≤ 8) (p1 k1 n1 : Nat) (hp : pc + 3 = p1) (hk : k + mc = k1) (hn1 : n + ms = n1) (hk1 : k1 ≤ c0) (hs1 : n1 ≤ s0) (d : decode cc pc = .ok (.invokespecial 18, 3)) (kk : ∀ u : S, post u → V X lo nL G Q k1 n1 (wo u) lc rest p1) : V X lo nL G Q k n ws lc st pc := by
  have hR : (rmD d0 mc ms).frames + 1 ≤ (xR X).frames ∧ 8 + (2 + 11) + (rmD d0 mc ms).locals ≤ (xR X).locals := ⟨by show d0 + 1 ≤ _; have := hX.1; omega, by show 8 + (2 + 11) + 40 * d0 ≤ _; have := hX.2.1; omega⟩
  have hf : k + mc ≤ (xR X).cells ∧ n + ms ≤ (xR X).slots := ⟨by have := hX.2.2.1; omega, by have := hX.2.2.2; omega⟩
  exact V_callv (V_runI C hM ⟨ml_X4_18, im_X2_init, ii_X2, co_X2_init⟩ rfl ⟨by decide, by decide, by decide +kernel⟩ hR hn hst hrest hf d) p1 k1 n1 hp hk hn1 kk
theorem GX4_21 (C : Cx X lo nL G cc RX4) (q0 : Nat) {fs : List Value} {a : Nat} (he : ws[q0]? = some (a, .inr (4, fs))) {v : Value} (hv : fs[1]? = some v) (p1 : Nat) (hp : pc + 3 = p1) (d : decode cc pc = .ok (.getfield 21, 3)) (kk : V X lo nL G Q k n ws lc (v :: st) p1) : V X lo nL G Q k n ws lc (.ref a :: st) pc := V_get (ref := "PartSplitter") C uw_X4 rfl 1 (by decide) fl_X4_21 rfl q0 he hv p1 hp d kk
theorem PX4_21 (C : Cx X lo nL G cc RX4) (hin2 : (xh X).name = "<init>") (q0 : Nat) {fs : List Value} {a : Nat} (he : ws[q0]? = some (a, .inr (4, fs))) {x : Nat} (hl0 : 1 < fs.length) (ws1 : va_W) (hw : ws.set q0 (a, .inr (4, fs.set 1 (.ref x))) = ws1) (p1 : Nat) (hp : pc + 3 = p1) (d : decode cc pc = .ok (.putfield 21, 3)) (kk : V X lo nL G Q k n ws1 lc st p1) : V X lo nL G Q k n ws lc (.ref x :: .ref a :: st) pc := V_putF (ref := "PartSplitter") C uw_X4 tyX4 tyX4_ok nmX4 rfl 1 (by decide) fl_X4_21 rfl rfl hin2 rfl q0 he rfl rfl hl0 ws1 hw p1 hp d kk
theorem KX4_27 (C : Cx X lo nL G cc RX4) {D0 c0 s0 d0 mc ms : Nat} {b : Nat} {As rest : List Value} {S : Type} {post : S → Prop} {wo : S → va_W} (hM : Mv (xl X) yX0_init (.code yX0_init prog_2_method_1_code 2 none) d0 mc ms lo G (.ref b :: As) ws post wo) (hX : RmX X D0 c0 s0) (hd : d0 + 1 ≤ D0) (hn : As.length = 1) (hst : st = As.reverse ++ .ref b :: rest) (hrest : (rest.map fun v => v.category).sum ≤ 8) (p1 k1 n1 : Nat) (hp : pc + 3 = p1) (hk : k + mc = k1) (hn1 : n + ms = n1) (hk1 : k1 ≤ c0) (hs1 : n1 ≤ s0) (d : decode cc pc = .ok (.invokespecial 27, 3)) (kk : ∀ u : S, post u → V X lo nL G Q k1 n1 (wo u) lc rest p1) : V X lo nL G Q k n ws lc st pc := by
  have hR : (rmD d0 mc ms).frames + 1 ≤ (xR X).frames ∧ 8 + (2 + 11) + (rmD d0 mc ms).locals ≤ (xR X).locals := ⟨by show d0 + 1 ≤ _; have := hX.1; omega, by show 8 + (2 + 11) + 40 * d0 ≤ _; have := hX.2.1; omega⟩
  have hf : k + mc ≤ (xR X).cells ∧ n + ms ≤ (xR X).slots := ⟨by have := hX.2.2.1; omega, by have := hX.2.2.2; omega⟩
  exact V_callv (V_runI C hM ⟨ml_X4_27, im_X0_init, ii_X0, co_X0_init⟩ rfl ⟨by decide, by decide, by decide +kernel⟩ hR hn hst hrest hf d) p1 k1 n1 hp hk hn1 kk
theorem GX4_28 (C : Cx X lo nL G cc RX4) (q0 : Nat) {fs : List Value} {a : Nat} (he : ws[q0]? = some (a, .inr (4, fs))) {v : Value} (hv : fs[2]? = some v) (p1 : Nat) (hp : pc + 3 = p1) (d : decode cc pc = .ok (.getfield 28, 3)) (kk : V X lo nL G Q k n ws lc (v :: st) p1) : V X lo nL G Q k n ws lc (.ref a :: st) pc := V_get (ref := "PartSplitter") C uw_X4 rfl 2 (by decide) fl_X4_28 rfl q0 he hv p1 hp d kk
theorem PX4_28 (C : Cx X lo nL G cc RX4) (hin2 : (xh X).name = "<init>") (q0 : Nat) {fs : List Value} {a : Nat} (he : ws[q0]? = some (a, .inr (4, fs))) {x : Nat} (hl0 : 2 < fs.length) (ws1 : va_W) (hw : ws.set q0 (a, .inr (4, fs.set 2 (.ref x))) = ws1) (p1 : Nat) (hp : pc + 3 = p1) (d : decode cc pc = .ok (.putfield 28, 3)) (kk : V X lo nL G Q k n ws1 lc st p1) : V X lo nL G Q k n ws lc (.ref x :: .ref a :: st) pc := V_putF (ref := "PartSplitter") C uw_X4 tyX4 tyX4_ok nmX4 rfl 2 (by decide) fl_X4_28 rfl rfl hin2 rfl q0 he rfl rfl hl0 ws1 hw p1 hp d kk
theorem KX4_32 (C : Cx X lo nL G cc RX4) {D0 c0 s0 d0 mc ms : Nat} {As rest : List Value} {S : Type} {post : S → Prop} {wo : S → va_W} (hM : Mv (xl X) yX4_needText (.code yX4_needText prog_1_method_21_code 3 none) d0 mc ms lo G As ws post wo) (hX : RmX X D0 c0 s0) (hd : d0 + 1 ≤ D0) (hn : As.length = 2) (hst : st = As.reverse ++ rest) (hrest : (rest.map fun v => v.category).sum ≤ 8) (p1 k1 n1 : Nat) (hp : pc + 3 = p1) (hk : k + mc = k1) (hn1 : n + ms = n1) (hk1 : k1 ≤ c0) (hs1 : n1 ≤ s0) (d : decode cc pc = .ok (.invokestatic 32, 3)) (kk : ∀ u : S, post u → V X lo nL G Q k1 n1 (wo u) lc rest p1) : V X lo nL G Q k n ws lc st pc := by
  have hR : (rmD d0 mc ms).frames + 1 ≤ (xR X).frames ∧ 8 + (3 + 11) + (rmD d0 mc ms).locals ≤ (xR X).locals := ⟨by show d0 + 1 ≤ _; have := hX.1; omega, by show 8 + (3 + 11) + 40 * d0 ≤ _; have := hX.2.1; omega⟩
  have hf : k + mc ≤ (xR X).cells ∧ n + ms ≤ (xR X).slots := ⟨by have := hX.2.2.1; omega, by have := hX.2.2.2; omega⟩
  exact V_callv (V_runS C hM ⟨ml_X4_32, sm_X4_needText, ii_X4, co_X4_needText⟩ ⟨by decide, by decide, by decide +kernel⟩ hR hn hst hrest hf d) p1 k1 n1 hp hk hn1 kk
theorem KXX4_32 (C : Cx X lo nL G cc RX4) {D0 c0 s0 d0 mc ms : Nat} {As rest : List Value} {px : String → Prop} {S : Type} {post : S → Prop} {wo : S → va_W} (hM : Xv (xl X) yX4_needText (.code yX4_needText prog_1_method_21_code 3 none) d0 mc ms lo G As ws px post wo) (hX : RmX X D0 c0 s0) (hd : d0 + 1 ≤ D0) (hn : As.length = 2) (hst : st = As.reverse ++ rest) (hrest : (rest.map fun v => v.category).sum ≤ 8) (p1 k1 n1 : Nat) (hp : pc + 3 = p1) (hk : k + mc = k1) (hn1 : n + ms = n1) (hk1 : k1 ≤ c0) (hs1 : n1 ≤ s0) (d : decode cc pc = .ok (.invokestatic 32, 3)) (kx : ∀ (E : String) (ce : Cell) (q9 : Addr) (H1 : Heap) (locs1 : List Loc) (ls : Array Slot), px E → va_P G.1 vwCl ws H1 → va_D (Lo lo) ws → va_S (Lo lo) (xs X).heap H1 locs1 → lv_has ls nL lc → H1[q9]? = some ce → ce.vm = .none → (xs X).vm.findClass E = some ce.cls → vx_W (xp X) (xl X) (xe X) (xR X) (xs X) (xm X) (xa X) (xb X) (xh X) (xc X) H1 locs1 k1 n1 Q (F0 (xm X) pc ls rest) q9) (kk : ∀ u : S, post u → V X lo nL G Q k1 n1 (wo u) lc rest p1) : V X lo nL G Q k n ws lc st pc := by
  have hR : (rmD d0 mc ms).frames + 1 ≤ (xR X).frames ∧ 8 + (3 + 11) + (rmD d0 mc ms).locals ≤ (xR X).locals := ⟨by show d0 + 1 ≤ _; have := hX.1; omega, by show 8 + (3 + 11) + 40 * d0 ≤ _; have := hX.2.1; omega⟩
  have hf : k + mc ≤ (xR X).cells ∧ n + ms ≤ (xR X).slots := ⟨by have := hX.2.2.1; omega, by have := hX.2.2.2; omega⟩
  exact V_callXv (V_runSX C hM ⟨ml_X4_32, sm_X4_needText, ii_X4, co_X4_needText⟩ ⟨by decide, by decide, by decide +kernel⟩ hR hn hst hrest hf d) p1 k1 n1 hp hk hn1 kx kk
theorem GX4_45 (C : Cx X lo nL G cc RX4) (q0 : Nat) {fs : List Value} {a : Nat} (he : ws[q0]? = some (a, .inr (1, fs))) {v : Value} (hv : fs[7]? = some v) (p1 : Nat) (hp : pc + 3 = p1) (d : decode cc pc = .ok (.getfield 45, 3)) (kk : V X lo nL G Q k n ws lc (v :: st) p1) : V X lo nL G Q k n ws lc (.ref a :: st) pc := V_getN (host := "PartSplitter") (ref := "PartSplitter$Lexicon") C uw_X1 rfl 7 (by decide) (by decide +kernel) rfl q0 he hv p1 hp d kk
theorem PX4_45 (C : Cx X lo nL G cc RX4) (q0 : Nat) {fs : List Value} {a : Nat} (he : ws[q0]? = some (a, .inr (1, fs))) {x : Int32} (hl0 : 7 < fs.length) (ws1 : va_W) (hw : ws.set q0 (a, .inr (1, fs.set 7 (.int x))) = ws1) (p1 : Nat) (hp : pc + 3 = p1) (d : decode cc pc = .ok (.putfield 45, 3)) (kk : V X lo nL G Q k n ws1 lc st p1) : V X lo nL G Q k n ws lc (.int x :: .ref a :: st) pc := V_putN (host := "PartSplitter") (ref := "PartSplitter$Lexicon") C uw_X1 tyX1 tyX1_ok nmX1 rfl 7 (by decide) (by decide +kernel) rfl rfl q0 he rfl rfl hl0 ws1 hw p1 hp d kk
theorem KX4_54 (C : Cx X lo nL G cc RX4) {D0 c0 s0 d0 mc ms : Nat} {b : Nat} {As rest : List Value} {S : Type} {post : Int32 → S → Prop} {wo : S → va_W} (hM : Mi (xl X) yX1_partWith (.code yX1_partWith prog_3_method_4_code 2 (some .int)) d0 mc ms lo G (.ref b :: As) ws post wo) (hX : RmX X D0 c0 s0) (hd : d0 + 1 ≤ D0) (q0 : Nat) {fs : List Value} (he : ws[q0]? = some (b, .inr (1, fs))) (hn : As.length = 1) (hst : st = As.reverse ++ .ref b :: rest) (hrest : (rest.map fun v => v.category).sum ≤ 8) (p1 k1 n1 : Nat) (hp : pc + 3 = p1) (hk : k + mc = k1) (hn1 : n + ms = n1) (hk1 : k1 ≤ c0) (hs1 : n1 ≤ s0) (d : decode cc pc = .ok (.invokevirtual 54, 3)) (kk : ∀ (r : Int32) (u : S), post r u → V X lo nL G Q k1 n1 (wo u) lc (.int r :: rest) p1) : V X lo nL G Q k n ws lc st pc := by
  have hR : (rmD d0 mc ms).frames + 1 ≤ (xR X).frames ∧ 8 + (2 + 11) + (rmD d0 mc ms).locals ≤ (xR X).locals := ⟨by show d0 + 1 ≤ _; have := hX.1; omega, by show 8 + (2 + 11) + 40 * d0 ≤ _; have := hX.2.1; omega⟩
  have hf : k + mc ≤ (xR X).cells ∧ n + ms ≤ (xR X).slots := ⟨by have := hX.2.2.1; omega, by have := hX.2.2.2; omega⟩
  exact V_calli (V_runV C hM ⟨ml_X4_54, im_X1_partWith, se_X1_partWith, ii_X1, co_X1_partWith⟩ ⟨rfl, by decide, by decide, by decide +kernel⟩ hR he rfl hn hst hrest hf d) p1 k1 n1 hp hk hn1 kk
theorem KX4_60 (C : Cx X lo nL G cc RX4) {D0 c0 s0 d0 mc ms : Nat} {b : Nat} {As rest : List Value} {S : Type} {post : Int32 → S → Prop} {wo : S → va_W} (hM : Mi (xl X) yX1_enterPart (.code yX1_enterPart prog_3_method_2_code 5 (some .int)) d0 mc ms lo G (.ref b :: As) ws post wo) (hX : RmX X D0 c0 s0) (hd : d0 + 1 ≤ D0) (q0 : Nat) {fs : List Value} (he : ws[q0]? = some (b, .inr (1, fs))) (hn : As.length = 3) (hst : st = As.reverse ++ .ref b :: rest) (hrest : (rest.map fun v => v.category).sum ≤ 8) (p1 k1 n1 : Nat) (hp : pc + 3 = p1) (hk : k + mc = k1) (hn1 : n + ms = n1) (hk1 : k1 ≤ c0) (hs1 : n1 ≤ s0) (d : decode cc pc = .ok (.invokevirtual 60, 3)) (kk : ∀ (r : Int32) (u : S), post r u → V X lo nL G Q k1 n1 (wo u) lc (.int r :: rest) p1) : V X lo nL G Q k n ws lc st pc := by
  have hR : (rmD d0 mc ms).frames + 1 ≤ (xR X).frames ∧ 8 + (5 + 11) + (rmD d0 mc ms).locals ≤ (xR X).locals := ⟨by show d0 + 1 ≤ _; have := hX.1; omega, by show 8 + (5 + 11) + 40 * d0 ≤ _; have := hX.2.1; omega⟩
  have hf : k + mc ≤ (xR X).cells ∧ n + ms ≤ (xR X).slots := ⟨by have := hX.2.2.1; omega, by have := hX.2.2.2; omega⟩
  exact V_calli (V_runV C hM ⟨ml_X4_60, im_X1_enterPart, se_X1_enterPart, ii_X1, co_X1_enterPart⟩ ⟨rfl, by decide, by decide, by decide +kernel⟩ hR he rfl hn hst hrest hf d) p1 k1 n1 hp hk hn1 kk
theorem KX4_64 (C : Cx X lo nL G cc RX4) {D0 c0 s0 d0 mc ms : Nat} {b : Nat} {As rest : List Value} {S : Type} {post : S → Prop} {wo : S → va_W} (hM : Mv (xl X) yX4_needPart (.code yX4_needPart prog_1_method_22_code 2 none) d0 mc ms lo G (.ref b :: As) ws post wo) (hX : RmX X D0 c0 s0) (hd : d0 + 1 ≤ D0) (q0 : Nat) {fs : List Value} (he : ws[q0]? = some (b, .inr (4, fs))) (hn : As.length = 1) (hst : st = As.reverse ++ .ref b :: rest) (hrest : (rest.map fun v => v.category).sum ≤ 8) (p1 k1 n1 : Nat) (hp : pc + 3 = p1) (hk : k + mc = k1) (hn1 : n + ms = n1) (hk1 : k1 ≤ c0) (hs1 : n1 ≤ s0) (d : decode cc pc = .ok (.invokevirtual 64, 3)) (kk : ∀ u : S, post u → V X lo nL G Q k1 n1 (wo u) lc rest p1) : V X lo nL G Q k n ws lc st pc := by
  have hR : (rmD d0 mc ms).frames + 1 ≤ (xR X).frames ∧ 8 + (2 + 11) + (rmD d0 mc ms).locals ≤ (xR X).locals := ⟨by show d0 + 1 ≤ _; have := hX.1; omega, by show 8 + (2 + 11) + 40 * d0 ≤ _; have := hX.2.1; omega⟩
  have hf : k + mc ≤ (xR X).cells ∧ n + ms ≤ (xR X).slots := ⟨by have := hX.2.2.1; omega, by have := hX.2.2.2; omega⟩
  exact V_callv (V_runV C hM ⟨ml_X4_64, im_X4_needPart, se_X4_needPart, ii_X4, co_X4_needPart⟩ ⟨rfl, by decide, by decide, by decide +kernel⟩ hR he rfl hn hst hrest hf d) p1 k1 n1 hp hk hn1 kk
theorem KXX4_64 (C : Cx X lo nL G cc RX4) {D0 c0 s0 d0 mc ms : Nat} {b : Nat} {As rest : List Value} {px : String → Prop} {S : Type} {post : S → Prop} {wo : S → va_W} (hM : Xv (xl X) yX4_needPart (.code yX4_needPart prog_1_method_22_code 2 none) d0 mc ms lo G (.ref b :: As) ws px post wo) (hX : RmX X D0 c0 s0) (hd : d0 + 1 ≤ D0) (q0 : Nat) {fs : List Value} (he : ws[q0]? = some (b, .inr (4, fs))) (hn : As.length = 1) (hst : st = As.reverse ++ .ref b :: rest) (hrest : (rest.map fun v => v.category).sum ≤ 8) (p1 k1 n1 : Nat) (hp : pc + 3 = p1) (hk : k + mc = k1) (hn1 : n + ms = n1) (hk1 : k1 ≤ c0) (hs1 : n1 ≤ s0) (d : decode cc pc = .ok (.invokevirtual 64, 3)) (kx : ∀ (E : String) (ce : Cell) (q9 : Addr) (H1 : Heap) (locs1 : List Loc) (ls : Array Slot), px E → va_P G.1 vwCl ws H1 → va_D (Lo lo) ws → va_S (Lo lo) (xs X).heap H1 locs1 → lv_has ls nL lc → H1[q9]? = some ce → ce.vm = .none → (xs X).vm.findClass E = some ce.cls → vx_W (xp X) (xl X) (xe X) (xR X) (xs X) (xm X) (xa X) (xb X) (xh X) (xc X) H1 locs1 k1 n1 Q (F0 (xm X) pc ls rest) q9) (kk : ∀ u : S, post u → V X lo nL G Q k1 n1 (wo u) lc rest p1) : V X lo nL G Q k n ws lc st pc := by
  have hR : (rmD d0 mc ms).frames + 1 ≤ (xR X).frames ∧ 8 + (2 + 11) + (rmD d0 mc ms).locals ≤ (xR X).locals := ⟨by show d0 + 1 ≤ _; have := hX.1; omega, by show 8 + (2 + 11) + 40 * d0 ≤ _; have := hX.2.1; omega⟩
  have hf : k + mc ≤ (xR X).cells ∧ n + ms ≤ (xR X).slots := ⟨by have := hX.2.2.1; omega, by have := hX.2.2.2; omega⟩
  exact V_callXv (V_runVX C hM ⟨ml_X4_64, im_X4_needPart, se_X4_needPart, ii_X4, co_X4_needPart⟩ ⟨rfl, by decide, by decide, by decide +kernel⟩ hR he rfl hn hst hrest hf d) p1 k1 n1 hp hk hn1 kx kk
theorem GX4_70 (C : Cx X lo nL G cc RX4) (q0 : Nat) {fs : List Value} {a : Nat} (he : ws[q0]? = some (a, .inr (1, fs))) {v : Value} (hv : fs[2]? = some v) (p1 : Nat) (hp : pc + 3 = p1) (d : decode cc pc = .ok (.getfield 70, 3)) (kk : V X lo nL G Q k n ws lc (v :: st) p1) : V X lo nL G Q k n ws lc (.ref a :: st) pc := V_getN (host := "PartSplitter") (ref := "PartSplitter$Lexicon") C uw_X1 rfl 2 (by decide) (by decide +kernel) rfl q0 he hv p1 hp d kk
theorem GX4_74 (C : Cx X lo nL G cc RX4) (q0 : Nat) {fs : List Value} {a : Nat} (he : ws[q0]? = some (a, .inr (1, fs))) {v : Value} (hv : fs[8]? = some v) (p1 : Nat) (hp : pc + 3 = p1) (d : decode cc pc = .ok (.getfield 74, 3)) (kk : V X lo nL G Q k n ws lc (v :: st) p1) : V X lo nL G Q k n ws lc (.ref a :: st) pc := V_getN (host := "PartSplitter") (ref := "PartSplitter$Lexicon") C uw_X1 rfl 8 (by decide) (by decide +kernel) rfl q0 he hv p1 hp d kk
theorem PX4_74 (C : Cx X lo nL G cc RX4) (q0 : Nat) {fs : List Value} {a : Nat} (he : ws[q0]? = some (a, .inr (1, fs))) {x : Int32} (hl0 : 8 < fs.length) (ws1 : va_W) (hw : ws.set q0 (a, .inr (1, fs.set 8 (.int x))) = ws1) (p1 : Nat) (hp : pc + 3 = p1) (d : decode cc pc = .ok (.putfield 74, 3)) (kk : V X lo nL G Q k n ws1 lc st p1) : V X lo nL G Q k n ws lc (.int x :: .ref a :: st) pc := V_putN (host := "PartSplitter") (ref := "PartSplitter$Lexicon") C uw_X1 tyX1 tyX1_ok nmX1 rfl 8 (by decide) (by decide +kernel) rfl rfl q0 he rfl rfl hl0 ws1 hw p1 hp d kk
theorem KX4_79 (C : Cx X lo nL G cc RX4) {D0 c0 s0 d0 mc ms : Nat} {b : Nat} {As rest : List Value} {S : Type} {post : Int32 → S → Prop} {wo : S → va_W} (hM : Mi (xl X) yX1_linkWith (.code yX1_linkWith prog_3_method_5_code 2 (some .int)) d0 mc ms lo G (.ref b :: As) ws post wo) (hX : RmX X D0 c0 s0) (hd : d0 + 1 ≤ D0) (q0 : Nat) {fs : List Value} (he : ws[q0]? = some (b, .inr (1, fs))) (hn : As.length = 1) (hst : st = As.reverse ++ .ref b :: rest) (hrest : (rest.map fun v => v.category).sum ≤ 8) (p1 k1 n1 : Nat) (hp : pc + 3 = p1) (hk : k + mc = k1) (hn1 : n + ms = n1) (hk1 : k1 ≤ c0) (hs1 : n1 ≤ s0) (d : decode cc pc = .ok (.invokevirtual 79, 3)) (kk : ∀ (r : Int32) (u : S), post r u → V X lo nL G Q k1 n1 (wo u) lc (.int r :: rest) p1) : V X lo nL G Q k n ws lc st pc := by
  have hR : (rmD d0 mc ms).frames + 1 ≤ (xR X).frames ∧ 8 + (2 + 11) + (rmD d0 mc ms).locals ≤ (xR X).locals := ⟨by show d0 + 1 ≤ _; have := hX.1; omega, by show 8 + (2 + 11) + 40 * d0 ≤ _; have := hX.2.1; omega⟩
  have hf : k + mc ≤ (xR X).cells ∧ n + ms ≤ (xR X).slots := ⟨by have := hX.2.2.1; omega, by have := hX.2.2.2; omega⟩
  exact V_calli (V_runV C hM ⟨ml_X4_79, im_X1_linkWith, se_X1_linkWith, ii_X1, co_X1_linkWith⟩ ⟨rfl, by decide, by decide, by decide +kernel⟩ hR he rfl hn hst hrest hf d) p1 k1 n1 hp hk hn1 kk
theorem KX4_84 (C : Cx X lo nL G cc RX4) {D0 c0 s0 d0 mc ms : Nat} {b : Nat} {As rest : List Value} {S : Type} {post : Int32 → S → Prop} {wo : S → va_W} (hM : Mi (xl X) yX1_enterLink (.code yX1_enterLink prog_3_method_3_code 3 (some .int)) d0 mc ms lo G (.ref b :: As) ws post wo) (hX : RmX X D0 c0 s0) (hd : d0 + 1 ≤ D0) (q0 : Nat) {fs : List Value} (he : ws[q0]? = some (b, .inr (1, fs))) (hn : As.length = 1) (hst : st = As.reverse ++ .ref b :: rest) (hrest : (rest.map fun v => v.category).sum ≤ 8) (p1 k1 n1 : Nat) (hp : pc + 3 = p1) (hk : k + mc = k1) (hn1 : n + ms = n1) (hk1 : k1 ≤ c0) (hs1 : n1 ≤ s0) (d : decode cc pc = .ok (.invokevirtual 84, 3)) (kk : ∀ (r : Int32) (u : S), post r u → V X lo nL G Q k1 n1 (wo u) lc (.int r :: rest) p1) : V X lo nL G Q k n ws lc st pc := by
  have hR : (rmD d0 mc ms).frames + 1 ≤ (xR X).frames ∧ 8 + (3 + 11) + (rmD d0 mc ms).locals ≤ (xR X).locals := ⟨by show d0 + 1 ≤ _; have := hX.1; omega, by show 8 + (3 + 11) + 40 * d0 ≤ _; have := hX.2.1; omega⟩
  have hf : k + mc ≤ (xR X).cells ∧ n + ms ≤ (xR X).slots := ⟨by have := hX.2.2.1; omega, by have := hX.2.2.2; omega⟩
  exact V_calli (V_runV C hM ⟨ml_X4_84, im_X1_enterLink, se_X1_enterLink, ii_X1, co_X1_enterLink⟩ ⟨rfl, by decide, by decide, by decide +kernel⟩ hR he rfl hn hst hrest hf d) p1 k1 n1 hp hk hn1 kk
theorem GX4_87 (C : Cx X lo nL G cc RX4) (q0 : Nat) {fs : List Value} {a : Nat} (he : ws[q0]? = some (a, .inr (1, fs))) {v : Value} (hv : fs[4]? = some v) (p1 : Nat) (hp : pc + 3 = p1) (d : decode cc pc = .ok (.getfield 87, 3)) (kk : V X lo nL G Q k n ws lc (v :: st) p1) : V X lo nL G Q k n ws lc (.ref a :: st) pc := V_getN (host := "PartSplitter") (ref := "PartSplitter$Lexicon") C uw_X1 rfl 4 (by decide) (by decide +kernel) rfl q0 he hv p1 hp d kk
theorem GX4_96 (C : Cx X lo nL G cc RX4) (q0 : Nat) {fs : List Value} {a : Nat} (he : ws[q0]? = some (a, .inr (1, fs))) {v : Value} (hv : fs[5]? = some v) (p1 : Nat) (hp : pc + 3 = p1) (d : decode cc pc = .ok (.getfield 96, 3)) (kk : V X lo nL G Q k n ws lc (v :: st) p1) : V X lo nL G Q k n ws lc (.ref a :: st) pc := V_getN (host := "PartSplitter") (ref := "PartSplitter$Lexicon") C uw_X1 rfl 5 (by decide) (by decide +kernel) rfl q0 he hv p1 hp d kk
theorem GX4_99 (C : Cx X lo nL G cc RX4) (q0 : Nat) {fs : List Value} {a : Nat} (he : ws[q0]? = some (a, .inr (1, fs))) {v : Value} (hv : fs[1]? = some v) (p1 : Nat) (hp : pc + 3 = p1) (d : decode cc pc = .ok (.getfield 99, 3)) (kk : V X lo nL G Q k n ws lc (v :: st) p1) : V X lo nL G Q k n ws lc (.ref a :: st) pc := V_getN (host := "PartSplitter") (ref := "PartSplitter$Lexicon") C uw_X1 rfl 1 (by decide) (by decide +kernel) rfl q0 he hv p1 hp d kk
theorem KX4_102 (C : Cx X lo nL G cc RX4) {D0 c0 s0 d0 mc ms : Nat} {As rest : List Value} {S : Type} {post : Int32 → S → Prop} {wo : S → va_W} (hM : Mi (xl X) yX1_costOfCount (.code yX1_costOfCount prog_3_method_7_code 4 (some .int)) d0 mc ms lo G As ws post wo) (hX : RmX X D0 c0 s0) (hd : d0 + 1 ≤ D0) (hn : As.length = 1) (hst : st = As.reverse ++ rest) (hrest : (rest.map fun v => v.category).sum ≤ 8) (p1 k1 n1 : Nat) (hp : pc + 3 = p1) (hk : k + mc = k1) (hn1 : n + ms = n1) (hk1 : k1 ≤ c0) (hs1 : n1 ≤ s0) (d : decode cc pc = .ok (.invokestatic 102, 3)) (kk : ∀ (r : Int32) (u : S), post r u → V X lo nL G Q k1 n1 (wo u) lc (.int r :: rest) p1) : V X lo nL G Q k n ws lc st pc := by
  have hR : (rmD d0 mc ms).frames + 1 ≤ (xR X).frames ∧ 8 + (4 + 11) + (rmD d0 mc ms).locals ≤ (xR X).locals := ⟨by show d0 + 1 ≤ _; have := hX.1; omega, by show 8 + (4 + 11) + 40 * d0 ≤ _; have := hX.2.1; omega⟩
  have hf : k + mc ≤ (xR X).cells ∧ n + ms ≤ (xR X).slots := ⟨by have := hX.2.2.1; omega, by have := hX.2.2.2; omega⟩
  exact V_calli (V_runS C hM ⟨ml_X4_102, sm_X1_costOfCount, ii_X1, co_X1_costOfCount⟩ ⟨by decide, by decide, by decide +kernel⟩ hR hn hst hrest hf d) p1 k1 n1 hp hk hn1 kk
theorem GX4_105 (C : Cx X lo nL G cc RX4) (q0 : Nat) {fs : List Value} {a : Nat} (he : ws[q0]? = some (a, .inr (1, fs))) {v : Value} (hv : fs[6]? = some v) (p1 : Nat) (hp : pc + 3 = p1) (d : decode cc pc = .ok (.getfield 105, 3)) (kk : V X lo nL G Q k n ws lc (v :: st) p1) : V X lo nL G Q k n ws lc (.ref a :: st) pc := V_getN (host := "PartSplitter") (ref := "PartSplitter$Lexicon") C uw_X1 rfl 6 (by decide) (by decide +kernel) rfl q0 he hv p1 hp d kk
theorem KX4_109 (C : Cx X lo nL G cc RX4) {D0 c0 s0 d0 mc ms : Nat} {b : Nat} {As rest : List Value} {S : Type} {post : Int32 → S → Prop} {wo : S → va_W} (hM : Mi (xl X) yX3_differentNodes (.code yX3_differentNodes prog_5_method_4_code 3 (some .int)) d0 mc ms lo G (.ref b :: As) ws post wo) (hX : RmX X D0 c0 s0) (hd : d0 + 1 ≤ D0) (q0 : Nat) {fs : List Value} (he : ws[q0]? = some (b, .inr (3, fs))) (hn : As.length = 0) (hst : st = As.reverse ++ .ref b :: rest) (hrest : (rest.map fun v => v.category).sum ≤ 8) (p1 k1 n1 : Nat) (hp : pc + 3 = p1) (hk : k + mc = k1) (hn1 : n + ms = n1) (hk1 : k1 ≤ c0) (hs1 : n1 ≤ s0) (d : decode cc pc = .ok (.invokevirtual 109, 3)) (kk : ∀ (r : Int32) (u : S), post r u → V X lo nL G Q k1 n1 (wo u) lc (.int r :: rest) p1) : V X lo nL G Q k n ws lc st pc := by
  have hR : (rmD d0 mc ms).frames + 1 ≤ (xR X).frames ∧ 8 + (3 + 11) + (rmD d0 mc ms).locals ≤ (xR X).locals := ⟨by show d0 + 1 ≤ _; have := hX.1; omega, by show 8 + (3 + 11) + 40 * d0 ≤ _; have := hX.2.1; omega⟩
  have hf : k + mc ≤ (xR X).cells ∧ n + ms ≤ (xR X).slots := ⟨by have := hX.2.2.1; omega, by have := hX.2.2.2; omega⟩
  exact V_calli (V_runV C hM ⟨ml_X4_109, im_X3_differentNodes, se_X3_differentNodes, ii_X3, co_X3_differentNodes⟩ ⟨rfl, by decide, by decide, by decide +kernel⟩ hR he rfl hn hst hrest hf d) p1 k1 n1 hp hk hn1 kk
theorem KX4_115 (C : Cx X lo nL G cc RX4) {D0 c0 s0 d0 mc ms : Nat} {b : Nat} {As rest : List Value} {S : Type} {post : S → Prop} {wo : S → va_W} (hM : Mv (xl X) yX2_gather (.code yX2_gather prog_4_method_2_code 3 none) d0 mc ms lo G (.ref b :: As) ws post wo) (hX : RmX X D0 c0 s0) (hd : d0 + 1 ≤ D0) (q0 : Nat) {fs : List Value} (he : ws[q0]? = some (b, .inr (2, fs))) (hn : As.length = 1) (hst : st = As.reverse ++ .ref b :: rest) (hrest : (rest.map fun v => v.category).sum ≤ 8) (p1 k1 n1 : Nat) (hp : pc + 3 = p1) (hk : k + mc = k1) (hn1 : n + ms = n1) (hk1 : k1 ≤ c0) (hs1 : n1 ≤ s0) (d : decode cc pc = .ok (.invokevirtual 115, 3)) (kk : ∀ u : S, post u → V X lo nL G Q k1 n1 (wo u) lc rest p1) : V X lo nL G Q k n ws lc st pc := by
  have hR : (rmD d0 mc ms).frames + 1 ≤ (xR X).frames ∧ 8 + (3 + 11) + (rmD d0 mc ms).locals ≤ (xR X).locals := ⟨by show d0 + 1 ≤ _; have := hX.1; omega, by show 8 + (3 + 11) + 40 * d0 ≤ _; have := hX.2.1; omega⟩
  have hf : k + mc ≤ (xR X).cells ∧ n + ms ≤ (xR X).slots := ⟨by have := hX.2.2.1; omega, by have := hX.2.2.2; omega⟩
  exact V_callv (V_runV C hM ⟨ml_X4_115, im_X2_gather, se_X2_gather, ii_X2, co_X2_gather⟩ ⟨rfl, by decide, by decide, by decide +kernel⟩ hR he rfl hn hst hrest hf d) p1 k1 n1 hp hk hn1 kk
theorem GX4_118 (C : Cx X lo nL G cc RX4) (q0 : Nat) {fs : List Value} {a : Nat} (he : ws[q0]? = some (a, .inr (2, fs))) {v : Value} (hv : fs[6]? = some v) (p1 : Nat) (hp : pc + 3 = p1) (d : decode cc pc = .ok (.getfield 118, 3)) (kk : V X lo nL G Q k n ws lc (v :: st) p1) : V X lo nL G Q k n ws lc (.ref a :: st) pc := V_getN (host := "PartSplitter") (ref := "PartSplitter$SplitRow") C uw_X2 rfl 6 (by decide) (by decide +kernel) rfl q0 he hv p1 hp d kk
theorem PX4_118 (C : Cx X lo nL G cc RX4) (q0 : Nat) {fs : List Value} {a : Nat} (he : ws[q0]? = some (a, .inr (2, fs))) {x : Int32} (hl0 : 6 < fs.length) (ws1 : va_W) (hw : ws.set q0 (a, .inr (2, fs.set 6 (.int x))) = ws1) (p1 : Nat) (hp : pc + 3 = p1) (d : decode cc pc = .ok (.putfield 118, 3)) (kk : V X lo nL G Q k n ws1 lc st p1) : V X lo nL G Q k n ws lc (.int x :: .ref a :: st) pc := V_putN (host := "PartSplitter") (ref := "PartSplitter$SplitRow") C uw_X2 tyX2 tyX2_ok nmX2 rfl 6 (by decide) (by decide +kernel) rfl rfl q0 he rfl rfl hl0 ws1 hw p1 hp d kk
theorem KX4_121 (C : Cx X lo nL G cc RX4) {D0 c0 s0 d0 mc ms : Nat} {b : Nat} {As rest : List Value} {S : Type} {post : Int64 → S → Prop} {wo : S → va_W} (hM : Ml (xl X) yX4_splitOf (.code yX4_splitOf prog_1_method_23_code 3 (some .long)) d0 mc ms lo G (.ref b :: As) ws post wo) (hX : RmX X D0 c0 s0) (hd : d0 + 1 ≤ D0) (q0 : Nat) {fs : List Value} (he : ws[q0]? = some (b, .inr (4, fs))) (hn : As.length = 2) (hst : st = As.reverse ++ .ref b :: rest) (hrest : (rest.map fun v => v.category).sum ≤ 8) (p1 k1 n1 : Nat) (hp : pc + 3 = p1) (hk : k + mc = k1) (hn1 : n + ms = n1) (hk1 : k1 ≤ c0) (hs1 : n1 ≤ s0) (d : decode cc pc = .ok (.invokevirtual 121, 3)) (kk : ∀ (r : Int64) (u : S), post r u → V X lo nL G Q k1 n1 (wo u) lc (.long r :: rest) p1) : V X lo nL G Q k n ws lc st pc := by
  have hR : (rmD d0 mc ms).frames + 1 ≤ (xR X).frames ∧ 8 + (3 + 11) + (rmD d0 mc ms).locals ≤ (xR X).locals := ⟨by show d0 + 1 ≤ _; have := hX.1; omega, by show 8 + (3 + 11) + 40 * d0 ≤ _; have := hX.2.1; omega⟩
  have hf : k + mc ≤ (xR X).cells ∧ n + ms ≤ (xR X).slots := ⟨by have := hX.2.2.1; omega, by have := hX.2.2.2; omega⟩
  exact V_calll (V_runV C hM ⟨ml_X4_121, im_X4_splitOf, se_X4_splitOf, ii_X4, co_X4_splitOf⟩ ⟨rfl, by decide, by decide, by decide +kernel⟩ hR he rfl hn hst hrest hf d) p1 k1 n1 hp hk hn1 kk
theorem KXX4_121 (C : Cx X lo nL G cc RX4) {D0 c0 s0 d0 mc ms : Nat} {b : Nat} {As rest : List Value} {px : String → Prop} {S : Type} {post : Int64 → S → Prop} {wo : S → va_W} (hM : Xl (xl X) yX4_splitOf (.code yX4_splitOf prog_1_method_23_code 3 (some .long)) d0 mc ms lo G (.ref b :: As) ws px post wo) (hX : RmX X D0 c0 s0) (hd : d0 + 1 ≤ D0) (q0 : Nat) {fs : List Value} (he : ws[q0]? = some (b, .inr (4, fs))) (hn : As.length = 2) (hst : st = As.reverse ++ .ref b :: rest) (hrest : (rest.map fun v => v.category).sum ≤ 8) (p1 k1 n1 : Nat) (hp : pc + 3 = p1) (hk : k + mc = k1) (hn1 : n + ms = n1) (hk1 : k1 ≤ c0) (hs1 : n1 ≤ s0) (d : decode cc pc = .ok (.invokevirtual 121, 3)) (kx : ∀ (E : String) (ce : Cell) (q9 : Addr) (H1 : Heap) (locs1 : List Loc) (ls : Array Slot), px E → va_P G.1 vwCl ws H1 → va_D (Lo lo) ws → va_S (Lo lo) (xs X).heap H1 locs1 → lv_has ls nL lc → H1[q9]? = some ce → ce.vm = .none → (xs X).vm.findClass E = some ce.cls → vx_W (xp X) (xl X) (xe X) (xR X) (xs X) (xm X) (xa X) (xb X) (xh X) (xc X) H1 locs1 k1 n1 Q (F0 (xm X) pc ls rest) q9) (kk : ∀ (r : Int64) (u : S), post r u → V X lo nL G Q k1 n1 (wo u) lc (.long r :: rest) p1) : V X lo nL G Q k n ws lc st pc := by
  have hR : (rmD d0 mc ms).frames + 1 ≤ (xR X).frames ∧ 8 + (3 + 11) + (rmD d0 mc ms).locals ≤ (xR X).locals := ⟨by show d0 + 1 ≤ _; have := hX.1; omega, by show 8 + (3 + 11) + 40 * d0 ≤ _; have := hX.2.1; omega⟩
  have hf : k + mc ≤ (xR X).cells ∧ n + ms ≤ (xR X).slots := ⟨by have := hX.2.2.1; omega, by have := hX.2.2.2; omega⟩
  exact V_callXl (V_runVX C hM ⟨ml_X4_121, im_X4_splitOf, se_X4_splitOf, ii_X4, co_X4_splitOf⟩ ⟨rfl, by decide, by decide, by decide +kernel⟩ hR he rfl hn hst hrest hf d) p1 k1 n1 hp hk hn1 kx kk
theorem KX4_127 (C : Cx X lo nL G cc RX4) {D0 c0 s0 d0 mc ms : Nat} {As rest : List Value} {S : Type} {post : Int32 → S → Prop} {wo : S → va_W} (hM : Mi (xl X) yX2_costIn (.code yX2_costIn prog_4_method_11_code 2 (some .int)) d0 mc ms lo G As ws post wo) (hX : RmX X D0 c0 s0) (hd : d0 + 1 ≤ D0) (hn : As.length = 1) (hst : st = As.reverse ++ rest) (hrest : (rest.map fun v => v.category).sum ≤ 8) (p1 k1 n1 : Nat) (hp : pc + 3 = p1) (hk : k + mc = k1) (hn1 : n + ms = n1) (hk1 : k1 ≤ c0) (hs1 : n1 ≤ s0) (d : decode cc pc = .ok (.invokestatic 127, 3)) (kk : ∀ (r : Int32) (u : S), post r u → V X lo nL G Q k1 n1 (wo u) lc (.int r :: rest) p1) : V X lo nL G Q k n ws lc st pc := by
  have hR : (rmD d0 mc ms).frames + 1 ≤ (xR X).frames ∧ 8 + (2 + 11) + (rmD d0 mc ms).locals ≤ (xR X).locals := ⟨by show d0 + 1 ≤ _; have := hX.1; omega, by show 8 + (2 + 11) + 40 * d0 ≤ _; have := hX.2.1; omega⟩
  have hf : k + mc ≤ (xR X).cells ∧ n + ms ≤ (xR X).slots := ⟨by have := hX.2.2.1; omega, by have := hX.2.2.2; omega⟩
  exact V_calli (V_runS C hM ⟨ml_X4_127, sm_X2_costIn, ii_X2, co_X2_costIn⟩ ⟨by decide, by decide, by decide +kernel⟩ hR hn hst hrest hf d) p1 k1 n1 hp hk hn1 kk
theorem KX4_131 (C : Cx X lo nL G cc RX4) {D0 c0 s0 d0 mc ms : Nat} {As rest : List Value} {S : Type} {post : Int32 → S → Prop} {wo : S → va_W} (hM : Mi (xl X) yX2_placesIn (.code yX2_placesIn prog_4_method_12_code 2 (some .int)) d0 mc ms lo G As ws post wo) (hX : RmX X D0 c0 s0) (hd : d0 + 1 ≤ D0) (hn : As.length = 1) (hst : st = As.reverse ++ rest) (hrest : (rest.map fun v => v.category).sum ≤ 8) (p1 k1 n1 : Nat) (hp : pc + 3 = p1) (hk : k + mc = k1) (hn1 : n + ms = n1) (hk1 : k1 ≤ c0) (hs1 : n1 ≤ s0) (d : decode cc pc = .ok (.invokestatic 131, 3)) (kk : ∀ (r : Int32) (u : S), post r u → V X lo nL G Q k1 n1 (wo u) lc (.int r :: rest) p1) : V X lo nL G Q k n ws lc st pc := by
  have hR : (rmD d0 mc ms).frames + 1 ≤ (xR X).frames ∧ 8 + (2 + 11) + (rmD d0 mc ms).locals ≤ (xR X).locals := ⟨by show d0 + 1 ≤ _; have := hX.1; omega, by show 8 + (2 + 11) + 40 * d0 ≤ _; have := hX.2.1; omega⟩
  have hf : k + mc ≤ (xR X).cells ∧ n + ms ≤ (xR X).slots := ⟨by have := hX.2.2.1; omega, by have := hX.2.2.2; omega⟩
  exact V_calli (V_runS C hM ⟨ml_X4_131, sm_X2_placesIn, ii_X2, co_X2_placesIn⟩ ⟨by decide, by decide, by decide +kernel⟩ hR hn hst hrest hf d) p1 k1 n1 hp hk hn1 kk
theorem KX4_136 (C : Cx X lo nL G cc RX4) {D0 c0 s0 d0 mc ms : Nat} {b : Nat} {As rest : List Value} {S : Type} {post : Int32 → S → Prop} {wo : S → va_W} (hM : Mi (xl X) yX2_partIn (.code yX2_partIn prog_4_method_13_code 6 (some .int)) d0 mc ms lo G (.ref b :: As) ws post wo) (hX : RmX X D0 c0 s0) (hd : d0 + 1 ≤ D0) (q0 : Nat) {fs : List Value} (he : ws[q0]? = some (b, .inr (2, fs))) (hn : As.length = 2) (hst : st = As.reverse ++ .ref b :: rest) (hrest : (rest.map fun v => v.category).sum ≤ 8) (p1 k1 n1 : Nat) (hp : pc + 3 = p1) (hk : k + mc = k1) (hn1 : n + ms = n1) (hk1 : k1 ≤ c0) (hs1 : n1 ≤ s0) (d : decode cc pc = .ok (.invokevirtual 136, 3)) (kk : ∀ (r : Int32) (u : S), post r u → V X lo nL G Q k1 n1 (wo u) lc (.int r :: rest) p1) : V X lo nL G Q k n ws lc st pc := by
  have hR : (rmD d0 mc ms).frames + 1 ≤ (xR X).frames ∧ 8 + (6 + 11) + (rmD d0 mc ms).locals ≤ (xR X).locals := ⟨by show d0 + 1 ≤ _; have := hX.1; omega, by show 8 + (6 + 11) + 40 * d0 ≤ _; have := hX.2.1; omega⟩
  have hf : k + mc ≤ (xR X).cells ∧ n + ms ≤ (xR X).slots := ⟨by have := hX.2.2.1; omega, by have := hX.2.2.2; omega⟩
  exact V_calli (V_runV C hM ⟨ml_X4_136, im_X2_partIn, se_X2_partIn, ii_X2, co_X2_partIn⟩ ⟨rfl, by decide, by decide, by decide +kernel⟩ hR he rfl hn hst hrest hf d) p1 k1 n1 hp hk hn1 kk
theorem KX4_140 (C : Cx X lo nL G cc RX4) {D0 c0 s0 d0 mc ms : Nat} {As rest : List Value} {S : Type} {post : Int32 → S → Prop} {wo : S → va_W} (hM : Mi (xl X) yX2_linkIn (.code yX2_linkIn prog_4_method_14_code 3 (some .int)) d0 mc ms lo G As ws post wo) (hX : RmX X D0 c0 s0) (hd : d0 + 1 ≤ D0) (hn : As.length = 2) (hst : st = As.reverse ++ rest) (hrest : (rest.map fun v => v.category).sum ≤ 8) (p1 k1 n1 : Nat) (hp : pc + 3 = p1) (hk : k + mc = k1) (hn1 : n + ms = n1) (hk1 : k1 ≤ c0) (hs1 : n1 ≤ s0) (d : decode cc pc = .ok (.invokestatic 140, 3)) (kk : ∀ (r : Int32) (u : S), post r u → V X lo nL G Q k1 n1 (wo u) lc (.int r :: rest) p1) : V X lo nL G Q k n ws lc st pc := by
  have hR : (rmD d0 mc ms).frames + 1 ≤ (xR X).frames ∧ 8 + (3 + 11) + (rmD d0 mc ms).locals ≤ (xR X).locals := ⟨by show d0 + 1 ≤ _; have := hX.1; omega, by show 8 + (3 + 11) + 40 * d0 ≤ _; have := hX.2.1; omega⟩
  have hf : k + mc ≤ (xR X).cells ∧ n + ms ≤ (xR X).slots := ⟨by have := hX.2.2.1; omega, by have := hX.2.2.2; omega⟩
  exact V_calli (V_runS C hM ⟨ml_X4_140, sm_X2_linkIn, ii_X2, co_X2_linkIn⟩ ⟨by decide, by decide, by decide +kernel⟩ hR hn hst hrest hf d) p1 k1 n1 hp hk hn1 kk
theorem GX4_143 (C : Cx X lo nL G cc RX4) (q0 : Nat) {fs : List Value} {a : Nat} (he : ws[q0]? = some (a, .inr (2, fs))) {v : Value} (hv : fs[4]? = some v) (p1 : Nat) (hp : pc + 3 = p1) (d : decode cc pc = .ok (.getfield 143, 3)) (kk : V X lo nL G Q k n ws lc (v :: st) p1) : V X lo nL G Q k n ws lc (.ref a :: st) pc := V_getN (host := "PartSplitter") (ref := "PartSplitter$SplitRow") C uw_X2 rfl 4 (by decide) (by decide +kernel) rfl q0 he hv p1 hp d kk
theorem GX4_150 (C : Cx X lo nL G cc RX4) (q0 : Nat) {fs : List Value} {a : Nat} (he : ws[q0]? = some (a, .inr (0, fs))) {v : Value} (hv : fs[4]? = some v) (p1 : Nat) (hp : pc + 3 = p1) (d : decode cc pc = .ok (.getfield 150, 3)) (kk : V X lo nL G Q k n ws lc (v :: st) p1) : V X lo nL G Q k n ws lc (.ref a :: st) pc := V_getN (host := "PartSplitter") (ref := "PartSplitter$Lessons") C uw_X0 rfl 4 (by decide) (by decide +kernel) rfl q0 he hv p1 hp d kk
theorem PX4_150 (C : Cx X lo nL G cc RX4) (q0 : Nat) {fs : List Value} {a : Nat} (he : ws[q0]? = some (a, .inr (0, fs))) {x : Int32} (hl0 : 4 < fs.length) (ws1 : va_W) (hw : ws.set q0 (a, .inr (0, fs.set 4 (.int x))) = ws1) (p1 : Nat) (hp : pc + 3 = p1) (d : decode cc pc = .ok (.putfield 150, 3)) (kk : V X lo nL G Q k n ws1 lc st p1) : V X lo nL G Q k n ws lc (.int x :: .ref a :: st) pc := V_putN (host := "PartSplitter") (ref := "PartSplitter$Lessons") C uw_X0 tyX0 tyX0_ok nmX0 rfl 4 (by decide) (by decide +kernel) rfl rfl q0 he rfl rfl hl0 ws1 hw p1 hp d kk
theorem KX4_155 (C : Cx X lo nL G cc RX4) {D0 c0 s0 d0 mc ms : Nat} {b : Nat} {As rest : List Value} {S : Type} {post : Int64 → S → Prop} {wo : S → va_W} (hM : Ml (xl X) yX2_keyAt (.code yX2_keyAt prog_4_method_9_code 6 (some .long)) d0 mc ms lo G (.ref b :: As) ws post wo) (hX : RmX X D0 c0 s0) (hd : d0 + 1 ≤ D0) (q0 : Nat) {fs : List Value} (he : ws[q0]? = some (b, .inr (2, fs))) (hn : As.length = 1) (hst : st = As.reverse ++ .ref b :: rest) (hrest : (rest.map fun v => v.category).sum ≤ 8) (p1 k1 n1 : Nat) (hp : pc + 3 = p1) (hk : k + mc = k1) (hn1 : n + ms = n1) (hk1 : k1 ≤ c0) (hs1 : n1 ≤ s0) (d : decode cc pc = .ok (.invokevirtual 155, 3)) (kk : ∀ (r : Int64) (u : S), post r u → V X lo nL G Q k1 n1 (wo u) lc (.long r :: rest) p1) : V X lo nL G Q k n ws lc st pc := by
  have hR : (rmD d0 mc ms).frames + 1 ≤ (xR X).frames ∧ 8 + (6 + 11) + (rmD d0 mc ms).locals ≤ (xR X).locals := ⟨by show d0 + 1 ≤ _; have := hX.1; omega, by show 8 + (6 + 11) + 40 * d0 ≤ _; have := hX.2.1; omega⟩
  have hf : k + mc ≤ (xR X).cells ∧ n + ms ≤ (xR X).slots := ⟨by have := hX.2.2.1; omega, by have := hX.2.2.2; omega⟩
  exact V_calll (V_runV C hM ⟨ml_X4_155, im_X2_keyAt, se_X2_keyAt, ii_X2, co_X2_keyAt⟩ ⟨rfl, by decide, by decide, by decide +kernel⟩ hR he rfl hn hst hrest hf d) p1 k1 n1 hp hk hn1 kk
theorem KX4_159 (C : Cx X lo nL G cc RX4) {D0 c0 s0 d0 mc ms : Nat} {As rest : List Value} {S : Type} {post : Int32 → S → Prop} {wo : S → va_W} (hM : Mi (xl X) yX4_isSure (.code yX4_isSure prog_1_method_24_code 4 (some .boolean)) d0 mc ms lo G As ws post wo) (hX : RmX X D0 c0 s0) (hd : d0 + 1 ≤ D0) (hn : As.length = 2) (hst : st = As.reverse ++ rest) (hrest : (rest.map fun v => v.category).sum ≤ 8) (p1 k1 n1 : Nat) (hp : pc + 3 = p1) (hk : k + mc = k1) (hn1 : n + ms = n1) (hk1 : k1 ≤ c0) (hs1 : n1 ≤ s0) (d : decode cc pc = .ok (.invokestatic 159, 3)) (kk : ∀ (r : Int32) (u : S), post r u → V X lo nL G Q k1 n1 (wo u) lc (.int r :: rest) p1) : V X lo nL G Q k n ws lc st pc := by
  have hR : (rmD d0 mc ms).frames + 1 ≤ (xR X).frames ∧ 8 + (4 + 11) + (rmD d0 mc ms).locals ≤ (xR X).locals := ⟨by show d0 + 1 ≤ _; have := hX.1; omega, by show 8 + (4 + 11) + 40 * d0 ≤ _; have := hX.2.1; omega⟩
  have hf : k + mc ≤ (xR X).cells ∧ n + ms ≤ (xR X).slots := ⟨by have := hX.2.2.1; omega, by have := hX.2.2.2; omega⟩
  exact V_calli (V_runS C hM ⟨ml_X4_159, sm_X4_isSure, ii_X4, co_X4_isSure⟩ ⟨by decide, by decide, by decide +kernel⟩ hR hn hst hrest hf d) p1 k1 n1 hp hk hn1 kk
theorem KXX4_159 (C : Cx X lo nL G cc RX4) {D0 c0 s0 d0 mc ms : Nat} {As rest : List Value} {px : String → Prop} {S : Type} {post : Int32 → S → Prop} {wo : S → va_W} (hM : Xi (xl X) yX4_isSure (.code yX4_isSure prog_1_method_24_code 4 (some .boolean)) d0 mc ms lo G As ws px post wo) (hX : RmX X D0 c0 s0) (hd : d0 + 1 ≤ D0) (hn : As.length = 2) (hst : st = As.reverse ++ rest) (hrest : (rest.map fun v => v.category).sum ≤ 8) (p1 k1 n1 : Nat) (hp : pc + 3 = p1) (hk : k + mc = k1) (hn1 : n + ms = n1) (hk1 : k1 ≤ c0) (hs1 : n1 ≤ s0) (d : decode cc pc = .ok (.invokestatic 159, 3)) (kx : ∀ (E : String) (ce : Cell) (q9 : Addr) (H1 : Heap) (locs1 : List Loc) (ls : Array Slot), px E → va_P G.1 vwCl ws H1 → va_D (Lo lo) ws → va_S (Lo lo) (xs X).heap H1 locs1 → lv_has ls nL lc → H1[q9]? = some ce → ce.vm = .none → (xs X).vm.findClass E = some ce.cls → vx_W (xp X) (xl X) (xe X) (xR X) (xs X) (xm X) (xa X) (xb X) (xh X) (xc X) H1 locs1 k1 n1 Q (F0 (xm X) pc ls rest) q9) (kk : ∀ (r : Int32) (u : S), post r u → V X lo nL G Q k1 n1 (wo u) lc (.int r :: rest) p1) : V X lo nL G Q k n ws lc st pc := by
  have hR : (rmD d0 mc ms).frames + 1 ≤ (xR X).frames ∧ 8 + (4 + 11) + (rmD d0 mc ms).locals ≤ (xR X).locals := ⟨by show d0 + 1 ≤ _; have := hX.1; omega, by show 8 + (4 + 11) + 40 * d0 ≤ _; have := hX.2.1; omega⟩
  have hf : k + mc ≤ (xR X).cells ∧ n + ms ≤ (xR X).slots := ⟨by have := hX.2.2.1; omega, by have := hX.2.2.2; omega⟩
  exact V_callXi (V_runSX C hM ⟨ml_X4_159, sm_X4_isSure, ii_X4, co_X4_isSure⟩ ⟨by decide, by decide, by decide +kernel⟩ hR hn hst hrest hf d) p1 k1 n1 hp hk hn1 kx kk
theorem KX4_163 (C : Cx X lo nL G cc RX4) {D0 c0 s0 d0 mc ms : Nat} {b : Nat} {As rest : List Value} {S : Type} {post : S → Prop} {wo : S → va_W} (hM : Mv (xl X) yX0_begin (.code yX0_begin prog_2_method_2_code 2 none) d0 mc ms lo G (.ref b :: As) ws post wo) (hX : RmX X D0 c0 s0) (hd : d0 + 1 ≤ D0) (q0 : Nat) {fs : List Value} (he : ws[q0]? = some (b, .inr (0, fs))) (hn : As.length = 1) (hst : st = As.reverse ++ .ref b :: rest) (hrest : (rest.map fun v => v.category).sum ≤ 8) (p1 k1 n1 : Nat) (hp : pc + 3 = p1) (hk : k + mc = k1) (hn1 : n + ms = n1) (hk1 : k1 ≤ c0) (hs1 : n1 ≤ s0) (d : decode cc pc = .ok (.invokevirtual 163, 3)) (kk : ∀ u : S, post u → V X lo nL G Q k1 n1 (wo u) lc rest p1) : V X lo nL G Q k n ws lc st pc := by
  have hR : (rmD d0 mc ms).frames + 1 ≤ (xR X).frames ∧ 8 + (2 + 11) + (rmD d0 mc ms).locals ≤ (xR X).locals := ⟨by show d0 + 1 ≤ _; have := hX.1; omega, by show 8 + (2 + 11) + 40 * d0 ≤ _; have := hX.2.1; omega⟩
  have hf : k + mc ≤ (xR X).cells ∧ n + ms ≤ (xR X).slots := ⟨by have := hX.2.2.1; omega, by have := hX.2.2.2; omega⟩
  exact V_callv (V_runV C hM ⟨ml_X4_163, im_X0_begin, se_X0_begin, ii_X0, co_X0_begin⟩ ⟨rfl, by decide, by decide, by decide +kernel⟩ hR he rfl hn hst hrest hf d) p1 k1 n1 hp hk hn1 kk
theorem KX4_166 (C : Cx X lo nL G cc RX4) {D0 c0 s0 d0 mc ms : Nat} {b : Nat} {As rest : List Value} {S : Type} {post : S → Prop} {wo : S → va_W} (hM : Mv (xl X) yX0_grow (.code yX0_grow prog_2_method_3_code 4 none) d0 mc ms lo G (.ref b :: As) ws post wo) (hX : RmX X D0 c0 s0) (hd : d0 + 1 ≤ D0) (q0 : Nat) {fs : List Value} (he : ws[q0]? = some (b, .inr (0, fs))) (hn : As.length = 1) (hst : st = As.reverse ++ .ref b :: rest) (hrest : (rest.map fun v => v.category).sum ≤ 8) (p1 k1 n1 : Nat) (hp : pc + 3 = p1) (hk : k + mc = k1) (hn1 : n + ms = n1) (hk1 : k1 ≤ c0) (hs1 : n1 ≤ s0) (d : decode cc pc = .ok (.invokevirtual 166, 3)) (kk : ∀ u : S, post u → V X lo nL G Q k1 n1 (wo u) lc rest p1) : V X lo nL G Q k n ws lc st pc := by
  have hR : (rmD d0 mc ms).frames + 1 ≤ (xR X).frames ∧ 8 + (4 + 11) + (rmD d0 mc ms).locals ≤ (xR X).locals := ⟨by show d0 + 1 ≤ _; have := hX.1; omega, by show 8 + (4 + 11) + 40 * d0 ≤ _; have := hX.2.1; omega⟩
  have hf : k + mc ≤ (xR X).cells ∧ n + ms ≤ (xR X).slots := ⟨by have := hX.2.2.1; omega, by have := hX.2.2.2; omega⟩
  exact V_callv (V_runV C hM ⟨ml_X4_166, im_X0_grow, se_X0_grow, ii_X0, co_X0_grow⟩ ⟨rfl, by decide, by decide, by decide +kernel⟩ hR he rfl hn hst hrest hf d) p1 k1 n1 hp hk hn1 kk
theorem KX4_171 (C : Cx X lo nL G cc RX4) {D0 c0 s0 d0 mc ms : Nat} {b : Nat} {As rest : List Value} {S : Type} {post : Int32 → S → Prop} {wo : S → va_W} (hM : Mi (xl X) yX0_takeBack (.code yX0_takeBack prog_2_method_4_code 2 (some .int)) d0 mc ms lo G (.ref b :: As) ws post wo) (hX : RmX X D0 c0 s0) (hd : d0 + 1 ≤ D0) (q0 : Nat) {fs : List Value} (he : ws[q0]? = some (b, .inr (0, fs))) (hn : As.length = 0) (hst : st = As.reverse ++ .ref b :: rest) (hrest : (rest.map fun v => v.category).sum ≤ 8) (p1 k1 n1 : Nat) (hp : pc + 3 = p1) (hk : k + mc = k1) (hn1 : n + ms = n1) (hk1 : k1 ≤ c0) (hs1 : n1 ≤ s0) (d : decode cc pc = .ok (.invokevirtual 171, 3)) (kk : ∀ (r : Int32) (u : S), post r u → V X lo nL G Q k1 n1 (wo u) lc (.int r :: rest) p1) : V X lo nL G Q k n ws lc st pc := by
  have hR : (rmD d0 mc ms).frames + 1 ≤ (xR X).frames ∧ 8 + (2 + 11) + (rmD d0 mc ms).locals ≤ (xR X).locals := ⟨by show d0 + 1 ≤ _; have := hX.1; omega, by show 8 + (2 + 11) + 40 * d0 ≤ _; have := hX.2.1; omega⟩
  have hf : k + mc ≤ (xR X).cells ∧ n + ms ≤ (xR X).slots := ⟨by have := hX.2.2.1; omega, by have := hX.2.2.2; omega⟩
  exact V_calli (V_runV C hM ⟨ml_X4_171, im_X0_takeBack, se_X0_takeBack, ii_X0, co_X0_takeBack⟩ ⟨rfl, by decide, by decide, by decide +kernel⟩ hR he rfl hn hst hrest hf d) p1 k1 n1 hp hk hn1 kk
theorem KX4_174 (C : Cx X lo nL G cc RX4) {D0 c0 s0 d0 mc ms : Nat} {As rest : List Value} {S : Type} {post : Int32 → S → Prop} {wo : S → va_W} (hM : Mi (xl X) yX4_lettersIn (.code yX4_lettersIn prog_1_method_25_code 3 (some .int)) d0 mc ms lo G As ws post wo) (hX : RmX X D0 c0 s0) (hd : d0 + 1 ≤ D0) (hn : As.length = 1) (hst : st = As.reverse ++ rest) (hrest : (rest.map fun v => v.category).sum ≤ 8) (p1 k1 n1 : Nat) (hp : pc + 3 = p1) (hk : k + mc = k1) (hn1 : n + ms = n1) (hk1 : k1 ≤ c0) (hs1 : n1 ≤ s0) (d : decode cc pc = .ok (.invokestatic 174, 3)) (kk : ∀ (r : Int32) (u : S), post r u → V X lo nL G Q k1 n1 (wo u) lc (.int r :: rest) p1) : V X lo nL G Q k n ws lc st pc := by
  have hR : (rmD d0 mc ms).frames + 1 ≤ (xR X).frames ∧ 8 + (3 + 11) + (rmD d0 mc ms).locals ≤ (xR X).locals := ⟨by show d0 + 1 ≤ _; have := hX.1; omega, by show 8 + (3 + 11) + 40 * d0 ≤ _; have := hX.2.1; omega⟩
  have hf : k + mc ≤ (xR X).cells ∧ n + ms ≤ (xR X).slots := ⟨by have := hX.2.2.1; omega, by have := hX.2.2.2; omega⟩
  exact V_calli (V_runS C hM ⟨ml_X4_174, sm_X4_lettersIn, ii_X4, co_X4_lettersIn⟩ ⟨by decide, by decide, by decide +kernel⟩ hR hn hst hrest hf d) p1 k1 n1 hp hk hn1 kk
theorem KXX4_174 (C : Cx X lo nL G cc RX4) {D0 c0 s0 d0 mc ms : Nat} {As rest : List Value} {px : String → Prop} {S : Type} {post : Int32 → S → Prop} {wo : S → va_W} (hM : Xi (xl X) yX4_lettersIn (.code yX4_lettersIn prog_1_method_25_code 3 (some .int)) d0 mc ms lo G As ws px post wo) (hX : RmX X D0 c0 s0) (hd : d0 + 1 ≤ D0) (hn : As.length = 1) (hst : st = As.reverse ++ rest) (hrest : (rest.map fun v => v.category).sum ≤ 8) (p1 k1 n1 : Nat) (hp : pc + 3 = p1) (hk : k + mc = k1) (hn1 : n + ms = n1) (hk1 : k1 ≤ c0) (hs1 : n1 ≤ s0) (d : decode cc pc = .ok (.invokestatic 174, 3)) (kx : ∀ (E : String) (ce : Cell) (q9 : Addr) (H1 : Heap) (locs1 : List Loc) (ls : Array Slot), px E → va_P G.1 vwCl ws H1 → va_D (Lo lo) ws → va_S (Lo lo) (xs X).heap H1 locs1 → lv_has ls nL lc → H1[q9]? = some ce → ce.vm = .none → (xs X).vm.findClass E = some ce.cls → vx_W (xp X) (xl X) (xe X) (xR X) (xs X) (xm X) (xa X) (xb X) (xh X) (xc X) H1 locs1 k1 n1 Q (F0 (xm X) pc ls rest) q9) (kk : ∀ (r : Int32) (u : S), post r u → V X lo nL G Q k1 n1 (wo u) lc (.int r :: rest) p1) : V X lo nL G Q k n ws lc st pc := by
  have hR : (rmD d0 mc ms).frames + 1 ≤ (xR X).frames ∧ 8 + (3 + 11) + (rmD d0 mc ms).locals ≤ (xR X).locals := ⟨by show d0 + 1 ≤ _; have := hX.1; omega, by show 8 + (3 + 11) + 40 * d0 ≤ _; have := hX.2.1; omega⟩
  have hf : k + mc ≤ (xR X).cells ∧ n + ms ≤ (xR X).slots := ⟨by have := hX.2.2.1; omega, by have := hX.2.2.2; omega⟩
  exact V_callXi (V_runSX C hM ⟨ml_X4_174, sm_X4_lettersIn, ii_X4, co_X4_lettersIn⟩ ⟨by decide, by decide, by decide +kernel⟩ hR hn hst hrest hf d) p1 k1 n1 hp hk hn1 kx kk
theorem GX0_9 (C : Cx X lo nL G cc RX0) (q0 : Nat) {fs : List Value} {a : Nat} (he : ws[q0]? = some (a, .inr (0, fs))) {v : Value} (hv : fs[1]? = some v) (p1 : Nat) (hp : pc + 3 = p1) (d : decode cc pc = .ok (.getfield 9, 3)) (kk : V X lo nL G Q k n ws lc (v :: st) p1) : V X lo nL G Q k n ws lc (.ref a :: st) pc := V_get (ref := "PartSplitter$Lessons") C uw_X0 rfl 1 (by decide) fl_X0_9 rfl q0 he hv p1 hp d kk
theorem PX0_9 (C : Cx X lo nL G cc RX0) (hin2 : (xh X).name = "<init>") (q0 : Nat) {fs : List Value} {a : Nat} (he : ws[q0]? = some (a, .inr (0, fs))) {x : Nat} (hl0 : 1 < fs.length) (ws1 : va_W) (hw : ws.set q0 (a, .inr (0, fs.set 1 (.ref x))) = ws1) (p1 : Nat) (hp : pc + 3 = p1) (d : decode cc pc = .ok (.putfield 9, 3)) (kk : V X lo nL G Q k n ws1 lc st p1) : V X lo nL G Q k n ws lc (.ref x :: .ref a :: st) pc := V_putF (ref := "PartSplitter$Lessons") C uw_X0 tyX0 tyX0_ok nmX0 rfl 1 (by decide) fl_X0_9 rfl rfl hin2 rfl q0 he rfl rfl hl0 ws1 hw p1 hp d kk
theorem GX0_15 (C : Cx X lo nL G cc RX0) (q0 : Nat) {fs : List Value} {a : Nat} (he : ws[q0]? = some (a, .inr (0, fs))) {v : Value} (hv : fs[2]? = some v) (p1 : Nat) (hp : pc + 3 = p1) (d : decode cc pc = .ok (.getfield 15, 3)) (kk : V X lo nL G Q k n ws lc (v :: st) p1) : V X lo nL G Q k n ws lc (.ref a :: st) pc := V_get (ref := "PartSplitter$Lessons") C uw_X0 rfl 2 (by decide) fl_X0_15 rfl q0 he hv p1 hp d kk
theorem PX0_15 (C : Cx X lo nL G cc RX0) (hin2 : (xh X).name = "<init>") (q0 : Nat) {fs : List Value} {a : Nat} (he : ws[q0]? = some (a, .inr (0, fs))) {x : Nat} (hl0 : 2 < fs.length) (ws1 : va_W) (hw : ws.set q0 (a, .inr (0, fs.set 2 (.ref x))) = ws1) (p1 : Nat) (hp : pc + 3 = p1) (d : decode cc pc = .ok (.putfield 15, 3)) (kk : V X lo nL G Q k n ws1 lc st p1) : V X lo nL G Q k n ws lc (.ref x :: .ref a :: st) pc := V_putF (ref := "PartSplitter$Lessons") C uw_X0 tyX0 tyX0_ok nmX0 rfl 2 (by decide) fl_X0_15 rfl rfl hin2 rfl q0 he rfl rfl hl0 ws1 hw p1 hp d kk
theorem GX0_18 (C : Cx X lo nL G cc RX0) (q0 : Nat) {fs : List Value} {a : Nat} (he : ws[q0]? = some (a, .inr (0, fs))) {v : Value} (hv : fs[3]? = some v) (p1 : Nat) (hp : pc + 3 = p1) (d : decode cc pc = .ok (.getfield 18, 3)) (kk : V X lo nL G Q k n ws lc (v :: st) p1) : V X lo nL G Q k n ws lc (.ref a :: st) pc := V_get (ref := "PartSplitter$Lessons") C uw_X0 rfl 3 (by decide) fl_X0_18 rfl q0 he hv p1 hp d kk
theorem PX0_18 (C : Cx X lo nL G cc RX0) (hin2 : (xh X).name = "<init>") (q0 : Nat) {fs : List Value} {a : Nat} (he : ws[q0]? = some (a, .inr (0, fs))) {x : Nat} (hl0 : 3 < fs.length) (ws1 : va_W) (hw : ws.set q0 (a, .inr (0, fs.set 3 (.ref x))) = ws1) (p1 : Nat) (hp : pc + 3 = p1) (d : decode cc pc = .ok (.putfield 18, 3)) (kk : V X lo nL G Q k n ws1 lc st p1) : V X lo nL G Q k n ws lc (.ref x :: .ref a :: st) pc := V_putF (ref := "PartSplitter$Lessons") C uw_X0 tyX0 tyX0_ok nmX0 rfl 3 (by decide) fl_X0_18 rfl rfl hin2 rfl q0 he rfl rfl hl0 ws1 hw p1 hp d kk
theorem GX0_21 (C : Cx X lo nL G cc RX0) (q0 : Nat) {fs : List Value} {a : Nat} (he : ws[q0]? = some (a, .inr (0, fs))) {v : Value} (hv : fs[0]? = some v) (p1 : Nat) (hp : pc + 3 = p1) (d : decode cc pc = .ok (.getfield 21, 3)) (kk : V X lo nL G Q k n ws lc (v :: st) p1) : V X lo nL G Q k n ws lc (.ref a :: st) pc := V_get (ref := "PartSplitter$Lessons") C uw_X0 rfl 0 (by decide) fl_X0_21 rfl q0 he hv p1 hp d kk
theorem PX0_21 (C : Cx X lo nL G cc RX0) (hin2 : (xh X).name = "<init>") (q0 : Nat) {fs : List Value} {a : Nat} (he : ws[q0]? = some (a, .inr (0, fs))) {x : Nat} (hl0 : 0 < fs.length) (ws1 : va_W) (hw : ws.set q0 (a, .inr (0, fs.set 0 (.ref x))) = ws1) (p1 : Nat) (hp : pc + 3 = p1) (d : decode cc pc = .ok (.putfield 21, 3)) (kk : V X lo nL G Q k n ws1 lc st p1) : V X lo nL G Q k n ws lc (.ref x :: .ref a :: st) pc := V_putF (ref := "PartSplitter$Lessons") C uw_X0 tyX0 tyX0_ok nmX0 rfl 0 (by decide) fl_X0_21 rfl rfl hin2 rfl q0 he rfl rfl hl0 ws1 hw p1 hp d kk
theorem GX0_25 (C : Cx X lo nL G cc RX0) (q0 : Nat) {fs : List Value} {a : Nat} (he : ws[q0]? = some (a, .inr (0, fs))) {v : Value} (hv : fs[4]? = some v) (p1 : Nat) (hp : pc + 3 = p1) (d : decode cc pc = .ok (.getfield 25, 3)) (kk : V X lo nL G Q k n ws lc (v :: st) p1) : V X lo nL G Q k n ws lc (.ref a :: st) pc := V_get (ref := "PartSplitter$Lessons") C uw_X0 rfl 4 (by decide) fl_X0_25 rfl q0 he hv p1 hp d kk
theorem PX0_25 (C : Cx X lo nL G cc RX0) (q0 : Nat) {fs : List Value} {a : Nat} (he : ws[q0]? = some (a, .inr (0, fs))) {x : Int32} (hl0 : 4 < fs.length) (ws1 : va_W) (hw : ws.set q0 (a, .inr (0, fs.set 4 (.int x))) = ws1) (p1 : Nat) (hp : pc + 3 = p1) (d : decode cc pc = .ok (.putfield 25, 3)) (kk : V X lo nL G Q k n ws1 lc st p1) : V X lo nL G Q k n ws lc (.int x :: .ref a :: st) pc := V_put (ref := "PartSplitter$Lessons") C uw_X0 tyX0 tyX0_ok nmX0 rfl 4 (by decide) fl_X0_25 rfl rfl q0 he rfl rfl hl0 ws1 hw p1 hp d kk
theorem GX0_29 (C : Cx X lo nL G cc RX0) (q0 : Nat) {fs : List Value} {a : Nat} (he : ws[q0]? = some (a, .inr (1, fs))) {v : Value} (hv : fs[1]? = some v) (p1 : Nat) (hp : pc + 3 = p1) (d : decode cc pc = .ok (.getfield 29, 3)) (kk : V X lo nL G Q k n ws lc (v :: st) p1) : V X lo nL G Q k n ws lc (.ref a :: st) pc := V_getN (host := "PartSplitter") (ref := "PartSplitter$Lexicon") C uw_X1 rfl 1 (by decide) (by decide +kernel) rfl q0 he hv p1 hp d kk
theorem GX1_9 (C : Cx X lo nL G cc RX1) (q0 : Nat) {fs : List Value} {a : Nat} (he : ws[q0]? = some (a, .inr (1, fs))) {v : Value} (hv : fs[0]? = some v) (p1 : Nat) (hp : pc + 3 = p1) (d : decode cc pc = .ok (.getfield 9, 3)) (kk : V X lo nL G Q k n ws lc (v :: st) p1) : V X lo nL G Q k n ws lc (.ref a :: st) pc := V_get (ref := "PartSplitter$Lexicon") C uw_X1 rfl 0 (by decide) fl_X1_9 rfl q0 he hv p1 hp d kk
theorem PX1_9 (C : Cx X lo nL G cc RX1) (hin2 : (xh X).name = "<init>") (q0 : Nat) {fs : List Value} {a : Nat} (he : ws[q0]? = some (a, .inr (1, fs))) {x : Nat} (hl0 : 0 < fs.length) (ws1 : va_W) (hw : ws.set q0 (a, .inr (1, fs.set 0 (.ref x))) = ws1) (p1 : Nat) (hp : pc + 3 = p1) (d : decode cc pc = .ok (.putfield 9, 3)) (kk : V X lo nL G Q k n ws1 lc st p1) : V X lo nL G Q k n ws lc (.ref x :: .ref a :: st) pc := V_putF (ref := "PartSplitter$Lexicon") C uw_X1 tyX1 tyX1_ok nmX1 rfl 0 (by decide) fl_X1_9 rfl rfl hin2 rfl q0 he rfl rfl hl0 ws1 hw p1 hp d kk
theorem GX1_15 (C : Cx X lo nL G cc RX1) (q0 : Nat) {fs : List Value} {a : Nat} (he : ws[q0]? = some (a, .inr (1, fs))) {v : Value} (hv : fs[1]? = some v) (p1 : Nat) (hp : pc + 3 = p1) (d : decode cc pc = .ok (.getfield 15, 3)) (kk : V X lo nL G Q k n ws lc (v :: st) p1) : V X lo nL G Q k n ws lc (.ref a :: st) pc := V_get (ref := "PartSplitter$Lexicon") C uw_X1 rfl 1 (by decide) fl_X1_15 rfl q0 he hv p1 hp d kk
theorem PX1_15 (C : Cx X lo nL G cc RX1) (hin2 : (xh X).name = "<init>") (q0 : Nat) {fs : List Value} {a : Nat} (he : ws[q0]? = some (a, .inr (1, fs))) {x : Nat} (hl0 : 1 < fs.length) (ws1 : va_W) (hw : ws.set q0 (a, .inr (1, fs.set 1 (.ref x))) = ws1) (p1 : Nat) (hp : pc + 3 = p1) (d : decode cc pc = .ok (.putfield 15, 3)) (kk : V X lo nL G Q k n ws1 lc st p1) : V X lo nL G Q k n ws lc (.ref x :: .ref a :: st) pc := V_putF (ref := "PartSplitter$Lexicon") C uw_X1 tyX1 tyX1_ok nmX1 rfl 1 (by decide) fl_X1_15 rfl rfl hin2 rfl q0 he rfl rfl hl0 ws1 hw p1 hp d kk
theorem GX1_18 (C : Cx X lo nL G cc RX1) (q0 : Nat) {fs : List Value} {a : Nat} (he : ws[q0]? = some (a, .inr (1, fs))) {v : Value} (hv : fs[2]? = some v) (p1 : Nat) (hp : pc + 3 = p1) (d : decode cc pc = .ok (.getfield 18, 3)) (kk : V X lo nL G Q k n ws lc (v :: st) p1) : V X lo nL G Q k n ws lc (.ref a :: st) pc := V_get (ref := "PartSplitter$Lexicon") C uw_X1 rfl 2 (by decide) fl_X1_18 rfl q0 he hv p1 hp d kk
theorem PX1_18 (C : Cx X lo nL G cc RX1) (hin2 : (xh X).name = "<init>") (q0 : Nat) {fs : List Value} {a : Nat} (he : ws[q0]? = some (a, .inr (1, fs))) {x : Nat} (hl0 : 2 < fs.length) (ws1 : va_W) (hw : ws.set q0 (a, .inr (1, fs.set 2 (.ref x))) = ws1) (p1 : Nat) (hp : pc + 3 = p1) (d : decode cc pc = .ok (.putfield 18, 3)) (kk : V X lo nL G Q k n ws1 lc st p1) : V X lo nL G Q k n ws lc (.ref x :: .ref a :: st) pc := V_putF (ref := "PartSplitter$Lexicon") C uw_X1 tyX1 tyX1_ok nmX1 rfl 2 (by decide) fl_X1_18 rfl rfl hin2 rfl q0 he rfl rfl hl0 ws1 hw p1 hp d kk
theorem GX1_21 (C : Cx X lo nL G cc RX1) (q0 : Nat) {fs : List Value} {a : Nat} (he : ws[q0]? = some (a, .inr (1, fs))) {v : Value} (hv : fs[3]? = some v) (p1 : Nat) (hp : pc + 3 = p1) (d : decode cc pc = .ok (.getfield 21, 3)) (kk : V X lo nL G Q k n ws lc (v :: st) p1) : V X lo nL G Q k n ws lc (.ref a :: st) pc := V_get (ref := "PartSplitter$Lexicon") C uw_X1 rfl 3 (by decide) fl_X1_21 rfl q0 he hv p1 hp d kk
theorem PX1_21 (C : Cx X lo nL G cc RX1) (hin2 : (xh X).name = "<init>") (q0 : Nat) {fs : List Value} {a : Nat} (he : ws[q0]? = some (a, .inr (1, fs))) {x : Nat} (hl0 : 3 < fs.length) (ws1 : va_W) (hw : ws.set q0 (a, .inr (1, fs.set 3 (.ref x))) = ws1) (p1 : Nat) (hp : pc + 3 = p1) (d : decode cc pc = .ok (.putfield 21, 3)) (kk : V X lo nL G Q k n ws1 lc st p1) : V X lo nL G Q k n ws lc (.ref x :: .ref a :: st) pc := V_putF (ref := "PartSplitter$Lexicon") C uw_X1 tyX1 tyX1_ok nmX1 rfl 3 (by decide) fl_X1_21 rfl rfl hin2 rfl q0 he rfl rfl hl0 ws1 hw p1 hp d kk
theorem GX1_24 (C : Cx X lo nL G cc RX1) (q0 : Nat) {fs : List Value} {a : Nat} (he : ws[q0]? = some (a, .inr (1, fs))) {v : Value} (hv : fs[4]? = some v) (p1 : Nat) (hp : pc + 3 = p1) (d : decode cc pc = .ok (.getfield 24, 3)) (kk : V X lo nL G Q k n ws lc (v :: st) p1) : V X lo nL G Q k n ws lc (.ref a :: st) pc := V_get (ref := "PartSplitter$Lexicon") C uw_X1 rfl 4 (by decide) fl_X1_24 rfl q0 he hv p1 hp d kk
theorem PX1_24 (C : Cx X lo nL G cc RX1) (hin2 : (xh X).name = "<init>") (q0 : Nat) {fs : List Value} {a : Nat} (he : ws[q0]? = some (a, .inr (1, fs))) {x : Nat} (hl0 : 4 < fs.length) (ws1 : va_W) (hw : ws.set q0 (a, .inr (1, fs.set 4 (.ref x))) = ws1) (p1 : Nat) (hp : pc + 3 = p1) (d : decode cc pc = .ok (.putfield 24, 3)) (kk : V X lo nL G Q k n ws1 lc st p1) : V X lo nL G Q k n ws lc (.ref x :: .ref a :: st) pc := V_putF (ref := "PartSplitter$Lexicon") C uw_X1 tyX1 tyX1_ok nmX1 rfl 4 (by decide) fl_X1_24 rfl rfl hin2 rfl q0 he rfl rfl hl0 ws1 hw p1 hp d kk
theorem GX1_28 (C : Cx X lo nL G cc RX1) (q0 : Nat) {fs : List Value} {a : Nat} (he : ws[q0]? = some (a, .inr (1, fs))) {v : Value} (hv : fs[5]? = some v) (p1 : Nat) (hp : pc + 3 = p1) (d : decode cc pc = .ok (.getfield 28, 3)) (kk : V X lo nL G Q k n ws lc (v :: st) p1) : V X lo nL G Q k n ws lc (.ref a :: st) pc := V_get (ref := "PartSplitter$Lexicon") C uw_X1 rfl 5 (by decide) fl_X1_28 rfl q0 he hv p1 hp d kk
theorem PX1_28 (C : Cx X lo nL G cc RX1) (hin2 : (xh X).name = "<init>") (q0 : Nat) {fs : List Value} {a : Nat} (he : ws[q0]? = some (a, .inr (1, fs))) {x : Nat} (hl0 : 5 < fs.length) (ws1 : va_W) (hw : ws.set q0 (a, .inr (1, fs.set 5 (.ref x))) = ws1) (p1 : Nat) (hp : pc + 3 = p1) (d : decode cc pc = .ok (.putfield 28, 3)) (kk : V X lo nL G Q k n ws1 lc st p1) : V X lo nL G Q k n ws lc (.ref x :: .ref a :: st) pc := V_putF (ref := "PartSplitter$Lexicon") C uw_X1 tyX1 tyX1_ok nmX1 rfl 5 (by decide) fl_X1_28 rfl rfl hin2 rfl q0 he rfl rfl hl0 ws1 hw p1 hp d kk
theorem KX1_33 (C : Cx X lo nL G cc RX1) {D0 c0 s0 d0 mc ms : Nat} {b : Nat} {As rest : List Value} {S : Type} {post : S → Prop} {wo : S → va_W} (hM : Mv (xl X) yX3_init (.code yX3_init prog_5_method_1_code 1 none) d0 mc ms lo G (.ref b :: As) ws post wo) (hX : RmX X D0 c0 s0) (hd : d0 + 1 ≤ D0) (hn : As.length = 0) (hst : st = As.reverse ++ .ref b :: rest) (hrest : (rest.map fun v => v.category).sum ≤ 8) (p1 k1 n1 : Nat) (hp : pc + 3 = p1) (hk : k + mc = k1) (hn1 : n + ms = n1) (hk1 : k1 ≤ c0) (hs1 : n1 ≤ s0) (d : decode cc pc = .ok (.invokespecial 33, 3)) (kk : ∀ u : S, post u → V X lo nL G Q k1 n1 (wo u) lc rest p1) : V X lo nL G Q k n ws lc st pc := by
  have hR : (rmD d0 mc ms).frames + 1 ≤ (xR X).frames ∧ 8 + (1 + 11) + (rmD d0 mc ms).locals ≤ (xR X).locals := ⟨by show d0 + 1 ≤ _; have := hX.1; omega, by show 8 + (1 + 11) + 40 * d0 ≤ _; have := hX.2.1; omega⟩
  have hf : k + mc ≤ (xR X).cells ∧ n + ms ≤ (xR X).slots := ⟨by have := hX.2.2.1; omega, by have := hX.2.2.2; omega⟩
  exact V_callv (V_runIN (host := "PartSplitter") C hM ⟨by decide +kernel, im_X3_init, ii_X3, co_X3_init⟩ rfl ⟨by decide, by decide, by decide +kernel⟩ hR hn hst hrest hf d) p1 k1 n1 hp hk hn1 kk
theorem GX1_34 (C : Cx X lo nL G cc RX1) (q0 : Nat) {fs : List Value} {a : Nat} (he : ws[q0]? = some (a, .inr (1, fs))) {v : Value} (hv : fs[6]? = some v) (p1 : Nat) (hp : pc + 3 = p1) (d : decode cc pc = .ok (.getfield 34, 3)) (kk : V X lo nL G Q k n ws lc (v :: st) p1) : V X lo nL G Q k n ws lc (.ref a :: st) pc := V_get (ref := "PartSplitter$Lexicon") C uw_X1 rfl 6 (by decide) fl_X1_34 rfl q0 he hv p1 hp d kk
theorem PX1_34 (C : Cx X lo nL G cc RX1) (hin2 : (xh X).name = "<init>") (q0 : Nat) {fs : List Value} {a : Nat} (he : ws[q0]? = some (a, .inr (1, fs))) {x : Nat} (hl0 : 6 < fs.length) (ws1 : va_W) (hw : ws.set q0 (a, .inr (1, fs.set 6 (.ref x))) = ws1) (p1 : Nat) (hp : pc + 3 = p1) (d : decode cc pc = .ok (.putfield 34, 3)) (kk : V X lo nL G Q k n ws1 lc st p1) : V X lo nL G Q k n ws lc (.ref x :: .ref a :: st) pc := V_putF (ref := "PartSplitter$Lexicon") C uw_X1 tyX1 tyX1_ok nmX1 rfl 6 (by decide) fl_X1_34 rfl rfl hin2 rfl q0 he rfl rfl hl0 ws1 hw p1 hp d kk
theorem GX1_38 (C : Cx X lo nL G cc RX1) (q0 : Nat) {fs : List Value} {a : Nat} (he : ws[q0]? = some (a, .inr (1, fs))) {v : Value} (hv : fs[7]? = some v) (p1 : Nat) (hp : pc + 3 = p1) (d : decode cc pc = .ok (.getfield 38, 3)) (kk : V X lo nL G Q k n ws lc (v :: st) p1) : V X lo nL G Q k n ws lc (.ref a :: st) pc := V_get (ref := "PartSplitter$Lexicon") C uw_X1 rfl 7 (by decide) fl_X1_38 rfl q0 he hv p1 hp d kk
theorem PX1_38 (C : Cx X lo nL G cc RX1) (q0 : Nat) {fs : List Value} {a : Nat} (he : ws[q0]? = some (a, .inr (1, fs))) {x : Int32} (hl0 : 7 < fs.length) (ws1 : va_W) (hw : ws.set q0 (a, .inr (1, fs.set 7 (.int x))) = ws1) (p1 : Nat) (hp : pc + 3 = p1) (d : decode cc pc = .ok (.putfield 38, 3)) (kk : V X lo nL G Q k n ws1 lc st p1) : V X lo nL G Q k n ws lc (.int x :: .ref a :: st) pc := V_put (ref := "PartSplitter$Lexicon") C uw_X1 tyX1 tyX1_ok nmX1 rfl 7 (by decide) fl_X1_38 rfl rfl q0 he rfl rfl hl0 ws1 hw p1 hp d kk
theorem KX1_42 (C : Cx X lo nL G cc RX1) {D0 c0 s0 d0 mc ms : Nat} {b : Nat} {As rest : List Value} {S : Type} {post : S → Prop} {wo : S → va_W} (hM : Mv (xl X) yX3_enter (.code yX3_enter prog_5_method_2_code 4 none) d0 mc ms lo G (.ref b :: As) ws post wo) (hX : RmX X D0 c0 s0) (hd : d0 + 1 ≤ D0) (q0 : Nat) {fs : List Value} (he : ws[q0]? = some (b, .inr (3, fs))) (hn : As.length = 1) (hst : st = As.reverse ++ .ref b :: rest) (hrest : (rest.map fun v => v.category).sum ≤ 8) (p1 k1 n1 : Nat) (hp : pc + 3 = p1) (hk : k + mc = k1) (hn1 : n + ms = n1) (hk1 : k1 ≤ c0) (hs1 : n1 ≤ s0) (d : decode cc pc = .ok (.invokevirtual 42, 3)) (kk : ∀ u : S, post u → V X lo nL G Q k1 n1 (wo u) lc rest p1) : V X lo nL G Q k n ws lc st pc := by
  have hR : (rmD d0 mc ms).frames + 1 ≤ (xR X).frames ∧ 8 + (4 + 11) + (rmD d0 mc ms).locals ≤ (xR X).locals := ⟨by show d0 + 1 ≤ _; have := hX.1; omega, by show 8 + (4 + 11) + 40 * d0 ≤ _; have := hX.2.1; omega⟩
  have hf : k + mc ≤ (xR X).cells ∧ n + ms ≤ (xR X).slots := ⟨by have := hX.2.2.1; omega, by have := hX.2.2.2; omega⟩
  exact V_callv (V_runV C hM ⟨ml_X1_42, im_X3_enter, se_X3_enter, ii_X3, co_X3_enter⟩ ⟨rfl, by decide, by decide, by decide +kernel⟩ hR he rfl hn hst hrest hf d) p1 k1 n1 hp hk hn1 kk
theorem GX1_46 (C : Cx X lo nL G cc RX1) (q0 : Nat) {fs : List Value} {a : Nat} (he : ws[q0]? = some (a, .inr (1, fs))) {v : Value} (hv : fs[8]? = some v) (p1 : Nat) (hp : pc + 3 = p1) (d : decode cc pc = .ok (.getfield 46, 3)) (kk : V X lo nL G Q k n ws lc (v :: st) p1) : V X lo nL G Q k n ws lc (.ref a :: st) pc := V_get (ref := "PartSplitter$Lexicon") C uw_X1 rfl 8 (by decide) fl_X1_46 rfl q0 he hv p1 hp d kk
theorem PX1_46 (C : Cx X lo nL G cc RX1) (q0 : Nat) {fs : List Value} {a : Nat} (he : ws[q0]? = some (a, .inr (1, fs))) {x : Int32} (hl0 : 8 < fs.length) (ws1 : va_W) (hw : ws.set q0 (a, .inr (1, fs.set 8 (.int x))) = ws1) (p1 : Nat) (hp : pc + 3 = p1) (d : decode cc pc = .ok (.putfield 46, 3)) (kk : V X lo nL G Q k n ws1 lc st p1) : V X lo nL G Q k n ws lc (.int x :: .ref a :: st) pc := V_put (ref := "PartSplitter$Lexicon") C uw_X1 tyX1 tyX1_ok nmX1 rfl 8 (by decide) fl_X1_46 rfl rfl q0 he rfl rfl hl0 ws1 hw p1 hp d kk
theorem KX1_49 (C : Cx X lo nL G cc RX1) {D0 c0 s0 d0 mc ms : Nat} {As rest : List Value} {S : Type} {post : Int32 → S → Prop} {wo : S → va_W} (hM : Mi (xl X) yX1_placeOf (.code yX1_placeOf prog_3_method_6_code 4 (some .int)) d0 mc ms lo G As ws post wo) (hX : RmX X D0 c0 s0) (hd : d0 + 1 ≤ D0) (hn : As.length = 3) (hst : st = As.reverse ++ rest) (hrest : (rest.map fun v => v.category).sum ≤ 8) (p1 k1 n1 : Nat) (hp : pc + 3 = p1) (hk : k + mc = k1) (hn1 : n + ms = n1) (hk1 : k1 ≤ c0) (hs1 : n1 ≤ s0) (d : decode cc pc = .ok (.invokestatic 49, 3)) (kk : ∀ (r : Int32) (u : S), post r u → V X lo nL G Q k1 n1 (wo u) lc (.int r :: rest) p1) : V X lo nL G Q k n ws lc st pc := by
  have hR : (rmD d0 mc ms).frames + 1 ≤ (xR X).frames ∧ 8 + (4 + 11) + (rmD d0 mc ms).locals ≤ (xR X).locals := ⟨by show d0 + 1 ≤ _; have := hX.1; omega, by show 8 + (4 + 11) + 40 * d0 ≤ _; have := hX.2.1; omega⟩
  have hf : k + mc ≤ (xR X).cells ∧ n + ms ≤ (xR X).slots := ⟨by have := hX.2.2.1; omega, by have := hX.2.2.2; omega⟩
  exact V_calli (V_runS C hM ⟨ml_X1_49, sm_X1_placeOf, ii_X1, co_X1_placeOf⟩ ⟨by decide, by decide, by decide +kernel⟩ hR hn hst hrest hf d) p1 k1 n1 hp hk hn1 kk
theorem KX1_53 (C : Cx X lo nL G cc RX1) {D0 c0 s0 d0 mc ms : Nat} {As rest : List Value} {S : Type} {post : Int32 → S → Prop} {wo : S → va_W} (hM : Mi (xl X) yX4_lettersIn (.code yX4_lettersIn prog_1_method_25_code 3 (some .int)) d0 mc ms lo G As ws post wo) (hX : RmX X D0 c0 s0) (hd : d0 + 1 ≤ D0) (hn : As.length = 1) (hst : st = As.reverse ++ rest) (hrest : (rest.map fun v => v.category).sum ≤ 8) (p1 k1 n1 : Nat) (hp : pc + 3 = p1) (hk : k + mc = k1) (hn1 : n + ms = n1) (hk1 : k1 ≤ c0) (hs1 : n1 ≤ s0) (d : decode cc pc = .ok (.invokestatic 53, 3)) (kk : ∀ (r : Int32) (u : S), post r u → V X lo nL G Q k1 n1 (wo u) lc (.int r :: rest) p1) : V X lo nL G Q k n ws lc st pc := by
  have hR : (rmD d0 mc ms).frames + 1 ≤ (xR X).frames ∧ 8 + (3 + 11) + (rmD d0 mc ms).locals ≤ (xR X).locals := ⟨by show d0 + 1 ≤ _; have := hX.1; omega, by show 8 + (3 + 11) + 40 * d0 ≤ _; have := hX.2.1; omega⟩
  have hf : k + mc ≤ (xR X).cells ∧ n + ms ≤ (xR X).slots := ⟨by have := hX.2.2.1; omega, by have := hX.2.2.2; omega⟩
  exact V_calli (V_runSN (host := "PartSplitter") C hM ⟨by decide +kernel, sm_X4_lettersIn, ii_X4, co_X4_lettersIn⟩ ⟨by decide, by decide, by decide +kernel⟩ hR hn hst hrest hf d) p1 k1 n1 hp hk hn1 kk
theorem GX2_11 (C : Cx X lo nL G cc RX2) (q0 : Nat) {fs : List Value} {a : Nat} (he : ws[q0]? = some (a, .inr (2, fs))) {v : Value} (hv : fs[1]? = some v) (p1 : Nat) (hp : pc + 3 = p1) (d : decode cc pc = .ok (.getfield 11, 3)) (kk : V X lo nL G Q k n ws lc (v :: st) p1) : V X lo nL G Q k n ws lc (.ref a :: st) pc := V_get (ref := "PartSplitter$SplitRow") C uw_X2 rfl 1 (by decide) fl_X2_11 rfl q0 he hv p1 hp d kk
theorem PX2_11 (C : Cx X lo nL G cc RX2) (hin2 : (xh X).name = "<init>") (q0 : Nat) {fs : List Value} {a : Nat} (he : ws[q0]? = some (a, .inr (2, fs))) {x : Nat} (hl0 : 1 < fs.length) (ws1 : va_W) (hw : ws.set q0 (a, .inr (2, fs.set 1 (.ref x))) = ws1) (p1 : Nat) (hp : pc + 3 = p1) (d : decode cc pc = .ok (.putfield 11, 3)) (kk : V X lo nL G Q k n ws1 lc st p1) : V X lo nL G Q k n ws lc (.ref x :: .ref a :: st) pc := V_putF (ref := "PartSplitter$SplitRow") C uw_X2 tyX2 tyX2_ok nmX2 rfl 1 (by decide) fl_X2_11 rfl rfl hin2 rfl q0 he rfl rfl hl0 ws1 hw p1 hp d kk
theorem GX2_15 (C : Cx X lo nL G cc RX2) (q0 : Nat) {fs : List Value} {a : Nat} (he : ws[q0]? = some (a, .inr (2, fs))) {v : Value} (hv : fs[2]? = some v) (p1 : Nat) (hp : pc + 3 = p1) (d : decode cc pc = .ok (.getfield 15, 3)) (kk : V X lo nL G Q k n ws lc (v :: st) p1) : V X lo nL G Q k n ws lc (.ref a :: st) pc := V_get (ref := "PartSplitter$SplitRow") C uw_X2 rfl 2 (by decide) fl_X2_15 rfl q0 he hv p1 hp d kk
theorem PX2_15 (C : Cx X lo nL G cc RX2) (hin2 : (xh X).name = "<init>") (q0 : Nat) {fs : List Value} {a : Nat} (he : ws[q0]? = some (a, .inr (2, fs))) {x : Nat} (hl0 : 2 < fs.length) (ws1 : va_W) (hw : ws.set q0 (a, .inr (2, fs.set 2 (.ref x))) = ws1) (p1 : Nat) (hp : pc + 3 = p1) (d : decode cc pc = .ok (.putfield 15, 3)) (kk : V X lo nL G Q k n ws1 lc st p1) : V X lo nL G Q k n ws lc (.ref x :: .ref a :: st) pc := V_putF (ref := "PartSplitter$SplitRow") C uw_X2 tyX2 tyX2_ok nmX2 rfl 2 (by decide) fl_X2_15 rfl rfl hin2 rfl q0 he rfl rfl hl0 ws1 hw p1 hp d kk
theorem GX2_18 (C : Cx X lo nL G cc RX2) (q0 : Nat) {fs : List Value} {a : Nat} (he : ws[q0]? = some (a, .inr (2, fs))) {v : Value} (hv : fs[3]? = some v) (p1 : Nat) (hp : pc + 3 = p1) (d : decode cc pc = .ok (.getfield 18, 3)) (kk : V X lo nL G Q k n ws lc (v :: st) p1) : V X lo nL G Q k n ws lc (.ref a :: st) pc := V_get (ref := "PartSplitter$SplitRow") C uw_X2 rfl 3 (by decide) fl_X2_18 rfl q0 he hv p1 hp d kk
theorem PX2_18 (C : Cx X lo nL G cc RX2) (hin2 : (xh X).name = "<init>") (q0 : Nat) {fs : List Value} {a : Nat} (he : ws[q0]? = some (a, .inr (2, fs))) {x : Nat} (hl0 : 3 < fs.length) (ws1 : va_W) (hw : ws.set q0 (a, .inr (2, fs.set 3 (.ref x))) = ws1) (p1 : Nat) (hp : pc + 3 = p1) (d : decode cc pc = .ok (.putfield 18, 3)) (kk : V X lo nL G Q k n ws1 lc st p1) : V X lo nL G Q k n ws lc (.ref x :: .ref a :: st) pc := V_putF (ref := "PartSplitter$SplitRow") C uw_X2 tyX2 tyX2_ok nmX2 rfl 3 (by decide) fl_X2_18 rfl rfl hin2 rfl q0 he rfl rfl hl0 ws1 hw p1 hp d kk
theorem GX2_21 (C : Cx X lo nL G cc RX2) (q0 : Nat) {fs : List Value} {a : Nat} (he : ws[q0]? = some (a, .inr (2, fs))) {v : Value} (hv : fs[4]? = some v) (p1 : Nat) (hp : pc + 3 = p1) (d : decode cc pc = .ok (.getfield 21, 3)) (kk : V X lo nL G Q k n ws lc (v :: st) p1) : V X lo nL G Q k n ws lc (.ref a :: st) pc := V_get (ref := "PartSplitter$SplitRow") C uw_X2 rfl 4 (by decide) fl_X2_21 rfl q0 he hv p1 hp d kk
theorem PX2_21 (C : Cx X lo nL G cc RX2) (hin2 : (xh X).name = "<init>") (q0 : Nat) {fs : List Value} {a : Nat} (he : ws[q0]? = some (a, .inr (2, fs))) {x : Nat} (hl0 : 4 < fs.length) (ws1 : va_W) (hw : ws.set q0 (a, .inr (2, fs.set 4 (.ref x))) = ws1) (p1 : Nat) (hp : pc + 3 = p1) (d : decode cc pc = .ok (.putfield 21, 3)) (kk : V X lo nL G Q k n ws1 lc st p1) : V X lo nL G Q k n ws lc (.ref x :: .ref a :: st) pc := V_putF (ref := "PartSplitter$SplitRow") C uw_X2 tyX2 tyX2_ok nmX2 rfl 4 (by decide) fl_X2_21 rfl rfl hin2 rfl q0 he rfl rfl hl0 ws1 hw p1 hp d kk
theorem GX2_25 (C : Cx X lo nL G cc RX2) (q0 : Nat) {fs : List Value} {a : Nat} (he : ws[q0]? = some (a, .inr (2, fs))) {v : Value} (hv : fs[0]? = some v) (p1 : Nat) (hp : pc + 3 = p1) (d : decode cc pc = .ok (.getfield 25, 3)) (kk : V X lo nL G Q k n ws lc (v :: st) p1) : V X lo nL G Q k n ws lc (.ref a :: st) pc := V_get (ref := "PartSplitter$SplitRow") C uw_X2 rfl 0 (by decide) fl_X2_25 rfl q0 he hv p1 hp d kk
theorem PX2_25 (C : Cx X lo nL G cc RX2) (hin2 : (xh X).name = "<init>") (q0 : Nat) {fs : List Value} {a : Nat} (he : ws[q0]? = some (a, .inr (2, fs))) {x : Nat} (hl0 : 0 < fs.length) (ws1 : va_W) (hw : ws.set q0 (a, .inr (2, fs.set 0 (.ref x))) = ws1) (p1 : Nat) (hp : pc + 3 = p1) (d : decode cc pc = .ok (.putfield 25, 3)) (kk : V X lo nL G Q k n ws1 lc st p1) : V X lo nL G Q k n ws lc (.ref x :: .ref a :: st) pc := V_putF (ref := "PartSplitter$SplitRow") C uw_X2 tyX2 tyX2_ok nmX2 rfl 0 (by decide) fl_X2_25 rfl rfl hin2 rfl q0 he rfl rfl hl0 ws1 hw p1 hp d kk
theorem KX2_29 (C : Cx X lo nL G cc RX2) {D0 c0 s0 d0 mc ms : Nat} {b : Nat} {As rest : List Value} {S : Type} {post : S → Prop} {wo : S → va_W} (hM : Mv (xl X) yX2_readLetters (.code yX2_readLetters prog_4_method_3_code 4 none) d0 mc ms lo G (.ref b :: As) ws post wo) (hX : RmX X D0 c0 s0) (hd : d0 + 1 ≤ D0) (q0 : Nat) {fs : List Value} (he : ws[q0]? = some (b, .inr (2, fs))) (hn : As.length = 1) (hst : st = As.reverse ++ .ref b :: rest) (hrest : (rest.map fun v => v.category).sum ≤ 8) (p1 k1 n1 : Nat) (hp : pc + 3 = p1) (hk : k + mc = k1) (hn1 : n + ms = n1) (hk1 : k1 ≤ c0) (hs1 : n1 ≤ s0) (d : decode cc pc = .ok (.invokevirtual 29, 3)) (kk : ∀ u : S, post u → V X lo nL G Q k1 n1 (wo u) lc rest p1) : V X lo nL G Q k n ws lc st pc := by
  have hR : (rmD d0 mc ms).frames + 1 ≤ (xR X).frames ∧ 8 + (4 + 11) + (rmD d0 mc ms).locals ≤ (xR X).locals := ⟨by show d0 + 1 ≤ _; have := hX.1; omega, by show 8 + (4 + 11) + 40 * d0 ≤ _; have := hX.2.1; omega⟩
  have hf : k + mc ≤ (xR X).cells ∧ n + ms ≤ (xR X).slots := ⟨by have := hX.2.2.1; omega, by have := hX.2.2.2; omega⟩
  exact V_callv (V_runV C hM ⟨ml_X2_29, im_X2_readLetters, se_X2_readLetters, ii_X2, co_X2_readLetters⟩ ⟨rfl, by decide, by decide, by decide +kernel⟩ hR he rfl hn hst hrest hf d) p1 k1 n1 hp hk hn1 kk
theorem GX2_33 (C : Cx X lo nL G cc RX2) (q0 : Nat) {fs : List Value} {a : Nat} (he : ws[q0]? = some (a, .inr (2, fs))) {v : Value} (hv : fs[5]? = some v) (p1 : Nat) (hp : pc + 3 = p1) (d : decode cc pc = .ok (.getfield 33, 3)) (kk : V X lo nL G Q k n ws lc (v :: st) p1) : V X lo nL G Q k n ws lc (.ref a :: st) pc := V_get (ref := "PartSplitter$SplitRow") C uw_X2 rfl 5 (by decide) fl_X2_33 rfl q0 he hv p1 hp d kk
theorem PX2_33 (C : Cx X lo nL G cc RX2) (q0 : Nat) {fs : List Value} {a : Nat} (he : ws[q0]? = some (a, .inr (2, fs))) {x : Int32} (hl0 : 5 < fs.length) (ws1 : va_W) (hw : ws.set q0 (a, .inr (2, fs.set 5 (.int x))) = ws1) (p1 : Nat) (hp : pc + 3 = p1) (d : decode cc pc = .ok (.putfield 33, 3)) (kk : V X lo nL G Q k n ws1 lc st p1) : V X lo nL G Q k n ws lc (.int x :: .ref a :: st) pc := V_put (ref := "PartSplitter$SplitRow") C uw_X2 tyX2 tyX2_ok nmX2 rfl 5 (by decide) fl_X2_33 rfl rfl q0 he rfl rfl hl0 ws1 hw p1 hp d kk
theorem KX2_37 (C : Cx X lo nL G cc RX2) {D0 c0 s0 d0 mc ms : Nat} {b : Nat} {As rest : List Value} {S : Type} {post : S → Prop} {wo : S → va_W} (hM : Mv (xl X) yX2_findFrom (.code yX2_findFrom prog_4_method_4_code 4 none) d0 mc ms lo G (.ref b :: As) ws post wo) (hX : RmX X D0 c0 s0) (hd : d0 + 1 ≤ D0) (q0 : Nat) {fs : List Value} (he : ws[q0]? = some (b, .inr (2, fs))) (hn : As.length = 1) (hst : st = As.reverse ++ .ref b :: rest) (hrest : (rest.map fun v => v.category).sum ≤ 8) (p1 k1 n1 : Nat) (hp : pc + 3 = p1) (hk : k + mc = k1) (hn1 : n + ms = n1) (hk1 : k1 ≤ c0) (hs1 : n1 ≤ s0) (d : decode cc pc = .ok (.invokevirtual 37, 3)) (kk : ∀ u : S, post u → V X lo nL G Q k1 n1 (wo u) lc rest p1) : V X lo nL G Q k n ws lc st pc := by
  have hR : (rmD d0 mc ms).frames + 1 ≤ (xR X).frames ∧ 8 + (4 + 11) + (rmD d0 mc ms).locals ≤ (xR X).locals := ⟨by show d0 + 1 ≤ _; have := hX.1; omega, by show 8 + (4 + 11) + 40 * d0 ≤ _; have := hX.2.1; omega⟩
  have hf : k + mc ≤ (xR X).cells ∧ n + ms ≤ (xR X).slots := ⟨by have := hX.2.2.1; omega, by have := hX.2.2.2; omega⟩
  exact V_callv (V_runV C hM ⟨ml_X2_37, im_X2_findFrom, se_X2_findFrom, ii_X2, co_X2_findFrom⟩ ⟨rfl, by decide, by decide, by decide +kernel⟩ hR he rfl hn hst hrest hf d) p1 k1 n1 hp hk hn1 kk
theorem GX2_40 (C : Cx X lo nL G cc RX2) (q0 : Nat) {fs : List Value} {a : Nat} (he : ws[q0]? = some (a, .inr (2, fs))) {v : Value} (hv : fs[6]? = some v) (p1 : Nat) (hp : pc + 3 = p1) (d : decode cc pc = .ok (.getfield 40, 3)) (kk : V X lo nL G Q k n ws lc (v :: st) p1) : V X lo nL G Q k n ws lc (.ref a :: st) pc := V_get (ref := "PartSplitter$SplitRow") C uw_X2 rfl 6 (by decide) fl_X2_40 rfl q0 he hv p1 hp d kk
theorem PX2_40 (C : Cx X lo nL G cc RX2) (q0 : Nat) {fs : List Value} {a : Nat} (he : ws[q0]? = some (a, .inr (2, fs))) {x : Int32} (hl0 : 6 < fs.length) (ws1 : va_W) (hw : ws.set q0 (a, .inr (2, fs.set 6 (.int x))) = ws1) (p1 : Nat) (hp : pc + 3 = p1) (d : decode cc pc = .ok (.putfield 40, 3)) (kk : V X lo nL G Q k n ws1 lc st p1) : V X lo nL G Q k n ws lc (.int x :: .ref a :: st) pc := V_put (ref := "PartSplitter$SplitRow") C uw_X2 tyX2 tyX2_ok nmX2 rfl 6 (by decide) fl_X2_40 rfl rfl q0 he rfl rfl hl0 ws1 hw p1 hp d kk
theorem KX2_43 (C : Cx X lo nL G cc RX2) {D0 c0 s0 d0 mc ms : Nat} {b : Nat} {As rest : List Value} {S : Type} {post : S → Prop} {wo : S → va_W} (hM : Mv (xl X) yX2_tryParts (.code yX2_tryParts prog_4_method_5_code 13 none) d0 mc ms lo G (.ref b :: As) ws post wo) (hX : RmX X D0 c0 s0) (hd : d0 + 1 ≤ D0) (q0 : Nat) {fs : List Value} (he : ws[q0]? = some (b, .inr (2, fs))) (hn : As.length = 5) (hst : st = As.reverse ++ .ref b :: rest) (hrest : (rest.map fun v => v.category).sum ≤ 8) (p1 k1 n1 : Nat) (hp : pc + 3 = p1) (hk : k + mc = k1) (hn1 : n + ms = n1) (hk1 : k1 ≤ c0) (hs1 : n1 ≤ s0) (d : decode cc pc = .ok (.invokevirtual 43, 3)) (kk : ∀ u : S, post u → V X lo nL G Q k1 n1 (wo u) lc rest p1) : V X lo nL G Q k n ws lc st pc := by
  have hR : (rmD d0 mc ms).frames + 1 ≤ (xR X).frames ∧ 8 + (13 + 11) + (rmD d0 mc ms).locals ≤ (xR X).locals := ⟨by show d0 + 1 ≤ _; have := hX.1; omega, by show 8 + (13 + 11) + 40 * d0 ≤ _; have := hX.2.1; omega⟩
  have hf : k + mc ≤ (xR X).cells ∧ n + ms ≤ (xR X).slots := ⟨by have := hX.2.2.1; omega, by have := hX.2.2.2; omega⟩
  exact V_callv (V_runV C hM ⟨ml_X2_43, im_X2_tryParts, se_X2_tryParts, ii_X2, co_X2_tryParts⟩ ⟨rfl, by decide, by decide, by decide +kernel⟩ hR he rfl hn hst hrest hf d) p1 k1 n1 hp hk hn1 kk
theorem KX2_47 (C : Cx X lo nL G cc RX2) {D0 c0 s0 d0 mc ms : Nat} {As rest : List Value} {S : Type} {post : Int32 → S → Prop} {wo : S → va_W} (hM : Mi (xl X) yX4_lettersIn (.code yX4_lettersIn prog_1_method_25_code 3 (some .int)) d0 mc ms lo G As ws post wo) (hX : RmX X D0 c0 s0) (hd : d0 + 1 ≤ D0) (hn : As.length = 1) (hst : st = As.reverse ++ rest) (hrest : (rest.map fun v => v.category).sum ≤ 8) (p1 k1 n1 : Nat) (hp : pc + 3 = p1) (hk : k + mc = k1) (hn1 : n + ms = n1) (hk1 : k1 ≤ c0) (hs1 : n1 ≤ s0) (d : decode cc pc = .ok (.invokestatic 47, 3)) (kk : ∀ (r : Int32) (u : S), post r u → V X lo nL G Q k1 n1 (wo u) lc (.int r :: rest) p1) : V X lo nL G Q k n ws lc st pc := by
  have hR : (rmD d0 mc ms).frames + 1 ≤ (xR X).frames ∧ 8 + (3 + 11) + (rmD d0 mc ms).locals ≤ (xR X).locals := ⟨by show d0 + 1 ≤ _; have := hX.1; omega, by show 8 + (3 + 11) + 40 * d0 ≤ _; have := hX.2.1; omega⟩
  have hf : k + mc ≤ (xR X).cells ∧ n + ms ≤ (xR X).slots := ⟨by have := hX.2.2.1; omega, by have := hX.2.2.2; omega⟩
  exact V_calli (V_runSN (host := "PartSplitter") C hM ⟨by decide +kernel, sm_X4_lettersIn, ii_X4, co_X4_lettersIn⟩ ⟨by decide, by decide, by decide +kernel⟩ hR hn hst hrest hf d) p1 k1 n1 hp hk hn1 kk
theorem KX2_51 (C : Cx X lo nL G cc RX2) {D0 c0 s0 d0 mc ms : Nat} {b : Nat} {As rest : List Value} {S : Type} {post : Int32 → S → Prop} {wo : S → va_W} (hM : Mi (xl X) yX1_partWith (.code yX1_partWith prog_3_method_4_code 2 (some .int)) d0 mc ms lo G (.ref b :: As) ws post wo) (hX : RmX X D0 c0 s0) (hd : d0 + 1 ≤ D0) (q0 : Nat) {fs : List Value} (he : ws[q0]? = some (b, .inr (1, fs))) (hn : As.length = 1) (hst : st = As.reverse ++ .ref b :: rest) (hrest : (rest.map fun v => v.category).sum ≤ 8) (p1 k1 n1 : Nat) (hp : pc + 3 = p1) (hk : k + mc = k1) (hn1 : n + ms = n1) (hk1 : k1 ≤ c0) (hs1 : n1 ≤ s0) (d : decode cc pc = .ok (.invokevirtual 51, 3)) (kk : ∀ (r : Int32) (u : S), post r u → V X lo nL G Q k1 n1 (wo u) lc (.int r :: rest) p1) : V X lo nL G Q k n ws lc st pc := by
  have hR : (rmD d0 mc ms).frames + 1 ≤ (xR X).frames ∧ 8 + (2 + 11) + (rmD d0 mc ms).locals ≤ (xR X).locals := ⟨by show d0 + 1 ≤ _; have := hX.1; omega, by show 8 + (2 + 11) + 40 * d0 ≤ _; have := hX.2.1; omega⟩
  have hf : k + mc ≤ (xR X).cells ∧ n + ms ≤ (xR X).slots := ⟨by have := hX.2.2.1; omega, by have := hX.2.2.2; omega⟩
  exact V_calli (V_runV C hM ⟨ml_X2_51, im_X1_partWith, se_X1_partWith, ii_X1, co_X1_partWith⟩ ⟨rfl, by decide, by decide, by decide +kernel⟩ hR he rfl hn hst hrest hf d) p1 k1 n1 hp hk hn1 kk
theorem KX2_56 (C : Cx X lo nL G cc RX2) {D0 c0 s0 d0 mc ms : Nat} {b : Nat} {As rest : List Value} {S : Type} {post : Int32 → S → Prop} {wo : S → va_W} (hM : Mi (xl X) yX1_linkWith (.code yX1_linkWith prog_3_method_5_code 2 (some .int)) d0 mc ms lo G (.ref b :: As) ws post wo) (hX : RmX X D0 c0 s0) (hd : d0 + 1 ≤ D0) (q0 : Nat) {fs : List Value} (he : ws[q0]? = some (b, .inr (1, fs))) (hn : As.length = 1) (hst : st = As.reverse ++ .ref b :: rest) (hrest : (rest.map fun v => v.category).sum ≤ 8) (p1 k1 n1 : Nat) (hp : pc + 3 = p1) (hk : k + mc = k1) (hn1 : n + ms = n1) (hk1 : k1 ≤ c0) (hs1 : n1 ≤ s0) (d : decode cc pc = .ok (.invokevirtual 56, 3)) (kk : ∀ (r : Int32) (u : S), post r u → V X lo nL G Q k1 n1 (wo u) lc (.int r :: rest) p1) : V X lo nL G Q k n ws lc st pc := by
  have hR : (rmD d0 mc ms).frames + 1 ≤ (xR X).frames ∧ 8 + (2 + 11) + (rmD d0 mc ms).locals ≤ (xR X).locals := ⟨by show d0 + 1 ≤ _; have := hX.1; omega, by show 8 + (2 + 11) + 40 * d0 ≤ _; have := hX.2.1; omega⟩
  have hf : k + mc ≤ (xR X).cells ∧ n + ms ≤ (xR X).slots := ⟨by have := hX.2.2.1; omega, by have := hX.2.2.2; omega⟩
  exact V_calli (V_runV C hM ⟨ml_X2_56, im_X1_linkWith, se_X1_linkWith, ii_X1, co_X1_linkWith⟩ ⟨rfl, by decide, by decide, by decide +kernel⟩ hR he rfl hn hst hrest hf d) p1 k1 n1 hp hk hn1 kk
theorem KX2_59 (C : Cx X lo nL G cc RX2) {D0 c0 s0 d0 mc ms : Nat} {b : Nat} {As rest : List Value} {S : Type} {post : Int32 → S → Prop} {wo : S → va_W} (hM : Mi (xl X) yX2_mayFollow (.code yX2_mayFollow prog_4_method_6_code 4 (some .boolean)) d0 mc ms lo G (.ref b :: As) ws post wo) (hX : RmX X D0 c0 s0) (hd : d0 + 1 ≤ D0) (q0 : Nat) {fs : List Value} (he : ws[q0]? = some (b, .inr (2, fs))) (hn : As.length = 3) (hst : st = As.reverse ++ .ref b :: rest) (hrest : (rest.map fun v => v.category).sum ≤ 8) (p1 k1 n1 : Nat) (hp : pc + 3 = p1) (hk : k + mc = k1) (hn1 : n + ms = n1) (hk1 : k1 ≤ c0) (hs1 : n1 ≤ s0) (d : decode cc pc = .ok (.invokevirtual 59, 3)) (kk : ∀ (r : Int32) (u : S), post r u → V X lo nL G Q k1 n1 (wo u) lc (.int r :: rest) p1) : V X lo nL G Q k n ws lc st pc := by
  have hR : (rmD d0 mc ms).frames + 1 ≤ (xR X).frames ∧ 8 + (4 + 11) + (rmD d0 mc ms).locals ≤ (xR X).locals := ⟨by show d0 + 1 ≤ _; have := hX.1; omega, by show 8 + (4 + 11) + 40 * d0 ≤ _; have := hX.2.1; omega⟩
  have hf : k + mc ≤ (xR X).cells ∧ n + ms ≤ (xR X).slots := ⟨by have := hX.2.2.1; omega, by have := hX.2.2.2; omega⟩
  exact V_calli (V_runV C hM ⟨ml_X2_59, im_X2_mayFollow, se_X2_mayFollow, ii_X2, co_X2_mayFollow⟩ ⟨rfl, by decide, by decide, by decide +kernel⟩ hR he rfl hn hst hrest hf d) p1 k1 n1 hp hk hn1 kk
theorem GX2_63 (C : Cx X lo nL G cc RX2) (q0 : Nat) {fs : List Value} {a : Nat} (he : ws[q0]? = some (a, .inr (1, fs))) {v : Value} (hv : fs[1]? = some v) (p1 : Nat) (hp : pc + 3 = p1) (d : decode cc pc = .ok (.getfield 63, 3)) (kk : V X lo nL G Q k n ws lc (v :: st) p1) : V X lo nL G Q k n ws lc (.ref a :: st) pc := V_getN (host := "PartSplitter") (ref := "PartSplitter$Lexicon") C uw_X1 rfl 1 (by decide) (by decide +kernel) rfl q0 he hv p1 hp d kk
theorem KX2_66 (C : Cx X lo nL G cc RX2) {D0 c0 s0 d0 mc ms : Nat} {As rest : List Value} {S : Type} {post : Int32 → S → Prop} {wo : S → va_W} (hM : Mi (xl X) yX1_costOfCount (.code yX1_costOfCount prog_3_method_7_code 4 (some .int)) d0 mc ms lo G As ws post wo) (hX : RmX X D0 c0 s0) (hd : d0 + 1 ≤ D0) (hn : As.length = 1) (hst : st = As.reverse ++ rest) (hrest : (rest.map fun v => v.category).sum ≤ 8) (p1 k1 n1 : Nat) (hp : pc + 3 = p1) (hk : k + mc = k1) (hn1 : n + ms = n1) (hk1 : k1 ≤ c0) (hs1 : n1 ≤ s0) (d : decode cc pc = .ok (.invokestatic 66, 3)) (kk : ∀ (r : Int32) (u : S), post r u → V X lo nL G Q k1 n1 (wo u) lc (.int r :: rest) p1) : V X lo nL G Q k n ws lc st pc := by
  have hR : (rmD d0 mc ms).frames + 1 ≤ (xR X).frames ∧ 8 + (4 + 11) + (rmD d0 mc ms).locals ≤ (xR X).locals := ⟨by show d0 + 1 ≤ _; have := hX.1; omega, by show 8 + (4 + 11) + 40 * d0 ≤ _; have := hX.2.1; omega⟩
  have hf : k + mc ≤ (xR X).cells ∧ n + ms ≤ (xR X).slots := ⟨by have := hX.2.2.1; omega, by have := hX.2.2.2; omega⟩
  exact V_calli (V_runS C hM ⟨ml_X2_66, sm_X1_costOfCount, ii_X1, co_X1_costOfCount⟩ ⟨by decide, by decide, by decide +kernel⟩ hR hn hst hrest hf d) p1 k1 n1 hp hk hn1 kk
theorem KX2_69 (C : Cx X lo nL G cc RX2) {D0 c0 s0 d0 mc ms : Nat} {As rest : List Value} {S : Type} {post : Int32 → S → Prop} {wo : S → va_W} (hM : Mi (xl X) yX2_shiftOf (.code yX2_shiftOf prog_4_method_16_code 1 (some .int)) d0 mc ms lo G As ws post wo) (hX : RmX X D0 c0 s0) (hd : d0 + 1 ≤ D0) (hn : As.length = 1) (hst : st = As.reverse ++ rest) (hrest : (rest.map fun v => v.category).sum ≤ 8) (p1 k1 n1 : Nat) (hp : pc + 3 = p1) (hk : k + mc = k1) (hn1 : n + ms = n1) (hk1 : k1 ≤ c0) (hs1 : n1 ≤ s0) (d : decode cc pc = .ok (.invokestatic 69, 3)) (kk : ∀ (r : Int32) (u : S), post r u → V X lo nL G Q k1 n1 (wo u) lc (.int r :: rest) p1) : V X lo nL G Q k n ws lc st pc := by
  have hR : (rmD d0 mc ms).frames + 1 ≤ (xR X).frames ∧ 8 + (1 + 11) + (rmD d0 mc ms).locals ≤ (xR X).locals := ⟨by show d0 + 1 ≤ _; have := hX.1; omega, by show 8 + (1 + 11) + 40 * d0 ≤ _; have := hX.2.1; omega⟩
  have hf : k + mc ≤ (xR X).cells ∧ n + ms ≤ (xR X).slots := ⟨by have := hX.2.2.1; omega, by have := hX.2.2.2; omega⟩
  exact V_calli (V_runS C hM ⟨ml_X2_69, sm_X2_shiftOf, ii_X2, co_X2_shiftOf⟩ ⟨by decide, by decide, by decide +kernel⟩ hR hn hst hrest hf d) p1 k1 n1 hp hk hn1 kk
theorem KX2_72 (C : Cx X lo nL G cc RX2) {D0 c0 s0 d0 mc ms : Nat} {b : Nat} {As rest : List Value} {S : Type} {post : S → Prop} {wo : S → va_W} (hM : Mv (xl X) yX2_keep (.code yX2_keep prog_4_method_8_code 5 none) d0 mc ms lo G (.ref b :: As) ws post wo) (hX : RmX X D0 c0 s0) (hd : d0 + 1 ≤ D0) (q0 : Nat) {fs : List Value} (he : ws[q0]? = some (b, .inr (2, fs))) (hn : As.length = 3) (hst : st = As.reverse ++ .ref b :: rest) (hrest : (rest.map fun v => v.category).sum ≤ 8) (p1 k1 n1 : Nat) (hp : pc + 3 = p1) (hk : k + mc = k1) (hn1 : n + ms = n1) (hk1 : k1 ≤ c0) (hs1 : n1 ≤ s0) (d : decode cc pc = .ok (.invokevirtual 72, 3)) (kk : ∀ u : S, post u → V X lo nL G Q k1 n1 (wo u) lc rest p1) : V X lo nL G Q k n ws lc st pc := by
  have hR : (rmD d0 mc ms).frames + 1 ≤ (xR X).frames ∧ 8 + (5 + 11) + (rmD d0 mc ms).locals ≤ (xR X).locals := ⟨by show d0 + 1 ≤ _; have := hX.1; omega, by show 8 + (5 + 11) + 40 * d0 ≤ _; have := hX.2.1; omega⟩
  have hf : k + mc ≤ (xR X).cells ∧ n + ms ≤ (xR X).slots := ⟨by have := hX.2.2.1; omega, by have := hX.2.2.2; omega⟩
  exact V_callv (V_runV C hM ⟨ml_X2_72, im_X2_keep, se_X2_keep, ii_X2, co_X2_keep⟩ ⟨rfl, by decide, by decide, by decide +kernel⟩ hR he rfl hn hst hrest hf d) p1 k1 n1 hp hk hn1 kk
theorem KX2_76 (C : Cx X lo nL G cc RX2) {D0 c0 s0 d0 mc ms : Nat} {b : Nat} {As rest : List Value} {S : Type} {post : S → Prop} {wo : S → va_W} (hM : Mv (xl X) yX2_tryLinks (.code yX2_tryLinks prog_4_method_7_code 11 none) d0 mc ms lo G (.ref b :: As) ws post wo) (hX : RmX X D0 c0 s0) (hd : d0 + 1 ≤ D0) (q0 : Nat) {fs : List Value} (he : ws[q0]? = some (b, .inr (2, fs))) (hn : As.length = 5) (hst : st = As.reverse ++ .ref b :: rest) (hrest : (rest.map fun v => v.category).sum ≤ 8) (p1 k1 n1 : Nat) (hp : pc + 3 = p1) (hk : k + mc = k1) (hn1 : n + ms = n1) (hk1 : k1 ≤ c0) (hs1 : n1 ≤ s0) (d : decode cc pc = .ok (.invokevirtual 76, 3)) (kk : ∀ u : S, post u → V X lo nL G Q k1 n1 (wo u) lc rest p1) : V X lo nL G Q k n ws lc st pc := by
  have hR : (rmD d0 mc ms).frames + 1 ≤ (xR X).frames ∧ 8 + (11 + 11) + (rmD d0 mc ms).locals ≤ (xR X).locals := ⟨by show d0 + 1 ≤ _; have := hX.1; omega, by show 8 + (11 + 11) + 40 * d0 ≤ _; have := hX.2.1; omega⟩
  have hf : k + mc ≤ (xR X).cells ∧ n + ms ≤ (xR X).slots := ⟨by have := hX.2.2.1; omega, by have := hX.2.2.2; omega⟩
  exact V_callv (V_runV C hM ⟨ml_X2_76, im_X2_tryLinks, se_X2_tryLinks, ii_X2, co_X2_tryLinks⟩ ⟨rfl, by decide, by decide, by decide +kernel⟩ hR he rfl hn hst hrest hf d) p1 k1 n1 hp hk hn1 kk
theorem KX2_79 (C : Cx X lo nL G cc RX2) {D0 c0 s0 d0 mc ms : Nat} {b : Nat} {As rest : List Value} {S : Type} {post : Int32 → S → Prop} {wo : S → va_W} (hM : Mi (xl X) yX1_mayStand (.code yX1_mayStand prog_3_method_9_code 5 (some .boolean)) d0 mc ms lo G (.ref b :: As) ws post wo) (hX : RmX X D0 c0 s0) (hd : d0 + 1 ≤ D0) (q0 : Nat) {fs : List Value} (he : ws[q0]? = some (b, .inr (1, fs))) (hn : As.length = 3) (hst : st = As.reverse ++ .ref b :: rest) (hrest : (rest.map fun v => v.category).sum ≤ 8) (p1 k1 n1 : Nat) (hp : pc + 3 = p1) (hk : k + mc = k1) (hn1 : n + ms = n1) (hk1 : k1 ≤ c0) (hs1 : n1 ≤ s0) (d : decode cc pc = .ok (.invokevirtual 79, 3)) (kk : ∀ (r : Int32) (u : S), post r u → V X lo nL G Q k1 n1 (wo u) lc (.int r :: rest) p1) : V X lo nL G Q k n ws lc st pc := by
  have hR : (rmD d0 mc ms).frames + 1 ≤ (xR X).frames ∧ 8 + (5 + 11) + (rmD d0 mc ms).locals ≤ (xR X).locals := ⟨by show d0 + 1 ≤ _; have := hX.1; omega, by show 8 + (5 + 11) + 40 * d0 ≤ _; have := hX.2.1; omega⟩
  have hf : k + mc ≤ (xR X).cells ∧ n + ms ≤ (xR X).slots := ⟨by have := hX.2.2.1; omega, by have := hX.2.2.2; omega⟩
  exact V_calli (V_runV C hM ⟨ml_X2_79, im_X1_mayStand, se_X1_mayStand, ii_X1, co_X1_mayStand⟩ ⟨rfl, by decide, by decide, by decide +kernel⟩ hR he rfl hn hst hrest hf d) p1 k1 n1 hp hk hn1 kk
theorem GX2_83 (C : Cx X lo nL G cc RX2) (q0 : Nat) {fs : List Value} {a : Nat} (he : ws[q0]? = some (a, .inr (1, fs))) {v : Value} (hv : fs[4]? = some v) (p1 : Nat) (hp : pc + 3 = p1) (d : decode cc pc = .ok (.getfield 83, 3)) (kk : V X lo nL G Q k n ws lc (v :: st) p1) : V X lo nL G Q k n ws lc (.ref a :: st) pc := V_getN (host := "PartSplitter") (ref := "PartSplitter$Lexicon") C uw_X1 rfl 4 (by decide) (by decide +kernel) rfl q0 he hv p1 hp d kk
theorem GX2_87 (C : Cx X lo nL G cc RX2) (q0 : Nat) {fs : List Value} {a : Nat} (he : ws[q0]? = some (a, .inr (1, fs))) {v : Value} (hv : fs[5]? = some v) (p1 : Nat) (hp : pc + 3 = p1) (d : decode cc pc = .ok (.getfield 87, 3)) (kk : V X lo nL G Q k n ws lc (v :: st) p1) : V X lo nL G Q k n ws lc (.ref a :: st) pc := V_getN (host := "PartSplitter") (ref := "PartSplitter$Lexicon") C uw_X1 rfl 5 (by decide) (by decide +kernel) rfl q0 he hv p1 hp d kk
theorem KX2_92 (C : Cx X lo nL G cc RX2) {D0 c0 s0 d0 mc ms : Nat} {b : Nat} {As rest : List Value} {S : Type} {post : S → Prop} {wo : S → va_W} (hM : Mv (xl X) yX2_sink (.code yX2_sink prog_4_method_10_code 7 none) d0 mc ms lo G (.ref b :: As) ws post wo) (hX : RmX X D0 c0 s0) (hd : d0 + 1 ≤ D0) (q0 : Nat) {fs : List Value} (he : ws[q0]? = some (b, .inr (2, fs))) (hn : As.length = 2) (hst : st = As.reverse ++ .ref b :: rest) (hrest : (rest.map fun v => v.category).sum ≤ 8) (p1 k1 n1 : Nat) (hp : pc + 3 = p1) (hk : k + mc = k1) (hn1 : n + ms = n1) (hk1 : k1 ≤ c0) (hs1 : n1 ≤ s0) (d : decode cc pc = .ok (.invokevirtual 92, 3)) (kk : ∀ u : S, post u → V X lo nL G Q k1 n1 (wo u) lc rest p1) : V X lo nL G Q k n ws lc st pc := by
  have hR : (rmD d0 mc ms).frames + 1 ≤ (xR X).frames ∧ 8 + (7 + 11) + (rmD d0 mc ms).locals ≤ (xR X).locals := ⟨by show d0 + 1 ≤ _; have := hX.1; omega, by show 8 + (7 + 11) + 40 * d0 ≤ _; have := hX.2.1; omega⟩
  have hf : k + mc ≤ (xR X).cells ∧ n + ms ≤ (xR X).slots := ⟨by have := hX.2.2.1; omega, by have := hX.2.2.2; omega⟩
  exact V_callv (V_runV C hM ⟨ml_X2_92, im_X2_sink, se_X2_sink, ii_X2, co_X2_sink⟩ ⟨rfl, by decide, by decide, by decide +kernel⟩ hR he rfl hn hst hrest hf d) p1 k1 n1 hp hk hn1 kk
theorem KX2_96 (C : Cx X lo nL G cc RX2) {D0 c0 s0 d0 mc ms : Nat} {As rest : List Value} {S : Type} {post : Int32 → S → Prop} {wo : S → va_W} (hM : Mi (xl X) yX2_lettersAt (.code yX2_lettersAt prog_4_method_15_code 3 (some .int)) d0 mc ms lo G As ws post wo) (hX : RmX X D0 c0 s0) (hd : d0 + 1 ≤ D0) (hn : As.length = 2) (hst : st = As.reverse ++ rest) (hrest : (rest.map fun v => v.category).sum ≤ 8) (p1 k1 n1 : Nat) (hp : pc + 3 = p1) (hk : k + mc = k1) (hn1 : n + ms = n1) (hk1 : k1 ≤ c0) (hs1 : n1 ≤ s0) (d : decode cc pc = .ok (.invokestatic 96, 3)) (kk : ∀ (r : Int32) (u : S), post r u → V X lo nL G Q k1 n1 (wo u) lc (.int r :: rest) p1) : V X lo nL G Q k n ws lc st pc := by
  have hR : (rmD d0 mc ms).frames + 1 ≤ (xR X).frames ∧ 8 + (3 + 11) + (rmD d0 mc ms).locals ≤ (xR X).locals := ⟨by show d0 + 1 ≤ _; have := hX.1; omega, by show 8 + (3 + 11) + 40 * d0 ≤ _; have := hX.2.1; omega⟩
  have hf : k + mc ≤ (xR X).cells ∧ n + ms ≤ (xR X).slots := ⟨by have := hX.2.2.1; omega, by have := hX.2.2.2; omega⟩
  exact V_calli (V_runS C hM ⟨ml_X2_96, sm_X2_lettersAt, ii_X2, co_X2_lettersAt⟩ ⟨by decide, by decide, by decide +kernel⟩ hR hn hst hrest hf d) p1 k1 n1 hp hk hn1 kk
theorem KX2_100 (C : Cx X lo nL G cc RX2) {D0 c0 s0 d0 mc ms : Nat} {As rest : List Value} {S : Type} {post : Int32 → S → Prop} {wo : S → va_W} (hM : Mi (xl X) yX2_linkIn (.code yX2_linkIn prog_4_method_14_code 3 (some .int)) d0 mc ms lo G As ws post wo) (hX : RmX X D0 c0 s0) (hd : d0 + 1 ≤ D0) (hn : As.length = 2) (hst : st = As.reverse ++ rest) (hrest : (rest.map fun v => v.category).sum ≤ 8) (p1 k1 n1 : Nat) (hp : pc + 3 = p1) (hk : k + mc = k1) (hn1 : n + ms = n1) (hk1 : k1 ≤ c0) (hs1 : n1 ≤ s0) (d : decode cc pc = .ok (.invokestatic 100, 3)) (kk : ∀ (r : Int32) (u : S), post r u → V X lo nL G Q k1 n1 (wo u) lc (.int r :: rest) p1) : V X lo nL G Q k n ws lc st pc := by
  have hR : (rmD d0 mc ms).frames + 1 ≤ (xR X).frames ∧ 8 + (3 + 11) + (rmD d0 mc ms).locals ≤ (xR X).locals := ⟨by show d0 + 1 ≤ _; have := hX.1; omega, by show 8 + (3 + 11) + 40 * d0 ≤ _; have := hX.2.1; omega⟩
  have hf : k + mc ≤ (xR X).cells ∧ n + ms ≤ (xR X).slots := ⟨by have := hX.2.2.1; omega, by have := hX.2.2.2; omega⟩
  exact V_calli (V_runS C hM ⟨ml_X2_100, sm_X2_linkIn, ii_X2, co_X2_linkIn⟩ ⟨by decide, by decide, by decide +kernel⟩ hR hn hst hrest hf d) p1 k1 n1 hp hk hn1 kk
theorem KX2_103 (C : Cx X lo nL G cc RX2) {D0 c0 s0 d0 mc ms : Nat} {b : Nat} {As rest : List Value} {S : Type} {post : Int32 → S → Prop} {wo : S → va_W} (hM : Mi (xl X) yX1_lettersOfLink (.code yX1_lettersOfLink prog_3_method_8_code 2 (some .int)) d0 mc ms lo G (.ref b :: As) ws post wo) (hX : RmX X D0 c0 s0) (hd : d0 + 1 ≤ D0) (q0 : Nat) {fs : List Value} (he : ws[q0]? = some (b, .inr (1, fs))) (hn : As.length = 1) (hst : st = As.reverse ++ .ref b :: rest) (hrest : (rest.map fun v => v.category).sum ≤ 8) (p1 k1 n1 : Nat) (hp : pc + 3 = p1) (hk : k + mc = k1) (hn1 : n + ms = n1) (hk1 : k1 ≤ c0) (hs1 : n1 ≤ s0) (d : decode cc pc = .ok (.invokevirtual 103, 3)) (kk : ∀ (r : Int32) (u : S), post r u → V X lo nL G Q k1 n1 (wo u) lc (.int r :: rest) p1) : V X lo nL G Q k n ws lc st pc := by
  have hR : (rmD d0 mc ms).frames + 1 ≤ (xR X).frames ∧ 8 + (2 + 11) + (rmD d0 mc ms).locals ≤ (xR X).locals := ⟨by show d0 + 1 ≤ _; have := hX.1; omega, by show 8 + (2 + 11) + 40 * d0 ≤ _; have := hX.2.1; omega⟩
  have hf : k + mc ≤ (xR X).cells ∧ n + ms ≤ (xR X).slots := ⟨by have := hX.2.2.1; omega, by have := hX.2.2.2; omega⟩
  exact V_calli (V_runV C hM ⟨ml_X2_103, im_X1_lettersOfLink, se_X1_lettersOfLink, ii_X1, co_X1_lettersOfLink⟩ ⟨rfl, by decide, by decide, by decide +kernel⟩ hR he rfl hn hst hrest hf d) p1 k1 n1 hp hk hn1 kk
theorem GX3_11 (C : Cx X lo nL G cc RX3) (q0 : Nat) {fs : List Value} {a : Nat} (he : ws[q0]? = some (a, .inr (3, fs))) {v : Value} (hv : fs[0]? = some v) (p1 : Nat) (hp : pc + 3 = p1) (d : decode cc pc = .ok (.getfield 11, 3)) (kk : V X lo nL G Q k n ws lc (v :: st) p1) : V X lo nL G Q k n ws lc (.ref a :: st) pc := V_get (ref := "PartSplitter$Tree") C uw_X3 rfl 0 (by decide) fl_X3_11 rfl q0 he hv p1 hp d kk
theorem PX3_11 (C : Cx X lo nL G cc RX3) (hin2 : (xh X).name = "<init>") (q0 : Nat) {fs : List Value} {a : Nat} (he : ws[q0]? = some (a, .inr (3, fs))) {x : Nat} (hl0 : 0 < fs.length) (ws1 : va_W) (hw : ws.set q0 (a, .inr (3, fs.set 0 (.ref x))) = ws1) (p1 : Nat) (hp : pc + 3 = p1) (d : decode cc pc = .ok (.putfield 11, 3)) (kk : V X lo nL G Q k n ws1 lc st p1) : V X lo nL G Q k n ws lc (.ref x :: .ref a :: st) pc := V_putF (ref := "PartSplitter$Tree") C uw_X3 tyX3 tyX3_ok nmX3 rfl 0 (by decide) fl_X3_11 rfl rfl hin2 rfl q0 he rfl rfl hl0 ws1 hw p1 hp d kk
theorem GX3_15 (C : Cx X lo nL G cc RX3) (q0 : Nat) {fs : List Value} {a : Nat} (he : ws[q0]? = some (a, .inr (3, fs))) {v : Value} (hv : fs[1]? = some v) (p1 : Nat) (hp : pc + 3 = p1) (d : decode cc pc = .ok (.getfield 15, 3)) (kk : V X lo nL G Q k n ws lc (v :: st) p1) : V X lo nL G Q k n ws lc (.ref a :: st) pc := V_get (ref := "PartSplitter$Tree") C uw_X3 rfl 1 (by decide) fl_X3_15 rfl q0 he hv p1 hp d kk
theorem PX3_15 (C : Cx X lo nL G cc RX3) (hin2 : (xh X).name = "<init>") (q0 : Nat) {fs : List Value} {a : Nat} (he : ws[q0]? = some (a, .inr (3, fs))) {x : Nat} (hl0 : 1 < fs.length) (ws1 : va_W) (hw : ws.set q0 (a, .inr (3, fs.set 1 (.ref x))) = ws1) (p1 : Nat) (hp : pc + 3 = p1) (d : decode cc pc = .ok (.putfield 15, 3)) (kk : V X lo nL G Q k n ws1 lc st p1) : V X lo nL G Q k n ws lc (.ref x :: .ref a :: st) pc := V_putF (ref := "PartSplitter$Tree") C uw_X3 tyX3 tyX3_ok nmX3 rfl 1 (by decide) fl_X3_15 rfl rfl hin2 rfl q0 he rfl rfl hl0 ws1 hw p1 hp d kk
theorem GX3_19 (C : Cx X lo nL G cc RX3) (q0 : Nat) {fs : List Value} {a : Nat} (he : ws[q0]? = some (a, .inr (3, fs))) {v : Value} (hv : fs[2]? = some v) (p1 : Nat) (hp : pc + 3 = p1) (d : decode cc pc = .ok (.getfield 19, 3)) (kk : V X lo nL G Q k n ws lc (v :: st) p1) : V X lo nL G Q k n ws lc (.ref a :: st) pc := V_get (ref := "PartSplitter$Tree") C uw_X3 rfl 2 (by decide) fl_X3_19 rfl q0 he hv p1 hp d kk
theorem PX3_19 (C : Cx X lo nL G cc RX3) (hin2 : (xh X).name = "<init>") (q0 : Nat) {fs : List Value} {a : Nat} (he : ws[q0]? = some (a, .inr (3, fs))) {x : Nat} (hl0 : 2 < fs.length) (ws1 : va_W) (hw : ws.set q0 (a, .inr (3, fs.set 2 (.ref x))) = ws1) (p1 : Nat) (hp : pc + 3 = p1) (d : decode cc pc = .ok (.putfield 19, 3)) (kk : V X lo nL G Q k n ws1 lc st p1) : V X lo nL G Q k n ws lc (.ref x :: .ref a :: st) pc := V_putF (ref := "PartSplitter$Tree") C uw_X3 tyX3 tyX3_ok nmX3 rfl 2 (by decide) fl_X3_19 rfl rfl hin2 rfl q0 he rfl rfl hl0 ws1 hw p1 hp d kk
theorem GX3_22 (C : Cx X lo nL G cc RX3) (q0 : Nat) {fs : List Value} {a : Nat} (he : ws[q0]? = some (a, .inr (3, fs))) {v : Value} (hv : fs[3]? = some v) (p1 : Nat) (hp : pc + 3 = p1) (d : decode cc pc = .ok (.getfield 22, 3)) (kk : V X lo nL G Q k n ws lc (v :: st) p1) : V X lo nL G Q k n ws lc (.ref a :: st) pc := V_get (ref := "PartSplitter$Tree") C uw_X3 rfl 3 (by decide) fl_X3_22 rfl q0 he hv p1 hp d kk
theorem PX3_22 (C : Cx X lo nL G cc RX3) (q0 : Nat) {fs : List Value} {a : Nat} (he : ws[q0]? = some (a, .inr (3, fs))) {x : Int32} (hl0 : 3 < fs.length) (ws1 : va_W) (hw : ws.set q0 (a, .inr (3, fs.set 3 (.int x))) = ws1) (p1 : Nat) (hp : pc + 3 = p1) (d : decode cc pc = .ok (.putfield 22, 3)) (kk : V X lo nL G Q k n ws1 lc st p1) : V X lo nL G Q k n ws lc (.int x :: .ref a :: st) pc := V_put (ref := "PartSplitter$Tree") C uw_X3 tyX3 tyX3_ok nmX3 rfl 3 (by decide) fl_X3_22 rfl rfl q0 he rfl rfl hl0 ws1 hw p1 hp d kk
theorem KX3_26 (C : Cx X lo nL G cc RX3) {D0 c0 s0 d0 mc ms : Nat} {As rest : List Value} {S : Type} {post : Int32 → S → Prop} {wo : S → va_W} (hM : Mi (xl X) yX4_lettersIn (.code yX4_lettersIn prog_1_method_25_code 3 (some .int)) d0 mc ms lo G As ws post wo) (hX : RmX X D0 c0 s0) (hd : d0 + 1 ≤ D0) (hn : As.length = 1) (hst : st = As.reverse ++ rest) (hrest : (rest.map fun v => v.category).sum ≤ 8) (p1 k1 n1 : Nat) (hp : pc + 3 = p1) (hk : k + mc = k1) (hn1 : n + ms = n1) (hk1 : k1 ≤ c0) (hs1 : n1 ≤ s0) (d : decode cc pc = .ok (.invokestatic 26, 3)) (kk : ∀ (r : Int32) (u : S), post r u → V X lo nL G Q k1 n1 (wo u) lc (.int r :: rest) p1) : V X lo nL G Q k n ws lc st pc := by
  have hR : (rmD d0 mc ms).frames + 1 ≤ (xR X).frames ∧ 8 + (3 + 11) + (rmD d0 mc ms).locals ≤ (xR X).locals := ⟨by show d0 + 1 ≤ _; have := hX.1; omega, by show 8 + (3 + 11) + 40 * d0 ≤ _; have := hX.2.1; omega⟩
  have hf : k + mc ≤ (xR X).cells ∧ n + ms ≤ (xR X).slots := ⟨by have := hX.2.2.1; omega, by have := hX.2.2.2; omega⟩
  exact V_calli (V_runSN (host := "PartSplitter") C hM ⟨by decide +kernel, sm_X4_lettersIn, ii_X4, co_X4_lettersIn⟩ ⟨by decide, by decide, by decide +kernel⟩ hR hn hst hrest hf d) p1 k1 n1 hp hk hn1 kk
theorem KX3_30 (C : Cx X lo nL G cc RX3) {D0 c0 s0 d0 mc ms : Nat} {b : Nat} {As rest : List Value} {S : Type} {post : Int32 → S → Prop} {wo : S → va_W} (hM : Mi (xl X) yX3_madeBelow (.code yX3_madeBelow prog_5_method_3_code 4 (some .int)) d0 mc ms lo G (.ref b :: As) ws post wo) (hX : RmX X D0 c0 s0) (hd : d0 + 1 ≤ D0) (q0 : Nat) {fs : List Value} (he : ws[q0]? = some (b, .inr (3, fs))) (hn : As.length = 2) (hst : st = As.reverse ++ .ref b :: rest) (hrest : (rest.map fun v => v.category).sum ≤ 8) (p1 k1 n1 : Nat) (hp : pc + 3 = p1) (hk : k + mc = k1) (hn1 : n + ms = n1) (hk1 : k1 ≤ c0) (hs1 : n1 ≤ s0) (d : decode cc pc = .ok (.invokevirtual 30, 3)) (kk : ∀ (r : Int32) (u : S), post r u → V X lo nL G Q k1 n1 (wo u) lc (.int r :: rest) p1) : V X lo nL G Q k n ws lc st pc := by
  have hR : (rmD d0 mc ms).frames + 1 ≤ (xR X).frames ∧ 8 + (4 + 11) + (rmD d0 mc ms).locals ≤ (xR X).locals := ⟨by show d0 + 1 ≤ _; have := hX.1; omega, by show 8 + (4 + 11) + 40 * d0 ≤ _; have := hX.2.1; omega⟩
  have hf : k + mc ≤ (xR X).cells ∧ n + ms ≤ (xR X).slots := ⟨by have := hX.2.2.1; omega, by have := hX.2.2.2; omega⟩
  exact V_calli (V_runV C hM ⟨ml_X3_30, im_X3_madeBelow, se_X3_madeBelow, ii_X3, co_X3_madeBelow⟩ ⟨rfl, by decide, by decide, by decide +kernel⟩ hR he rfl hn hst hrest hf d) p1 k1 n1 hp hk hn1 kk
theorem KX3_34 (C : Cx X lo nL G cc RX3) {D0 c0 s0 d0 mc ms : Nat} {b : Nat} {As rest : List Value} {S : Type} {post : Int32 → S → Prop} {wo : S → va_W} (hM : Mi (xl X) yX3_twinOf (.code yX3_twinOf prog_5_method_5_code 3 (some .int)) d0 mc ms lo G (.ref b :: As) ws post wo) (hX : RmX X D0 c0 s0) (hd : d0 + 1 ≤ D0) (q0 : Nat) {fs : List Value} (he : ws[q0]? = some (b, .inr (3, fs))) (hn : As.length = 1) (hst : st = As.reverse ++ .ref b :: rest) (hrest : (rest.map fun v => v.category).sum ≤ 8) (p1 k1 n1 : Nat) (hp : pc + 3 = p1) (hk : k + mc = k1) (hn1 : n + ms = n1) (hk1 : k1 ≤ c0) (hs1 : n1 ≤ s0) (d : decode cc pc = .ok (.invokevirtual 34, 3)) (kk : ∀ (r : Int32) (u : S), post r u → V X lo nL G Q k1 n1 (wo u) lc (.int r :: rest) p1) : V X lo nL G Q k n ws lc st pc := by
  have hR : (rmD d0 mc ms).frames + 1 ≤ (xR X).frames ∧ 8 + (3 + 11) + (rmD d0 mc ms).locals ≤ (xR X).locals := ⟨by show d0 + 1 ≤ _; have := hX.1; omega, by show 8 + (3 + 11) + 40 * d0 ≤ _; have := hX.2.1; omega⟩
  have hf : k + mc ≤ (xR X).cells ∧ n + ms ≤ (xR X).slots := ⟨by have := hX.2.2.1; omega, by have := hX.2.2.2; omega⟩
  exact V_calli (V_runV C hM ⟨ml_X3_34, im_X3_twinOf, se_X3_twinOf, ii_X3, co_X3_twinOf⟩ ⟨rfl, by decide, by decide, by decide +kernel⟩ hR he rfl hn hst hrest hf d) p1 k1 n1 hp hk hn1 kk
theorem KX3_37 (C : Cx X lo nL G cc RX3) {D0 c0 s0 d0 mc ms : Nat} {b : Nat} {As rest : List Value} {S : Type} {post : Int32 → S → Prop} {wo : S → va_W} (hM : Mi (xl X) yX3_isFollowedAlike (.code yX3_isFollowedAlike prog_5_method_6_code 4 (some .boolean)) d0 mc ms lo G (.ref b :: As) ws post wo) (hX : RmX X D0 c0 s0) (hd : d0 + 1 ≤ D0) (q0 : Nat) {fs : List Value} (he : ws[q0]? = some (b, .inr (3, fs))) (hn : As.length = 2) (hst : st = As.reverse ++ .ref b :: rest) (hrest : (rest.map fun v => v.category).sum ≤ 8) (p1 k1 n1 : Nat) (hp : pc + 3 = p1) (hk : k + mc = k1) (hn1 : n + ms = n1) (hk1 : k1 ≤ c0) (hs1 : n1 ≤ s0) (d : decode cc pc = .ok (.invokevirtual 37, 3)) (kk : ∀ (r : Int32) (u : S), post r u → V X lo nL G Q k1 n1 (wo u) lc (.int r :: rest) p1) : V X lo nL G Q k n ws lc st pc := by
  have hR : (rmD d0 mc ms).frames + 1 ≤ (xR X).frames ∧ 8 + (4 + 11) + (rmD d0 mc ms).locals ≤ (xR X).locals := ⟨by show d0 + 1 ≤ _; have := hX.1; omega, by show 8 + (4 + 11) + 40 * d0 ≤ _; have := hX.2.1; omega⟩
  have hf : k + mc ≤ (xR X).cells ∧ n + ms ≤ (xR X).slots := ⟨by have := hX.2.2.1; omega, by have := hX.2.2.2; omega⟩
  exact V_calli (V_runV C hM ⟨ml_X3_37, im_X3_isFollowedAlike, se_X3_isFollowedAlike, ii_X3, co_X3_isFollowedAlike⟩ ⟨rfl, by decide, by decide, by decide +kernel⟩ hR he rfl hn hst hrest hf d) p1 k1 n1 hp hk hn1 kk
theorem KX3_41 (C : Cx X lo nL G cc RX3) {D0 c0 s0 d0 mc ms : Nat} {b : Nat} {As rest : List Value} {S : Type} {post : Int32 → S → Prop} {wo : S → va_W} (hM : Mi (xl X) yX3_twinBelow (.code yX3_twinBelow prog_5_method_7_code 4 (some .int)) d0 mc ms lo G (.ref b :: As) ws post wo) (hX : RmX X D0 c0 s0) (hd : d0 + 1 ≤ D0) (q0 : Nat) {fs : List Value} (he : ws[q0]? = some (b, .inr (3, fs))) (hn : As.length = 2) (hst : st = As.reverse ++ .ref b :: rest) (hrest : (rest.map fun v => v.category).sum ≤ 8) (p1 k1 n1 : Nat) (hp : pc + 3 = p1) (hk : k + mc = k1) (hn1 : n + ms = n1) (hk1 : k1 ≤ c0) (hs1 : n1 ≤ s0) (d : decode cc pc = .ok (.invokevirtual 41, 3)) (kk : ∀ (r : Int32) (u : S), post r u → V X lo nL G Q k1 n1 (wo u) lc (.int r :: rest) p1) : V X lo nL G Q k n ws lc st pc := by
  have hR : (rmD d0 mc ms).frames + 1 ≤ (xR X).frames ∧ 8 + (4 + 11) + (rmD d0 mc ms).locals ≤ (xR X).locals := ⟨by show d0 + 1 ≤ _; have := hX.1; omega, by show 8 + (4 + 11) + 40 * d0 ≤ _; have := hX.2.1; omega⟩
  have hf : k + mc ≤ (xR X).cells ∧ n + ms ≤ (xR X).slots := ⟨by have := hX.2.2.1; omega, by have := hX.2.2.2; omega⟩
  exact V_calli (V_runV C hM ⟨ml_X3_41, im_X3_twinBelow, se_X3_twinBelow, ii_X3, co_X3_twinBelow⟩ ⟨rfl, by decide, by decide, by decide +kernel⟩ hR he rfl hn hst hrest hf d) p1 k1 n1 hp hk hn1 kk
theorem KL_7 (C : Cx X lo nL G cc RL) {D0 c0 s0 d0 mc ms : Nat} {b : Nat} {As rest : List Value} {S : Type} {post : Int32 → S → Prop} {wo : S → va_W} (hM : Mi (xl X) yX4_addPart (.code yX4_addPart prog_1_method_2_code 4 (some .int)) d0 mc ms lo G (.ref b :: As) ws post wo) (hX : RmX X D0 c0 s0) (hd : d0 + 1 ≤ D0) (q0 : Nat) {fs : List Value} (he : ws[q0]? = some (b, .inr (4, fs))) (hn : As.length = 3) (hst : st = As.reverse ++ .ref b :: rest) (hrest : (rest.map fun v => v.category).sum ≤ 8) (p1 k1 n1 : Nat) (hp : pc + 3 = p1) (hk : k + mc = k1) (hn1 : n + ms = n1) (hk1 : k1 ≤ c0) (hs1 : n1 ≤ s0) (d : decode cc pc = .ok (.invokevirtual 7, 3)) (kk : ∀ (r : Int32) (u : S), post r u → V X lo nL G Q k1 n1 (wo u) lc (.int r :: rest) p1) : V X lo nL G Q k n ws lc st pc := by
  have hR : (rmD d0 mc ms).frames + 1 ≤ (xR X).frames ∧ 8 + (4 + 11) + (rmD d0 mc ms).locals ≤ (xR X).locals := ⟨by show d0 + 1 ≤ _; have := hX.1; omega, by show 8 + (4 + 11) + 40 * d0 ≤ _; have := hX.2.1; omega⟩
  have hf : k + mc ≤ (xR X).cells ∧ n + ms ≤ (xR X).slots := ⟨by have := hX.2.2.1; omega, by have := hX.2.2.2; omega⟩
  exact V_calli (V_runV C hM ⟨ml_L_7, im_X4_addPart, se_X4_addPart, ii_X4, co_X4_addPart⟩ ⟨rfl, by decide, by decide, by decide +kernel⟩ hR he rfl hn hst hrest hf d) p1 k1 n1 hp hk hn1 kk
theorem KXL_7 (C : Cx X lo nL G cc RL) {D0 c0 s0 d0 mc ms : Nat} {b : Nat} {As rest : List Value} {px : String → Prop} {S : Type} {post : Int32 → S → Prop} {wo : S → va_W} (hM : Xi (xl X) yX4_addPart (.code yX4_addPart prog_1_method_2_code 4 (some .int)) d0 mc ms lo G (.ref b :: As) ws px post wo) (hX : RmX X D0 c0 s0) (hd : d0 + 1 ≤ D0) (q0 : Nat) {fs : List Value} (he : ws[q0]? = some (b, .inr (4, fs))) (hn : As.length = 3) (hst : st = As.reverse ++ .ref b :: rest) (hrest : (rest.map fun v => v.category).sum ≤ 8) (p1 k1 n1 : Nat) (hp : pc + 3 = p1) (hk : k + mc = k1) (hn1 : n + ms = n1) (hk1 : k1 ≤ c0) (hs1 : n1 ≤ s0) (d : decode cc pc = .ok (.invokevirtual 7, 3)) (kx : ∀ (E : String) (ce : Cell) (q9 : Addr) (H1 : Heap) (locs1 : List Loc) (ls : Array Slot), px E → va_P G.1 vwCl ws H1 → va_D (Lo lo) ws → va_S (Lo lo) (xs X).heap H1 locs1 → lv_has ls nL lc → H1[q9]? = some ce → ce.vm = .none → (xs X).vm.findClass E = some ce.cls → vx_W (xp X) (xl X) (xe X) (xR X) (xs X) (xm X) (xa X) (xb X) (xh X) (xc X) H1 locs1 k1 n1 Q (F0 (xm X) pc ls rest) q9) (kk : ∀ (r : Int32) (u : S), post r u → V X lo nL G Q k1 n1 (wo u) lc (.int r :: rest) p1) : V X lo nL G Q k n ws lc st pc := by
  have hR : (rmD d0 mc ms).frames + 1 ≤ (xR X).frames ∧ 8 + (4 + 11) + (rmD d0 mc ms).locals ≤ (xR X).locals := ⟨by show d0 + 1 ≤ _; have := hX.1; omega, by show 8 + (4 + 11) + 40 * d0 ≤ _; have := hX.2.1; omega⟩
  have hf : k + mc ≤ (xR X).cells ∧ n + ms ≤ (xR X).slots := ⟨by have := hX.2.2.1; omega, by have := hX.2.2.2; omega⟩
  exact V_callXi (V_runVX C hM ⟨ml_L_7, im_X4_addPart, se_X4_addPart, ii_X4, co_X4_addPart⟩ ⟨rfl, by decide, by decide, by decide +kernel⟩ hR he rfl hn hst hrest hf d) p1 k1 n1 hp hk hn1 kx kk
theorem KL_17 (C : Cx X lo nL G cc RL) {D0 c0 s0 d0 mc ms : Nat} {b : Nat} {As rest : List Value} {S : Type} {post : Int32 → S → Prop} {wo : S → va_W} (hM : Mi (xl X) yX4_setFlags (.code yX4_setFlags prog_1_method_3_code 4 (some .int)) d0 mc ms lo G (.ref b :: As) ws post wo) (hX : RmX X D0 c0 s0) (hd : d0 + 1 ≤ D0) (q0 : Nat) {fs : List Value} (he : ws[q0]? = some (b, .inr (4, fs))) (hn : As.length = 2) (hst : st = As.reverse ++ .ref b :: rest) (hrest : (rest.map fun v => v.category).sum ≤ 8) (p1 k1 n1 : Nat) (hp : pc + 3 = p1) (hk : k + mc = k1) (hn1 : n + ms = n1) (hk1 : k1 ≤ c0) (hs1 : n1 ≤ s0) (d : decode cc pc = .ok (.invokevirtual 17, 3)) (kk : ∀ (r : Int32) (u : S), post r u → V X lo nL G Q k1 n1 (wo u) lc (.int r :: rest) p1) : V X lo nL G Q k n ws lc st pc := by
  have hR : (rmD d0 mc ms).frames + 1 ≤ (xR X).frames ∧ 8 + (4 + 11) + (rmD d0 mc ms).locals ≤ (xR X).locals := ⟨by show d0 + 1 ≤ _; have := hX.1; omega, by show 8 + (4 + 11) + 40 * d0 ≤ _; have := hX.2.1; omega⟩
  have hf : k + mc ≤ (xR X).cells ∧ n + ms ≤ (xR X).slots := ⟨by have := hX.2.2.1; omega, by have := hX.2.2.2; omega⟩
  exact V_calli (V_runV C hM ⟨ml_L_17, im_X4_setFlags, se_X4_setFlags, ii_X4, co_X4_setFlags⟩ ⟨rfl, by decide, by decide, by decide +kernel⟩ hR he rfl hn hst hrest hf d) p1 k1 n1 hp hk hn1 kk
theorem KXL_17 (C : Cx X lo nL G cc RL) {D0 c0 s0 d0 mc ms : Nat} {b : Nat} {As rest : List Value} {px : String → Prop} {S : Type} {post : Int32 → S → Prop} {wo : S → va_W} (hM : Xi (xl X) yX4_setFlags (.code yX4_setFlags prog_1_method_3_code 4 (some .int)) d0 mc ms lo G (.ref b :: As) ws px post wo) (hX : RmX X D0 c0 s0) (hd : d0 + 1 ≤ D0) (q0 : Nat) {fs : List Value} (he : ws[q0]? = some (b, .inr (4, fs))) (hn : As.length = 2) (hst : st = As.reverse ++ .ref b :: rest) (hrest : (rest.map fun v => v.category).sum ≤ 8) (p1 k1 n1 : Nat) (hp : pc + 3 = p1) (hk : k + mc = k1) (hn1 : n + ms = n1) (hk1 : k1 ≤ c0) (hs1 : n1 ≤ s0) (d : decode cc pc = .ok (.invokevirtual 17, 3)) (kx : ∀ (E : String) (ce : Cell) (q9 : Addr) (H1 : Heap) (locs1 : List Loc) (ls : Array Slot), px E → va_P G.1 vwCl ws H1 → va_D (Lo lo) ws → va_S (Lo lo) (xs X).heap H1 locs1 → lv_has ls nL lc → H1[q9]? = some ce → ce.vm = .none → (xs X).vm.findClass E = some ce.cls → vx_W (xp X) (xl X) (xe X) (xR X) (xs X) (xm X) (xa X) (xb X) (xh X) (xc X) H1 locs1 k1 n1 Q (F0 (xm X) pc ls rest) q9) (kk : ∀ (r : Int32) (u : S), post r u → V X lo nL G Q k1 n1 (wo u) lc (.int r :: rest) p1) : V X lo nL G Q k n ws lc st pc := by
  have hR : (rmD d0 mc ms).frames + 1 ≤ (xR X).frames ∧ 8 + (4 + 11) + (rmD d0 mc ms).locals ≤ (xR X).locals := ⟨by show d0 + 1 ≤ _; have := hX.1; omega, by show 8 + (4 + 11) + 40 * d0 ≤ _; have := hX.2.1; omega⟩
  have hf : k + mc ≤ (xR X).cells ∧ n + ms ≤ (xR X).slots := ⟨by have := hX.2.2.1; omega, by have := hX.2.2.2; omega⟩
  exact V_callXi (V_runVX C hM ⟨ml_L_17, im_X4_setFlags, se_X4_setFlags, ii_X4, co_X4_setFlags⟩ ⟨rfl, by decide, by decide, by decide +kernel⟩ hR he rfl hn hst hrest hf d) p1 k1 n1 hp hk hn1 kx kk
theorem KL_23 (C : Cx X lo nL G cc RL) {D0 c0 s0 d0 mc ms : Nat} {b : Nat} {As rest : List Value} {S : Type} {post : Int32 → S → Prop} {wo : S → va_W} (hM : Mi (xl X) yX4_addLink (.code yX4_addLink prog_1_method_4_code 2 (some .int)) d0 mc ms lo G (.ref b :: As) ws post wo) (hX : RmX X D0 c0 s0) (hd : d0 + 1 ≤ D0) (q0 : Nat) {fs : List Value} (he : ws[q0]? = some (b, .inr (4, fs))) (hn : As.length = 1) (hst : st = As.reverse ++ .ref b :: rest) (hrest : (rest.map fun v => v.category).sum ≤ 8) (p1 k1 n1 : Nat) (hp : pc + 3 = p1) (hk : k + mc = k1) (hn1 : n + ms = n1) (hk1 : k1 ≤ c0) (hs1 : n1 ≤ s0) (d : decode cc pc = .ok (.invokevirtual 23, 3)) (kk : ∀ (r : Int32) (u : S), post r u → V X lo nL G Q k1 n1 (wo u) lc (.int r :: rest) p1) : V X lo nL G Q k n ws lc st pc := by
  have hR : (rmD d0 mc ms).frames + 1 ≤ (xR X).frames ∧ 8 + (2 + 11) + (rmD d0 mc ms).locals ≤ (xR X).locals := ⟨by show d0 + 1 ≤ _; have := hX.1; omega, by show 8 + (2 + 11) + 40 * d0 ≤ _; have := hX.2.1; omega⟩
  have hf : k + mc ≤ (xR X).cells ∧ n + ms ≤ (xR X).slots := ⟨by have := hX.2.2.1; omega, by have := hX.2.2.2; omega⟩
  exact V_calli (V_runV C hM ⟨ml_L_23, im_X4_addLink, se_X4_addLink, ii_X4, co_X4_addLink⟩ ⟨rfl, by decide, by decide, by decide +kernel⟩ hR he rfl hn hst hrest hf d) p1 k1 n1 hp hk hn1 kk
theorem KXL_23 (C : Cx X lo nL G cc RL) {D0 c0 s0 d0 mc ms : Nat} {b : Nat} {As rest : List Value} {px : String → Prop} {S : Type} {post : Int32 → S → Prop} {wo : S → va_W} (hM : Xi (xl X) yX4_addLink (.code yX4_addLink prog_1_method_4_code 2 (some .int)) d0 mc ms lo G (.ref b :: As) ws px post wo) (hX : RmX X D0 c0 s0) (hd : d0 + 1 ≤ D0) (q0 : Nat) {fs : List Value} (he : ws[q0]? = some (b, .inr (4, fs))) (hn : As.length = 1) (hst : st = As.reverse ++ .ref b :: rest) (hrest : (rest.map fun v => v.category).sum ≤ 8) (p1 k1 n1 : Nat) (hp : pc + 3 = p1) (hk : k + mc = k1) (hn1 : n + ms = n1) (hk1 : k1 ≤ c0) (hs1 : n1 ≤ s0) (d : decode cc pc = .ok (.invokevirtual 23, 3)) (kx : ∀ (E : String) (ce : Cell) (q9 : Addr) (H1 : Heap) (locs1 : List Loc) (ls : Array Slot), px E → va_P G.1 vwCl ws H1 → va_D (Lo lo) ws → va_S (Lo lo) (xs X).heap H1 locs1 → lv_has ls nL lc → H1[q9]? = some ce → ce.vm = .none → (xs X).vm.findClass E = some ce.cls → vx_W (xp X) (xl X) (xe X) (xR X) (xs X) (xm X) (xa X) (xb X) (xh X) (xc X) H1 locs1 k1 n1 Q (F0 (xm X) pc ls rest) q9) (kk : ∀ (r : Int32) (u : S), post r u → V X lo nL G Q k1 n1 (wo u) lc (.int r :: rest) p1) : V X lo nL G Q k n ws lc st pc := by
  have hR : (rmD d0 mc ms).frames + 1 ≤ (xR X).frames ∧ 8 + (2 + 11) + (rmD d0 mc ms).locals ≤ (xR X).locals := ⟨by show d0 + 1 ≤ _; have := hX.1; omega, by show 8 + (2 + 11) + 40 * d0 ≤ _; have := hX.2.1; omega⟩
  have hf : k + mc ≤ (xR X).cells ∧ n + ms ≤ (xR X).slots := ⟨by have := hX.2.2.1; omega, by have := hX.2.2.2; omega⟩
  exact V_callXi (V_runVX C hM ⟨ml_L_23, im_X4_addLink, se_X4_addLink, ii_X4, co_X4_addLink⟩ ⟨rfl, by decide, by decide, by decide +kernel⟩ hR he rfl hn hst hrest hf d) p1 k1 n1 hp hk hn1 kx kk
theorem KL_27 (C : Cx X lo nL G cc RL) {D0 c0 s0 d0 mc ms : Nat} {b : Nat} {As rest : List Value} {S : Type} {post : Int32 → S → Prop} {wo : S → va_W} (hM : Mi (xl X) yX4_veto (.code yX4_veto prog_1_method_5_code 6 (some .boolean)) d0 mc ms lo G (.ref b :: As) ws post wo) (hX : RmX X D0 c0 s0) (hd : d0 + 1 ≤ D0) (q0 : Nat) {fs : List Value} (he : ws[q0]? = some (b, .inr (4, fs))) (hn : As.length = 3) (hst : st = As.reverse ++ .ref b :: rest) (hrest : (rest.map fun v => v.category).sum ≤ 8) (p1 k1 n1 : Nat) (hp : pc + 3 = p1) (hk : k + mc = k1) (hn1 : n + ms = n1) (hk1 : k1 ≤ c0) (hs1 : n1 ≤ s0) (d : decode cc pc = .ok (.invokevirtual 27, 3)) (kk : ∀ (r : Int32) (u : S), post r u → V X lo nL G Q k1 n1 (wo u) lc (.int r :: rest) p1) : V X lo nL G Q k n ws lc st pc := by
  have hR : (rmD d0 mc ms).frames + 1 ≤ (xR X).frames ∧ 8 + (6 + 11) + (rmD d0 mc ms).locals ≤ (xR X).locals := ⟨by show d0 + 1 ≤ _; have := hX.1; omega, by show 8 + (6 + 11) + 40 * d0 ≤ _; have := hX.2.1; omega⟩
  have hf : k + mc ≤ (xR X).cells ∧ n + ms ≤ (xR X).slots := ⟨by have := hX.2.2.1; omega, by have := hX.2.2.2; omega⟩
  exact V_calli (V_runV C hM ⟨ml_L_27, im_X4_veto, se_X4_veto, ii_X4, co_X4_veto⟩ ⟨rfl, by decide, by decide, by decide +kernel⟩ hR he rfl hn hst hrest hf d) p1 k1 n1 hp hk hn1 kk
theorem KXL_27 (C : Cx X lo nL G cc RL) {D0 c0 s0 d0 mc ms : Nat} {b : Nat} {As rest : List Value} {px : String → Prop} {S : Type} {post : Int32 → S → Prop} {wo : S → va_W} (hM : Xi (xl X) yX4_veto (.code yX4_veto prog_1_method_5_code 6 (some .boolean)) d0 mc ms lo G (.ref b :: As) ws px post wo) (hX : RmX X D0 c0 s0) (hd : d0 + 1 ≤ D0) (q0 : Nat) {fs : List Value} (he : ws[q0]? = some (b, .inr (4, fs))) (hn : As.length = 3) (hst : st = As.reverse ++ .ref b :: rest) (hrest : (rest.map fun v => v.category).sum ≤ 8) (p1 k1 n1 : Nat) (hp : pc + 3 = p1) (hk : k + mc = k1) (hn1 : n + ms = n1) (hk1 : k1 ≤ c0) (hs1 : n1 ≤ s0) (d : decode cc pc = .ok (.invokevirtual 27, 3)) (kx : ∀ (E : String) (ce : Cell) (q9 : Addr) (H1 : Heap) (locs1 : List Loc) (ls : Array Slot), px E → va_P G.1 vwCl ws H1 → va_D (Lo lo) ws → va_S (Lo lo) (xs X).heap H1 locs1 → lv_has ls nL lc → H1[q9]? = some ce → ce.vm = .none → (xs X).vm.findClass E = some ce.cls → vx_W (xp X) (xl X) (xe X) (xR X) (xs X) (xm X) (xa X) (xb X) (xh X) (xc X) H1 locs1 k1 n1 Q (F0 (xm X) pc ls rest) q9) (kk : ∀ (r : Int32) (u : S), post r u → V X lo nL G Q k1 n1 (wo u) lc (.int r :: rest) p1) : V X lo nL G Q k n ws lc st pc := by
  have hR : (rmD d0 mc ms).frames + 1 ≤ (xR X).frames ∧ 8 + (6 + 11) + (rmD d0 mc ms).locals ≤ (xR X).locals := ⟨by show d0 + 1 ≤ _; have := hX.1; omega, by show 8 + (6 + 11) + 40 * d0 ≤ _; have := hX.2.1; omega⟩
  have hf : k + mc ≤ (xR X).cells ∧ n + ms ≤ (xR X).slots := ⟨by have := hX.2.2.1; omega, by have := hX.2.2.2; omega⟩
  exact V_callXi (V_runVX C hM ⟨ml_L_27, im_X4_veto, se_X4_veto, ii_X4, co_X4_veto⟩ ⟨rfl, by decide, by decide, by decide +kernel⟩ hR he rfl hn hst hrest hf d) p1 k1 n1 hp hk hn1 kx kk
theorem KL_31 (C : Cx X lo nL G cc RL) {D0 c0 s0 d0 mc ms : Nat} {b : Nat} {As rest : List Value} {S : Type} {post : Int32 → S → Prop} {wo : S → va_W} (hM : Mi (xl X) yX4_bar (.code yX4_bar prog_1_method_6_code 6 (some .boolean)) d0 mc ms lo G (.ref b :: As) ws post wo) (hX : RmX X D0 c0 s0) (hd : d0 + 1 ≤ D0) (q0 : Nat) {fs : List Value} (he : ws[q0]? = some (b, .inr (4, fs))) (hn : As.length = 3) (hst : st = As.reverse ++ .ref b :: rest) (hrest : (rest.map fun v => v.category).sum ≤ 8) (p1 k1 n1 : Nat) (hp : pc + 3 = p1) (hk : k + mc = k1) (hn1 : n + ms = n1) (hk1 : k1 ≤ c0) (hs1 : n1 ≤ s0) (d : decode cc pc = .ok (.invokevirtual 31, 3)) (kk : ∀ (r : Int32) (u : S), post r u → V X lo nL G Q k1 n1 (wo u) lc (.int r :: rest) p1) : V X lo nL G Q k n ws lc st pc := by
  have hR : (rmD d0 mc ms).frames + 1 ≤ (xR X).frames ∧ 8 + (6 + 11) + (rmD d0 mc ms).locals ≤ (xR X).locals := ⟨by show d0 + 1 ≤ _; have := hX.1; omega, by show 8 + (6 + 11) + 40 * d0 ≤ _; have := hX.2.1; omega⟩
  have hf : k + mc ≤ (xR X).cells ∧ n + ms ≤ (xR X).slots := ⟨by have := hX.2.2.1; omega, by have := hX.2.2.2; omega⟩
  exact V_calli (V_runV C hM ⟨ml_L_31, im_X4_bar, se_X4_bar, ii_X4, co_X4_bar⟩ ⟨rfl, by decide, by decide, by decide +kernel⟩ hR he rfl hn hst hrest hf d) p1 k1 n1 hp hk hn1 kk
theorem KXL_31 (C : Cx X lo nL G cc RL) {D0 c0 s0 d0 mc ms : Nat} {b : Nat} {As rest : List Value} {px : String → Prop} {S : Type} {post : Int32 → S → Prop} {wo : S → va_W} (hM : Xi (xl X) yX4_bar (.code yX4_bar prog_1_method_6_code 6 (some .boolean)) d0 mc ms lo G (.ref b :: As) ws px post wo) (hX : RmX X D0 c0 s0) (hd : d0 + 1 ≤ D0) (q0 : Nat) {fs : List Value} (he : ws[q0]? = some (b, .inr (4, fs))) (hn : As.length = 3) (hst : st = As.reverse ++ .ref b :: rest) (hrest : (rest.map fun v => v.category).sum ≤ 8) (p1 k1 n1 : Nat) (hp : pc + 3 = p1) (hk : k + mc = k1) (hn1 : n + ms = n1) (hk1 : k1 ≤ c0) (hs1 : n1 ≤ s0) (d : decode cc pc = .ok (.invokevirtual 31, 3)) (kx : ∀ (E : String) (ce : Cell) (q9 : Addr) (H1 : Heap) (locs1 : List Loc) (ls : Array Slot), px E → va_P G.1 vwCl ws H1 → va_D (Lo lo) ws → va_S (Lo lo) (xs X).heap H1 locs1 → lv_has ls nL lc → H1[q9]? = some ce → ce.vm = .none → (xs X).vm.findClass E = some ce.cls → vx_W (xp X) (xl X) (xe X) (xR X) (xs X) (xm X) (xa X) (xb X) (xh X) (xc X) H1 locs1 k1 n1 Q (F0 (xm X) pc ls rest) q9) (kk : ∀ (r : Int32) (u : S), post r u → V X lo nL G Q k1 n1 (wo u) lc (.int r :: rest) p1) : V X lo nL G Q k n ws lc st pc := by
  have hR : (rmD d0 mc ms).frames + 1 ≤ (xR X).frames ∧ 8 + (6 + 11) + (rmD d0 mc ms).locals ≤ (xR X).locals := ⟨by show d0 + 1 ≤ _; have := hX.1; omega, by show 8 + (6 + 11) + 40 * d0 ≤ _; have := hX.2.1; omega⟩
  have hf : k + mc ≤ (xR X).cells ∧ n + ms ≤ (xR X).slots := ⟨by have := hX.2.2.1; omega, by have := hX.2.2.2; omega⟩
  exact V_callXi (V_runVX C hM ⟨ml_L_31, im_X4_bar, se_X4_bar, ii_X4, co_X4_bar⟩ ⟨rfl, by decide, by decide, by decide +kernel⟩ hR he rfl hn hst hrest hf d) p1 k1 n1 hp hk hn1 kx kk
theorem KL_34 (C : Cx X lo nL G cc RL) {D0 c0 s0 d0 mc ms : Nat} {b : Nat} {As rest : List Value} {S : Type} {post : Int32 → S → Prop} {wo : S → va_W} (hM : Mi (xl X) yX4_count (.code yX4_count prog_1_method_8_code 2 (some .int)) d0 mc ms lo G (.ref b :: As) ws post wo) (hX : RmX X D0 c0 s0) (hd : d0 + 1 ≤ D0) (q0 : Nat) {fs : List Value} (he : ws[q0]? = some (b, .inr (4, fs))) (hn : As.length = 1) (hst : st = As.reverse ++ .ref b :: rest) (hrest : (rest.map fun v => v.category).sum ≤ 8) (p1 k1 n1 : Nat) (hp : pc + 3 = p1) (hk : k + mc = k1) (hn1 : n + ms = n1) (hk1 : k1 ≤ c0) (hs1 : n1 ≤ s0) (d : decode cc pc = .ok (.invokevirtual 34, 3)) (kk : ∀ (r : Int32) (u : S), post r u → V X lo nL G Q k1 n1 (wo u) lc (.int r :: rest) p1) : V X lo nL G Q k n ws lc st pc := by
  have hR : (rmD d0 mc ms).frames + 1 ≤ (xR X).frames ∧ 8 + (2 + 11) + (rmD d0 mc ms).locals ≤ (xR X).locals := ⟨by show d0 + 1 ≤ _; have := hX.1; omega, by show 8 + (2 + 11) + 40 * d0 ≤ _; have := hX.2.1; omega⟩
  have hf : k + mc ≤ (xR X).cells ∧ n + ms ≤ (xR X).slots := ⟨by have := hX.2.2.1; omega, by have := hX.2.2.2; omega⟩
  exact V_calli (V_runV C hM ⟨ml_L_34, im_X4_count, se_X4_count, ii_X4, co_X4_count⟩ ⟨rfl, by decide, by decide, by decide +kernel⟩ hR he rfl hn hst hrest hf d) p1 k1 n1 hp hk hn1 kk
theorem KXL_34 (C : Cx X lo nL G cc RL) {D0 c0 s0 d0 mc ms : Nat} {b : Nat} {As rest : List Value} {px : String → Prop} {S : Type} {post : Int32 → S → Prop} {wo : S → va_W} (hM : Xi (xl X) yX4_count (.code yX4_count prog_1_method_8_code 2 (some .int)) d0 mc ms lo G (.ref b :: As) ws px post wo) (hX : RmX X D0 c0 s0) (hd : d0 + 1 ≤ D0) (q0 : Nat) {fs : List Value} (he : ws[q0]? = some (b, .inr (4, fs))) (hn : As.length = 1) (hst : st = As.reverse ++ .ref b :: rest) (hrest : (rest.map fun v => v.category).sum ≤ 8) (p1 k1 n1 : Nat) (hp : pc + 3 = p1) (hk : k + mc = k1) (hn1 : n + ms = n1) (hk1 : k1 ≤ c0) (hs1 : n1 ≤ s0) (d : decode cc pc = .ok (.invokevirtual 34, 3)) (kx : ∀ (E : String) (ce : Cell) (q9 : Addr) (H1 : Heap) (locs1 : List Loc) (ls : Array Slot), px E → va_P G.1 vwCl ws H1 → va_D (Lo lo) ws → va_S (Lo lo) (xs X).heap H1 locs1 → lv_has ls nL lc → H1[q9]? = some ce → ce.vm = .none → (xs X).vm.findClass E = some ce.cls → vx_W (xp X) (xl X) (xe X) (xR X) (xs X) (xm X) (xa X) (xb X) (xh X) (xc X) H1 locs1 k1 n1 Q (F0 (xm X) pc ls rest) q9) (kk : ∀ (r : Int32) (u : S), post r u → V X lo nL G Q k1 n1 (wo u) lc (.int r :: rest) p1) : V X lo nL G Q k n ws lc st pc := by
  have hR : (rmD d0 mc ms).frames + 1 ≤ (xR X).frames ∧ 8 + (2 + 11) + (rmD d0 mc ms).locals ≤ (xR X).locals := ⟨by show d0 + 1 ≤ _; have := hX.1; omega, by show 8 + (2 + 11) + 40 * d0 ≤ _; have := hX.2.1; omega⟩
  have hf : k + mc ≤ (xR X).cells ∧ n + ms ≤ (xR X).slots := ⟨by have := hX.2.2.1; omega, by have := hX.2.2.2; omega⟩
  exact V_callXi (V_runVX C hM ⟨ml_L_34, im_X4_count, se_X4_count, ii_X4, co_X4_count⟩ ⟨rfl, by decide, by decide, by decide +kernel⟩ hR he rfl hn hst hrest hf d) p1 k1 n1 hp hk hn1 kx kk
theorem KL_37 (C : Cx X lo nL G cc RL) {D0 c0 s0 d0 mc ms : Nat} {b : Nat} {As rest : List Value} {S : Type} {post : Int32 → S → Prop} {wo : S → va_W} (hM : Mi (xl X) yX4_costOf (.code yX4_costOf prog_1_method_9_code 2 (some .int)) d0 mc ms lo G (.ref b :: As) ws post wo) (hX : RmX X D0 c0 s0) (hd : d0 + 1 ≤ D0) (q0 : Nat) {fs : List Value} (he : ws[q0]? = some (b, .inr (4, fs))) (hn : As.length = 1) (hst : st = As.reverse ++ .ref b :: rest) (hrest : (rest.map fun v => v.category).sum ≤ 8) (p1 k1 n1 : Nat) (hp : pc + 3 = p1) (hk : k + mc = k1) (hn1 : n + ms = n1) (hk1 : k1 ≤ c0) (hs1 : n1 ≤ s0) (d : decode cc pc = .ok (.invokevirtual 37, 3)) (kk : ∀ (r : Int32) (u : S), post r u → V X lo nL G Q k1 n1 (wo u) lc (.int r :: rest) p1) : V X lo nL G Q k n ws lc st pc := by
  have hR : (rmD d0 mc ms).frames + 1 ≤ (xR X).frames ∧ 8 + (2 + 11) + (rmD d0 mc ms).locals ≤ (xR X).locals := ⟨by show d0 + 1 ≤ _; have := hX.1; omega, by show 8 + (2 + 11) + 40 * d0 ≤ _; have := hX.2.1; omega⟩
  have hf : k + mc ≤ (xR X).cells ∧ n + ms ≤ (xR X).slots := ⟨by have := hX.2.2.1; omega, by have := hX.2.2.2; omega⟩
  exact V_calli (V_runV C hM ⟨ml_L_37, im_X4_costOf, se_X4_costOf, ii_X4, co_X4_costOf⟩ ⟨rfl, by decide, by decide, by decide +kernel⟩ hR he rfl hn hst hrest hf d) p1 k1 n1 hp hk hn1 kk
theorem KXL_37 (C : Cx X lo nL G cc RL) {D0 c0 s0 d0 mc ms : Nat} {b : Nat} {As rest : List Value} {px : String → Prop} {S : Type} {post : Int32 → S → Prop} {wo : S → va_W} (hM : Xi (xl X) yX4_costOf (.code yX4_costOf prog_1_method_9_code 2 (some .int)) d0 mc ms lo G (.ref b :: As) ws px post wo) (hX : RmX X D0 c0 s0) (hd : d0 + 1 ≤ D0) (q0 : Nat) {fs : List Value} (he : ws[q0]? = some (b, .inr (4, fs))) (hn : As.length = 1) (hst : st = As.reverse ++ .ref b :: rest) (hrest : (rest.map fun v => v.category).sum ≤ 8) (p1 k1 n1 : Nat) (hp : pc + 3 = p1) (hk : k + mc = k1) (hn1 : n + ms = n1) (hk1 : k1 ≤ c0) (hs1 : n1 ≤ s0) (d : decode cc pc = .ok (.invokevirtual 37, 3)) (kx : ∀ (E : String) (ce : Cell) (q9 : Addr) (H1 : Heap) (locs1 : List Loc) (ls : Array Slot), px E → va_P G.1 vwCl ws H1 → va_D (Lo lo) ws → va_S (Lo lo) (xs X).heap H1 locs1 → lv_has ls nL lc → H1[q9]? = some ce → ce.vm = .none → (xs X).vm.findClass E = some ce.cls → vx_W (xp X) (xl X) (xe X) (xR X) (xs X) (xm X) (xa X) (xb X) (xh X) (xc X) H1 locs1 k1 n1 Q (F0 (xm X) pc ls rest) q9) (kk : ∀ (r : Int32) (u : S), post r u → V X lo nL G Q k1 n1 (wo u) lc (.int r :: rest) p1) : V X lo nL G Q k n ws lc st pc := by
  have hR : (rmD d0 mc ms).frames + 1 ≤ (xR X).frames ∧ 8 + (2 + 11) + (rmD d0 mc ms).locals ≤ (xR X).locals := ⟨by show d0 + 1 ≤ _; have := hX.1; omega, by show 8 + (2 + 11) + 40 * d0 ≤ _; have := hX.2.1; omega⟩
  have hf : k + mc ≤ (xR X).cells ∧ n + ms ≤ (xR X).slots := ⟨by have := hX.2.2.1; omega, by have := hX.2.2.2; omega⟩
  exact V_callXi (V_runVX C hM ⟨ml_L_37, im_X4_costOf, se_X4_costOf, ii_X4, co_X4_costOf⟩ ⟨rfl, by decide, by decide, by decide +kernel⟩ hR he rfl hn hst hrest hf d) p1 k1 n1 hp hk hn1 kx kk
theorem KL_40 (C : Cx X lo nL G cc RL) {D0 c0 s0 d0 mc ms : Nat} {b : Nat} {As rest : List Value} {S : Type} {post : Int32 → S → Prop} {wo : S → va_W} (hM : Mi (xl X) yX4_find (.code yX4_find prog_1_method_10_code 2 (some .int)) d0 mc ms lo G (.ref b :: As) ws post wo) (hX : RmX X D0 c0 s0) (hd : d0 + 1 ≤ D0) (q0 : Nat) {fs : List Value} (he : ws[q0]? = some (b, .inr (4, fs))) (hn : As.length = 1) (hst : st = As.reverse ++ .ref b :: rest) (hrest : (rest.map fun v => v.category).sum ≤ 8) (p1 k1 n1 : Nat) (hp : pc + 3 = p1) (hk : k + mc = k1) (hn1 : n + ms = n1) (hk1 : k1 ≤ c0) (hs1 : n1 ≤ s0) (d : decode cc pc = .ok (.invokevirtual 40, 3)) (kk : ∀ (r : Int32) (u : S), post r u → V X lo nL G Q k1 n1 (wo u) lc (.int r :: rest) p1) : V X lo nL G Q k n ws lc st pc := by
  have hR : (rmD d0 mc ms).frames + 1 ≤ (xR X).frames ∧ 8 + (2 + 11) + (rmD d0 mc ms).locals ≤ (xR X).locals := ⟨by show d0 + 1 ≤ _; have := hX.1; omega, by show 8 + (2 + 11) + 40 * d0 ≤ _; have := hX.2.1; omega⟩
  have hf : k + mc ≤ (xR X).cells ∧ n + ms ≤ (xR X).slots := ⟨by have := hX.2.2.1; omega, by have := hX.2.2.2; omega⟩
  exact V_calli (V_runV C hM ⟨ml_L_40, im_X4_find, se_X4_find, ii_X4, co_X4_find⟩ ⟨rfl, by decide, by decide, by decide +kernel⟩ hR he rfl hn hst hrest hf d) p1 k1 n1 hp hk hn1 kk
theorem KXL_40 (C : Cx X lo nL G cc RL) {D0 c0 s0 d0 mc ms : Nat} {b : Nat} {As rest : List Value} {px : String → Prop} {S : Type} {post : Int32 → S → Prop} {wo : S → va_W} (hM : Xi (xl X) yX4_find (.code yX4_find prog_1_method_10_code 2 (some .int)) d0 mc ms lo G (.ref b :: As) ws px post wo) (hX : RmX X D0 c0 s0) (hd : d0 + 1 ≤ D0) (q0 : Nat) {fs : List Value} (he : ws[q0]? = some (b, .inr (4, fs))) (hn : As.length = 1) (hst : st = As.reverse ++ .ref b :: rest) (hrest : (rest.map fun v => v.category).sum ≤ 8) (p1 k1 n1 : Nat) (hp : pc + 3 = p1) (hk : k + mc = k1) (hn1 : n + ms = n1) (hk1 : k1 ≤ c0) (hs1 : n1 ≤ s0) (d : decode cc pc = .ok (.invokevirtual 40, 3)) (kx : ∀ (E : String) (ce : Cell) (q9 : Addr) (H1 : Heap) (locs1 : List Loc) (ls : Array Slot), px E → va_P G.1 vwCl ws H1 → va_D (Lo lo) ws → va_S (Lo lo) (xs X).heap H1 locs1 → lv_has ls nL lc → H1[q9]? = some ce → ce.vm = .none → (xs X).vm.findClass E = some ce.cls → vx_W (xp X) (xl X) (xe X) (xR X) (xs X) (xm X) (xa X) (xb X) (xh X) (xc X) H1 locs1 k1 n1 Q (F0 (xm X) pc ls rest) q9) (kk : ∀ (r : Int32) (u : S), post r u → V X lo nL G Q k1 n1 (wo u) lc (.int r :: rest) p1) : V X lo nL G Q k n ws lc st pc := by
  have hR : (rmD d0 mc ms).frames + 1 ≤ (xR X).frames ∧ 8 + (2 + 11) + (rmD d0 mc ms).locals ≤ (xR X).locals := ⟨by show d0 + 1 ≤ _; have := hX.1; omega, by show 8 + (2 + 11) + 40 * d0 ≤ _; have := hX.2.1; omega⟩
  have hf : k + mc ≤ (xR X).cells ∧ n + ms ≤ (xR X).slots := ⟨by have := hX.2.2.1; omega, by have := hX.2.2.2; omega⟩
  exact V_callXi (V_runVX C hM ⟨ml_L_40, im_X4_find, se_X4_find, ii_X4, co_X4_find⟩ ⟨rfl, by decide, by decide, by decide +kernel⟩ hR he rfl hn hst hrest hf d) p1 k1 n1 hp hk hn1 kx kk
theorem KL_43 (C : Cx X lo nL G cc RL) {D0 c0 s0 d0 mc ms : Nat} {b : Nat} {As rest : List Value} {S : Type} {post : Int32 → S → Prop} {wo : S → va_W} (hM : Mi (xl X) yX4_splits (.code yX4_splits prog_1_method_12_code 2 (some .int)) d0 mc ms lo G (.ref b :: As) ws post wo) (hX : RmX X D0 c0 s0) (hd : d0 + 1 ≤ D0) (q0 : Nat) {fs : List Value} (he : ws[q0]? = some (b, .inr (4, fs))) (hn : As.length = 1) (hst : st = As.reverse ++ .ref b :: rest) (hrest : (rest.map fun v => v.category).sum ≤ 8) (p1 k1 n1 : Nat) (hp : pc + 3 = p1) (hk : k + mc = k1) (hn1 : n + ms = n1) (hk1 : k1 ≤ c0) (hs1 : n1 ≤ s0) (d : decode cc pc = .ok (.invokevirtual 43, 3)) (kk : ∀ (r : Int32) (u : S), post r u → V X lo nL G Q k1 n1 (wo u) lc (.int r :: rest) p1) : V X lo nL G Q k n ws lc st pc := by
  have hR : (rmD d0 mc ms).frames + 1 ≤ (xR X).frames ∧ 8 + (2 + 11) + (rmD d0 mc ms).locals ≤ (xR X).locals := ⟨by show d0 + 1 ≤ _; have := hX.1; omega, by show 8 + (2 + 11) + 40 * d0 ≤ _; have := hX.2.1; omega⟩
  have hf : k + mc ≤ (xR X).cells ∧ n + ms ≤ (xR X).slots := ⟨by have := hX.2.2.1; omega, by have := hX.2.2.2; omega⟩
  exact V_calli (V_runV C hM ⟨ml_L_43, im_X4_splits, se_X4_splits, ii_X4, co_X4_splits⟩ ⟨rfl, by decide, by decide, by decide +kernel⟩ hR he rfl hn hst hrest hf d) p1 k1 n1 hp hk hn1 kk
theorem KXL_43 (C : Cx X lo nL G cc RL) {D0 c0 s0 d0 mc ms : Nat} {b : Nat} {As rest : List Value} {px : String → Prop} {S : Type} {post : Int32 → S → Prop} {wo : S → va_W} (hM : Xi (xl X) yX4_splits (.code yX4_splits prog_1_method_12_code 2 (some .int)) d0 mc ms lo G (.ref b :: As) ws px post wo) (hX : RmX X D0 c0 s0) (hd : d0 + 1 ≤ D0) (q0 : Nat) {fs : List Value} (he : ws[q0]? = some (b, .inr (4, fs))) (hn : As.length = 1) (hst : st = As.reverse ++ .ref b :: rest) (hrest : (rest.map fun v => v.category).sum ≤ 8) (p1 k1 n1 : Nat) (hp : pc + 3 = p1) (hk : k + mc = k1) (hn1 : n + ms = n1) (hk1 : k1 ≤ c0) (hs1 : n1 ≤ s0) (d : decode cc pc = .ok (.invokevirtual 43, 3)) (kx : ∀ (E : String) (ce : Cell) (q9 : Addr) (H1 : Heap) (locs1 : List Loc) (ls : Array Slot), px E → va_P G.1 vwCl ws H1 → va_D (Lo lo) ws → va_S (Lo lo) (xs X).heap H1 locs1 → lv_has ls nL lc → H1[q9]? = some ce → ce.vm = .none → (xs X).vm.findClass E = some ce.cls → vx_W (xp X) (xl X) (xe X) (xR X) (xs X) (xm X) (xa X) (xb X) (xh X) (xc X) H1 locs1 k1 n1 Q (F0 (xm X) pc ls rest) q9) (kk : ∀ (r : Int32) (u : S), post r u → V X lo nL G Q k1 n1 (wo u) lc (.int r :: rest) p1) : V X lo nL G Q k n ws lc st pc := by
  have hR : (rmD d0 mc ms).frames + 1 ≤ (xR X).frames ∧ 8 + (2 + 11) + (rmD d0 mc ms).locals ≤ (xR X).locals := ⟨by show d0 + 1 ≤ _; have := hX.1; omega, by show 8 + (2 + 11) + 40 * d0 ≤ _; have := hX.2.1; omega⟩
  have hf : k + mc ≤ (xR X).cells ∧ n + ms ≤ (xR X).slots := ⟨by have := hX.2.2.1; omega, by have := hX.2.2.2; omega⟩
  exact V_callXi (V_runVX C hM ⟨ml_L_43, im_X4_splits, se_X4_splits, ii_X4, co_X4_splits⟩ ⟨rfl, by decide, by decide, by decide +kernel⟩ hR he rfl hn hst hrest hf d) p1 k1 n1 hp hk hn1 kx kk
theorem KL_46 (C : Cx X lo nL G cc RL) {D0 c0 s0 d0 mc ms : Nat} {b : Nat} {As rest : List Value} {S : Type} {post : Int32 → S → Prop} {wo : S → va_W} (hM : Mi (xl X) yX4_cost (.code yX4_cost prog_1_method_13_code 5 (some .int)) d0 mc ms lo G (.ref b :: As) ws post wo) (hX : RmX X D0 c0 s0) (hd : d0 + 1 ≤ D0) (q0 : Nat) {fs : List Value} (he : ws[q0]? = some (b, .inr (4, fs))) (hn : As.length = 2) (hst : st = As.reverse ++ .ref b :: rest) (hrest : (rest.map fun v => v.category).sum ≤ 8) (p1 k1 n1 : Nat) (hp : pc + 3 = p1) (hk : k + mc = k1) (hn1 : n + ms = n1) (hk1 : k1 ≤ c0) (hs1 : n1 ≤ s0) (d : decode cc pc = .ok (.invokevirtual 46, 3)) (kk : ∀ (r : Int32) (u : S), post r u → V X lo nL G Q k1 n1 (wo u) lc (.int r :: rest) p1) : V X lo nL G Q k n ws lc st pc := by
  have hR : (rmD d0 mc ms).frames + 1 ≤ (xR X).frames ∧ 8 + (5 + 11) + (rmD d0 mc ms).locals ≤ (xR X).locals := ⟨by show d0 + 1 ≤ _; have := hX.1; omega, by show 8 + (5 + 11) + 40 * d0 ≤ _; have := hX.2.1; omega⟩
  have hf : k + mc ≤ (xR X).cells ∧ n + ms ≤ (xR X).slots := ⟨by have := hX.2.2.1; omega, by have := hX.2.2.2; omega⟩
  exact V_calli (V_runV C hM ⟨ml_L_46, im_X4_cost, se_X4_cost, ii_X4, co_X4_cost⟩ ⟨rfl, by decide, by decide, by decide +kernel⟩ hR he rfl hn hst hrest hf d) p1 k1 n1 hp hk hn1 kk
theorem KXL_46 (C : Cx X lo nL G cc RL) {D0 c0 s0 d0 mc ms : Nat} {b : Nat} {As rest : List Value} {px : String → Prop} {S : Type} {post : Int32 → S → Prop} {wo : S → va_W} (hM : Xi (xl X) yX4_cost (.code yX4_cost prog_1_method_13_code 5 (some .int)) d0 mc ms lo G (.ref b :: As) ws px post wo) (hX : RmX X D0 c0 s0) (hd : d0 + 1 ≤ D0) (q0 : Nat) {fs : List Value} (he : ws[q0]? = some (b, .inr (4, fs))) (hn : As.length = 2) (hst : st = As.reverse ++ .ref b :: rest) (hrest : (rest.map fun v => v.category).sum ≤ 8) (p1 k1 n1 : Nat) (hp : pc + 3 = p1) (hk : k + mc = k1) (hn1 : n + ms = n1) (hk1 : k1 ≤ c0) (hs1 : n1 ≤ s0) (d : decode cc pc = .ok (.invokevirtual 46, 3)) (kx : ∀ (E : String) (ce : Cell) (q9 : Addr) (H1 : Heap) (locs1 : List Loc) (ls : Array Slot), px E → va_P G.1 vwCl ws H1 → va_D (Lo lo) ws → va_S (Lo lo) (xs X).heap H1 locs1 → lv_has ls nL lc → H1[q9]? = some ce → ce.vm = .none → (xs X).vm.findClass E = some ce.cls → vx_W (xp X) (xl X) (xe X) (xR X) (xs X) (xm X) (xa X) (xb X) (xh X) (xc X) H1 locs1 k1 n1 Q (F0 (xm X) pc ls rest) q9) (kk : ∀ (r : Int32) (u : S), post r u → V X lo nL G Q k1 n1 (wo u) lc (.int r :: rest) p1) : V X lo nL G Q k n ws lc st pc := by
  have hR : (rmD d0 mc ms).frames + 1 ≤ (xR X).frames ∧ 8 + (5 + 11) + (rmD d0 mc ms).locals ≤ (xR X).locals := ⟨by show d0 + 1 ≤ _; have := hX.1; omega, by show 8 + (5 + 11) + 40 * d0 ≤ _; have := hX.2.1; omega⟩
  have hf : k + mc ≤ (xR X).cells ∧ n + ms ≤ (xR X).slots := ⟨by have := hX.2.2.1; omega, by have := hX.2.2.2; omega⟩
  exact V_callXi (V_runVX C hM ⟨ml_L_46, im_X4_cost, se_X4_cost, ii_X4, co_X4_cost⟩ ⟨rfl, by decide, by decide, by decide +kernel⟩ hR he rfl hn hst hrest hf d) p1 k1 n1 hp hk hn1 kx kk
theorem KL_49 (C : Cx X lo nL G cc RL) {D0 c0 s0 d0 mc ms : Nat} {b : Nat} {As rest : List Value} {S : Type} {post : Int32 → S → Prop} {wo : S → va_W} (hM : Mi (xl X) yX4_size (.code yX4_size prog_1_method_14_code 5 (some .int)) d0 mc ms lo G (.ref b :: As) ws post wo) (hX : RmX X D0 c0 s0) (hd : d0 + 1 ≤ D0) (q0 : Nat) {fs : List Value} (he : ws[q0]? = some (b, .inr (4, fs))) (hn : As.length = 2) (hst : st = As.reverse ++ .ref b :: rest) (hrest : (rest.map fun v => v.category).sum ≤ 8) (p1 k1 n1 : Nat) (hp : pc + 3 = p1) (hk : k + mc = k1) (hn1 : n + ms = n1) (hk1 : k1 ≤ c0) (hs1 : n1 ≤ s0) (d : decode cc pc = .ok (.invokevirtual 49, 3)) (kk : ∀ (r : Int32) (u : S), post r u → V X lo nL G Q k1 n1 (wo u) lc (.int r :: rest) p1) : V X lo nL G Q k n ws lc st pc := by
  have hR : (rmD d0 mc ms).frames + 1 ≤ (xR X).frames ∧ 8 + (5 + 11) + (rmD d0 mc ms).locals ≤ (xR X).locals := ⟨by show d0 + 1 ≤ _; have := hX.1; omega, by show 8 + (5 + 11) + 40 * d0 ≤ _; have := hX.2.1; omega⟩
  have hf : k + mc ≤ (xR X).cells ∧ n + ms ≤ (xR X).slots := ⟨by have := hX.2.2.1; omega, by have := hX.2.2.2; omega⟩
  exact V_calli (V_runV C hM ⟨ml_L_49, im_X4_size, se_X4_size, ii_X4, co_X4_size⟩ ⟨rfl, by decide, by decide, by decide +kernel⟩ hR he rfl hn hst hrest hf d) p1 k1 n1 hp hk hn1 kk
theorem KXL_49 (C : Cx X lo nL G cc RL) {D0 c0 s0 d0 mc ms : Nat} {b : Nat} {As rest : List Value} {px : String → Prop} {S : Type} {post : Int32 → S → Prop} {wo : S → va_W} (hM : Xi (xl X) yX4_size (.code yX4_size prog_1_method_14_code 5 (some .int)) d0 mc ms lo G (.ref b :: As) ws px post wo) (hX : RmX X D0 c0 s0) (hd : d0 + 1 ≤ D0) (q0 : Nat) {fs : List Value} (he : ws[q0]? = some (b, .inr (4, fs))) (hn : As.length = 2) (hst : st = As.reverse ++ .ref b :: rest) (hrest : (rest.map fun v => v.category).sum ≤ 8) (p1 k1 n1 : Nat) (hp : pc + 3 = p1) (hk : k + mc = k1) (hn1 : n + ms = n1) (hk1 : k1 ≤ c0) (hs1 : n1 ≤ s0) (d : decode cc pc = .ok (.invokevirtual 49, 3)) (kx : ∀ (E : String) (ce : Cell) (q9 : Addr) (H1 : Heap) (locs1 : List Loc) (ls : Array Slot), px E → va_P G.1 vwCl ws H1 → va_D (Lo lo) ws → va_S (Lo lo) (xs X).heap H1 locs1 → lv_has ls nL lc → H1[q9]? = some ce → ce.vm = .none → (xs X).vm.findClass E = some ce.cls → vx_W (xp X) (xl X) (xe X) (xR X) (xs X) (xm X) (xa X) (xb X) (xh X) (xc X) H1 locs1 k1 n1 Q (F0 (xm X) pc ls rest) q9) (kk : ∀ (r : Int32) (u : S), post r u → V X lo nL G Q k1 n1 (wo u) lc (.int r :: rest) p1) : V X lo nL G Q k n ws lc st pc := by
  have hR : (rmD d0 mc ms).frames + 1 ≤ (xR X).frames ∧ 8 + (5 + 11) + (rmD d0 mc ms).locals ≤ (xR X).locals := ⟨by show d0 + 1 ≤ _; have := hX.1; omega, by show 8 + (5 + 11) + 40 * d0 ≤ _; have := hX.2.1; omega⟩
  have hf : k + mc ≤ (xR X).cells ∧ n + ms ≤ (xR X).slots := ⟨by have := hX.2.2.1; omega, by have := hX.2.2.2; omega⟩
  exact V_callXi (V_runVX C hM ⟨ml_L_49, im_X4_size, se_X4_size, ii_X4, co_X4_size⟩ ⟨rfl, by decide, by decide, by decide +kernel⟩ hR he rfl hn hst hrest hf d) p1 k1 n1 hp hk hn1 kx kk
theorem KL_52 (C : Cx X lo nL G cc RL) {D0 c0 s0 d0 mc ms : Nat} {b : Nat} {As rest : List Value} {S : Type} {post : Int32 → S → Prop} {wo : S → va_W} (hM : Mi (xl X) yX4_partAt (.code yX4_partAt prog_1_method_15_code 6 (some .int)) d0 mc ms lo G (.ref b :: As) ws post wo) (hX : RmX X D0 c0 s0) (hd : d0 + 1 ≤ D0) (q0 : Nat) {fs : List Value} (he : ws[q0]? = some (b, .inr (4, fs))) (hn : As.length = 3) (hst : st = As.reverse ++ .ref b :: rest) (hrest : (rest.map fun v => v.category).sum ≤ 8) (p1 k1 n1 : Nat) (hp : pc + 3 = p1) (hk : k + mc = k1) (hn1 : n + ms = n1) (hk1 : k1 ≤ c0) (hs1 : n1 ≤ s0) (d : decode cc pc = .ok (.invokevirtual 52, 3)) (kk : ∀ (r : Int32) (u : S), post r u → V X lo nL G Q k1 n1 (wo u) lc (.int r :: rest) p1) : V X lo nL G Q k n ws lc st pc := by
  have hR : (rmD d0 mc ms).frames + 1 ≤ (xR X).frames ∧ 8 + (6 + 11) + (rmD d0 mc ms).locals ≤ (xR X).locals := ⟨by show d0 + 1 ≤ _; have := hX.1; omega, by show 8 + (6 + 11) + 40 * d0 ≤ _; have := hX.2.1; omega⟩
  have hf : k + mc ≤ (xR X).cells ∧ n + ms ≤ (xR X).slots := ⟨by have := hX.2.2.1; omega, by have := hX.2.2.2; omega⟩
  exact V_calli (V_runV C hM ⟨ml_L_52, im_X4_partAt, se_X4_partAt, ii_X4, co_X4_partAt⟩ ⟨rfl, by decide, by decide, by decide +kernel⟩ hR he rfl hn hst hrest hf d) p1 k1 n1 hp hk hn1 kk
theorem KXL_52 (C : Cx X lo nL G cc RL) {D0 c0 s0 d0 mc ms : Nat} {b : Nat} {As rest : List Value} {px : String → Prop} {S : Type} {post : Int32 → S → Prop} {wo : S → va_W} (hM : Xi (xl X) yX4_partAt (.code yX4_partAt prog_1_method_15_code 6 (some .int)) d0 mc ms lo G (.ref b :: As) ws px post wo) (hX : RmX X D0 c0 s0) (hd : d0 + 1 ≤ D0) (q0 : Nat) {fs : List Value} (he : ws[q0]? = some (b, .inr (4, fs))) (hn : As.length = 3) (hst : st = As.reverse ++ .ref b :: rest) (hrest : (rest.map fun v => v.category).sum ≤ 8) (p1 k1 n1 : Nat) (hp : pc + 3 = p1) (hk : k + mc = k1) (hn1 : n + ms = n1) (hk1 : k1 ≤ c0) (hs1 : n1 ≤ s0) (d : decode cc pc = .ok (.invokevirtual 52, 3)) (kx : ∀ (E : String) (ce : Cell) (q9 : Addr) (H1 : Heap) (locs1 : List Loc) (ls : Array Slot), px E → va_P G.1 vwCl ws H1 → va_D (Lo lo) ws → va_S (Lo lo) (xs X).heap H1 locs1 → lv_has ls nL lc → H1[q9]? = some ce → ce.vm = .none → (xs X).vm.findClass E = some ce.cls → vx_W (xp X) (xl X) (xe X) (xR X) (xs X) (xm X) (xa X) (xb X) (xh X) (xc X) H1 locs1 k1 n1 Q (F0 (xm X) pc ls rest) q9) (kk : ∀ (r : Int32) (u : S), post r u → V X lo nL G Q k1 n1 (wo u) lc (.int r :: rest) p1) : V X lo nL G Q k n ws lc st pc := by
  have hR : (rmD d0 mc ms).frames + 1 ≤ (xR X).frames ∧ 8 + (6 + 11) + (rmD d0 mc ms).locals ≤ (xR X).locals := ⟨by show d0 + 1 ≤ _; have := hX.1; omega, by show 8 + (6 + 11) + 40 * d0 ≤ _; have := hX.2.1; omega⟩
  have hf : k + mc ≤ (xR X).cells ∧ n + ms ≤ (xR X).slots := ⟨by have := hX.2.2.1; omega, by have := hX.2.2.2; omega⟩
  exact V_callXi (V_runVX C hM ⟨ml_L_52, im_X4_partAt, se_X4_partAt, ii_X4, co_X4_partAt⟩ ⟨rfl, by decide, by decide, by decide +kernel⟩ hR he rfl hn hst hrest hf d) p1 k1 n1 hp hk hn1 kx kk
theorem KL_55 (C : Cx X lo nL G cc RL) {D0 c0 s0 d0 mc ms : Nat} {b : Nat} {As rest : List Value} {S : Type} {post : Int32 → S → Prop} {wo : S → va_W} (hM : Mi (xl X) yX4_head (.code yX4_head prog_1_method_16_code 4 (some .int)) d0 mc ms lo G (.ref b :: As) ws post wo) (hX : RmX X D0 c0 s0) (hd : d0 + 1 ≤ D0) (q0 : Nat) {fs : List Value} (he : ws[q0]? = some (b, .inr (4, fs))) (hn : As.length = 1) (hst : st = As.reverse ++ .ref b :: rest) (hrest : (rest.map fun v => v.category).sum ≤ 8) (p1 k1 n1 : Nat) (hp : pc + 3 = p1) (hk : k + mc = k1) (hn1 : n + ms = n1) (hk1 : k1 ≤ c0) (hs1 : n1 ≤ s0) (d : decode cc pc = .ok (.invokevirtual 55, 3)) (kk : ∀ (r : Int32) (u : S), post r u → V X lo nL G Q k1 n1 (wo u) lc (.int r :: rest) p1) : V X lo nL G Q k n ws lc st pc := by
  have hR : (rmD d0 mc ms).frames + 1 ≤ (xR X).frames ∧ 8 + (4 + 11) + (rmD d0 mc ms).locals ≤ (xR X).locals := ⟨by show d0 + 1 ≤ _; have := hX.1; omega, by show 8 + (4 + 11) + 40 * d0 ≤ _; have := hX.2.1; omega⟩
  have hf : k + mc ≤ (xR X).cells ∧ n + ms ≤ (xR X).slots := ⟨by have := hX.2.2.1; omega, by have := hX.2.2.2; omega⟩
  exact V_calli (V_runV C hM ⟨ml_L_55, im_X4_head, se_X4_head, ii_X4, co_X4_head⟩ ⟨rfl, by decide, by decide, by decide +kernel⟩ hR he rfl hn hst hrest hf d) p1 k1 n1 hp hk hn1 kk
theorem KXL_55 (C : Cx X lo nL G cc RL) {D0 c0 s0 d0 mc ms : Nat} {b : Nat} {As rest : List Value} {px : String → Prop} {S : Type} {post : Int32 → S → Prop} {wo : S → va_W} (hM : Xi (xl X) yX4_head (.code yX4_head prog_1_method_16_code 4 (some .int)) d0 mc ms lo G (.ref b :: As) ws px post wo) (hX : RmX X D0 c0 s0) (hd : d0 + 1 ≤ D0) (q0 : Nat) {fs : List Value} (he : ws[q0]? = some (b, .inr (4, fs))) (hn : As.length = 1) (hst : st = As.reverse ++ .ref b :: rest) (hrest : (rest.map fun v => v.category).sum ≤ 8) (p1 k1 n1 : Nat) (hp : pc + 3 = p1) (hk : k + mc = k1) (hn1 : n + ms = n1) (hk1 : k1 ≤ c0) (hs1 : n1 ≤ s0) (d : decode cc pc = .ok (.invokevirtual 55, 3)) (kx : ∀ (E : String) (ce : Cell) (q9 : Addr) (H1 : Heap) (locs1 : List Loc) (ls : Array Slot), px E → va_P G.1 vwCl ws H1 → va_D (Lo lo) ws → va_S (Lo lo) (xs X).heap H1 locs1 → lv_has ls nL lc → H1[q9]? = some ce → ce.vm = .none → (xs X).vm.findClass E = some ce.cls → vx_W (xp X) (xl X) (xe X) (xR X) (xs X) (xm X) (xa X) (xb X) (xh X) (xc X) H1 locs1 k1 n1 Q (F0 (xm X) pc ls rest) q9) (kk : ∀ (r : Int32) (u : S), post r u → V X lo nL G Q k1 n1 (wo u) lc (.int r :: rest) p1) : V X lo nL G Q k n ws lc st pc := by
  have hR : (rmD d0 mc ms).frames + 1 ≤ (xR X).frames ∧ 8 + (4 + 11) + (rmD d0 mc ms).locals ≤ (xR X).locals := ⟨by show d0 + 1 ≤ _; have := hX.1; omega, by show 8 + (4 + 11) + 40 * d0 ≤ _; have := hX.2.1; omega⟩
  have hf : k + mc ≤ (xR X).cells ∧ n + ms ≤ (xR X).slots := ⟨by have := hX.2.2.1; omega, by have := hX.2.2.2; omega⟩
  exact V_callXi (V_runVX C hM ⟨ml_L_55, im_X4_head, se_X4_head, ii_X4, co_X4_head⟩ ⟨rfl, by decide, by decide, by decide +kernel⟩ hR he rfl hn hst hrest hf d) p1 k1 n1 hp hk hn1 kx kk
theorem KL_58 (C : Cx X lo nL G cc RL) {D0 c0 s0 d0 mc ms : Nat} {b : Nat} {As rest : List Value} {S : Type} {post : Int32 → S → Prop} {wo : S → va_W} (hM : Mi (xl X) yX4_readings (.code yX4_readings prog_1_method_17_code 5 (some .int)) d0 mc ms lo G (.ref b :: As) ws post wo) (hX : RmX X D0 c0 s0) (hd : d0 + 1 ≤ D0) (q0 : Nat) {fs : List Value} (he : ws[q0]? = some (b, .inr (4, fs))) (hn : As.length = 1) (hst : st = As.reverse ++ .ref b :: rest) (hrest : (rest.map fun v => v.category).sum ≤ 8) (p1 k1 n1 : Nat) (hp : pc + 3 = p1) (hk : k + mc = k1) (hn1 : n + ms = n1) (hk1 : k1 ≤ c0) (hs1 : n1 ≤ s0) (d : decode cc pc = .ok (.invokevirtual 58, 3)) (kk : ∀ (r : Int32) (u : S), post r u → V X lo nL G Q k1 n1 (wo u) lc (.int r :: rest) p1) : V X lo nL G Q k n ws lc st pc := by
  have hR : (rmD d0 mc ms).frames + 1 ≤ (xR X).frames ∧ 8 + (5 + 11) + (rmD d0 mc ms).locals ≤ (xR X).locals := ⟨by show d0 + 1 ≤ _; have := hX.1; omega, by show 8 + (5 + 11) + 40 * d0 ≤ _; have := hX.2.1; omega⟩
  have hf : k + mc ≤ (xR X).cells ∧ n + ms ≤ (xR X).slots := ⟨by have := hX.2.2.1; omega, by have := hX.2.2.2; omega⟩
  exact V_calli (V_runV C hM ⟨ml_L_58, im_X4_readings, se_X4_readings, ii_X4, co_X4_readings⟩ ⟨rfl, by decide, by decide, by decide +kernel⟩ hR he rfl hn hst hrest hf d) p1 k1 n1 hp hk hn1 kk
theorem KXL_58 (C : Cx X lo nL G cc RL) {D0 c0 s0 d0 mc ms : Nat} {b : Nat} {As rest : List Value} {px : String → Prop} {S : Type} {post : Int32 → S → Prop} {wo : S → va_W} (hM : Xi (xl X) yX4_readings (.code yX4_readings prog_1_method_17_code 5 (some .int)) d0 mc ms lo G (.ref b :: As) ws px post wo) (hX : RmX X D0 c0 s0) (hd : d0 + 1 ≤ D0) (q0 : Nat) {fs : List Value} (he : ws[q0]? = some (b, .inr (4, fs))) (hn : As.length = 1) (hst : st = As.reverse ++ .ref b :: rest) (hrest : (rest.map fun v => v.category).sum ≤ 8) (p1 k1 n1 : Nat) (hp : pc + 3 = p1) (hk : k + mc = k1) (hn1 : n + ms = n1) (hk1 : k1 ≤ c0) (hs1 : n1 ≤ s0) (d : decode cc pc = .ok (.invokevirtual 58, 3)) (kx : ∀ (E : String) (ce : Cell) (q9 : Addr) (H1 : Heap) (locs1 : List Loc) (ls : Array Slot), px E → va_P G.1 vwCl ws H1 → va_D (Lo lo) ws → va_S (Lo lo) (xs X).heap H1 locs1 → lv_has ls nL lc → H1[q9]? = some ce → ce.vm = .none → (xs X).vm.findClass E = some ce.cls → vx_W (xp X) (xl X) (xe X) (xR X) (xs X) (xm X) (xa X) (xb X) (xh X) (xc X) H1 locs1 k1 n1 Q (F0 (xm X) pc ls rest) q9) (kk : ∀ (r : Int32) (u : S), post r u → V X lo nL G Q k1 n1 (wo u) lc (.int r :: rest) p1) : V X lo nL G Q k n ws lc st pc := by
  have hR : (rmD d0 mc ms).frames + 1 ≤ (xR X).frames ∧ 8 + (5 + 11) + (rmD d0 mc ms).locals ≤ (xR X).locals := ⟨by show d0 + 1 ≤ _; have := hX.1; omega, by show 8 + (5 + 11) + 40 * d0 ≤ _; have := hX.2.1; omega⟩
  have hf : k + mc ≤ (xR X).cells ∧ n + ms ≤ (xR X).slots := ⟨by have := hX.2.2.1; omega, by have := hX.2.2.2; omega⟩
  exact V_callXi (V_runVX C hM ⟨ml_L_58, im_X4_readings, se_X4_readings, ii_X4, co_X4_readings⟩ ⟨rfl, by decide, by decide, by decide +kernel⟩ hR he rfl hn hst hrest hf d) p1 k1 n1 hp hk hn1 kx kk
theorem KL_61 (C : Cx X lo nL G cc RL) {D0 c0 s0 d0 mc ms : Nat} {b : Nat} {As rest : List Value} {S : Type} {post : Int32 → S → Prop} {wo : S → va_W} (hM : Mi (xl X) yX4_learn (.code yX4_learn prog_1_method_18_code 6 (some .boolean)) d0 mc ms lo G (.ref b :: As) ws post wo) (hX : RmX X D0 c0 s0) (hd : d0 + 1 ≤ D0) (q0 : Nat) {fs : List Value} (he : ws[q0]? = some (b, .inr (4, fs))) (hn : As.length = 1) (hst : st = As.reverse ++ .ref b :: rest) (hrest : (rest.map fun v => v.category).sum ≤ 8) (p1 k1 n1 : Nat) (hp : pc + 3 = p1) (hk : k + mc = k1) (hn1 : n + ms = n1) (hk1 : k1 ≤ c0) (hs1 : n1 ≤ s0) (d : decode cc pc = .ok (.invokevirtual 61, 3)) (kk : ∀ (r : Int32) (u : S), post r u → V X lo nL G Q k1 n1 (wo u) lc (.int r :: rest) p1) : V X lo nL G Q k n ws lc st pc := by
  have hR : (rmD d0 mc ms).frames + 1 ≤ (xR X).frames ∧ 8 + (6 + 11) + (rmD d0 mc ms).locals ≤ (xR X).locals := ⟨by show d0 + 1 ≤ _; have := hX.1; omega, by show 8 + (6 + 11) + 40 * d0 ≤ _; have := hX.2.1; omega⟩
  have hf : k + mc ≤ (xR X).cells ∧ n + ms ≤ (xR X).slots := ⟨by have := hX.2.2.1; omega, by have := hX.2.2.2; omega⟩
  exact V_calli (V_runV C hM ⟨ml_L_61, im_X4_learn, se_X4_learn, ii_X4, co_X4_learn⟩ ⟨rfl, by decide, by decide, by decide +kernel⟩ hR he rfl hn hst hrest hf d) p1 k1 n1 hp hk hn1 kk
theorem KXL_61 (C : Cx X lo nL G cc RL) {D0 c0 s0 d0 mc ms : Nat} {b : Nat} {As rest : List Value} {px : String → Prop} {S : Type} {post : Int32 → S → Prop} {wo : S → va_W} (hM : Xi (xl X) yX4_learn (.code yX4_learn prog_1_method_18_code 6 (some .boolean)) d0 mc ms lo G (.ref b :: As) ws px post wo) (hX : RmX X D0 c0 s0) (hd : d0 + 1 ≤ D0) (q0 : Nat) {fs : List Value} (he : ws[q0]? = some (b, .inr (4, fs))) (hn : As.length = 1) (hst : st = As.reverse ++ .ref b :: rest) (hrest : (rest.map fun v => v.category).sum ≤ 8) (p1 k1 n1 : Nat) (hp : pc + 3 = p1) (hk : k + mc = k1) (hn1 : n + ms = n1) (hk1 : k1 ≤ c0) (hs1 : n1 ≤ s0) (d : decode cc pc = .ok (.invokevirtual 61, 3)) (kx : ∀ (E : String) (ce : Cell) (q9 : Addr) (H1 : Heap) (locs1 : List Loc) (ls : Array Slot), px E → va_P G.1 vwCl ws H1 → va_D (Lo lo) ws → va_S (Lo lo) (xs X).heap H1 locs1 → lv_has ls nL lc → H1[q9]? = some ce → ce.vm = .none → (xs X).vm.findClass E = some ce.cls → vx_W (xp X) (xl X) (xe X) (xR X) (xs X) (xm X) (xa X) (xb X) (xh X) (xc X) H1 locs1 k1 n1 Q (F0 (xm X) pc ls rest) q9) (kk : ∀ (r : Int32) (u : S), post r u → V X lo nL G Q k1 n1 (wo u) lc (.int r :: rest) p1) : V X lo nL G Q k n ws lc st pc := by
  have hR : (rmD d0 mc ms).frames + 1 ≤ (xR X).frames ∧ 8 + (6 + 11) + (rmD d0 mc ms).locals ≤ (xR X).locals := ⟨by show d0 + 1 ≤ _; have := hX.1; omega, by show 8 + (6 + 11) + 40 * d0 ≤ _; have := hX.2.1; omega⟩
  have hf : k + mc ≤ (xR X).cells ∧ n + ms ≤ (xR X).slots := ⟨by have := hX.2.2.1; omega, by have := hX.2.2.2; omega⟩
  exact V_callXi (V_runVX C hM ⟨ml_L_61, im_X4_learn, se_X4_learn, ii_X4, co_X4_learn⟩ ⟨rfl, by decide, by decide, by decide +kernel⟩ hR he rfl hn hst hrest hf d) p1 k1 n1 hp hk hn1 kx kk
theorem KL_65 (C : Cx X lo nL G cc RL) {D0 c0 s0 d0 mc ms : Nat} {b : Nat} {As rest : List Value} {S : Type} {post : Int32 → S → Prop} {wo : S → va_W} (hM : Mi (xl X) yX4_forget (.code yX4_forget prog_1_method_19_code 1 (some .int)) d0 mc ms lo G (.ref b :: As) ws post wo) (hX : RmX X D0 c0 s0) (hd : d0 + 1 ≤ D0) (q0 : Nat) {fs : List Value} (he : ws[q0]? = some (b, .inr (4, fs))) (hn : As.length = 0) (hst : st = As.reverse ++ .ref b :: rest) (hrest : (rest.map fun v => v.category).sum ≤ 8) (p1 k1 n1 : Nat) (hp : pc + 3 = p1) (hk : k + mc = k1) (hn1 : n + ms = n1) (hk1 : k1 ≤ c0) (hs1 : n1 ≤ s0) (d : decode cc pc = .ok (.invokevirtual 65, 3)) (kk : ∀ (r : Int32) (u : S), post r u → V X lo nL G Q k1 n1 (wo u) lc (.int r :: rest) p1) : V X lo nL G Q k n ws lc st pc := by
  have hR : (rmD d0 mc ms).frames + 1 ≤ (xR X).frames ∧ 8 + (1 + 11) + (rmD d0 mc ms).locals ≤ (xR X).locals := ⟨by show d0 + 1 ≤ _; have := hX.1; omega, by show 8 + (1 + 11) + 40 * d0 ≤ _; have := hX.2.1; omega⟩
  have hf : k + mc ≤ (xR X).cells ∧ n + ms ≤ (xR X).slots := ⟨by have := hX.2.2.1; omega, by have := hX.2.2.2; omega⟩
  exact V_calli (V_runV C hM ⟨ml_L_65, im_X4_forget, se_X4_forget, ii_X4, co_X4_forget⟩ ⟨rfl, by decide, by decide, by decide +kernel⟩ hR he rfl hn hst hrest hf d) p1 k1 n1 hp hk hn1 kk
theorem KXL_65 (C : Cx X lo nL G cc RL) {D0 c0 s0 d0 mc ms : Nat} {b : Nat} {As rest : List Value} {px : String → Prop} {S : Type} {post : Int32 → S → Prop} {wo : S → va_W} (hM : Xi (xl X) yX4_forget (.code yX4_forget prog_1_method_19_code 1 (some .int)) d0 mc ms lo G (.ref b :: As) ws px post wo) (hX : RmX X D0 c0 s0) (hd : d0 + 1 ≤ D0) (q0 : Nat) {fs : List Value} (he : ws[q0]? = some (b, .inr (4, fs))) (hn : As.length = 0) (hst : st = As.reverse ++ .ref b :: rest) (hrest : (rest.map fun v => v.category).sum ≤ 8) (p1 k1 n1 : Nat) (hp : pc + 3 = p1) (hk : k + mc = k1) (hn1 : n + ms = n1) (hk1 : k1 ≤ c0) (hs1 : n1 ≤ s0) (d : decode cc pc = .ok (.invokevirtual 65, 3)) (kx : ∀ (E : String) (ce : Cell) (q9 : Addr) (H1 : Heap) (locs1 : List Loc) (ls : Array Slot), px E → va_P G.1 vwCl ws H1 → va_D (Lo lo) ws → va_S (Lo lo) (xs X).heap H1 locs1 → lv_has ls nL lc → H1[q9]? = some ce → ce.vm = .none → (xs X).vm.findClass E = some ce.cls → vx_W (xp X) (xl X) (xe X) (xR X) (xs X) (xm X) (xa X) (xb X) (xh X) (xc X) H1 locs1 k1 n1 Q (F0 (xm X) pc ls rest) q9) (kk : ∀ (r : Int32) (u : S), post r u → V X lo nL G Q k1 n1 (wo u) lc (.int r :: rest) p1) : V X lo nL G Q k n ws lc st pc := by
  have hR : (rmD d0 mc ms).frames + 1 ≤ (xR X).frames ∧ 8 + (1 + 11) + (rmD d0 mc ms).locals ≤ (xR X).locals := ⟨by show d0 + 1 ≤ _; have := hX.1; omega, by show 8 + (1 + 11) + 40 * d0 ≤ _; have := hX.2.1; omega⟩
  have hf : k + mc ≤ (xR X).cells ∧ n + ms ≤ (xR X).slots := ⟨by have := hX.2.2.1; omega, by have := hX.2.2.2; omega⟩
  exact V_callXi (V_runVX C hM ⟨ml_L_65, im_X4_forget, se_X4_forget, ii_X4, co_X4_forget⟩ ⟨rfl, by decide, by decide, by decide +kernel⟩ hR he rfl hn hst hrest hf d) p1 k1 n1 hp hk hn1 kx kk
theorem KL_69 (C : Cx X lo nL G cc RL) {D0 c0 s0 d0 mc ms : Nat} {b : Nat} {As rest : List Value} {S : Type} {post : S → Prop} {wo : S → va_W} (hM : Mv (xl X) yX4_init (.code yX4_init prog_1_method_1_code 1 none) d0 mc ms lo G (.ref b :: As) ws post wo) (hX : RmX X D0 c0 s0) (hd : d0 + 1 ≤ D0) (hn : As.length = 0) (hst : st = As.reverse ++ .ref b :: rest) (hrest : (rest.map fun v => v.category).sum ≤ 8) (p1 k1 n1 : Nat) (hp : pc + 3 = p1) (hk : k + mc = k1) (hn1 : n + ms = n1) (hk1 : k1 ≤ c0) (hs1 : n1 ≤ s0) (d : decode cc pc = .ok (.invokespecial 69, 3)) (kk : ∀ u : S, post u → V X lo nL G Q k1 n1 (wo u) lc rest p1) : V X lo nL G Q k n ws lc st pc := by
  have hR : (rmD d0 mc ms).frames + 1 ≤ (xR X).frames ∧ 8 + (1 + 11) + (rmD d0 mc ms).locals ≤ (xR X).locals := ⟨by show d0 + 1 ≤ _; have := hX.1; omega, by show 8 + (1 + 11) + 40 * d0 ≤ _; have := hX.2.1; omega⟩
  have hf : k + mc ≤ (xR X).cells ∧ n + ms ≤ (xR X).slots := ⟨by have := hX.2.2.1; omega, by have := hX.2.2.2; omega⟩
  exact V_callv (V_runI C hM ⟨ml_L_69, im_X4_init, ii_X4, co_X4_init⟩ rfl ⟨by decide, by decide, by decide +kernel⟩ hR hn hst hrest hf d) p1 k1 n1 hp hk hn1 kk
theorem KL_72 (C : Cx X lo nL G cc RL) {D0 c0 s0 d0 mc ms : Nat} {b : Nat} {As rest : List Value} {S : Type} {post : S → Prop} {wo : S → va_W} (hM : Mv (xl X) yX5_init (.code yX5_init prog_7_method_1_code 1 none) d0 mc ms lo G (.ref b :: As) ws post wo) (hX : RmX X D0 c0 s0) (hd : d0 + 1 ≤ D0) (hn : As.length = 0) (hst : st = As.reverse ++ .ref b :: rest) (hrest : (rest.map fun v => v.category).sum ≤ 8) (p1 k1 n1 : Nat) (hp : pc + 3 = p1) (hk : k + mc = k1) (hn1 : n + ms = n1) (hk1 : k1 ≤ c0) (hs1 : n1 ≤ s0) (d : decode cc pc = .ok (.invokespecial 72, 3)) (kk : ∀ u : S, post u → V X lo nL G Q k1 n1 (wo u) lc rest p1) : V X lo nL G Q k n ws lc st pc := by
  have hR : (rmD d0 mc ms).frames + 1 ≤ (xR X).frames ∧ 8 + (1 + 11) + (rmD d0 mc ms).locals ≤ (xR X).locals := ⟨by show d0 + 1 ≤ _; have := hX.1; omega, by show 8 + (1 + 11) + 40 * d0 ≤ _; have := hX.2.1; omega⟩
  have hf : k + mc ≤ (xR X).cells ∧ n + ms ≤ (xR X).slots := ⟨by have := hX.2.2.1; omega, by have := hX.2.2.2; omega⟩
  exact V_callv (V_runI C hM ⟨ml_L_72, im_X5_init, ii_X5, co_X5_init⟩ rfl ⟨by decide, by decide, by decide +kernel⟩ hR hn hst hrest hf d) p1 k1 n1 hp hk hn1 kk
theorem KL_78 (C : Cx X lo nL G cc RL) {D0 c0 s0 d0 mc ms : Nat} {b : Nat} {As rest : List Value} {S : Type} {post : Int32 → S → Prop} {wo : S → va_W} (hM : Mi (xl X) yX5_addPart (.code yX5_addPart prog_7_method_8_code 5 (some .int)) d0 mc ms lo G (.ref b :: As) ws post wo) (hX : RmX X D0 c0 s0) (hd : d0 + 1 ≤ D0) (q0 : Nat) {fs : List Value} (he : ws[q0]? = some (b, .inr (5, fs))) (hn : As.length = 3) (hst : st = As.reverse ++ .ref b :: rest) (hrest : (rest.map fun v => v.category).sum ≤ 8) (p1 k1 n1 : Nat) (hp : pc + 3 = p1) (hk : k + mc = k1) (hn1 : n + ms = n1) (hk1 : k1 ≤ c0) (hs1 : n1 ≤ s0) (d : decode cc pc = .ok (.invokevirtual 78, 3)) (kk : ∀ (r : Int32) (u : S), post r u → V X lo nL G Q k1 n1 (wo u) lc (.int r :: rest) p1) : V X lo nL G Q k n ws lc st pc := by
  have hR : (rmD d0 mc ms).frames + 1 ≤ (xR X).frames ∧ 8 + (5 + 11) + (rmD d0 mc ms).locals ≤ (xR X).locals := ⟨by show d0 + 1 ≤ _; have := hX.1; omega, by show 8 + (5 + 11) + 40 * d0 ≤ _; have := hX.2.1; omega⟩
  have hf : k + mc ≤ (xR X).cells ∧ n + ms ≤ (xR X).slots := ⟨by have := hX.2.2.1; omega, by have := hX.2.2.2; omega⟩
  exact V_calli (V_runV C hM ⟨ml_L_78, im_X5_addPart, se_X5_addPart, ii_X5, co_X5_addPart⟩ ⟨rfl, by decide, by decide, by decide +kernel⟩ hR he rfl hn hst hrest hf d) p1 k1 n1 hp hk hn1 kk
theorem KL_79 (C : Cx X lo nL G cc RL) {D0 c0 s0 d0 mc ms : Nat} {b : Nat} {As rest : List Value} {S : Type} {post : Int32 → S → Prop} {wo : S → va_W} (hM : Mi (xl X) yX5_thrown (.code yX5_thrown prog_7_method_2_code 1 (some .int)) d0 mc ms lo G (.ref b :: As) ws post wo) (hX : RmX X D0 c0 s0) (hd : d0 + 1 ≤ D0) (q0 : Nat) {fs : List Value} (he : ws[q0]? = some (b, .inr (5, fs))) (hn : As.length = 0) (hst : st = As.reverse ++ .ref b :: rest) (hrest : (rest.map fun v => v.category).sum ≤ 8) (p1 k1 n1 : Nat) (hp : pc + 3 = p1) (hk : k + mc = k1) (hn1 : n + ms = n1) (hk1 : k1 ≤ c0) (hs1 : n1 ≤ s0) (d : decode cc pc = .ok (.invokevirtual 79, 3)) (kk : ∀ (r : Int32) (u : S), post r u → V X lo nL G Q k1 n1 (wo u) lc (.int r :: rest) p1) : V X lo nL G Q k n ws lc st pc := by
  have hR : (rmD d0 mc ms).frames + 1 ≤ (xR X).frames ∧ 8 + (1 + 11) + (rmD d0 mc ms).locals ≤ (xR X).locals := ⟨by show d0 + 1 ≤ _; have := hX.1; omega, by show 8 + (1 + 11) + 40 * d0 ≤ _; have := hX.2.1; omega⟩
  have hf : k + mc ≤ (xR X).cells ∧ n + ms ≤ (xR X).slots := ⟨by have := hX.2.2.1; omega, by have := hX.2.2.2; omega⟩
  exact V_calli (V_runV C hM ⟨ml_L_79, im_X5_thrown, se_X5_thrown, ii_X5, co_X5_thrown⟩ ⟨rfl, by decide, by decide, by decide +kernel⟩ hR he rfl hn hst hrest hf d) p1 k1 n1 hp hk hn1 kk
theorem KL_85 (C : Cx X lo nL G cc RL) {D0 c0 s0 d0 mc ms : Nat} {b : Nat} {As rest : List Value} {S : Type} {post : Int32 → S → Prop} {wo : S → va_W} (hM : Mi (xl X) yX5_setFlags (.code yX5_setFlags prog_7_method_9_code 4 (some .int)) d0 mc ms lo G (.ref b :: As) ws post wo) (hX : RmX X D0 c0 s0) (hd : d0 + 1 ≤ D0) (q0 : Nat) {fs : List Value} (he : ws[q0]? = some (b, .inr (5, fs))) (hn : As.length = 2) (hst : st = As.reverse ++ .ref b :: rest) (hrest : (rest.map fun v => v.category).sum ≤ 8) (p1 k1 n1 : Nat) (hp : pc + 3 = p1) (hk : k + mc = k1) (hn1 : n + ms = n1) (hk1 : k1 ≤ c0) (hs1 : n1 ≤ s0) (d : decode cc pc = .ok (.invokevirtual 85, 3)) (kk : ∀ (r : Int32) (u : S), post r u → V X lo nL G Q k1 n1 (wo u) lc (.int r :: rest) p1) : V X lo nL G Q k n ws lc st pc := by
  have hR : (rmD d0 mc ms).frames + 1 ≤ (xR X).frames ∧ 8 + (4 + 11) + (rmD d0 mc ms).locals ≤ (xR X).locals := ⟨by show d0 + 1 ≤ _; have := hX.1; omega, by show 8 + (4 + 11) + 40 * d0 ≤ _; have := hX.2.1; omega⟩
  have hf : k + mc ≤ (xR X).cells ∧ n + ms ≤ (xR X).slots := ⟨by have := hX.2.2.1; omega, by have := hX.2.2.2; omega⟩
  exact V_calli (V_runV C hM ⟨ml_L_85, im_X5_setFlags, se_X5_setFlags, ii_X5, co_X5_setFlags⟩ ⟨rfl, by decide, by decide, by decide +kernel⟩ hR he rfl hn hst hrest hf d) p1 k1 n1 hp hk hn1 kk
theorem KL_89 (C : Cx X lo nL G cc RL) {D0 c0 s0 d0 mc ms : Nat} {b : Nat} {As rest : List Value} {S : Type} {post : Int32 → S → Prop} {wo : S → va_W} (hM : Mi (xl X) yX5_addLink (.code yX5_addLink prog_7_method_10_code 4 (some .int)) d0 mc ms lo G (.ref b :: As) ws post wo) (hX : RmX X D0 c0 s0) (hd : d0 + 1 ≤ D0) (q0 : Nat) {fs : List Value} (he : ws[q0]? = some (b, .inr (5, fs))) (hn : As.length = 1) (hst : st = As.reverse ++ .ref b :: rest) (hrest : (rest.map fun v => v.category).sum ≤ 8) (p1 k1 n1 : Nat) (hp : pc + 3 = p1) (hk : k + mc = k1) (hn1 : n + ms = n1) (hk1 : k1 ≤ c0) (hs1 : n1 ≤ s0) (d : decode cc pc = .ok (.invokevirtual 89, 3)) (kk : ∀ (r : Int32) (u : S), post r u → V X lo nL G Q k1 n1 (wo u) lc (.int r :: rest) p1) : V X lo nL G Q k n ws lc st pc := by
  have hR : (rmD d0 mc ms).frames + 1 ≤ (xR X).frames ∧ 8 + (4 + 11) + (rmD d0 mc ms).locals ≤ (xR X).locals := ⟨by show d0 + 1 ≤ _; have := hX.1; omega, by show 8 + (4 + 11) + 40 * d0 ≤ _; have := hX.2.1; omega⟩
  have hf : k + mc ≤ (xR X).cells ∧ n + ms ≤ (xR X).slots := ⟨by have := hX.2.2.1; omega, by have := hX.2.2.2; omega⟩
  exact V_calli (V_runV C hM ⟨ml_L_89, im_X5_addLink, se_X5_addLink, ii_X5, co_X5_addLink⟩ ⟨rfl, by decide, by decide, by decide +kernel⟩ hR he rfl hn hst hrest hf d) p1 k1 n1 hp hk hn1 kk
theorem KL_93 (C : Cx X lo nL G cc RL) {D0 c0 s0 d0 mc ms : Nat} {b : Nat} {As rest : List Value} {S : Type} {post : Int32 → S → Prop} {wo : S → va_W} (hM : Mi (xl X) yX5_veto (.code yX5_veto prog_7_method_11_code 5 (some .boolean)) d0 mc ms lo G (.ref b :: As) ws post wo) (hX : RmX X D0 c0 s0) (hd : d0 + 1 ≤ D0) (q0 : Nat) {fs : List Value} (he : ws[q0]? = some (b, .inr (5, fs))) (hn : As.length = 3) (hst : st = As.reverse ++ .ref b :: rest) (hrest : (rest.map fun v => v.category).sum ≤ 8) (p1 k1 n1 : Nat) (hp : pc + 3 = p1) (hk : k + mc = k1) (hn1 : n + ms = n1) (hk1 : k1 ≤ c0) (hs1 : n1 ≤ s0) (d : decode cc pc = .ok (.invokevirtual 93, 3)) (kk : ∀ (r : Int32) (u : S), post r u → V X lo nL G Q k1 n1 (wo u) lc (.int r :: rest) p1) : V X lo nL G Q k n ws lc st pc := by
  have hR : (rmD d0 mc ms).frames + 1 ≤ (xR X).frames ∧ 8 + (5 + 11) + (rmD d0 mc ms).locals ≤ (xR X).locals := ⟨by show d0 + 1 ≤ _; have := hX.1; omega, by show 8 + (5 + 11) + 40 * d0 ≤ _; have := hX.2.1; omega⟩
  have hf : k + mc ≤ (xR X).cells ∧ n + ms ≤ (xR X).slots := ⟨by have := hX.2.2.1; omega, by have := hX.2.2.2; omega⟩
  exact V_calli (V_runV C hM ⟨ml_L_93, im_X5_veto, se_X5_veto, ii_X5, co_X5_veto⟩ ⟨rfl, by decide, by decide, by decide +kernel⟩ hR he rfl hn hst hrest hf d) p1 k1 n1 hp hk hn1 kk
theorem KL_96 (C : Cx X lo nL G cc RL) {D0 c0 s0 d0 mc ms : Nat} {b : Nat} {As rest : List Value} {S : Type} {post : Int32 → S → Prop} {wo : S → va_W} (hM : Mi (xl X) yX5_bar (.code yX5_bar prog_7_method_12_code 5 (some .boolean)) d0 mc ms lo G (.ref b :: As) ws post wo) (hX : RmX X D0 c0 s0) (hd : d0 + 1 ≤ D0) (q0 : Nat) {fs : List Value} (he : ws[q0]? = some (b, .inr (5, fs))) (hn : As.length = 3) (hst : st = As.reverse ++ .ref b :: rest) (hrest : (rest.map fun v => v.category).sum ≤ 8) (p1 k1 n1 : Nat) (hp : pc + 3 = p1) (hk : k + mc = k1) (hn1 : n + ms = n1) (hk1 : k1 ≤ c0) (hs1 : n1 ≤ s0) (d : decode cc pc = .ok (.invokevirtual 96, 3)) (kk : ∀ (r : Int32) (u : S), post r u → V X lo nL G Q k1 n1 (wo u) lc (.int r :: rest) p1) : V X lo nL G Q k n ws lc st pc := by
  have hR : (rmD d0 mc ms).frames + 1 ≤ (xR X).frames ∧ 8 + (5 + 11) + (rmD d0 mc ms).locals ≤ (xR X).locals := ⟨by show d0 + 1 ≤ _; have := hX.1; omega, by show 8 + (5 + 11) + 40 * d0 ≤ _; have := hX.2.1; omega⟩
  have hf : k + mc ≤ (xR X).cells ∧ n + ms ≤ (xR X).slots := ⟨by have := hX.2.2.1; omega, by have := hX.2.2.2; omega⟩
  exact V_calli (V_runV C hM ⟨ml_L_96, im_X5_bar, se_X5_bar, ii_X5, co_X5_bar⟩ ⟨rfl, by decide, by decide, by decide +kernel⟩ hR he rfl hn hst hrest hf d) p1 k1 n1 hp hk hn1 kk
theorem KL_97 (C : Cx X lo nL G cc RL) {D0 c0 s0 d0 mc ms : Nat} {b : Nat} {As rest : List Value} {S : Type} {post : Int32 → S → Prop} {wo : S → va_W} (hM : Mi (xl X) yX4_parts (.code yX4_parts prog_1_method_7_code 1 (some .int)) d0 mc ms lo G (.ref b :: As) ws post wo) (hX : RmX X D0 c0 s0) (hd : d0 + 1 ≤ D0) (q0 : Nat) {fs : List Value} (he : ws[q0]? = some (b, .inr (4, fs))) (hn : As.length = 0) (hst : st = As.reverse ++ .ref b :: rest) (hrest : (rest.map fun v => v.category).sum ≤ 8) (p1 k1 n1 : Nat) (hp : pc + 3 = p1) (hk : k + mc = k1) (hn1 : n + ms = n1) (hk1 : k1 ≤ c0) (hs1 : n1 ≤ s0) (d : decode cc pc = .ok (.invokevirtual 97, 3)) (kk : ∀ (r : Int32) (u : S), post r u → V X lo nL G Q k1 n1 (wo u) lc (.int r :: rest) p1) : V X lo nL G Q k n ws lc st pc := by
  have hR : (rmD d0 mc ms).frames + 1 ≤ (xR X).frames ∧ 8 + (1 + 11) + (rmD d0 mc ms).locals ≤ (xR X).locals := ⟨by show d0 + 1 ≤ _; have := hX.1; omega, by show 8 + (1 + 11) + 40 * d0 ≤ _; have := hX.2.1; omega⟩
  have hf : k + mc ≤ (xR X).cells ∧ n + ms ≤ (xR X).slots := ⟨by have := hX.2.2.1; omega, by have := hX.2.2.2; omega⟩
  exact V_calli (V_runV C hM ⟨ml_L_97, im_X4_parts, se_X4_parts, ii_X4, co_X4_parts⟩ ⟨rfl, by decide, by decide, by decide +kernel⟩ hR he rfl hn hst hrest hf d) p1 k1 n1 hp hk hn1 kk
theorem KXL_97 (C : Cx X lo nL G cc RL) {D0 c0 s0 d0 mc ms : Nat} {b : Nat} {As rest : List Value} {px : String → Prop} {S : Type} {post : Int32 → S → Prop} {wo : S → va_W} (hM : Xi (xl X) yX4_parts (.code yX4_parts prog_1_method_7_code 1 (some .int)) d0 mc ms lo G (.ref b :: As) ws px post wo) (hX : RmX X D0 c0 s0) (hd : d0 + 1 ≤ D0) (q0 : Nat) {fs : List Value} (he : ws[q0]? = some (b, .inr (4, fs))) (hn : As.length = 0) (hst : st = As.reverse ++ .ref b :: rest) (hrest : (rest.map fun v => v.category).sum ≤ 8) (p1 k1 n1 : Nat) (hp : pc + 3 = p1) (hk : k + mc = k1) (hn1 : n + ms = n1) (hk1 : k1 ≤ c0) (hs1 : n1 ≤ s0) (d : decode cc pc = .ok (.invokevirtual 97, 3)) (kx : ∀ (E : String) (ce : Cell) (q9 : Addr) (H1 : Heap) (locs1 : List Loc) (ls : Array Slot), px E → va_P G.1 vwCl ws H1 → va_D (Lo lo) ws → va_S (Lo lo) (xs X).heap H1 locs1 → lv_has ls nL lc → H1[q9]? = some ce → ce.vm = .none → (xs X).vm.findClass E = some ce.cls → vx_W (xp X) (xl X) (xe X) (xR X) (xs X) (xm X) (xa X) (xb X) (xh X) (xc X) H1 locs1 k1 n1 Q (F0 (xm X) pc ls rest) q9) (kk : ∀ (r : Int32) (u : S), post r u → V X lo nL G Q k1 n1 (wo u) lc (.int r :: rest) p1) : V X lo nL G Q k n ws lc st pc := by
  have hR : (rmD d0 mc ms).frames + 1 ≤ (xR X).frames ∧ 8 + (1 + 11) + (rmD d0 mc ms).locals ≤ (xR X).locals := ⟨by show d0 + 1 ≤ _; have := hX.1; omega, by show 8 + (1 + 11) + 40 * d0 ≤ _; have := hX.2.1; omega⟩
  have hf : k + mc ≤ (xR X).cells ∧ n + ms ≤ (xR X).slots := ⟨by have := hX.2.2.1; omega, by have := hX.2.2.2; omega⟩
  exact V_callXi (V_runVX C hM ⟨ml_L_97, im_X4_parts, se_X4_parts, ii_X4, co_X4_parts⟩ ⟨rfl, by decide, by decide, by decide +kernel⟩ hR he rfl hn hst hrest hf d) p1 k1 n1 hp hk hn1 kx kk
theorem KL_100 (C : Cx X lo nL G cc RL) {D0 c0 s0 d0 mc ms : Nat} {b : Nat} {As rest : List Value} {S : Type} {post : Int32 → S → Prop} {wo : S → va_W} (hM : Mi (xl X) yX5_parts (.code yX5_parts prog_7_method_13_code 1 (some .int)) d0 mc ms lo G (.ref b :: As) ws post wo) (hX : RmX X D0 c0 s0) (hd : d0 + 1 ≤ D0) (q0 : Nat) {fs : List Value} (he : ws[q0]? = some (b, .inr (5, fs))) (hn : As.length = 0) (hst : st = As.reverse ++ .ref b :: rest) (hrest : (rest.map fun v => v.category).sum ≤ 8) (p1 k1 n1 : Nat) (hp : pc + 3 = p1) (hk : k + mc = k1) (hn1 : n + ms = n1) (hk1 : k1 ≤ c0) (hs1 : n1 ≤ s0) (d : decode cc pc = .ok (.invokevirtual 100, 3)) (kk : ∀ (r : Int32) (u : S), post r u → V X lo nL G Q k1 n1 (wo u) lc (.int r :: rest) p1) : V X lo nL G Q k n ws lc st pc := by
  have hR : (rmD d0 mc ms).frames + 1 ≤ (xR X).frames ∧ 8 + (1 + 11) + (rmD d0 mc ms).locals ≤ (xR X).locals := ⟨by show d0 + 1 ≤ _; have := hX.1; omega, by show 8 + (1 + 11) + 40 * d0 ≤ _; have := hX.2.1; omega⟩
  have hf : k + mc ≤ (xR X).cells ∧ n + ms ≤ (xR X).slots := ⟨by have := hX.2.2.1; omega, by have := hX.2.2.2; omega⟩
  exact V_calli (V_runV C hM ⟨ml_L_100, im_X5_parts, se_X5_parts, ii_X5, co_X5_parts⟩ ⟨rfl, by decide, by decide, by decide +kernel⟩ hR he rfl hn hst hrest hf d) p1 k1 n1 hp hk hn1 kk
theorem KL_103 (C : Cx X lo nL G cc RL) {D0 c0 s0 d0 mc ms : Nat} {b : Nat} {As rest : List Value} {S : Type} {post : Int32 → S → Prop} {wo : S → va_W} (hM : Mi (xl X) yX5_count (.code yX5_count prog_7_method_14_code 2 (some .int)) d0 mc ms lo G (.ref b :: As) ws post wo) (hX : RmX X D0 c0 s0) (hd : d0 + 1 ≤ D0) (q0 : Nat) {fs : List Value} (he : ws[q0]? = some (b, .inr (5, fs))) (hn : As.length = 1) (hst : st = As.reverse ++ .ref b :: rest) (hrest : (rest.map fun v => v.category).sum ≤ 8) (p1 k1 n1 : Nat) (hp : pc + 3 = p1) (hk : k + mc = k1) (hn1 : n + ms = n1) (hk1 : k1 ≤ c0) (hs1 : n1 ≤ s0) (d : decode cc pc = .ok (.invokevirtual 103, 3)) (kk : ∀ (r : Int32) (u : S), post r u → V X lo nL G Q k1 n1 (wo u) lc (.int r :: rest) p1) : V X lo nL G Q k n ws lc st pc := by
  have hR : (rmD d0 mc ms).frames + 1 ≤ (xR X).frames ∧ 8 + (2 + 11) + (rmD d0 mc ms).locals ≤ (xR X).locals := ⟨by show d0 + 1 ≤ _; have := hX.1; omega, by show 8 + (2 + 11) + 40 * d0 ≤ _; have := hX.2.1; omega⟩
  have hf : k + mc ≤ (xR X).cells ∧ n + ms ≤ (xR X).slots := ⟨by have := hX.2.2.1; omega, by have := hX.2.2.2; omega⟩
  exact V_calli (V_runV C hM ⟨ml_L_103, im_X5_count, se_X5_count, ii_X5, co_X5_count⟩ ⟨rfl, by decide, by decide, by decide +kernel⟩ hR he rfl hn hst hrest hf d) p1 k1 n1 hp hk hn1 kk
theorem KL_106 (C : Cx X lo nL G cc RL) {D0 c0 s0 d0 mc ms : Nat} {b : Nat} {As rest : List Value} {S : Type} {post : Int32 → S → Prop} {wo : S → va_W} (hM : Mi (xl X) yX5_costOf (.code yX5_costOf prog_7_method_16_code 2 (some .int)) d0 mc ms lo G (.ref b :: As) ws post wo) (hX : RmX X D0 c0 s0) (hd : d0 + 1 ≤ D0) (q0 : Nat) {fs : List Value} (he : ws[q0]? = some (b, .inr (5, fs))) (hn : As.length = 1) (hst : st = As.reverse ++ .ref b :: rest) (hrest : (rest.map fun v => v.category).sum ≤ 8) (p1 k1 n1 : Nat) (hp : pc + 3 = p1) (hk : k + mc = k1) (hn1 : n + ms = n1) (hk1 : k1 ≤ c0) (hs1 : n1 ≤ s0) (d : decode cc pc = .ok (.invokevirtual 106, 3)) (kk : ∀ (r : Int32) (u : S), post r u → V X lo nL G Q k1 n1 (wo u) lc (.int r :: rest) p1) : V X lo nL G Q k n ws lc st pc := by
  have hR : (rmD d0 mc ms).frames + 1 ≤ (xR X).frames ∧ 8 + (2 + 11) + (rmD d0 mc ms).locals ≤ (xR X).locals := ⟨by show d0 + 1 ≤ _; have := hX.1; omega, by show 8 + (2 + 11) + 40 * d0 ≤ _; have := hX.2.1; omega⟩
  have hf : k + mc ≤ (xR X).cells ∧ n + ms ≤ (xR X).slots := ⟨by have := hX.2.2.1; omega, by have := hX.2.2.2; omega⟩
  exact V_calli (V_runV C hM ⟨ml_L_106, im_X5_costOf, se_X5_costOf, ii_X5, co_X5_costOf⟩ ⟨rfl, by decide, by decide, by decide +kernel⟩ hR he rfl hn hst hrest hf d) p1 k1 n1 hp hk hn1 kk
theorem KL_109 (C : Cx X lo nL G cc RL) {D0 c0 s0 d0 mc ms : Nat} {b : Nat} {As rest : List Value} {S : Type} {post : Int32 → S → Prop} {wo : S → va_W} (hM : Mi (xl X) yX5_find (.code yX5_find prog_7_method_17_code 2 (some .int)) d0 mc ms lo G (.ref b :: As) ws post wo) (hX : RmX X D0 c0 s0) (hd : d0 + 1 ≤ D0) (q0 : Nat) {fs : List Value} (he : ws[q0]? = some (b, .inr (5, fs))) (hn : As.length = 1) (hst : st = As.reverse ++ .ref b :: rest) (hrest : (rest.map fun v => v.category).sum ≤ 8) (p1 k1 n1 : Nat) (hp : pc + 3 = p1) (hk : k + mc = k1) (hn1 : n + ms = n1) (hk1 : k1 ≤ c0) (hs1 : n1 ≤ s0) (d : decode cc pc = .ok (.invokevirtual 109, 3)) (kk : ∀ (r : Int32) (u : S), post r u → V X lo nL G Q k1 n1 (wo u) lc (.int r :: rest) p1) : V X lo nL G Q k n ws lc st pc := by
  have hR : (rmD d0 mc ms).frames + 1 ≤ (xR X).frames ∧ 8 + (2 + 11) + (rmD d0 mc ms).locals ≤ (xR X).locals := ⟨by show d0 + 1 ≤ _; have := hX.1; omega, by show 8 + (2 + 11) + 40 * d0 ≤ _; have := hX.2.1; omega⟩
  have hf : k + mc ≤ (xR X).cells ∧ n + ms ≤ (xR X).slots := ⟨by have := hX.2.2.1; omega, by have := hX.2.2.2; omega⟩
  exact V_calli (V_runV C hM ⟨ml_L_109, im_X5_find, se_X5_find, ii_X5, co_X5_find⟩ ⟨rfl, by decide, by decide, by decide +kernel⟩ hR he rfl hn hst hrest hf d) p1 k1 n1 hp hk hn1 kk
theorem KL_110 (C : Cx X lo nL G cc RL) {D0 c0 s0 d0 mc ms : Nat} {b : Nat} {As rest : List Value} {S : Type} {post : Int32 → S → Prop} {wo : S → va_W} (hM : Mi (xl X) yX4_nodes (.code yX4_nodes prog_1_method_11_code 1 (some .int)) d0 mc ms lo G (.ref b :: As) ws post wo) (hX : RmX X D0 c0 s0) (hd : d0 + 1 ≤ D0) (q0 : Nat) {fs : List Value} (he : ws[q0]? = some (b, .inr (4, fs))) (hn : As.length = 0) (hst : st = As.reverse ++ .ref b :: rest) (hrest : (rest.map fun v => v.category).sum ≤ 8) (p1 k1 n1 : Nat) (hp : pc + 3 = p1) (hk : k + mc = k1) (hn1 : n + ms = n1) (hk1 : k1 ≤ c0) (hs1 : n1 ≤ s0) (d : decode cc pc = .ok (.invokevirtual 110, 3)) (kk : ∀ (r : Int32) (u : S), post r u → V X lo nL G Q k1 n1 (wo u) lc (.int r :: rest) p1) : V X lo nL G Q k n ws lc st pc := by
  have hR : (rmD d0 mc ms).frames + 1 ≤ (xR X).frames ∧ 8 + (1 + 11) + (rmD d0 mc ms).locals ≤ (xR X).locals := ⟨by show d0 + 1 ≤ _; have := hX.1; omega, by show 8 + (1 + 11) + 40 * d0 ≤ _; have := hX.2.1; omega⟩
  have hf : k + mc ≤ (xR X).cells ∧ n + ms ≤ (xR X).slots := ⟨by have := hX.2.2.1; omega, by have := hX.2.2.2; omega⟩
  exact V_calli (V_runV C hM ⟨ml_L_110, im_X4_nodes, se_X4_nodes, ii_X4, co_X4_nodes⟩ ⟨rfl, by decide, by decide, by decide +kernel⟩ hR he rfl hn hst hrest hf d) p1 k1 n1 hp hk hn1 kk
theorem KXL_110 (C : Cx X lo nL G cc RL) {D0 c0 s0 d0 mc ms : Nat} {b : Nat} {As rest : List Value} {px : String → Prop} {S : Type} {post : Int32 → S → Prop} {wo : S → va_W} (hM : Xi (xl X) yX4_nodes (.code yX4_nodes prog_1_method_11_code 1 (some .int)) d0 mc ms lo G (.ref b :: As) ws px post wo) (hX : RmX X D0 c0 s0) (hd : d0 + 1 ≤ D0) (q0 : Nat) {fs : List Value} (he : ws[q0]? = some (b, .inr (4, fs))) (hn : As.length = 0) (hst : st = As.reverse ++ .ref b :: rest) (hrest : (rest.map fun v => v.category).sum ≤ 8) (p1 k1 n1 : Nat) (hp : pc + 3 = p1) (hk : k + mc = k1) (hn1 : n + ms = n1) (hk1 : k1 ≤ c0) (hs1 : n1 ≤ s0) (d : decode cc pc = .ok (.invokevirtual 110, 3)) (kx : ∀ (E : String) (ce : Cell) (q9 : Addr) (H1 : Heap) (locs1 : List Loc) (ls : Array Slot), px E → va_P G.1 vwCl ws H1 → va_D (Lo lo) ws → va_S (Lo lo) (xs X).heap H1 locs1 → lv_has ls nL lc → H1[q9]? = some ce → ce.vm = .none → (xs X).vm.findClass E = some ce.cls → vx_W (xp X) (xl X) (xe X) (xR X) (xs X) (xm X) (xa X) (xb X) (xh X) (xc X) H1 locs1 k1 n1 Q (F0 (xm X) pc ls rest) q9) (kk : ∀ (r : Int32) (u : S), post r u → V X lo nL G Q k1 n1 (wo u) lc (.int r :: rest) p1) : V X lo nL G Q k n ws lc st pc := by
  have hR : (rmD d0 mc ms).frames + 1 ≤ (xR X).frames ∧ 8 + (1 + 11) + (rmD d0 mc ms).locals ≤ (xR X).locals := ⟨by show d0 + 1 ≤ _; have := hX.1; omega, by show 8 + (1 + 11) + 40 * d0 ≤ _; have := hX.2.1; omega⟩
  have hf : k + mc ≤ (xR X).cells ∧ n + ms ≤ (xR X).slots := ⟨by have := hX.2.2.1; omega, by have := hX.2.2.2; omega⟩
  exact V_callXi (V_runVX C hM ⟨ml_L_110, im_X4_nodes, se_X4_nodes, ii_X4, co_X4_nodes⟩ ⟨rfl, by decide, by decide, by decide +kernel⟩ hR he rfl hn hst hrest hf d) p1 k1 n1 hp hk hn1 kx kk
theorem KL_113 (C : Cx X lo nL G cc RL) {D0 c0 s0 d0 mc ms : Nat} {b : Nat} {As rest : List Value} {S : Type} {post : Int32 → S → Prop} {wo : S → va_W} (hM : Mi (xl X) yX5_nodes (.code yX5_nodes prog_7_method_22_code 7 (some .int)) d0 mc ms lo G (.ref b :: As) ws post wo) (hX : RmX X D0 c0 s0) (hd : d0 + 1 ≤ D0) (q0 : Nat) {fs : List Value} (he : ws[q0]? = some (b, .inr (5, fs))) (hn : As.length = 0) (hst : st = As.reverse ++ .ref b :: rest) (hrest : (rest.map fun v => v.category).sum ≤ 8) (p1 k1 n1 : Nat) (hp : pc + 3 = p1) (hk : k + mc = k1) (hn1 : n + ms = n1) (hk1 : k1 ≤ c0) (hs1 : n1 ≤ s0) (d : decode cc pc = .ok (.invokevirtual 113, 3)) (kk : ∀ (r : Int32) (u : S), post r u → V X lo nL G Q k1 n1 (wo u) lc (.int r :: rest) p1) : V X lo nL G Q k n ws lc st pc := by
  have hR : (rmD d0 mc ms).frames + 1 ≤ (xR X).frames ∧ 8 + (7 + 11) + (rmD d0 mc ms).locals ≤ (xR X).locals := ⟨by show d0 + 1 ≤ _; have := hX.1; omega, by show 8 + (7 + 11) + 40 * d0 ≤ _; have := hX.2.1; omega⟩
  have hf : k + mc ≤ (xR X).cells ∧ n + ms ≤ (xR X).slots := ⟨by have := hX.2.2.1; omega, by have := hX.2.2.2; omega⟩
  exact V_calli (V_runV C hM ⟨ml_L_113, im_X5_nodes, se_X5_nodes, ii_X5, co_X5_nodes⟩ ⟨rfl, by decide, by decide, by decide +kernel⟩ hR he rfl hn hst hrest hf d) p1 k1 n1 hp hk hn1 kk
theorem KL_116 (C : Cx X lo nL G cc RL) {D0 c0 s0 d0 mc ms : Nat} {b : Nat} {As rest : List Value} {S : Type} {post : Int32 → S → Prop} {wo : S → va_W} (hM : Mi (xl X) yX5_splits (.code yX5_splits prog_7_method_33_code 2 (some .int)) d0 mc ms lo G (.ref b :: As) ws post wo) (hX : RmX X D0 c0 s0) (hd : d0 + 1 ≤ D0) (q0 : Nat) {fs : List Value} (he : ws[q0]? = some (b, .inr (5, fs))) (hn : As.length = 1) (hst : st = As.reverse ++ .ref b :: rest) (hrest : (rest.map fun v => v.category).sum ≤ 8) (p1 k1 n1 : Nat) (hp : pc + 3 = p1) (hk : k + mc = k1) (hn1 : n + ms = n1) (hk1 : k1 ≤ c0) (hs1 : n1 ≤ s0) (d : decode cc pc = .ok (.invokevirtual 116, 3)) (kk : ∀ (r : Int32) (u : S), post r u → V X lo nL G Q k1 n1 (wo u) lc (.int r :: rest) p1) : V X lo nL G Q k n ws lc st pc := by
  have hR : (rmD d0 mc ms).frames + 1 ≤ (xR X).frames ∧ 8 + (2 + 11) + (rmD d0 mc ms).locals ≤ (xR X).locals := ⟨by show d0 + 1 ≤ _; have := hX.1; omega, by show 8 + (2 + 11) + 40 * d0 ≤ _; have := hX.2.1; omega⟩
  have hf : k + mc ≤ (xR X).cells ∧ n + ms ≤ (xR X).slots := ⟨by have := hX.2.2.1; omega, by have := hX.2.2.2; omega⟩
  exact V_calli (V_runV C hM ⟨ml_L_116, im_X5_splits, se_X5_splits, ii_X5, co_X5_splits⟩ ⟨rfl, by decide, by decide, by decide +kernel⟩ hR he rfl hn hst hrest hf d) p1 k1 n1 hp hk hn1 kk
theorem KL_119 (C : Cx X lo nL G cc RL) {D0 c0 s0 d0 mc ms : Nat} {b : Nat} {As rest : List Value} {S : Type} {post : Int32 → S → Prop} {wo : S → va_W} (hM : Mi (xl X) yX5_cost (.code yX5_cost prog_7_method_35_code 5 (some .int)) d0 mc ms lo G (.ref b :: As) ws post wo) (hX : RmX X D0 c0 s0) (hd : d0 + 1 ≤ D0) (q0 : Nat) {fs : List Value} (he : ws[q0]? = some (b, .inr (5, fs))) (hn : As.length = 2) (hst : st = As.reverse ++ .ref b :: rest) (hrest : (rest.map fun v => v.category).sum ≤ 8) (p1 k1 n1 : Nat) (hp : pc + 3 = p1) (hk : k + mc = k1) (hn1 : n + ms = n1) (hk1 : k1 ≤ c0) (hs1 : n1 ≤ s0) (d : decode cc pc = .ok (.invokevirtual 119, 3)) (kk : ∀ (r : Int32) (u : S), post r u → V X lo nL G Q k1 n1 (wo u) lc (.int r :: rest) p1) : V X lo nL G Q k n ws lc st pc := by
  have hR : (rmD d0 mc ms).frames + 1 ≤ (xR X).frames ∧ 8 + (5 + 11) + (rmD d0 mc ms).locals ≤ (xR X).locals := ⟨by show d0 + 1 ≤ _; have := hX.1; omega, by show 8 + (5 + 11) + 40 * d0 ≤ _; have := hX.2.1; omega⟩
  have hf : k + mc ≤ (xR X).cells ∧ n + ms ≤ (xR X).slots := ⟨by have := hX.2.2.1; omega, by have := hX.2.2.2; omega⟩
  exact V_calli (V_runV C hM ⟨ml_L_119, im_X5_cost, se_X5_cost, ii_X5, co_X5_cost⟩ ⟨rfl, by decide, by decide, by decide +kernel⟩ hR he rfl hn hst hrest hf d) p1 k1 n1 hp hk hn1 kk
theorem KL_122 (C : Cx X lo nL G cc RL) {D0 c0 s0 d0 mc ms : Nat} {b : Nat} {As rest : List Value} {S : Type} {post : Int32 → S → Prop} {wo : S → va_W} (hM : Mi (xl X) yX5_size (.code yX5_size prog_7_method_36_code 5 (some .int)) d0 mc ms lo G (.ref b :: As) ws post wo) (hX : RmX X D0 c0 s0) (hd : d0 + 1 ≤ D0) (q0 : Nat) {fs : List Value} (he : ws[q0]? = some (b, .inr (5, fs))) (hn : As.length = 2) (hst : st = As.reverse ++ .ref b :: rest) (hrest : (rest.map fun v => v.category).sum ≤ 8) (p1 k1 n1 : Nat) (hp : pc + 3 = p1) (hk : k + mc = k1) (hn1 : n + ms = n1) (hk1 : k1 ≤ c0) (hs1 : n1 ≤ s0) (d : decode cc pc = .ok (.invokevirtual 122, 3)) (kk : ∀ (r : Int32) (u : S), post r u → V X lo nL G Q k1 n1 (wo u) lc (.int r :: rest) p1) : V X lo nL G Q k n ws lc st pc := by
  have hR : (rmD d0 mc ms).frames + 1 ≤ (xR X).frames ∧ 8 + (5 + 11) + (rmD d0 mc ms).locals ≤ (xR X).locals := ⟨by show d0 + 1 ≤ _; have := hX.1; omega, by show 8 + (5 + 11) + 40 * d0 ≤ _; have := hX.2.1; omega⟩
  have hf : k + mc ≤ (xR X).cells ∧ n + ms ≤ (xR X).slots := ⟨by have := hX.2.2.1; omega, by have := hX.2.2.2; omega⟩
  exact V_calli (V_runV C hM ⟨ml_L_122, im_X5_size, se_X5_size, ii_X5, co_X5_size⟩ ⟨rfl, by decide, by decide, by decide +kernel⟩ hR he rfl hn hst hrest hf d) p1 k1 n1 hp hk hn1 kk
theorem KL_125 (C : Cx X lo nL G cc RL) {D0 c0 s0 d0 mc ms : Nat} {b : Nat} {As rest : List Value} {S : Type} {post : Int32 → S → Prop} {wo : S → va_W} (hM : Mi (xl X) yX5_partAt (.code yX5_partAt prog_7_method_37_code 6 (some .int)) d0 mc ms lo G (.ref b :: As) ws post wo) (hX : RmX X D0 c0 s0) (hd : d0 + 1 ≤ D0) (q0 : Nat) {fs : List Value} (he : ws[q0]? = some (b, .inr (5, fs))) (hn : As.length = 3) (hst : st = As.reverse ++ .ref b :: rest) (hrest : (rest.map fun v => v.category).sum ≤ 8) (p1 k1 n1 : Nat) (hp : pc + 3 = p1) (hk : k + mc = k1) (hn1 : n + ms = n1) (hk1 : k1 ≤ c0) (hs1 : n1 ≤ s0) (d : decode cc pc = .ok (.invokevirtual 125, 3)) (kk : ∀ (r : Int32) (u : S), post r u → V X lo nL G Q k1 n1 (wo u) lc (.int r :: rest) p1) : V X lo nL G Q k n ws lc st pc := by
  have hR : (rmD d0 mc ms).frames + 1 ≤ (xR X).frames ∧ 8 + (6 + 11) + (rmD d0 mc ms).locals ≤ (xR X).locals := ⟨by show d0 + 1 ≤ _; have := hX.1; omega, by show 8 + (6 + 11) + 40 * d0 ≤ _; have := hX.2.1; omega⟩
  have hf : k + mc ≤ (xR X).cells ∧ n + ms ≤ (xR X).slots := ⟨by have := hX.2.2.1; omega, by have := hX.2.2.2; omega⟩
  exact V_calli (V_runV C hM ⟨ml_L_125, im_X5_partAt, se_X5_partAt, ii_X5, co_X5_partAt⟩ ⟨rfl, by decide, by decide, by decide +kernel⟩ hR he rfl hn hst hrest hf d) p1 k1 n1 hp hk hn1 kk
theorem KL_128 (C : Cx X lo nL G cc RL) {D0 c0 s0 d0 mc ms : Nat} {b : Nat} {As rest : List Value} {S : Type} {post : Int32 → S → Prop} {wo : S → va_W} (hM : Mi (xl X) yX5_head (.code yX5_head prog_7_method_38_code 2 (some .int)) d0 mc ms lo G (.ref b :: As) ws post wo) (hX : RmX X D0 c0 s0) (hd : d0 + 1 ≤ D0) (q0 : Nat) {fs : List Value} (he : ws[q0]? = some (b, .inr (5, fs))) (hn : As.length = 1) (hst : st = As.reverse ++ .ref b :: rest) (hrest : (rest.map fun v => v.category).sum ≤ 8) (p1 k1 n1 : Nat) (hp : pc + 3 = p1) (hk : k + mc = k1) (hn1 : n + ms = n1) (hk1 : k1 ≤ c0) (hs1 : n1 ≤ s0) (d : decode cc pc = .ok (.invokevirtual 128, 3)) (kk : ∀ (r : Int32) (u : S), post r u → V X lo nL G Q k1 n1 (wo u) lc (.int r :: rest) p1) : V X lo nL G Q k n ws lc st pc := by
  have hR : (rmD d0 mc ms).frames + 1 ≤ (xR X).frames ∧ 8 + (2 + 11) + (rmD d0 mc ms).locals ≤ (xR X).locals := ⟨by show d0 + 1 ≤ _; have := hX.1; omega, by show 8 + (2 + 11) + 40 * d0 ≤ _; have := hX.2.1; omega⟩
  have hf : k + mc ≤ (xR X).cells ∧ n + ms ≤ (xR X).slots := ⟨by have := hX.2.2.1; omega, by have := hX.2.2.2; omega⟩
  exact V_calli (V_runV C hM ⟨ml_L_128, im_X5_head, se_X5_head, ii_X5, co_X5_head⟩ ⟨rfl, by decide, by decide, by decide +kernel⟩ hR he rfl hn hst hrest hf d) p1 k1 n1 hp hk hn1 kk
theorem KL_131 (C : Cx X lo nL G cc RL) {D0 c0 s0 d0 mc ms : Nat} {b : Nat} {As rest : List Value} {S : Type} {post : Int32 → S → Prop} {wo : S → va_W} (hM : Mi (xl X) yX5_readings (.code yX5_readings prog_7_method_40_code 4 (some .int)) d0 mc ms lo G (.ref b :: As) ws post wo) (hX : RmX X D0 c0 s0) (hd : d0 + 1 ≤ D0) (q0 : Nat) {fs : List Value} (he : ws[q0]? = some (b, .inr (5, fs))) (hn : As.length = 1) (hst : st = As.reverse ++ .ref b :: rest) (hrest : (rest.map fun v => v.category).sum ≤ 8) (p1 k1 n1 : Nat) (hp : pc + 3 = p1) (hk : k + mc = k1) (hn1 : n + ms = n1) (hk1 : k1 ≤ c0) (hs1 : n1 ≤ s0) (d : decode cc pc = .ok (.invokevirtual 131, 3)) (kk : ∀ (r : Int32) (u : S), post r u → V X lo nL G Q k1 n1 (wo u) lc (.int r :: rest) p1) : V X lo nL G Q k n ws lc st pc := by
  have hR : (rmD d0 mc ms).frames + 1 ≤ (xR X).frames ∧ 8 + (4 + 11) + (rmD d0 mc ms).locals ≤ (xR X).locals := ⟨by show d0 + 1 ≤ _; have := hX.1; omega, by show 8 + (4 + 11) + 40 * d0 ≤ _; have := hX.2.1; omega⟩
  have hf : k + mc ≤ (xR X).cells ∧ n + ms ≤ (xR X).slots := ⟨by have := hX.2.2.1; omega, by have := hX.2.2.2; omega⟩
  exact V_calli (V_runV C hM ⟨ml_L_131, im_X5_readings, se_X5_readings, ii_X5, co_X5_readings⟩ ⟨rfl, by decide, by decide, by decide +kernel⟩ hR he rfl hn hst hrest hf d) p1 k1 n1 hp hk hn1 kk
theorem KL_134 (C : Cx X lo nL G cc RL) {D0 c0 s0 d0 mc ms : Nat} {b : Nat} {As rest : List Value} {S : Type} {post : Int32 → S → Prop} {wo : S → va_W} (hM : Mi (xl X) yX5_learn (.code yX5_learn prog_7_method_42_code 3 (some .boolean)) d0 mc ms lo G (.ref b :: As) ws post wo) (hX : RmX X D0 c0 s0) (hd : d0 + 1 ≤ D0) (q0 : Nat) {fs : List Value} (he : ws[q0]? = some (b, .inr (5, fs))) (hn : As.length = 1) (hst : st = As.reverse ++ .ref b :: rest) (hrest : (rest.map fun v => v.category).sum ≤ 8) (p1 k1 n1 : Nat) (hp : pc + 3 = p1) (hk : k + mc = k1) (hn1 : n + ms = n1) (hk1 : k1 ≤ c0) (hs1 : n1 ≤ s0) (d : decode cc pc = .ok (.invokevirtual 134, 3)) (kk : ∀ (r : Int32) (u : S), post r u → V X lo nL G Q k1 n1 (wo u) lc (.int r :: rest) p1) : V X lo nL G Q k n ws lc st pc := by
  have hR : (rmD d0 mc ms).frames + 1 ≤ (xR X).frames ∧ 8 + (3 + 11) + (rmD d0 mc ms).locals ≤ (xR X).locals := ⟨by show d0 + 1 ≤ _; have := hX.1; omega, by show 8 + (3 + 11) + 40 * d0 ≤ _; have := hX.2.1; omega⟩
  have hf : k + mc ≤ (xR X).cells ∧ n + ms ≤ (xR X).slots := ⟨by have := hX.2.2.1; omega, by have := hX.2.2.2; omega⟩
  exact V_calli (V_runV C hM ⟨ml_L_134, im_X5_learn, se_X5_learn, ii_X5, co_X5_learn⟩ ⟨rfl, by decide, by decide, by decide +kernel⟩ hR he rfl hn hst hrest hf d) p1 k1 n1 hp hk hn1 kk
theorem KL_138 (C : Cx X lo nL G cc RL) {D0 c0 s0 d0 mc ms : Nat} {b : Nat} {As rest : List Value} {S : Type} {post : Int32 → S → Prop} {wo : S → va_W} (hM : Mi (xl X) yX5_forget (.code yX5_forget prog_7_method_43_code 2 (some .int)) d0 mc ms lo G (.ref b :: As) ws post wo) (hX : RmX X D0 c0 s0) (hd : d0 + 1 ≤ D0) (q0 : Nat) {fs : List Value} (he : ws[q0]? = some (b, .inr (5, fs))) (hn : As.length = 0) (hst : st = As.reverse ++ .ref b :: rest) (hrest : (rest.map fun v => v.category).sum ≤ 8) (p1 k1 n1 : Nat) (hp : pc + 3 = p1) (hk : k + mc = k1) (hn1 : n + ms = n1) (hk1 : k1 ≤ c0) (hs1 : n1 ≤ s0) (d : decode cc pc = .ok (.invokevirtual 138, 3)) (kk : ∀ (r : Int32) (u : S), post r u → V X lo nL G Q k1 n1 (wo u) lc (.int r :: rest) p1) : V X lo nL G Q k n ws lc st pc := by
  have hR : (rmD d0 mc ms).frames + 1 ≤ (xR X).frames ∧ 8 + (2 + 11) + (rmD d0 mc ms).locals ≤ (xR X).locals := ⟨by show d0 + 1 ≤ _; have := hX.1; omega, by show 8 + (2 + 11) + 40 * d0 ≤ _; have := hX.2.1; omega⟩
  have hf : k + mc ≤ (xR X).cells ∧ n + ms ≤ (xR X).slots := ⟨by have := hX.2.2.1; omega, by have := hX.2.2.2; omega⟩
  exact V_calli (V_runV C hM ⟨ml_L_138, im_X5_forget, se_X5_forget, ii_X5, co_X5_forget⟩ ⟨rfl, by decide, by decide, by decide +kernel⟩ hR he rfl hn hst hrest hf d) p1 k1 n1 hp hk hn1 kk
theorem KL_139 (C : Cx X lo nL G cc RL) {D0 c0 s0 d0 mc ms : Nat} {b : Nat} {As rest : List Value} {S : Type} {post : Int32 → S → Prop} {wo : S → va_W} (hM : Mi (xl X) yX4_learned (.code yX4_learned prog_1_method_20_code 1 (some .int)) d0 mc ms lo G (.ref b :: As) ws post wo) (hX : RmX X D0 c0 s0) (hd : d0 + 1 ≤ D0) (q0 : Nat) {fs : List Value} (he : ws[q0]? = some (b, .inr (4, fs))) (hn : As.length = 0) (hst : st = As.reverse ++ .ref b :: rest) (hrest : (rest.map fun v => v.category).sum ≤ 8) (p1 k1 n1 : Nat) (hp : pc + 3 = p1) (hk : k + mc = k1) (hn1 : n + ms = n1) (hk1 : k1 ≤ c0) (hs1 : n1 ≤ s0) (d : decode cc pc = .ok (.invokevirtual 139, 3)) (kk : ∀ (r : Int32) (u : S), post r u → V X lo nL G Q k1 n1 (wo u) lc (.int r :: rest) p1) : V X lo nL G Q k n ws lc st pc := by
  have hR : (rmD d0 mc ms).frames + 1 ≤ (xR X).frames ∧ 8 + (1 + 11) + (rmD d0 mc ms).locals ≤ (xR X).locals := ⟨by show d0 + 1 ≤ _; have := hX.1; omega, by show 8 + (1 + 11) + 40 * d0 ≤ _; have := hX.2.1; omega⟩
  have hf : k + mc ≤ (xR X).cells ∧ n + ms ≤ (xR X).slots := ⟨by have := hX.2.2.1; omega, by have := hX.2.2.2; omega⟩
  exact V_calli (V_runV C hM ⟨ml_L_139, im_X4_learned, se_X4_learned, ii_X4, co_X4_learned⟩ ⟨rfl, by decide, by decide, by decide +kernel⟩ hR he rfl hn hst hrest hf d) p1 k1 n1 hp hk hn1 kk
theorem KXL_139 (C : Cx X lo nL G cc RL) {D0 c0 s0 d0 mc ms : Nat} {b : Nat} {As rest : List Value} {px : String → Prop} {S : Type} {post : Int32 → S → Prop} {wo : S → va_W} (hM : Xi (xl X) yX4_learned (.code yX4_learned prog_1_method_20_code 1 (some .int)) d0 mc ms lo G (.ref b :: As) ws px post wo) (hX : RmX X D0 c0 s0) (hd : d0 + 1 ≤ D0) (q0 : Nat) {fs : List Value} (he : ws[q0]? = some (b, .inr (4, fs))) (hn : As.length = 0) (hst : st = As.reverse ++ .ref b :: rest) (hrest : (rest.map fun v => v.category).sum ≤ 8) (p1 k1 n1 : Nat) (hp : pc + 3 = p1) (hk : k + mc = k1) (hn1 : n + ms = n1) (hk1 : k1 ≤ c0) (hs1 : n1 ≤ s0) (d : decode cc pc = .ok (.invokevirtual 139, 3)) (kx : ∀ (E : String) (ce : Cell) (q9 : Addr) (H1 : Heap) (locs1 : List Loc) (ls : Array Slot), px E → va_P G.1 vwCl ws H1 → va_D (Lo lo) ws → va_S (Lo lo) (xs X).heap H1 locs1 → lv_has ls nL lc → H1[q9]? = some ce → ce.vm = .none → (xs X).vm.findClass E = some ce.cls → vx_W (xp X) (xl X) (xe X) (xR X) (xs X) (xm X) (xa X) (xb X) (xh X) (xc X) H1 locs1 k1 n1 Q (F0 (xm X) pc ls rest) q9) (kk : ∀ (r : Int32) (u : S), post r u → V X lo nL G Q k1 n1 (wo u) lc (.int r :: rest) p1) : V X lo nL G Q k n ws lc st pc := by
  have hR : (rmD d0 mc ms).frames + 1 ≤ (xR X).frames ∧ 8 + (1 + 11) + (rmD d0 mc ms).locals ≤ (xR X).locals := ⟨by show d0 + 1 ≤ _; have := hX.1; omega, by show 8 + (1 + 11) + 40 * d0 ≤ _; have := hX.2.1; omega⟩
  have hf : k + mc ≤ (xR X).cells ∧ n + ms ≤ (xR X).slots := ⟨by have := hX.2.2.1; omega, by have := hX.2.2.2; omega⟩
  exact V_callXi (V_runVX C hM ⟨ml_L_139, im_X4_learned, se_X4_learned, ii_X4, co_X4_learned⟩ ⟨rfl, by decide, by decide, by decide +kernel⟩ hR he rfl hn hst hrest hf d) p1 k1 n1 hp hk hn1 kx kk
theorem KL_142 (C : Cx X lo nL G cc RL) {D0 c0 s0 d0 mc ms : Nat} {b : Nat} {As rest : List Value} {S : Type} {post : Int32 → S → Prop} {wo : S → va_W} (hM : Mi (xl X) yX5_learned (.code yX5_learned prog_7_method_44_code 1 (some .int)) d0 mc ms lo G (.ref b :: As) ws post wo) (hX : RmX X D0 c0 s0) (hd : d0 + 1 ≤ D0) (q0 : Nat) {fs : List Value} (he : ws[q0]? = some (b, .inr (5, fs))) (hn : As.length = 0) (hst : st = As.reverse ++ .ref b :: rest) (hrest : (rest.map fun v => v.category).sum ≤ 8) (p1 k1 n1 : Nat) (hp : pc + 3 = p1) (hk : k + mc = k1) (hn1 : n + ms = n1) (hk1 : k1 ≤ c0) (hs1 : n1 ≤ s0) (d : decode cc pc = .ok (.invokevirtual 142, 3)) (kk : ∀ (r : Int32) (u : S), post r u → V X lo nL G Q k1 n1 (wo u) lc (.int r :: rest) p1) : V X lo nL G Q k n ws lc st pc := by
  have hR : (rmD d0 mc ms).frames + 1 ≤ (xR X).frames ∧ 8 + (1 + 11) + (rmD d0 mc ms).locals ≤ (xR X).locals := ⟨by show d0 + 1 ≤ _; have := hX.1; omega, by show 8 + (1 + 11) + 40 * d0 ≤ _; have := hX.2.1; omega⟩
  have hf : k + mc ≤ (xR X).cells ∧ n + ms ≤ (xR X).slots := ⟨by have := hX.2.2.1; omega, by have := hX.2.2.2; omega⟩
  exact V_calli (V_runV C hM ⟨ml_L_142, im_X5_learned, se_X5_learned, ii_X5, co_X5_learned⟩ ⟨rfl, by decide, by decide, by decide +kernel⟩ hR he rfl hn hst hrest hf d) p1 k1 n1 hp hk hn1 kk
theorem GX5_7 (C : Cx X lo nL G cc RX5) (q0 : Nat) {fs : List Value} {a : Nat} (he : ws[q0]? = some (a, .inr (5, fs))) {v : Value} (hv : fs[2]? = some v) (p1 : Nat) (hp : pc + 3 = p1) (d : decode cc pc = .ok (.getfield 7, 3)) (kk : V X lo nL G Q k n ws lc (v :: st) p1) : V X lo nL G Q k n ws lc (.ref a :: st) pc := V_get (ref := "PartSplitterModel") C uw_X5 rfl 2 (by decide) fl_X5_7 rfl q0 he hv p1 hp d kk
theorem PX5_7 (C : Cx X lo nL G cc RX5) (hin2 : (xh X).name = "<init>") (q0 : Nat) {fs : List Value} {a : Nat} (he : ws[q0]? = some (a, .inr (5, fs))) {x : Nat} (hl0 : 2 < fs.length) (ws1 : va_W) (hw : ws.set q0 (a, .inr (5, fs.set 2 (.ref x))) = ws1) (p1 : Nat) (hp : pc + 3 = p1) (d : decode cc pc = .ok (.putfield 7, 3)) (kk : V X lo nL G Q k n ws1 lc st p1) : V X lo nL G Q k n ws lc (.ref x :: .ref a :: st) pc := V_putF (ref := "PartSplitterModel") C uw_X5 tyX5 tyX5_ok nmX5 rfl 2 (by decide) fl_X5_7 rfl rfl hin2 rfl q0 he rfl rfl hl0 ws1 hw p1 hp d kk
theorem GX5_13 (C : Cx X lo nL G cc RX5) (q0 : Nat) {fs : List Value} {a : Nat} (he : ws[q0]? = some (a, .inr (5, fs))) {v : Value} (hv : fs[3]? = some v) (p1 : Nat) (hp : pc + 3 = p1) (d : decode cc pc = .ok (.getfield 13, 3)) (kk : V X lo nL G Q k n ws lc (v :: st) p1) : V X lo nL G Q k n ws lc (.ref a :: st) pc := V_get (ref := "PartSplitterModel") C uw_X5 rfl 3 (by decide) fl_X5_13 rfl q0 he hv p1 hp d kk
theorem PX5_13 (C : Cx X lo nL G cc RX5) (hin2 : (xh X).name = "<init>") (q0 : Nat) {fs : List Value} {a : Nat} (he : ws[q0]? = some (a, .inr (5, fs))) {x : Nat} (hl0 : 3 < fs.length) (ws1 : va_W) (hw : ws.set q0 (a, .inr (5, fs.set 3 (.ref x))) = ws1) (p1 : Nat) (hp : pc + 3 = p1) (d : decode cc pc = .ok (.putfield 13, 3)) (kk : V X lo nL G Q k n ws1 lc st p1) : V X lo nL G Q k n ws lc (.ref x :: .ref a :: st) pc := V_putF (ref := "PartSplitterModel") C uw_X5 tyX5 tyX5_ok nmX5 rfl 3 (by decide) fl_X5_13 rfl rfl hin2 rfl q0 he rfl rfl hl0 ws1 hw p1 hp d kk
theorem GX5_16 (C : Cx X lo nL G cc RX5) (q0 : Nat) {fs : List Value} {a : Nat} (he : ws[q0]? = some (a, .inr (5, fs))) {v : Value} (hv : fs[4]? = some v) (p1 : Nat) (hp : pc + 3 = p1) (d : decode cc pc = .ok (.getfield 16, 3)) (kk : V X lo nL G Q k n ws lc (v :: st) p1) : V X lo nL G Q k n ws lc (.ref a :: st) pc := V_get (ref := "PartSplitterModel") C uw_X5 rfl 4 (by decide) fl_X5_16 rfl q0 he hv p1 hp d kk
theorem PX5_16 (C : Cx X lo nL G cc RX5) (hin2 : (xh X).name = "<init>") (q0 : Nat) {fs : List Value} {a : Nat} (he : ws[q0]? = some (a, .inr (5, fs))) {x : Nat} (hl0 : 4 < fs.length) (ws1 : va_W) (hw : ws.set q0 (a, .inr (5, fs.set 4 (.ref x))) = ws1) (p1 : Nat) (hp : pc + 3 = p1) (d : decode cc pc = .ok (.putfield 16, 3)) (kk : V X lo nL G Q k n ws1 lc st p1) : V X lo nL G Q k n ws lc (.ref x :: .ref a :: st) pc := V_putF (ref := "PartSplitterModel") C uw_X5 tyX5 tyX5_ok nmX5 rfl 4 (by decide) fl_X5_16 rfl rfl hin2 rfl q0 he rfl rfl hl0 ws1 hw p1 hp d kk
theorem GX5_19 (C : Cx X lo nL G cc RX5) (q0 : Nat) {fs : List Value} {a : Nat} (he : ws[q0]? = some (a, .inr (5, fs))) {v : Value} (hv : fs[5]? = some v) (p1 : Nat) (hp : pc + 3 = p1) (d : decode cc pc = .ok (.getfield 19, 3)) (kk : V X lo nL G Q k n ws lc (v :: st) p1) : V X lo nL G Q k n ws lc (.ref a :: st) pc := V_get (ref := "PartSplitterModel") C uw_X5 rfl 5 (by decide) fl_X5_19 rfl q0 he hv p1 hp d kk
theorem PX5_19 (C : Cx X lo nL G cc RX5) (hin2 : (xh X).name = "<init>") (q0 : Nat) {fs : List Value} {a : Nat} (he : ws[q0]? = some (a, .inr (5, fs))) {x : Nat} (hl0 : 5 < fs.length) (ws1 : va_W) (hw : ws.set q0 (a, .inr (5, fs.set 5 (.ref x))) = ws1) (p1 : Nat) (hp : pc + 3 = p1) (d : decode cc pc = .ok (.putfield 19, 3)) (kk : V X lo nL G Q k n ws1 lc st p1) : V X lo nL G Q k n ws lc (.ref x :: .ref a :: st) pc := V_putF (ref := "PartSplitterModel") C uw_X5 tyX5 tyX5_ok nmX5 rfl 5 (by decide) fl_X5_19 rfl rfl hin2 rfl q0 he rfl rfl hl0 ws1 hw p1 hp d kk
theorem GX5_22 (C : Cx X lo nL G cc RX5) (q0 : Nat) {fs : List Value} {a : Nat} (he : ws[q0]? = some (a, .inr (5, fs))) {v : Value} (hv : fs[7]? = some v) (p1 : Nat) (hp : pc + 3 = p1) (d : decode cc pc = .ok (.getfield 22, 3)) (kk : V X lo nL G Q k n ws lc (v :: st) p1) : V X lo nL G Q k n ws lc (.ref a :: st) pc := V_get (ref := "PartSplitterModel") C uw_X5 rfl 7 (by decide) fl_X5_22 rfl q0 he hv p1 hp d kk
theorem PX5_22 (C : Cx X lo nL G cc RX5) (hin2 : (xh X).name = "<init>") (q0 : Nat) {fs : List Value} {a : Nat} (he : ws[q0]? = some (a, .inr (5, fs))) {x : Nat} (hl0 : 7 < fs.length) (ws1 : va_W) (hw : ws.set q0 (a, .inr (5, fs.set 7 (.ref x))) = ws1) (p1 : Nat) (hp : pc + 3 = p1) (d : decode cc pc = .ok (.putfield 22, 3)) (kk : V X lo nL G Q k n ws1 lc st p1) : V X lo nL G Q k n ws lc (.ref x :: .ref a :: st) pc := V_putF (ref := "PartSplitterModel") C uw_X5 tyX5 tyX5_ok nmX5 rfl 7 (by decide) fl_X5_22 rfl rfl hin2 rfl q0 he rfl rfl hl0 ws1 hw p1 hp d kk
theorem GX5_25 (C : Cx X lo nL G cc RX5) (q0 : Nat) {fs : List Value} {a : Nat} (he : ws[q0]? = some (a, .inr (5, fs))) {v : Value} (hv : fs[8]? = some v) (p1 : Nat) (hp : pc + 3 = p1) (d : decode cc pc = .ok (.getfield 25, 3)) (kk : V X lo nL G Q k n ws lc (v :: st) p1) : V X lo nL G Q k n ws lc (.ref a :: st) pc := V_get (ref := "PartSplitterModel") C uw_X5 rfl 8 (by decide) fl_X5_25 rfl q0 he hv p1 hp d kk
theorem PX5_25 (C : Cx X lo nL G cc RX5) (hin2 : (xh X).name = "<init>") (q0 : Nat) {fs : List Value} {a : Nat} (he : ws[q0]? = some (a, .inr (5, fs))) {x : Nat} (hl0 : 8 < fs.length) (ws1 : va_W) (hw : ws.set q0 (a, .inr (5, fs.set 8 (.ref x))) = ws1) (p1 : Nat) (hp : pc + 3 = p1) (d : decode cc pc = .ok (.putfield 25, 3)) (kk : V X lo nL G Q k n ws1 lc st p1) : V X lo nL G Q k n ws lc (.ref x :: .ref a :: st) pc := V_putF (ref := "PartSplitterModel") C uw_X5 tyX5 tyX5_ok nmX5 rfl 8 (by decide) fl_X5_25 rfl rfl hin2 rfl q0 he rfl rfl hl0 ws1 hw p1 hp d kk
theorem GX5_28 (C : Cx X lo nL G cc RX5) (q0 : Nat) {fs : List Value} {a : Nat} (he : ws[q0]? = some (a, .inr (5, fs))) {v : Value} (hv : fs[9]? = some v) (p1 : Nat) (hp : pc + 3 = p1) (d : decode cc pc = .ok (.getfield 28, 3)) (kk : V X lo nL G Q k n ws lc (v :: st) p1) : V X lo nL G Q k n ws lc (.ref a :: st) pc := V_get (ref := "PartSplitterModel") C uw_X5 rfl 9 (by decide) fl_X5_28 rfl q0 he hv p1 hp d kk
theorem PX5_28 (C : Cx X lo nL G cc RX5) (hin2 : (xh X).name = "<init>") (q0 : Nat) {fs : List Value} {a : Nat} (he : ws[q0]? = some (a, .inr (5, fs))) {x : Nat} (hl0 : 9 < fs.length) (ws1 : va_W) (hw : ws.set q0 (a, .inr (5, fs.set 9 (.ref x))) = ws1) (p1 : Nat) (hp : pc + 3 = p1) (d : decode cc pc = .ok (.putfield 28, 3)) (kk : V X lo nL G Q k n ws1 lc st p1) : V X lo nL G Q k n ws lc (.ref x :: .ref a :: st) pc := V_putF (ref := "PartSplitterModel") C uw_X5 tyX5 tyX5_ok nmX5 rfl 9 (by decide) fl_X5_28 rfl rfl hin2 rfl q0 he rfl rfl hl0 ws1 hw p1 hp d kk
theorem GX5_31 (C : Cx X lo nL G cc RX5) (q0 : Nat) {fs : List Value} {a : Nat} (he : ws[q0]? = some (a, .inr (5, fs))) {v : Value} (hv : fs[10]? = some v) (p1 : Nat) (hp : pc + 3 = p1) (d : decode cc pc = .ok (.getfield 31, 3)) (kk : V X lo nL G Q k n ws lc (v :: st) p1) : V X lo nL G Q k n ws lc (.ref a :: st) pc := V_get (ref := "PartSplitterModel") C uw_X5 rfl 10 (by decide) fl_X5_31 rfl q0 he hv p1 hp d kk
theorem PX5_31 (C : Cx X lo nL G cc RX5) (hin2 : (xh X).name = "<init>") (q0 : Nat) {fs : List Value} {a : Nat} (he : ws[q0]? = some (a, .inr (5, fs))) {x : Nat} (hl0 : 10 < fs.length) (ws1 : va_W) (hw : ws.set q0 (a, .inr (5, fs.set 10 (.ref x))) = ws1) (p1 : Nat) (hp : pc + 3 = p1) (d : decode cc pc = .ok (.putfield 31, 3)) (kk : V X lo nL G Q k n ws1 lc st p1) : V X lo nL G Q k n ws lc (.ref x :: .ref a :: st) pc := V_putF (ref := "PartSplitterModel") C uw_X5 tyX5 tyX5_ok nmX5 rfl 10 (by decide) fl_X5_31 rfl rfl hin2 rfl q0 he rfl rfl hl0 ws1 hw p1 hp d kk
theorem GX5_34 (C : Cx X lo nL G cc RX5) (q0 : Nat) {fs : List Value} {a : Nat} (he : ws[q0]? = some (a, .inr (5, fs))) {v : Value} (hv : fs[12]? = some v) (p1 : Nat) (hp : pc + 3 = p1) (d : decode cc pc = .ok (.getfield 34, 3)) (kk : V X lo nL G Q k n ws lc (v :: st) p1) : V X lo nL G Q k n ws lc (.ref a :: st) pc := V_get (ref := "PartSplitterModel") C uw_X5 rfl 12 (by decide) fl_X5_34 rfl q0 he hv p1 hp d kk
theorem PX5_34 (C : Cx X lo nL G cc RX5) (hin2 : (xh X).name = "<init>") (q0 : Nat) {fs : List Value} {a : Nat} (he : ws[q0]? = some (a, .inr (5, fs))) {x : Nat} (hl0 : 12 < fs.length) (ws1 : va_W) (hw : ws.set q0 (a, .inr (5, fs.set 12 (.ref x))) = ws1) (p1 : Nat) (hp : pc + 3 = p1) (d : decode cc pc = .ok (.putfield 34, 3)) (kk : V X lo nL G Q k n ws1 lc st p1) : V X lo nL G Q k n ws lc (.ref x :: .ref a :: st) pc := V_putF (ref := "PartSplitterModel") C uw_X5 tyX5 tyX5_ok nmX5 rfl 12 (by decide) fl_X5_34 rfl rfl hin2 rfl q0 he rfl rfl hl0 ws1 hw p1 hp d kk
theorem GX5_37 (C : Cx X lo nL G cc RX5) (q0 : Nat) {fs : List Value} {a : Nat} (he : ws[q0]? = some (a, .inr (5, fs))) {v : Value} (hv : fs[13]? = some v) (p1 : Nat) (hp : pc + 3 = p1) (d : decode cc pc = .ok (.getfield 37, 3)) (kk : V X lo nL G Q k n ws lc (v :: st) p1) : V X lo nL G Q k n ws lc (.ref a :: st) pc := V_get (ref := "PartSplitterModel") C uw_X5 rfl 13 (by decide) fl_X5_37 rfl q0 he hv p1 hp d kk
theorem PX5_37 (C : Cx X lo nL G cc RX5) (hin2 : (xh X).name = "<init>") (q0 : Nat) {fs : List Value} {a : Nat} (he : ws[q0]? = some (a, .inr (5, fs))) {x : Nat} (hl0 : 13 < fs.length) (ws1 : va_W) (hw : ws.set q0 (a, .inr (5, fs.set 13 (.ref x))) = ws1) (p1 : Nat) (hp : pc + 3 = p1) (d : decode cc pc = .ok (.putfield 37, 3)) (kk : V X lo nL G Q k n ws1 lc st p1) : V X lo nL G Q k n ws lc (.ref x :: .ref a :: st) pc := V_putF (ref := "PartSplitterModel") C uw_X5 tyX5 tyX5_ok nmX5 rfl 13 (by decide) fl_X5_37 rfl rfl hin2 rfl q0 he rfl rfl hl0 ws1 hw p1 hp d kk
theorem GX5_40 (C : Cx X lo nL G cc RX5) (q0 : Nat) {fs : List Value} {a : Nat} (he : ws[q0]? = some (a, .inr (5, fs))) {v : Value} (hv : fs[15]? = some v) (p1 : Nat) (hp : pc + 3 = p1) (d : decode cc pc = .ok (.getfield 40, 3)) (kk : V X lo nL G Q k n ws lc (v :: st) p1) : V X lo nL G Q k n ws lc (.ref a :: st) pc := V_get (ref := "PartSplitterModel") C uw_X5 rfl 15 (by decide) fl_X5_40 rfl q0 he hv p1 hp d kk
theorem PX5_40 (C : Cx X lo nL G cc RX5) (hin2 : (xh X).name = "<init>") (q0 : Nat) {fs : List Value} {a : Nat} (he : ws[q0]? = some (a, .inr (5, fs))) {x : Nat} (hl0 : 15 < fs.length) (ws1 : va_W) (hw : ws.set q0 (a, .inr (5, fs.set 15 (.ref x))) = ws1) (p1 : Nat) (hp : pc + 3 = p1) (d : decode cc pc = .ok (.putfield 40, 3)) (kk : V X lo nL G Q k n ws1 lc st p1) : V X lo nL G Q k n ws lc (.ref x :: .ref a :: st) pc := V_putF (ref := "PartSplitterModel") C uw_X5 tyX5 tyX5_ok nmX5 rfl 15 (by decide) fl_X5_40 rfl rfl hin2 rfl q0 he rfl rfl hl0 ws1 hw p1 hp d kk
theorem GX5_43 (C : Cx X lo nL G cc RX5) (q0 : Nat) {fs : List Value} {a : Nat} (he : ws[q0]? = some (a, .inr (5, fs))) {v : Value} (hv : fs[17]? = some v) (p1 : Nat) (hp : pc + 3 = p1) (d : decode cc pc = .ok (.getfield 43, 3)) (kk : V X lo nL G Q k n ws lc (v :: st) p1) : V X lo nL G Q k n ws lc (.ref a :: st) pc := V_get (ref := "PartSplitterModel") C uw_X5 rfl 17 (by decide) fl_X5_43 rfl q0 he hv p1 hp d kk
theorem PX5_43 (C : Cx X lo nL G cc RX5) (hin2 : (xh X).name = "<init>") (q0 : Nat) {fs : List Value} {a : Nat} (he : ws[q0]? = some (a, .inr (5, fs))) {x : Nat} (hl0 : 17 < fs.length) (ws1 : va_W) (hw : ws.set q0 (a, .inr (5, fs.set 17 (.ref x))) = ws1) (p1 : Nat) (hp : pc + 3 = p1) (d : decode cc pc = .ok (.putfield 43, 3)) (kk : V X lo nL G Q k n ws1 lc st p1) : V X lo nL G Q k n ws lc (.ref x :: .ref a :: st) pc := V_putF (ref := "PartSplitterModel") C uw_X5 tyX5 tyX5_ok nmX5 rfl 17 (by decide) fl_X5_43 rfl rfl hin2 rfl q0 he rfl rfl hl0 ws1 hw p1 hp d kk
theorem GX5_46 (C : Cx X lo nL G cc RX5) (q0 : Nat) {fs : List Value} {a : Nat} (he : ws[q0]? = some (a, .inr (5, fs))) {v : Value} (hv : fs[18]? = some v) (p1 : Nat) (hp : pc + 3 = p1) (d : decode cc pc = .ok (.getfield 46, 3)) (kk : V X lo nL G Q k n ws lc (v :: st) p1) : V X lo nL G Q k n ws lc (.ref a :: st) pc := V_get (ref := "PartSplitterModel") C uw_X5 rfl 18 (by decide) fl_X5_46 rfl q0 he hv p1 hp d kk
theorem PX5_46 (C : Cx X lo nL G cc RX5) (hin2 : (xh X).name = "<init>") (q0 : Nat) {fs : List Value} {a : Nat} (he : ws[q0]? = some (a, .inr (5, fs))) {x : Nat} (hl0 : 18 < fs.length) (ws1 : va_W) (hw : ws.set q0 (a, .inr (5, fs.set 18 (.ref x))) = ws1) (p1 : Nat) (hp : pc + 3 = p1) (d : decode cc pc = .ok (.putfield 46, 3)) (kk : V X lo nL G Q k n ws1 lc st p1) : V X lo nL G Q k n ws lc (.ref x :: .ref a :: st) pc := V_putF (ref := "PartSplitterModel") C uw_X5 tyX5 tyX5_ok nmX5 rfl 18 (by decide) fl_X5_46 rfl rfl hin2 rfl q0 he rfl rfl hl0 ws1 hw p1 hp d kk
theorem GX5_49 (C : Cx X lo nL G cc RX5) (q0 : Nat) {fs : List Value} {a : Nat} (he : ws[q0]? = some (a, .inr (5, fs))) {v : Value} (hv : fs[19]? = some v) (p1 : Nat) (hp : pc + 3 = p1) (d : decode cc pc = .ok (.getfield 49, 3)) (kk : V X lo nL G Q k n ws lc (v :: st) p1) : V X lo nL G Q k n ws lc (.ref a :: st) pc := V_get (ref := "PartSplitterModel") C uw_X5 rfl 19 (by decide) fl_X5_49 rfl q0 he hv p1 hp d kk
theorem PX5_49 (C : Cx X lo nL G cc RX5) (hin2 : (xh X).name = "<init>") (q0 : Nat) {fs : List Value} {a : Nat} (he : ws[q0]? = some (a, .inr (5, fs))) {x : Nat} (hl0 : 19 < fs.length) (ws1 : va_W) (hw : ws.set q0 (a, .inr (5, fs.set 19 (.ref x))) = ws1) (p1 : Nat) (hp : pc + 3 = p1) (d : decode cc pc = .ok (.putfield 49, 3)) (kk : V X lo nL G Q k n ws1 lc st p1) : V X lo nL G Q k n ws lc (.ref x :: .ref a :: st) pc := V_putF (ref := "PartSplitterModel") C uw_X5 tyX5 tyX5_ok nmX5 rfl 19 (by decide) fl_X5_49 rfl rfl hin2 rfl q0 he rfl rfl hl0 ws1 hw p1 hp d kk
theorem GX5_52 (C : Cx X lo nL G cc RX5) (q0 : Nat) {fs : List Value} {a : Nat} (he : ws[q0]? = some (a, .inr (5, fs))) {v : Value} (hv : fs[21]? = some v) (p1 : Nat) (hp : pc + 3 = p1) (d : decode cc pc = .ok (.getfield 52, 3)) (kk : V X lo nL G Q k n ws lc (v :: st) p1) : V X lo nL G Q k n ws lc (.ref a :: st) pc := V_get (ref := "PartSplitterModel") C uw_X5 rfl 21 (by decide) fl_X5_52 rfl q0 he hv p1 hp d kk
theorem PX5_52 (C : Cx X lo nL G cc RX5) (hin2 : (xh X).name = "<init>") (q0 : Nat) {fs : List Value} {a : Nat} (he : ws[q0]? = some (a, .inr (5, fs))) {x : Nat} (hl0 : 21 < fs.length) (ws1 : va_W) (hw : ws.set q0 (a, .inr (5, fs.set 21 (.ref x))) = ws1) (p1 : Nat) (hp : pc + 3 = p1) (d : decode cc pc = .ok (.putfield 52, 3)) (kk : V X lo nL G Q k n ws1 lc st p1) : V X lo nL G Q k n ws lc (.ref x :: .ref a :: st) pc := V_putF (ref := "PartSplitterModel") C uw_X5 tyX5 tyX5_ok nmX5 rfl 21 (by decide) fl_X5_52 rfl rfl hin2 rfl q0 he rfl rfl hl0 ws1 hw p1 hp d kk
theorem GX5_56 (C : Cx X lo nL G cc RX5) (q0 : Nat) {fs : List Value} {a : Nat} (he : ws[q0]? = some (a, .inr (5, fs))) {v : Value} (hv : fs[0]? = some v) (p1 : Nat) (hp : pc + 3 = p1) (d : decode cc pc = .ok (.getfield 56, 3)) (kk : V X lo nL G Q k n ws lc (v :: st) p1) : V X lo nL G Q k n ws lc (.ref a :: st) pc := V_get (ref := "PartSplitterModel") C uw_X5 rfl 0 (by decide) fl_X5_56 rfl q0 he hv p1 hp d kk
theorem PX5_56 (C : Cx X lo nL G cc RX5) (q0 : Nat) {fs : List Value} {a : Nat} (he : ws[q0]? = some (a, .inr (5, fs))) {x : Int32} (hl0 : 0 < fs.length) (ws1 : va_W) (hw : ws.set q0 (a, .inr (5, fs.set 0 (.int x))) = ws1) (p1 : Nat) (hp : pc + 3 = p1) (d : decode cc pc = .ok (.putfield 56, 3)) (kk : V X lo nL G Q k n ws1 lc st p1) : V X lo nL G Q k n ws lc (.int x :: .ref a :: st) pc := V_put (ref := "PartSplitterModel") C uw_X5 tyX5 tyX5_ok nmX5 rfl 0 (by decide) fl_X5_56 rfl rfl q0 he rfl rfl hl0 ws1 hw p1 hp d kk
theorem KX5_60 (C : Cx X lo nL G cc RX5) {D0 c0 s0 d0 mc ms : Nat} {As rest : List Value} {S : Type} {post : Int32 → S → Prop} {wo : S → va_W} (hM : Mi (xl X) yX5_power (.code yX5_power prog_7_method_4_code 3 (some .int)) d0 mc ms lo G As ws post wo) (hX : RmX X D0 c0 s0) (hd : d0 + 1 ≤ D0) (hn : As.length = 1) (hst : st = As.reverse ++ rest) (hrest : (rest.map fun v => v.category).sum ≤ 8) (p1 k1 n1 : Nat) (hp : pc + 3 = p1) (hk : k + mc = k1) (hn1 : n + ms = n1) (hk1 : k1 ≤ c0) (hs1 : n1 ≤ s0) (d : decode cc pc = .ok (.invokestatic 60, 3)) (kk : ∀ (r : Int32) (u : S), post r u → V X lo nL G Q k1 n1 (wo u) lc (.int r :: rest) p1) : V X lo nL G Q k n ws lc st pc := by
  have hR : (rmD d0 mc ms).frames + 1 ≤ (xR X).frames ∧ 8 + (3 + 11) + (rmD d0 mc ms).locals ≤ (xR X).locals := ⟨by show d0 + 1 ≤ _; have := hX.1; omega, by show 8 + (3 + 11) + 40 * d0 ≤ _; have := hX.2.1; omega⟩
  have hf : k + mc ≤ (xR X).cells ∧ n + ms ≤ (xR X).slots := ⟨by have := hX.2.2.1; omega, by have := hX.2.2.2; omega⟩
  exact V_calli (V_runS C hM ⟨ml_X5_60, sm_X5_power, ii_X5, co_X5_power⟩ ⟨by decide, by decide, by decide +kernel⟩ hR hn hst hrest hf d) p1 k1 n1 hp hk hn1 kk
theorem KX5_64 (C : Cx X lo nL G cc RX5) {D0 c0 s0 d0 mc ms : Nat} {As rest : List Value} {S : Type} {post : Int32 → S → Prop} {wo : S → va_W} (hM : Mi (xl X) yX5_in (.code yX5_in prog_7_method_3_code 3 (some .boolean)) d0 mc ms lo G As ws post wo) (hX : RmX X D0 c0 s0) (hd : d0 + 1 ≤ D0) (hn : As.length = 3) (hst : st = As.reverse ++ rest) (hrest : (rest.map fun v => v.category).sum ≤ 8) (p1 k1 n1 : Nat) (hp : pc + 3 = p1) (hk : k + mc = k1) (hn1 : n + ms = n1) (hk1 : k1 ≤ c0) (hs1 : n1 ≤ s0) (d : decode cc pc = .ok (.invokestatic 64, 3)) (kk : ∀ (r : Int32) (u : S), post r u → V X lo nL G Q k1 n1 (wo u) lc (.int r :: rest) p1) : V X lo nL G Q k n ws lc st pc := by
  have hR : (rmD d0 mc ms).frames + 1 ≤ (xR X).frames ∧ 8 + (3 + 11) + (rmD d0 mc ms).locals ≤ (xR X).locals := ⟨by show d0 + 1 ≤ _; have := hX.1; omega, by show 8 + (3 + 11) + 40 * d0 ≤ _; have := hX.2.1; omega⟩
  have hf : k + mc ≤ (xR X).cells ∧ n + ms ≤ (xR X).slots := ⟨by have := hX.2.2.1; omega, by have := hX.2.2.2; omega⟩
  exact V_calli (V_runS C hM ⟨ml_X5_64, sm_X5_in, ii_X5, co_X5_in⟩ ⟨by decide, by decide, by decide +kernel⟩ hR hn hst hrest hf d) p1 k1 n1 hp hk hn1 kk
theorem GX5_68 (C : Cx X lo nL G cc RX5) (q0 : Nat) {fs : List Value} {a : Nat} (he : ws[q0]? = some (a, .inr (5, fs))) {v : Value} (hv : fs[1]? = some v) (p1 : Nat) (hp : pc + 3 = p1) (d : decode cc pc = .ok (.getfield 68, 3)) (kk : V X lo nL G Q k n ws lc (v :: st) p1) : V X lo nL G Q k n ws lc (.ref a :: st) pc := V_get (ref := "PartSplitterModel") C uw_X5 rfl 1 (by decide) fl_X5_68 rfl q0 he hv p1 hp d kk
theorem PX5_68 (C : Cx X lo nL G cc RX5) (q0 : Nat) {fs : List Value} {a : Nat} (he : ws[q0]? = some (a, .inr (5, fs))) {x : Int32} (hl0 : 1 < fs.length) (ws1 : va_W) (hw : ws.set q0 (a, .inr (5, fs.set 1 (.int x))) = ws1) (p1 : Nat) (hp : pc + 3 = p1) (d : decode cc pc = .ok (.putfield 68, 3)) (kk : V X lo nL G Q k n ws1 lc st p1) : V X lo nL G Q k n ws lc (.int x :: .ref a :: st) pc := V_put (ref := "PartSplitterModel") C uw_X5 tyX5 tyX5_ok nmX5 rfl 1 (by decide) fl_X5_68 rfl rfl q0 he rfl rfl hl0 ws1 hw p1 hp d kk
theorem KX5_71 (C : Cx X lo nL G cc RX5) {D0 c0 s0 d0 mc ms : Nat} {As rest : List Value} {S : Type} {post : Int32 → S → Prop} {wo : S → va_W} (hM : Mi (xl X) yX5_sizeOf (.code yX5_sizeOf prog_7_method_5_code 4 (some .int)) d0 mc ms lo G As ws post wo) (hX : RmX X D0 c0 s0) (hd : d0 + 1 ≤ D0) (hn : As.length = 2) (hst : st = As.reverse ++ rest) (hrest : (rest.map fun v => v.category).sum ≤ 8) (p1 k1 n1 : Nat) (hp : pc + 3 = p1) (hk : k + mc = k1) (hn1 : n + ms = n1) (hk1 : k1 ≤ c0) (hs1 : n1 ≤ s0) (d : decode cc pc = .ok (.invokestatic 71, 3)) (kk : ∀ (r : Int32) (u : S), post r u → V X lo nL G Q k1 n1 (wo u) lc (.int r :: rest) p1) : V X lo nL G Q k n ws lc st pc := by
  have hR : (rmD d0 mc ms).frames + 1 ≤ (xR X).frames ∧ 8 + (4 + 11) + (rmD d0 mc ms).locals ≤ (xR X).locals := ⟨by show d0 + 1 ≤ _; have := hX.1; omega, by show 8 + (4 + 11) + 40 * d0 ≤ _; have := hX.2.1; omega⟩
  have hf : k + mc ≤ (xR X).cells ∧ n + ms ≤ (xR X).slots := ⟨by have := hX.2.2.1; omega, by have := hX.2.2.2; omega⟩
  exact V_calli (V_runS C hM ⟨ml_X5_71, sm_X5_sizeOf, ii_X5, co_X5_sizeOf⟩ ⟨by decide, by decide, by decide +kernel⟩ hR hn hst hrest hf d) p1 k1 n1 hp hk hn1 kk
theorem KX5_75 (C : Cx X lo nL G cc RX5) {D0 c0 s0 d0 mc ms : Nat} {b : Nat} {As rest : List Value} {S : Type} {post : Int32 → S → Prop} {wo : S → va_W} (hM : Mi (xl X) yX5_partWith (.code yX5_partWith prog_7_method_7_code 4 (some .int)) d0 mc ms lo G (.ref b :: As) ws post wo) (hX : RmX X D0 c0 s0) (hd : d0 + 1 ≤ D0) (q0 : Nat) {fs : List Value} (he : ws[q0]? = some (b, .inr (5, fs))) (hn : As.length = 1) (hst : st = As.reverse ++ .ref b :: rest) (hrest : (rest.map fun v => v.category).sum ≤ 8) (p1 k1 n1 : Nat) (hp : pc + 3 = p1) (hk : k + mc = k1) (hn1 : n + ms = n1) (hk1 : k1 ≤ c0) (hs1 : n1 ≤ s0) (d : decode cc pc = .ok (.invokevirtual 75, 3)) (kk : ∀ (r : Int32) (u : S), post r u → V X lo nL G Q k1 n1 (wo u) lc (.int r :: rest) p1) : V X lo nL G Q k n ws lc st pc := by
  have hR : (rmD d0 mc ms).frames + 1 ≤ (xR X).frames ∧ 8 + (4 + 11) + (rmD d0 mc ms).locals ≤ (xR X).locals := ⟨by show d0 + 1 ≤ _; have := hX.1; omega, by show 8 + (4 + 11) + 40 * d0 ≤ _; have := hX.2.1; omega⟩
  have hf : k + mc ≤ (xR X).cells ∧ n + ms ≤ (xR X).slots := ⟨by have := hX.2.2.1; omega, by have := hX.2.2.2; omega⟩
  exact V_calli (V_runV C hM ⟨ml_X5_75, im_X5_partWith, se_X5_partWith, ii_X5, co_X5_partWith⟩ ⟨rfl, by decide, by decide, by decide +kernel⟩ hR he rfl hn hst hrest hf d) p1 k1 n1 hp hk hn1 kk
theorem KX5_78 (C : Cx X lo nL G cc RX5) {D0 c0 s0 d0 mc ms : Nat} {b : Nat} {As rest : List Value} {S : Type} {post : Int32 → S → Prop} {wo : S → va_W} (hM : Mi (xl X) yX5_isPart (.code yX5_isPart prog_7_method_6_code 2 (some .boolean)) d0 mc ms lo G (.ref b :: As) ws post wo) (hX : RmX X D0 c0 s0) (hd : d0 + 1 ≤ D0) (q0 : Nat) {fs : List Value} (he : ws[q0]? = some (b, .inr (5, fs))) (hn : As.length = 1) (hst : st = As.reverse ++ .ref b :: rest) (hrest : (rest.map fun v => v.category).sum ≤ 8) (p1 k1 n1 : Nat) (hp : pc + 3 = p1) (hk : k + mc = k1) (hn1 : n + ms = n1) (hk1 : k1 ≤ c0) (hs1 : n1 ≤ s0) (d : decode cc pc = .ok (.invokevirtual 78, 3)) (kk : ∀ (r : Int32) (u : S), post r u → V X lo nL G Q k1 n1 (wo u) lc (.int r :: rest) p1) : V X lo nL G Q k n ws lc st pc := by
  have hR : (rmD d0 mc ms).frames + 1 ≤ (xR X).frames ∧ 8 + (2 + 11) + (rmD d0 mc ms).locals ≤ (xR X).locals := ⟨by show d0 + 1 ≤ _; have := hX.1; omega, by show 8 + (2 + 11) + 40 * d0 ≤ _; have := hX.2.1; omega⟩
  have hf : k + mc ≤ (xR X).cells ∧ n + ms ≤ (xR X).slots := ⟨by have := hX.2.2.1; omega, by have := hX.2.2.2; omega⟩
  exact V_calli (V_runV C hM ⟨ml_X5_78, im_X5_isPart, se_X5_isPart, ii_X5, co_X5_isPart⟩ ⟨rfl, by decide, by decide, by decide +kernel⟩ hR he rfl hn hst hrest hf d) p1 k1 n1 hp hk hn1 kk
theorem GX5_82 (C : Cx X lo nL G cc RX5) (q0 : Nat) {fs : List Value} {a : Nat} (he : ws[q0]? = some (a, .inr (5, fs))) {v : Value} (hv : fs[6]? = some v) (p1 : Nat) (hp : pc + 3 = p1) (d : decode cc pc = .ok (.getfield 82, 3)) (kk : V X lo nL G Q k n ws lc (v :: st) p1) : V X lo nL G Q k n ws lc (.ref a :: st) pc := V_get (ref := "PartSplitterModel") C uw_X5 rfl 6 (by decide) fl_X5_82 rfl q0 he hv p1 hp d kk
theorem PX5_82 (C : Cx X lo nL G cc RX5) (q0 : Nat) {fs : List Value} {a : Nat} (he : ws[q0]? = some (a, .inr (5, fs))) {x : Int32} (hl0 : 6 < fs.length) (ws1 : va_W) (hw : ws.set q0 (a, .inr (5, fs.set 6 (.int x))) = ws1) (p1 : Nat) (hp : pc + 3 = p1) (d : decode cc pc = .ok (.putfield 82, 3)) (kk : V X lo nL G Q k n ws1 lc st p1) : V X lo nL G Q k n ws lc (.int x :: .ref a :: st) pc := V_put (ref := "PartSplitterModel") C uw_X5 tyX5 tyX5_ok nmX5 rfl 6 (by decide) fl_X5_82 rfl rfl q0 he rfl rfl hl0 ws1 hw p1 hp d kk
theorem KX5_85 (C : Cx X lo nL G cc RX5) {D0 c0 s0 d0 mc ms : Nat} {b : Nat} {As rest : List Value} {S : Type} {post : Int32 → S → Prop} {wo : S → va_W} (hM : Mi (xl X) yX5_costNow (.code yX5_costNow prog_7_method_15_code 4 (some .int)) d0 mc ms lo G (.ref b :: As) ws post wo) (hX : RmX X D0 c0 s0) (hd : d0 + 1 ≤ D0) (q0 : Nat) {fs : List Value} (he : ws[q0]? = some (b, .inr (5, fs))) (hn : As.length = 1) (hst : st = As.reverse ++ .ref b :: rest) (hrest : (rest.map fun v => v.category).sum ≤ 8) (p1 k1 n1 : Nat) (hp : pc + 3 = p1) (hk : k + mc = k1) (hn1 : n + ms = n1) (hk1 : k1 ≤ c0) (hs1 : n1 ≤ s0) (d : decode cc pc = .ok (.invokevirtual 85, 3)) (kk : ∀ (r : Int32) (u : S), post r u → V X lo nL G Q k1 n1 (wo u) lc (.int r :: rest) p1) : V X lo nL G Q k n ws lc st pc := by
  have hR : (rmD d0 mc ms).frames + 1 ≤ (xR X).frames ∧ 8 + (4 + 11) + (rmD d0 mc ms).locals ≤ (xR X).locals := ⟨by show d0 + 1 ≤ _; have := hX.1; omega, by show 8 + (4 + 11) + 40 * d0 ≤ _; have := hX.2.1; omega⟩
  have hf : k + mc ≤ (xR X).cells ∧ n + ms ≤ (xR X).slots := ⟨by have := hX.2.2.1; omega, by have := hX.2.2.2; omega⟩
  exact V_calli (V_runV C hM ⟨ml_X5_85, im_X5_costNow, se_X5_costNow, ii_X5, co_X5_costNow⟩ ⟨rfl, by decide, by decide, by decide +kernel⟩ hR he rfl hn hst hrest hf d) p1 k1 n1 hp hk hn1 kk
theorem KX5_88 (C : Cx X lo nL G cc RX5) {D0 c0 s0 d0 mc ms : Nat} {b : Nat} {As rest : List Value} {S : Type} {post : Int32 → S → Prop} {wo : S → va_W} (hM : Mi (xl X) yX5_beginning (.code yX5_beginning prog_7_method_18_code 3 (some .int)) d0 mc ms lo G (.ref b :: As) ws post wo) (hX : RmX X D0 c0 s0) (hd : d0 + 1 ≤ D0) (q0 : Nat) {fs : List Value} (he : ws[q0]? = some (b, .inr (5, fs))) (hn : As.length = 2) (hst : st = As.reverse ++ .ref b :: rest) (hrest : (rest.map fun v => v.category).sum ≤ 8) (p1 k1 n1 : Nat) (hp : pc + 3 = p1) (hk : k + mc = k1) (hn1 : n + ms = n1) (hk1 : k1 ≤ c0) (hs1 : n1 ≤ s0) (d : decode cc pc = .ok (.invokevirtual 88, 3)) (kk : ∀ (r : Int32) (u : S), post r u → V X lo nL G Q k1 n1 (wo u) lc (.int r :: rest) p1) : V X lo nL G Q k n ws lc st pc := by
  have hR : (rmD d0 mc ms).frames + 1 ≤ (xR X).frames ∧ 8 + (3 + 11) + (rmD d0 mc ms).locals ≤ (xR X).locals := ⟨by show d0 + 1 ≤ _; have := hX.1; omega, by show 8 + (3 + 11) + 40 * d0 ≤ _; have := hX.2.1; omega⟩
  have hf : k + mc ≤ (xR X).cells ∧ n + ms ≤ (xR X).slots := ⟨by have := hX.2.2.1; omega, by have := hX.2.2.2; omega⟩
  exact V_calli (V_runV C hM ⟨ml_X5_88, im_X5_beginning, se_X5_beginning, ii_X5, co_X5_beginning⟩ ⟨rfl, by decide, by decide, by decide +kernel⟩ hR he rfl hn hst hrest hf d) p1 k1 n1 hp hk hn1 kk
theorem KX5_91 (C : Cx X lo nL G cc RX5) {D0 c0 s0 d0 mc ms : Nat} {b : Nat} {As rest : List Value} {S : Type} {post : Int32 → S → Prop} {wo : S → va_W} (hM : Mi (xl X) yX5_rest (.code yX5_rest prog_7_method_19_code 3 (some .int)) d0 mc ms lo G (.ref b :: As) ws post wo) (hX : RmX X D0 c0 s0) (hd : d0 + 1 ≤ D0) (q0 : Nat) {fs : List Value} (he : ws[q0]? = some (b, .inr (5, fs))) (hn : As.length = 2) (hst : st = As.reverse ++ .ref b :: rest) (hrest : (rest.map fun v => v.category).sum ≤ 8) (p1 k1 n1 : Nat) (hp : pc + 3 = p1) (hk : k + mc = k1) (hn1 : n + ms = n1) (hk1 : k1 ≤ c0) (hs1 : n1 ≤ s0) (d : decode cc pc = .ok (.invokevirtual 91, 3)) (kk : ∀ (r : Int32) (u : S), post r u → V X lo nL G Q k1 n1 (wo u) lc (.int r :: rest) p1) : V X lo nL G Q k n ws lc st pc := by
  have hR : (rmD d0 mc ms).frames + 1 ≤ (xR X).frames ∧ 8 + (3 + 11) + (rmD d0 mc ms).locals ≤ (xR X).locals := ⟨by show d0 + 1 ≤ _; have := hX.1; omega, by show 8 + (3 + 11) + 40 * d0 ≤ _; have := hX.2.1; omega⟩
  have hf : k + mc ≤ (xR X).cells ∧ n + ms ≤ (xR X).slots := ⟨by have := hX.2.2.1; omega, by have := hX.2.2.2; omega⟩
  exact V_calli (V_runV C hM ⟨ml_X5_91, im_X5_rest, se_X5_rest, ii_X5, co_X5_rest⟩ ⟨rfl, by decide, by decide, by decide +kernel⟩ hR he rfl hn hst hrest hf d) p1 k1 n1 hp hk hn1 kk
theorem KX5_94 (C : Cx X lo nL G cc RX5) {D0 c0 s0 d0 mc ms : Nat} {b : Nat} {As rest : List Value} {S : Type} {post : Int32 → S → Prop} {wo : S → va_W} (hM : Mi (xl X) yX5_hasRest (.code yX5_hasRest prog_7_method_20_code 7 (some .boolean)) d0 mc ms lo G (.ref b :: As) ws post wo) (hX : RmX X D0 c0 s0) (hd : d0 + 1 ≤ D0) (q0 : Nat) {fs : List Value} (he : ws[q0]? = some (b, .inr (5, fs))) (hn : As.length = 3) (hst : st = As.reverse ++ .ref b :: rest) (hrest : (rest.map fun v => v.category).sum ≤ 8) (p1 k1 n1 : Nat) (hp : pc + 3 = p1) (hk : k + mc = k1) (hn1 : n + ms = n1) (hk1 : k1 ≤ c0) (hs1 : n1 ≤ s0) (d : decode cc pc = .ok (.invokevirtual 94, 3)) (kk : ∀ (r : Int32) (u : S), post r u → V X lo nL G Q k1 n1 (wo u) lc (.int r :: rest) p1) : V X lo nL G Q k n ws lc st pc := by
  have hR : (rmD d0 mc ms).frames + 1 ≤ (xR X).frames ∧ 8 + (7 + 11) + (rmD d0 mc ms).locals ≤ (xR X).locals := ⟨by show d0 + 1 ≤ _; have := hX.1; omega, by show 8 + (7 + 11) + 40 * d0 ≤ _; have := hX.2.1; omega⟩
  have hf : k + mc ≤ (xR X).cells ∧ n + ms ≤ (xR X).slots := ⟨by have := hX.2.2.1; omega, by have := hX.2.2.2; omega⟩
  exact V_calli (V_runV C hM ⟨ml_X5_94, im_X5_hasRest, se_X5_hasRest, ii_X5, co_X5_hasRest⟩ ⟨rfl, by decide, by decide, by decide +kernel⟩ hR he rfl hn hst hrest hf d) p1 k1 n1 hp hk hn1 kk
theorem KX5_97 (C : Cx X lo nL G cc RX5) {D0 c0 s0 d0 mc ms : Nat} {b : Nat} {As rest : List Value} {S : Type} {post : Int32 → S → Prop} {wo : S → va_W} (hM : Mi (xl X) yX5_areRests (.code yX5_areRests prog_7_method_21_code 8 (some .boolean)) d0 mc ms lo G (.ref b :: As) ws post wo) (hX : RmX X D0 c0 s0) (hd : d0 + 1 ≤ D0) (q0 : Nat) {fs : List Value} (he : ws[q0]? = some (b, .inr (5, fs))) (hn : As.length = 4) (hst : st = As.reverse ++ .ref b :: rest) (hrest : (rest.map fun v => v.category).sum ≤ 8) (p1 k1 n1 : Nat) (hp : pc + 3 = p1) (hk : k + mc = k1) (hn1 : n + ms = n1) (hk1 : k1 ≤ c0) (hs1 : n1 ≤ s0) (d : decode cc pc = .ok (.invokevirtual 97, 3)) (kk : ∀ (r : Int32) (u : S), post r u → V X lo nL G Q k1 n1 (wo u) lc (.int r :: rest) p1) : V X lo nL G Q k n ws lc st pc := by
  have hR : (rmD d0 mc ms).frames + 1 ≤ (xR X).frames ∧ 8 + (8 + 11) + (rmD d0 mc ms).locals ≤ (xR X).locals := ⟨by show d0 + 1 ≤ _; have := hX.1; omega, by show 8 + (8 + 11) + 40 * d0 ≤ _; have := hX.2.1; omega⟩
  have hf : k + mc ≤ (xR X).cells ∧ n + ms ≤ (xR X).slots := ⟨by have := hX.2.2.1; omega, by have := hX.2.2.2; omega⟩
  exact V_calli (V_runV C hM ⟨ml_X5_97, im_X5_areRests, se_X5_areRests, ii_X5, co_X5_areRests⟩ ⟨rfl, by decide, by decide, by decide +kernel⟩ hR he rfl hn hst hrest hf d) p1 k1 n1 hp hk hn1 kk
theorem GX5_101 (C : Cx X lo nL G cc RX5) (q0 : Nat) {fs : List Value} {a : Nat} (he : ws[q0]? = some (a, .inr (5, fs))) {v : Value} (hv : fs[14]? = some v) (p1 : Nat) (hp : pc + 3 = p1) (d : decode cc pc = .ok (.getfield 101, 3)) (kk : V X lo nL G Q k n ws lc (v :: st) p1) : V X lo nL G Q k n ws lc (.ref a :: st) pc := V_get (ref := "PartSplitterModel") C uw_X5 rfl 14 (by decide) fl_X5_101 rfl q0 he hv p1 hp d kk
theorem PX5_101 (C : Cx X lo nL G cc RX5) (q0 : Nat) {fs : List Value} {a : Nat} (he : ws[q0]? = some (a, .inr (5, fs))) {x : Int32} (hl0 : 14 < fs.length) (ws1 : va_W) (hw : ws.set q0 (a, .inr (5, fs.set 14 (.int x))) = ws1) (p1 : Nat) (hp : pc + 3 = p1) (d : decode cc pc = .ok (.putfield 101, 3)) (kk : V X lo nL G Q k n ws1 lc st p1) : V X lo nL G Q k n ws lc (.int x :: .ref a :: st) pc := V_put (ref := "PartSplitterModel") C uw_X5 tyX5 tyX5_ok nmX5 rfl 14 (by decide) fl_X5_101 rfl rfl q0 he rfl rfl hl0 ws1 hw p1 hp d kk
theorem GX5_104 (C : Cx X lo nL G cc RX5) (q0 : Nat) {fs : List Value} {a : Nat} (he : ws[q0]? = some (a, .inr (5, fs))) {v : Value} (hv : fs[16]? = some v) (p1 : Nat) (hp : pc + 3 = p1) (d : decode cc pc = .ok (.getfield 104, 3)) (kk : V X lo nL G Q k n ws lc (v :: st) p1) : V X lo nL G Q k n ws lc (.ref a :: st) pc := V_get (ref := "PartSplitterModel") C uw_X5 rfl 16 (by decide) fl_X5_104 rfl q0 he hv p1 hp d kk
theorem PX5_104 (C : Cx X lo nL G cc RX5) (q0 : Nat) {fs : List Value} {a : Nat} (he : ws[q0]? = some (a, .inr (5, fs))) {x : Int32} (hl0 : 16 < fs.length) (ws1 : va_W) (hw : ws.set q0 (a, .inr (5, fs.set 16 (.int x))) = ws1) (p1 : Nat) (hp : pc + 3 = p1) (d : decode cc pc = .ok (.putfield 104, 3)) (kk : V X lo nL G Q k n ws1 lc st p1) : V X lo nL G Q k n ws lc (.int x :: .ref a :: st) pc := V_put (ref := "PartSplitterModel") C uw_X5 tyX5 tyX5_ok nmX5 rfl 16 (by decide) fl_X5_104 rfl rfl q0 he rfl rfl hl0 ws1 hw p1 hp d kk
theorem KX5_107 (C : Cx X lo nL G cc RX5) {D0 c0 s0 d0 mc ms : Nat} {b : Nat} {As rest : List Value} {S : Type} {post : Int32 → S → Prop} {wo : S → va_W} (hM : Mi (xl X) yX5_textAt (.code yX5_textAt prog_7_method_24_code 5 (some .int)) d0 mc ms lo G (.ref b :: As) ws post wo) (hX : RmX X D0 c0 s0) (hd : d0 + 1 ≤ D0) (q0 : Nat) {fs : List Value} (he : ws[q0]? = some (b, .inr (5, fs))) (hn : As.length = 2) (hst : st = As.reverse ++ .ref b :: rest) (hrest : (rest.map fun v => v.category).sum ≤ 8) (p1 k1 n1 : Nat) (hp : pc + 3 = p1) (hk : k + mc = k1) (hn1 : n + ms = n1) (hk1 : k1 ≤ c0) (hs1 : n1 ≤ s0) (d : decode cc pc = .ok (.invokevirtual 107, 3)) (kk : ∀ (r : Int32) (u : S), post r u → V X lo nL G Q k1 n1 (wo u) lc (.int r :: rest) p1) : V X lo nL G Q k n ws lc st pc := by
  have hR : (rmD d0 mc ms).frames + 1 ≤ (xR X).frames ∧ 8 + (5 + 11) + (rmD d0 mc ms).locals ≤ (xR X).locals := ⟨by show d0 + 1 ≤ _; have := hX.1; omega, by show 8 + (5 + 11) + 40 * d0 ≤ _; have := hX.2.1; omega⟩
  have hf : k + mc ≤ (xR X).cells ∧ n + ms ≤ (xR X).slots := ⟨by have := hX.2.2.1; omega, by have := hX.2.2.2; omega⟩
  exact V_calli (V_runV C hM ⟨ml_X5_107, im_X5_textAt, se_X5_textAt, ii_X5, co_X5_textAt⟩ ⟨rfl, by decide, by decide, by decide +kernel⟩ hR he rfl hn hst hrest hf d) p1 k1 n1 hp hk hn1 kk
theorem GX5_118 (C : Cx X lo nL G cc RX5) (q0 : Nat) {fs : List Value} {a : Nat} (he : ws[q0]? = some (a, .inr (5, fs))) {v : Value} (hv : fs[20]? = some v) (p1 : Nat) (hp : pc + 3 = p1) (d : decode cc pc = .ok (.getfield 118, 3)) (kk : V X lo nL G Q k n ws lc (v :: st) p1) : V X lo nL G Q k n ws lc (.ref a :: st) pc := V_get (ref := "PartSplitterModel") C uw_X5 rfl 20 (by decide) fl_X5_118 rfl q0 he hv p1 hp d kk
theorem PX5_118 (C : Cx X lo nL G cc RX5) (q0 : Nat) {fs : List Value} {a : Nat} (he : ws[q0]? = some (a, .inr (5, fs))) {x : Int32} (hl0 : 20 < fs.length) (ws1 : va_W) (hw : ws.set q0 (a, .inr (5, fs.set 20 (.int x))) = ws1) (p1 : Nat) (hp : pc + 3 = p1) (d : decode cc pc = .ok (.putfield 118, 3)) (kk : V X lo nL G Q k n ws1 lc st p1) : V X lo nL G Q k n ws lc (.int x :: .ref a :: st) pc := V_put (ref := "PartSplitterModel") C uw_X5 tyX5 tyX5_ok nmX5 rfl 20 (by decide) fl_X5_118 rfl rfl q0 he rfl rfl hl0 ws1 hw p1 hp d kk
theorem KX5_121 (C : Cx X lo nL G cc RX5) {D0 c0 s0 d0 mc ms : Nat} {b : Nat} {As rest : List Value} {S : Type} {post : Int32 → S → Prop} {wo : S → va_W} (hM : Mi (xl X) yX5_goesOn (.code yX5_goesOn prog_7_method_25_code 10 (some .boolean)) d0 mc ms lo G (.ref b :: As) ws post wo) (hX : RmX X D0 c0 s0) (hd : d0 + 1 ≤ D0) (q0 : Nat) {fs : List Value} (he : ws[q0]? = some (b, .inr (5, fs))) (hn : As.length = 1) (hst : st = As.reverse ++ .ref b :: rest) (hrest : (rest.map fun v => v.category).sum ≤ 8) (p1 k1 n1 : Nat) (hp : pc + 3 = p1) (hk : k + mc = k1) (hn1 : n + ms = n1) (hk1 : k1 ≤ c0) (hs1 : n1 ≤ s0) (d : decode cc pc = .ok (.invokevirtual 121, 3)) (kk : ∀ (r : Int32) (u : S), post r u → V X lo nL G Q k1 n1 (wo u) lc (.int r :: rest) p1) : V X lo nL G Q k n ws lc st pc := by
  have hR : (rmD d0 mc ms).frames + 1 ≤ (xR X).frames ∧ 8 + (10 + 11) + (rmD d0 mc ms).locals ≤ (xR X).locals := ⟨by show d0 + 1 ≤ _; have := hX.1; omega, by show 8 + (10 + 11) + 40 * d0 ≤ _; have := hX.2.1; omega⟩
  have hf : k + mc ≤ (xR X).cells ∧ n + ms ≤ (xR X).slots := ⟨by have := hX.2.2.1; omega, by have := hX.2.2.2; omega⟩
  exact V_calli (V_runV C hM ⟨ml_X5_121, im_X5_goesOn, se_X5_goesOn, ii_X5, co_X5_goesOn⟩ ⟨rfl, by decide, by decide, by decide +kernel⟩ hR he rfl hn hst hrest hf d) p1 k1 n1 hp hk hn1 kk
theorem KX5_124 (C : Cx X lo nL G cc RX5) {D0 c0 s0 d0 mc ms : Nat} {b : Nat} {As rest : List Value} {S : Type} {post : Int64 → S → Prop} {wo : S → va_W} (hM : Ml (xl X) yX5_key (.code yX5_key prog_7_method_26_code 7 (some .long)) d0 mc ms lo G (.ref b :: As) ws post wo) (hX : RmX X D0 c0 s0) (hd : d0 + 1 ≤ D0) (q0 : Nat) {fs : List Value} (he : ws[q0]? = some (b, .inr (5, fs))) (hn : As.length = 0) (hst : st = As.reverse ++ .ref b :: rest) (hrest : (rest.map fun v => v.category).sum ≤ 8) (p1 k1 n1 : Nat) (hp : pc + 3 = p1) (hk : k + mc = k1) (hn1 : n + ms = n1) (hk1 : k1 ≤ c0) (hs1 : n1 ≤ s0) (d : decode cc pc = .ok (.invokevirtual 124, 3)) (kk : ∀ (r : Int64) (u : S), post r u → V X lo nL G Q k1 n1 (wo u) lc (.long r :: rest) p1) : V X lo nL G Q k n ws lc st pc := by
  have hR : (rmD d0 mc ms).frames + 1 ≤ (xR X).frames ∧ 8 + (7 + 11) + (rmD d0 mc ms).locals ≤ (xR X).locals := ⟨by show d0 + 1 ≤ _; have := hX.1; omega, by show 8 + (7 + 11) + 40 * d0 ≤ _; have := hX.2.1; omega⟩
  have hf : k + mc ≤ (xR X).cells ∧ n + ms ≤ (xR X).slots := ⟨by have := hX.2.2.1; omega, by have := hX.2.2.2; omega⟩
  exact V_calll (V_runV C hM ⟨ml_X5_124, im_X5_key, se_X5_key, ii_X5, co_X5_key⟩ ⟨rfl, by decide, by decide, by decide +kernel⟩ hR he rfl hn hst hrest hf d) p1 k1 n1 hp hk hn1 kk
theorem KX5_128 (C : Cx X lo nL G cc RX5) {D0 c0 s0 d0 mc ms : Nat} {b : Nat} {As rest : List Value} {S : Type} {post : Int32 → S → Prop} {wo : S → va_W} (hM : Mi (xl X) yX5_takes (.code yX5_takes prog_7_method_23_code 4 (some .boolean)) d0 mc ms lo G (.ref b :: As) ws post wo) (hX : RmX X D0 c0 s0) (hd : d0 + 1 ≤ D0) (q0 : Nat) {fs : List Value} (he : ws[q0]? = some (b, .inr (5, fs))) (hn : As.length = 1) (hst : st = As.reverse ++ .ref b :: rest) (hrest : (rest.map fun v => v.category).sum ≤ 8) (p1 k1 n1 : Nat) (hp : pc + 3 = p1) (hk : k + mc = k1) (hn1 : n + ms = n1) (hk1 : k1 ≤ c0) (hs1 : n1 ≤ s0) (d : decode cc pc = .ok (.invokevirtual 128, 3)) (kk : ∀ (r : Int32) (u : S), post r u → V X lo nL G Q k1 n1 (wo u) lc (.int r :: rest) p1) : V X lo nL G Q k n ws lc st pc := by
  have hR : (rmD d0 mc ms).frames + 1 ≤ (xR X).frames ∧ 8 + (4 + 11) + (rmD d0 mc ms).locals ≤ (xR X).locals := ⟨by show d0 + 1 ≤ _; have := hX.1; omega, by show 8 + (4 + 11) + 40 * d0 ≤ _; have := hX.2.1; omega⟩
  have hf : k + mc ≤ (xR X).cells ∧ n + ms ≤ (xR X).slots := ⟨by have := hX.2.2.1; omega, by have := hX.2.2.2; omega⟩
  exact V_calli (V_runV C hM ⟨ml_X5_128, im_X5_takes, se_X5_takes, ii_X5, co_X5_takes⟩ ⟨rfl, by decide, by decide, by decide +kernel⟩ hR he rfl hn hst hrest hf d) p1 k1 n1 hp hk hn1 kk
theorem KX5_131 (C : Cx X lo nL G cc RX5) {D0 c0 s0 d0 mc ms : Nat} {b : Nat} {As rest : List Value} {S : Type} {post : S → Prop} {wo : S → va_W} (hM : Mv (xl X) yX5_laysSplits (.code yX5_laysSplits prog_7_method_27_code 2 none) d0 mc ms lo G (.ref b :: As) ws post wo) (hX : RmX X D0 c0 s0) (hd : d0 + 1 ≤ D0) (q0 : Nat) {fs : List Value} (he : ws[q0]? = some (b, .inr (5, fs))) (hn : As.length = 0) (hst : st = As.reverse ++ .ref b :: rest) (hrest : (rest.map fun v => v.category).sum ≤ 8) (p1 k1 n1 : Nat) (hp : pc + 3 = p1) (hk : k + mc = k1) (hn1 : n + ms = n1) (hk1 : k1 ≤ c0) (hs1 : n1 ≤ s0) (d : decode cc pc = .ok (.invokevirtual 131, 3)) (kk : ∀ u : S, post u → V X lo nL G Q k1 n1 (wo u) lc rest p1) : V X lo nL G Q k n ws lc st pc := by
  have hR : (rmD d0 mc ms).frames + 1 ≤ (xR X).frames ∧ 8 + (2 + 11) + (rmD d0 mc ms).locals ≤ (xR X).locals := ⟨by show d0 + 1 ≤ _; have := hX.1; omega, by show 8 + (2 + 11) + 40 * d0 ≤ _; have := hX.2.1; omega⟩
  have hf : k + mc ≤ (xR X).cells ∧ n + ms ≤ (xR X).slots := ⟨by have := hX.2.2.1; omega, by have := hX.2.2.2; omega⟩
  exact V_callv (V_runV C hM ⟨ml_X5_131, im_X5_laysSplits, se_X5_laysSplits, ii_X5, co_X5_laysSplits⟩ ⟨rfl, by decide, by decide, by decide +kernel⟩ hR he rfl hn hst hrest hf d) p1 k1 n1 hp hk hn1 kk
theorem KX5_136 (C : Cx X lo nL G cc RX5) {D0 c0 s0 d0 mc ms : Nat} {As rest : List Value} {S : Type} {post : Int32 → S → Prop} {wo : S → va_W} (hM : Mi (xl X) yX5_sizeOfKey (.code yX5_sizeOfKey prog_7_method_31_code 2 (some .int)) d0 mc ms lo G As ws post wo) (hX : RmX X D0 c0 s0) (hd : d0 + 1 ≤ D0) (hn : As.length = 1) (hst : st = As.reverse ++ rest) (hrest : (rest.map fun v => v.category).sum ≤ 8) (p1 k1 n1 : Nat) (hp : pc + 3 = p1) (hk : k + mc = k1) (hn1 : n + ms = n1) (hk1 : k1 ≤ c0) (hs1 : n1 ≤ s0) (d : decode cc pc = .ok (.invokestatic 136, 3)) (kk : ∀ (r : Int32) (u : S), post r u → V X lo nL G Q k1 n1 (wo u) lc (.int r :: rest) p1) : V X lo nL G Q k n ws lc st pc := by
  have hR : (rmD d0 mc ms).frames + 1 ≤ (xR X).frames ∧ 8 + (2 + 11) + (rmD d0 mc ms).locals ≤ (xR X).locals := ⟨by show d0 + 1 ≤ _; have := hX.1; omega, by show 8 + (2 + 11) + 40 * d0 ≤ _; have := hX.2.1; omega⟩
  have hf : k + mc ≤ (xR X).cells ∧ n + ms ≤ (xR X).slots := ⟨by have := hX.2.2.1; omega, by have := hX.2.2.2; omega⟩
  exact V_calli (V_runS C hM ⟨ml_X5_136, sm_X5_sizeOfKey, ii_X5, co_X5_sizeOfKey⟩ ⟨by decide, by decide, by decide +kernel⟩ hR hn hst hrest hf d) p1 k1 n1 hp hk hn1 kk
theorem KX5_140 (C : Cx X lo nL G cc RX5) {D0 c0 s0 d0 mc ms : Nat} {b : Nat} {As rest : List Value} {S : Type} {post : Int32 → S → Prop} {wo : S → va_W} (hM : Mi (xl X) yX5_asks (.code yX5_asks prog_7_method_28_code 2 (some .boolean)) d0 mc ms lo G (.ref b :: As) ws post wo) (hX : RmX X D0 c0 s0) (hd : d0 + 1 ≤ D0) (q0 : Nat) {fs : List Value} (he : ws[q0]? = some (b, .inr (5, fs))) (hn : As.length = 1) (hst : st = As.reverse ++ .ref b :: rest) (hrest : (rest.map fun v => v.category).sum ≤ 8) (p1 k1 n1 : Nat) (hp : pc + 3 = p1) (hk : k + mc = k1) (hn1 : n + ms = n1) (hk1 : k1 ≤ c0) (hs1 : n1 ≤ s0) (d : decode cc pc = .ok (.invokevirtual 140, 3)) (kk : ∀ (r : Int32) (u : S), post r u → V X lo nL G Q k1 n1 (wo u) lc (.int r :: rest) p1) : V X lo nL G Q k n ws lc st pc := by
  have hR : (rmD d0 mc ms).frames + 1 ≤ (xR X).frames ∧ 8 + (2 + 11) + (rmD d0 mc ms).locals ≤ (xR X).locals := ⟨by show d0 + 1 ≤ _; have := hX.1; omega, by show 8 + (2 + 11) + 40 * d0 ≤ _; have := hX.2.1; omega⟩
  have hf : k + mc ≤ (xR X).cells ∧ n + ms ≤ (xR X).slots := ⟨by have := hX.2.2.1; omega, by have := hX.2.2.2; omega⟩
  exact V_calli (V_runV C hM ⟨ml_X5_140, im_X5_asks, se_X5_asks, ii_X5, co_X5_asks⟩ ⟨rfl, by decide, by decide, by decide +kernel⟩ hR he rfl hn hst hrest hf d) p1 k1 n1 hp hk hn1 kk
theorem KX5_143 (C : Cx X lo nL G cc RX5) {D0 c0 s0 d0 mc ms : Nat} {b : Nat} {As rest : List Value} {S : Type} {post : Int64 → S → Prop} {wo : S → va_W} (hM : Ml (xl X) yX5_keyAt (.code yX5_keyAt prog_7_method_29_code 7 (some .long)) d0 mc ms lo G (.ref b :: As) ws post wo) (hX : RmX X D0 c0 s0) (hd : d0 + 1 ≤ D0) (q0 : Nat) {fs : List Value} (he : ws[q0]? = some (b, .inr (5, fs))) (hn : As.length = 1) (hst : st = As.reverse ++ .ref b :: rest) (hrest : (rest.map fun v => v.category).sum ≤ 8) (p1 k1 n1 : Nat) (hp : pc + 3 = p1) (hk : k + mc = k1) (hn1 : n + ms = n1) (hk1 : k1 ≤ c0) (hs1 : n1 ≤ s0) (d : decode cc pc = .ok (.invokevirtual 143, 3)) (kk : ∀ (r : Int64) (u : S), post r u → V X lo nL G Q k1 n1 (wo u) lc (.long r :: rest) p1) : V X lo nL G Q k n ws lc st pc := by
  have hR : (rmD d0 mc ms).frames + 1 ≤ (xR X).frames ∧ 8 + (7 + 11) + (rmD d0 mc ms).locals ≤ (xR X).locals := ⟨by show d0 + 1 ≤ _; have := hX.1; omega, by show 8 + (7 + 11) + 40 * d0 ≤ _; have := hX.2.1; omega⟩
  have hf : k + mc ≤ (xR X).cells ∧ n + ms ≤ (xR X).slots := ⟨by have := hX.2.2.1; omega, by have := hX.2.2.2; omega⟩
  exact V_calll (V_runV C hM ⟨ml_X5_143, im_X5_keyAt, se_X5_keyAt, ii_X5, co_X5_keyAt⟩ ⟨rfl, by decide, by decide, by decide +kernel⟩ hR he rfl hn hst hrest hf d) p1 k1 n1 hp hk hn1 kk
theorem KX5_147 (C : Cx X lo nL G cc RX5) {D0 c0 s0 d0 mc ms : Nat} {b : Nat} {As rest : List Value} {S : Type} {post : Int64 → S → Prop} {wo : S → va_W} (hM : Ml (xl X) yX5_asksSplit (.code yX5_asksSplit prog_7_method_34_code 3 (some .long)) d0 mc ms lo G (.ref b :: As) ws post wo) (hX : RmX X D0 c0 s0) (hd : d0 + 1 ≤ D0) (q0 : Nat) {fs : List Value} (he : ws[q0]? = some (b, .inr (5, fs))) (hn : As.length = 2) (hst : st = As.reverse ++ .ref b :: rest) (hrest : (rest.map fun v => v.category).sum ≤ 8) (p1 k1 n1 : Nat) (hp : pc + 3 = p1) (hk : k + mc = k1) (hn1 : n + ms = n1) (hk1 : k1 ≤ c0) (hs1 : n1 ≤ s0) (d : decode cc pc = .ok (.invokevirtual 147, 3)) (kk : ∀ (r : Int64) (u : S), post r u → V X lo nL G Q k1 n1 (wo u) lc (.long r :: rest) p1) : V X lo nL G Q k n ws lc st pc := by
  have hR : (rmD d0 mc ms).frames + 1 ≤ (xR X).frames ∧ 8 + (3 + 11) + (rmD d0 mc ms).locals ≤ (xR X).locals := ⟨by show d0 + 1 ≤ _; have := hX.1; omega, by show 8 + (3 + 11) + 40 * d0 ≤ _; have := hX.2.1; omega⟩
  have hf : k + mc ≤ (xR X).cells ∧ n + ms ≤ (xR X).slots := ⟨by have := hX.2.2.1; omega, by have := hX.2.2.2; omega⟩
  exact V_calll (V_runV C hM ⟨ml_X5_147, im_X5_asksSplit, se_X5_asksSplit, ii_X5, co_X5_asksSplit⟩ ⟨rfl, by decide, by decide, by decide +kernel⟩ hR he rfl hn hst hrest hf d) p1 k1 n1 hp hk hn1 kk
theorem KX5_151 (C : Cx X lo nL G cc RX5) {D0 c0 s0 d0 mc ms : Nat} {As rest : List Value} {S : Type} {post : Int32 → S → Prop} {wo : S → va_W} (hM : Mi (xl X) yX5_costOfKey (.code yX5_costOfKey prog_7_method_30_code 2 (some .int)) d0 mc ms lo G As ws post wo) (hX : RmX X D0 c0 s0) (hd : d0 + 1 ≤ D0) (hn : As.length = 1) (hst : st = As.reverse ++ rest) (hrest : (rest.map fun v => v.category).sum ≤ 8) (p1 k1 n1 : Nat) (hp : pc + 3 = p1) (hk : k + mc = k1) (hn1 : n + ms = n1) (hk1 : k1 ≤ c0) (hs1 : n1 ≤ s0) (d : decode cc pc = .ok (.invokestatic 151, 3)) (kk : ∀ (r : Int32) (u : S), post r u → V X lo nL G Q k1 n1 (wo u) lc (.int r :: rest) p1) : V X lo nL G Q k n ws lc st pc := by
  have hR : (rmD d0 mc ms).frames + 1 ≤ (xR X).frames ∧ 8 + (2 + 11) + (rmD d0 mc ms).locals ≤ (xR X).locals := ⟨by show d0 + 1 ≤ _; have := hX.1; omega, by show 8 + (2 + 11) + 40 * d0 ≤ _; have := hX.2.1; omega⟩
  have hf : k + mc ≤ (xR X).cells ∧ n + ms ≤ (xR X).slots := ⟨by have := hX.2.2.1; omega, by have := hX.2.2.2; omega⟩
  exact V_calli (V_runS C hM ⟨ml_X5_151, sm_X5_costOfKey, ii_X5, co_X5_costOfKey⟩ ⟨by decide, by decide, by decide +kernel⟩ hR hn hst hrest hf d) p1 k1 n1 hp hk hn1 kk
theorem KX5_154 (C : Cx X lo nL G cc RX5) {D0 c0 s0 d0 mc ms : Nat} {b : Nat} {As rest : List Value} {S : Type} {post : S → Prop} {wo : S → va_W} (hM : Mv (xl X) yX5_unfolds (.code yX5_unfolds prog_7_method_32_code 6 none) d0 mc ms lo G (.ref b :: As) ws post wo) (hX : RmX X D0 c0 s0) (hd : d0 + 1 ≤ D0) (q0 : Nat) {fs : List Value} (he : ws[q0]? = some (b, .inr (5, fs))) (hn : As.length = 1) (hst : st = As.reverse ++ .ref b :: rest) (hrest : (rest.map fun v => v.category).sum ≤ 8) (p1 k1 n1 : Nat) (hp : pc + 3 = p1) (hk : k + mc = k1) (hn1 : n + ms = n1) (hk1 : k1 ≤ c0) (hs1 : n1 ≤ s0) (d : decode cc pc = .ok (.invokevirtual 154, 3)) (kk : ∀ u : S, post u → V X lo nL G Q k1 n1 (wo u) lc rest p1) : V X lo nL G Q k n ws lc st pc := by
  have hR : (rmD d0 mc ms).frames + 1 ≤ (xR X).frames ∧ 8 + (6 + 11) + (rmD d0 mc ms).locals ≤ (xR X).locals := ⟨by show d0 + 1 ≤ _; have := hX.1; omega, by show 8 + (6 + 11) + 40 * d0 ≤ _; have := hX.2.1; omega⟩
  have hf : k + mc ≤ (xR X).cells ∧ n + ms ≤ (xR X).slots := ⟨by have := hX.2.2.1; omega, by have := hX.2.2.2; omega⟩
  exact V_callv (V_runV C hM ⟨ml_X5_154, im_X5_unfolds, se_X5_unfolds, ii_X5, co_X5_unfolds⟩ ⟨rfl, by decide, by decide, by decide +kernel⟩ hR he rfl hn hst hrest hf d) p1 k1 n1 hp hk hn1 kk
theorem KX5_160 (C : Cx X lo nL G cc RX5) {D0 c0 s0 d0 mc ms : Nat} {As rest : List Value} {S : Type} {post : Int32 → S → Prop} {wo : S → va_W} (hM : Mi (xl X) yX5_trees (.code yX5_trees prog_7_method_39_code 4 (some .int)) d0 mc ms lo G As ws post wo) (hX : RmX X D0 c0 s0) (hd : d0 + 1 ≤ D0) (hn : As.length = 1) (hst : st = As.reverse ++ rest) (hrest : (rest.map fun v => v.category).sum ≤ 8) (p1 k1 n1 : Nat) (hp : pc + 3 = p1) (hk : k + mc = k1) (hn1 : n + ms = n1) (hk1 : k1 ≤ c0) (hs1 : n1 ≤ s0) (d : decode cc pc = .ok (.invokestatic 160, 3)) (kk : ∀ (r : Int32) (u : S), post r u → V X lo nL G Q k1 n1 (wo u) lc (.int r :: rest) p1) : V X lo nL G Q k n ws lc st pc := by
  have hR : (rmD d0 mc ms).frames + 1 ≤ (xR X).frames ∧ 8 + (4 + 11) + (rmD d0 mc ms).locals ≤ (xR X).locals := ⟨by show d0 + 1 ≤ _; have := hX.1; omega, by show 8 + (4 + 11) + 40 * d0 ≤ _; have := hX.2.1; omega⟩
  have hf : k + mc ≤ (xR X).cells ∧ n + ms ≤ (xR X).slots := ⟨by have := hX.2.2.1; omega, by have := hX.2.2.2; omega⟩
  exact V_calli (V_runS C hM ⟨ml_X5_160, sm_X5_trees, ii_X5, co_X5_trees⟩ ⟨by decide, by decide, by decide +kernel⟩ hR hn hst hrest hf d) p1 k1 n1 hp hk hn1 kk
theorem GX5_163 (C : Cx X lo nL G cc RX5) (q0 : Nat) {fs : List Value} {a : Nat} (he : ws[q0]? = some (a, .inr (5, fs))) {v : Value} (hv : fs[11]? = some v) (p1 : Nat) (hp : pc + 3 = p1) (d : decode cc pc = .ok (.getfield 163, 3)) (kk : V X lo nL G Q k n ws lc (v :: st) p1) : V X lo nL G Q k n ws lc (.ref a :: st) pc := V_get (ref := "PartSplitterModel") C uw_X5 rfl 11 (by decide) fl_X5_163 rfl q0 he hv p1 hp d kk
theorem PX5_163 (C : Cx X lo nL G cc RX5) (q0 : Nat) {fs : List Value} {a : Nat} (he : ws[q0]? = some (a, .inr (5, fs))) {x : Int32} (hl0 : 11 < fs.length) (ws1 : va_W) (hw : ws.set q0 (a, .inr (5, fs.set 11 (.int x))) = ws1) (p1 : Nat) (hp : pc + 3 = p1) (d : decode cc pc = .ok (.putfield 163, 3)) (kk : V X lo nL G Q k n ws1 lc st p1) : V X lo nL G Q k n ws lc (.int x :: .ref a :: st) pc := V_put (ref := "PartSplitterModel") C uw_X5 tyX5 tyX5_ok nmX5 rfl 11 (by decide) fl_X5_163 rfl rfl q0 he rfl rfl hl0 ws1 hw p1 hp d kk
theorem KX5_166 (C : Cx X lo nL G cc RX5) {D0 c0 s0 d0 mc ms : Nat} {b : Nat} {As rest : List Value} {S : Type} {post : S → Prop} {wo : S → va_W} (hM : Mv (xl X) yX5_learns (.code yX5_learns prog_7_method_41_code 4 none) d0 mc ms lo G (.ref b :: As) ws post wo) (hX : RmX X D0 c0 s0) (hd : d0 + 1 ≤ D0) (q0 : Nat) {fs : List Value} (he : ws[q0]? = some (b, .inr (5, fs))) (hn : As.length = 1) (hst : st = As.reverse ++ .ref b :: rest) (hrest : (rest.map fun v => v.category).sum ≤ 8) (p1 k1 n1 : Nat) (hp : pc + 3 = p1) (hk : k + mc = k1) (hn1 : n + ms = n1) (hk1 : k1 ≤ c0) (hs1 : n1 ≤ s0) (d : decode cc pc = .ok (.invokevirtual 166, 3)) (kk : ∀ u : S, post u → V X lo nL G Q k1 n1 (wo u) lc rest p1) : V X lo nL G Q k n ws lc st pc := by
  have hR : (rmD d0 mc ms).frames + 1 ≤ (xR X).frames ∧ 8 + (4 + 11) + (rmD d0 mc ms).locals ≤ (xR X).locals := ⟨by show d0 + 1 ≤ _; have := hX.1; omega, by show 8 + (4 + 11) + 40 * d0 ≤ _; have := hX.2.1; omega⟩
  have hf : k + mc ≤ (xR X).cells ∧ n + ms ≤ (xR X).slots := ⟨by have := hX.2.2.1; omega, by have := hX.2.2.2; omega⟩
  exact V_callv (V_runV C hM ⟨ml_X5_166, im_X5_learns, se_X5_learns, ii_X5, co_X5_learns⟩ ⟨rfl, by decide, by decide, by decide +kernel⟩ hR he rfl hn hst hrest hf d) p1 k1 n1 hp hk hn1 kk
end LK
end
section
/-! worlds; natural numbers among the Int32s -/
abbrev cW (G : vG) (h : Nat → Nat) (np : Nat) (nl : Nat) (len : Nat) (fd : Nat) (lu : Nat) (tu : Nat) (T : Nat → Int32) (C : Nat → Int32) (F : Nat → Int32) (LT : Nat → Int32) (VV : Nat → Int32) (BB : Nat → Int32) (lt : Nat → Int32) (ph : Nat → Int32) (lh : Nat → Int32) (ks : Nat → Int64) (wd : Nat → Int32) (gr : Nat → Int32) (gs : Nat → Int32) (bl : Nat → Int32) (ie : Nat → Int32) (tw : Nat → Int32) : va_W := [(h 0, .inr (4, [.ref (h 1), .ref (h 2), .ref (h 3)])), (h 1, .inr (1, [.ref (h 5), .ref (h 6), .ref (h 7), .ref (h 8), .ref (h 9), .ref (h 10), .ref (h 4), .int (nI np), .int (nI nl)])), (h 2, .inr (2, [.ref (h 1), .ref (h 11), .ref (h 12), .ref (h 13), .ref (h 14), .int (nI len), .int (nI fd)])), (h 3, .inr (0, [.ref (h 1), .ref (h 15), .ref (h 16), .ref (h 17), .int (nI lu)])), (h 4, .inr (3, [.ref (h 18), .ref (h 19), .ref (h 20), .int (nI tu)])), (h 5, .inl (G.2.1, 16, .inl T)), (h 6, .inl (G.2.1, 16, .inl C)), (h 7, .inl (G.2.1, 16, .inl F)), (h 8, .inl (G.2.1, 6, .inl LT)), (h 9, .inl (G.2.2.2, 256, .inl VV)), (h 10, .inl (G.2.2.2, 96, .inl BB)), (h 11, .inl (G.2.1, 8, .inl lt)), (h 12, .inl (G.2.1, 32, .inl ph)), (h 13, .inl (G.2.1, 16, .inl lh)), (h 14, .inl (G.2.2.1, 513, .inr (.inl ks))), (h 15, .inl (G.2.1, 50, .inl wd)), (h 16, .inl (G.2.1, 400, .inl gr)), (h 17, .inl (G.2.1, 50, .inl gs)), (h 18, .inl (G.2.1, 650, .inl bl)), (h 19, .inl (G.2.2.2, 65, .inl ie)), (h 20, .inl (G.2.1, 65, .inl tw))]
abbrev mW (G : vG) (g : Nat → Nat) (th : Nat) (np : Nat) (nl : Nat) (ld : Nat) (ll : Nat) (mn : Int32) (sp : Nat) (T : Nat → Int32) (S : Nat → Int32) (C : Nat → Int32) (F : Nat → Int32) (LT : Nat → Int32) (LS : Nat → Int32) (VE : Nat → Int32) (BA : Nat → Int32) (wd : Nat → Int32) (mo : Nat → Int32) (lt : Nat → Int32) (op : Nat → Int32) (pl : Nat → Int32) (pt : Nat → Int32) (ks : Nat → Int64) : va_W := [(g 0, .inr (5, [.int (nI th), .int (nI np), .ref (g 1), .ref (g 2), .ref (g 3), .ref (g 4), .int (nI nl), .ref (g 5), .ref (g 6), .ref (g 7), .ref (g 8), .int (nI ld), .ref (g 9), .ref (g 10), .int (nI ll), .ref (g 11), .int mn, .ref (g 12), .ref (g 13), .ref (g 14), .int (nI sp), .ref (g 15)])), (g 1, .inl (G.2.1, 16, .inl T)), (g 2, .inl (G.2.1, 16, .inl S)), (g 3, .inl (G.2.1, 16, .inl C)), (g 4, .inl (G.2.1, 16, .inl F)), (g 5, .inl (G.2.1, 6, .inl LT)), (g 6, .inl (G.2.1, 6, .inl LS)), (g 7, .inl (G.2.1, 16, .inl VE)), (g 8, .inl (G.2.1, 16, .inl BA)), (g 9, .inl (G.2.1, 50, .inl wd)), (g 10, .inl (G.2.1, 800, .inl mo)), (g 11, .inl (G.2.1, 8, .inl lt)), (g 12, .inl (G.2.1, 8, .inl op)), (g 13, .inl (G.2.1, 9, .inl pl)), (g 14, .inl (G.2.1, 8, .inl pt)), (g 15, .inl (G.2.2.1, 640, .inr (.inl ks)))]
theorem nI_inc (a k : Nat) : nI a + Int32.ofInt (k : Int) = nI (a + k) := nI_add a k
theorem nI_mulN (a b : Nat) : nI a * nI b = nI (a * b) := (Int32.ofNat_mul a b).symm
theorem nI_subN {a b : Nat} (h : b ≤ a) : nI a - nI b = nI (a - b) := (Int32.ofNat_sub a b h).symm
theorem nI_dec (a k : Nat) (h : k ≤ a) : nI a + Int32.ofInt (-(k : Int)) = nI (a - k) := by
  rw [← nI_subN h, Int32.sub_eq_add_neg, Int32.ofInt_neg]
  rfl
def bI (b : Bool) : Int32 := if b then 1 else 0
theorem bI_z (b : Bool) : narrow .boolean (.int (bI b)) = .int (bI b) := by cases b <;> rfl
theorem bI_t {p : Prop} [Decidable p] (h : p) : nI 1 = bI (decide p) := by rw [decide_eq_true h]; rfl
theorem bI_f {p : Prop} [Decidable p] (h : ¬ p) : nI 0 = bI (decide p) := by rw [decide_eq_false h]; rfl
theorem bI_tt {b : Bool} (h : b = true) : nI 1 = bI b := by rw [h]; rfl
theorem bI_ff {b : Bool} (h : b = false) : nI 0 = bI b := by rw [h]; rfl
theorem B_eq_t {b : Bool} (h : bI b = 0) : b = false := by cases b; rfl; exact absurd h (by decide)
theorem B_eq_f {b : Bool} (h : ¬ bI b = 0) : b = true := by cases b; exact absurd rfl h; rfl
theorem B_ne_t {b : Bool} (h : ¬ bI b = 0) : b = true := B_eq_f h
theorem B_ne_f {b : Bool} (h : bI b = 0) : b = false := B_eq_t h
theorem bI_nar (b : Bool) : vp_nar .boolean (bI b) = bI b := by cases b <;> rfl
theorem N_eq_t {a b : Nat} (ha : a < 2147483648) (hb : b < 2147483648) (h : nI a = nI b) : a = b := by simp only [nI_eq ha hb, nI_leI ha hb, nI_leI hb ha, nI_ltI ha hb, nI_ltI hb ha] at h; omega
theorem N_eq_f {a b : Nat} (ha : a < 2147483648) (hb : b < 2147483648) (h : ¬ nI a = nI b) : a ≠ b := by simp only [nI_eq ha hb, nI_leI ha hb, nI_leI hb ha, nI_ltI ha hb, nI_ltI hb ha] at h; omega
theorem Z_eq_t {a : Nat} (ha : a < 2147483648) (h : nI a = 0) : a = 0 := N_eq_t ha (by decide) h
theorem Z_eq_f {a : Nat} (ha : a < 2147483648) (h : ¬ nI a = 0) : a ≠ 0 := N_eq_f ha (by decide) h
theorem N_ne_t {a b : Nat} (ha : a < 2147483648) (hb : b < 2147483648) (h : ¬ nI a = nI b) : a ≠ b := by simp only [nI_eq ha hb, nI_leI ha hb, nI_leI hb ha, nI_ltI ha hb, nI_ltI hb ha] at h; omega
theorem N_ne_f {a b : Nat} (ha : a < 2147483648) (hb : b < 2147483648) (h : nI a = nI b) : a = b := by simp only [nI_eq ha hb, nI_leI ha hb, nI_leI hb ha, nI_ltI ha hb, nI_ltI hb ha] at h; omega
theorem Z_ne_t {a : Nat} (ha : a < 2147483648) (h : ¬ nI a = 0) : a ≠ 0 := N_ne_t ha (by decide) h
theorem Z_ne_f {a : Nat} (ha : a < 2147483648) (h : nI a = 0) : a = 0 := N_ne_f ha (by decide) h
theorem N_lt_t {a b : Nat} (ha : a < 2147483648) (hb : b < 2147483648) (h : nI a < nI b) : a < b := by simp only [nI_eq ha hb, nI_leI ha hb, nI_leI hb ha, nI_ltI ha hb, nI_ltI hb ha] at h; omega
theorem N_lt_f {a b : Nat} (ha : a < 2147483648) (hb : b < 2147483648) (h : ¬ nI a < nI b) : a ≥ b := by simp only [nI_eq ha hb, nI_leI ha hb, nI_leI hb ha, nI_ltI ha hb, nI_ltI hb ha] at h; omega
theorem Z_lt_t {a : Nat} (ha : a < 2147483648) (h : nI a < 0) : a < 0 := N_lt_t ha (by decide) h
theorem Z_lt_f {a : Nat} (ha : a < 2147483648) (h : ¬ nI a < 0) : a ≥ 0 := N_lt_f ha (by decide) h
theorem N_ge_t {a b : Nat} (ha : a < 2147483648) (hb : b < 2147483648) (h : nI b ≤ nI a) : a ≥ b := by simp only [nI_eq ha hb, nI_leI ha hb, nI_leI hb ha, nI_ltI ha hb, nI_ltI hb ha] at h; omega
theorem N_ge_f {a b : Nat} (ha : a < 2147483648) (hb : b < 2147483648) (h : ¬ nI b ≤ nI a) : a < b := by simp only [nI_eq ha hb, nI_leI ha hb, nI_leI hb ha, nI_ltI ha hb, nI_ltI hb ha] at h; omega
theorem Z_ge_t {a : Nat} (ha : a < 2147483648) (h : 0 ≤ nI a) : a ≥ 0 := N_ge_t ha (by decide) h
theorem Z_ge_f {a : Nat} (ha : a < 2147483648) (h : ¬ 0 ≤ nI a) : a < 0 := N_ge_f ha (by decide) h
theorem N_gt_t {a b : Nat} (ha : a < 2147483648) (hb : b < 2147483648) (h : nI b < nI a) : a > b := by simp only [nI_eq ha hb, nI_leI ha hb, nI_leI hb ha, nI_ltI ha hb, nI_ltI hb ha] at h; omega
theorem N_gt_f {a b : Nat} (ha : a < 2147483648) (hb : b < 2147483648) (h : ¬ nI b < nI a) : a ≤ b := by simp only [nI_eq ha hb, nI_leI ha hb, nI_leI hb ha, nI_ltI ha hb, nI_ltI hb ha] at h; omega
theorem Z_gt_t {a : Nat} (ha : a < 2147483648) (h : 0 < nI a) : a > 0 := N_gt_t ha (by decide) h
theorem Z_gt_f {a : Nat} (ha : a < 2147483648) (h : ¬ 0 < nI a) : a ≤ 0 := N_gt_f ha (by decide) h
theorem N_le_t {a b : Nat} (ha : a < 2147483648) (hb : b < 2147483648) (h : nI a ≤ nI b) : a ≤ b := by simp only [nI_eq ha hb, nI_leI ha hb, nI_leI hb ha, nI_ltI ha hb, nI_ltI hb ha] at h; omega
theorem N_le_f {a b : Nat} (ha : a < 2147483648) (hb : b < 2147483648) (h : ¬ nI a ≤ nI b) : a > b := by simp only [nI_eq ha hb, nI_leI ha hb, nI_leI hb ha, nI_ltI ha hb, nI_ltI hb ha] at h; omega
theorem Z_le_t {a : Nat} (ha : a < 2147483648) (h : nI a ≤ 0) : a ≤ 0 := N_le_t ha (by decide) h
theorem Z_le_f {a : Nat} (ha : a < 2147483648) (h : ¬ nI a ≤ 0) : a > 0 := N_le_f ha (by decide) h
theorem p10_pos (k : Nat) : 1 ≤ 10 ^ k := Nat.one_le_pow _ _ (by decide)
theorem p10_le {a b : Nat} (h : a ≤ b) : 10 ^ a ≤ 10 ^ b := Nat.pow_le_pow_right (by decide) h
/-- how many letters a text has, of m at most -/
def SZ (x : Int32) : Nat → Nat
  | 0 => 0
  | m + 1 => if nI (10 ^ (m + 1)) ≤ x ∧ x ≤ nI (2 * 10 ^ (m + 1) - 1) then m + 1 else SZ x m
theorem SZ_le (x : Int32) (m : Nat) : SZ x m ≤ m := by
  induction m with
  | zero => exact Nat.le_refl _
  | succ m ih => unfold SZ; split <;> omega
def isP (np : Nat) (x : Int32) : Bool := decide (0 ≤ x ∧ x ≤ nI np - 1)
/-- the last place of x among the first n -/
def lastW (T : Nat → Int32) (x : Int32) : Nat → Int32
  | 0 => -1
  | i + 1 => if T i = x then nI i else lastW T x i
end
section
set_option maxHeartbeats 4000000 in
set_option maxRecDepth 100000 in
theorem kX5_in (l : Launch) (lo : Nat) (G : vG) (rs : va_W) (v : Int32) (lo_ : Int32) (hi_ : Int32) : Mi l yX5_in (.code yX5_in prog_7_method_3_code 3 (some .boolean)) 1 0 0 lo G [.int v, .int lo_, .int hi_] (rs) (fun (r : Int32) (_ : Unit) => r = bI (decide (lo_ ≤ v ∧ v ≤ hi_))) (fun (_ : Unit) => rs) := by
  refine Mi_of (lc := [(0, .int v), (1, .int lo_), (2, .int hi_)]) (by decide +kernel) (Nat.le_of_ble_eq_true rfl) rfl ?_
  intro X cx hXR hXl hr hin
  subst hXl
  have hX := RmX.of hXR
  refine V_iload_n cx 1 rfl dX5_in_0 0 rfl ?_
  refine V_iload_n cx 2 rfl dX5_in_1 1 rfl ?_
  refine V_icmp_lt cx 5 14 rfl dX5_in_2 (by decide) (fun c_2 => ?_) (fun c_2 => ?_)
  · skip
    refine V_iconst (v := nI 0) cx 15 rfl dX5_in_14 (by decide) ?_
    exact V_zreturn cx hr (by first | rfl | exact bI_z _) () (bI_f (fun h => absurd c_2 (Int32.not_lt.mpr h.1))) rfl (by omega) (by omega) dX5_in_15
  · skip
    refine V_iload_n cx 6 rfl dX5_in_5 0 rfl ?_
    refine V_iload_n cx 7 rfl dX5_in_6 2 rfl ?_
    refine V_icmp_gt cx 10 14 rfl dX5_in_7 (by decide) (fun c_7 => ?_) (fun c_7 => ?_)
    · skip
      refine V_iconst (v := nI 0) cx 15 rfl dX5_in_14 (by decide) ?_
      exact V_zreturn cx hr (by first | rfl | exact bI_z _) () (bI_f (fun h => absurd c_7 (Int32.not_lt.mpr h.2))) rfl (by omega) (by omega) dX5_in_15
    · skip
      refine V_iconst (v := nI 1) cx 11 rfl dX5_in_10 (by decide) ?_
      refine V_goto cx 15 dX5_in_11 (by decide) ?_
      exact V_zreturn cx hr (by first | rfl | exact bI_z _) () (bI_t ⟨Int32.not_lt.mp c_2, Int32.not_lt.mp c_7⟩) rfl (by omega) (by omega) dX5_in_15
set_option maxHeartbeats 4000000 in
set_option maxRecDepth 100000 in
theorem kX5_power (l : Launch) (lo : Nat) (G : vG) (rs : va_W) (n : Nat) (hn : n ≤ 9) : Mi l yX5_power (.code yX5_power prog_7_method_4_code 3 (some .int)) 1 0 0 lo G [.int (nI n)] (rs) (fun (r : Int32) (_ : Unit) => r = nI (10 ^ n)) (fun (_ : Unit) => rs) := by
  refine Mi_of (lc := [(0, .int (nI n))]) (by decide +kernel) (Nat.le_of_ble_eq_true rfl) rfl ?_
  intro X cx hXR hXl hr hin
  subst hXl
  have hX := RmX.of hXR
  refine V_iconst (v := nI 1) cx 1 rfl dX5_power_0 (by decide) ?_
  refine V_istore_n (lc1 := [(1, .int (nI 1)), (0, .int (nI n))]) cx 2 rfl dX5_power_1 (by decide) rfl ?_
  refine V_iconst (v := nI 0) cx 3 rfl dX5_power_2 (by decide) ?_
  refine V_istore_n (lc1 := [(2, .int (nI 0)), (1, .int (nI 1)), (0, .int (nI n))]) cx 4 rfl dX5_power_3 (by decide) rfl ?_
  have loop : ∀ (fuel : Nat) (i : Nat), i ≤ n → n - i < fuel → V X lo 3 G (Qi X lo G (fun (r : Int32) (_ : Unit) => r = nI (10 ^ n)) (fun (_ : Unit) => rs) 0 0) 0 0 (rs) [(2, .int (nI i)), (1, .int (nI (10 ^ i))), (0, .int (nI n))] [] 4 := by
    intro fuel
    induction fuel with
    | zero => intro i hi hmz; exact absurd hmz (Nat.not_lt_zero _)
    | succ fuel ih =>
      intro i hi hmz
      refine V_iload_n cx 5 rfl dX5_power_4 0 rfl ?_
      refine V_iload_n cx 6 rfl dX5_power_5 2 rfl ?_
      refine V_icmp_ge cx 9 20 rfl dX5_power_6 (by decide) (fun c_6 => ?_) (fun c_6 => ?_)
      · skip
        have n_6 : i ≥ n := N_ge_t (by omega) (by omega) c_6
        refine V_iload_n cx 21 rfl dX5_power_20 1 rfl ?_
        exact V_ireturn cx hr () (by rw [show i = n by omega]) rfl (by omega) (by omega) dX5_power_21
      · skip
        have n_6 : i < n := N_ge_f (by omega) (by omega) c_6
        refine V_iload_n cx 10 rfl dX5_power_9 1 rfl ?_
        refine V_bipush (v := nI 10) cx 12 rfl dX5_power_10 (by decide) ?_
        refine V_imul cx 13 rfl dX5_power_12 ?_
        refine V_toi (nI ((10 ^ i) * 10)) (nI_mulN _ _) ?_
        refine V_istore_n (lc1 := [(1, .int (nI ((10 ^ i) * 10))), (2, .int (nI i)), (0, .int (nI n))]) cx 14 rfl dX5_power_13 (by decide) rfl ?_
        refine V_iinc (v := nI (i + 1)) (lc1 := [(2, .int (nI (i + 1))), (1, .int (nI ((10 ^ i) * 10))), (0, .int (nI n))]) cx 17 rfl dX5_power_14 1 rfl (nI_inc i 1) (by decide) rfl ?_
        refine V_goto cx 4 dX5_power_17 (by decide) ?_
        refine V.locs [0, 1, 2] rfl ?_
        have e10 : 10 ^ i * 10 = 10 ^ (i + 1) := (Nat.pow_succ ..).symm
        exact ih (i + 1) (by omega) (by omega)
  refine V.locs [0, 1, 2] rfl ?_
  exact loop _ 0 (by omega) (Nat.lt_succ_self _)
set_option maxHeartbeats 4000000 in
set_option maxRecDepth 100000 in
theorem kX5_sizeOf (l : Launch) (lo : Nat) (G : vG) (rs : va_W) (x : Int32) (m : Nat) (hm : m ≤ 8) : Mi l yX5_sizeOf (.code yX5_sizeOf prog_7_method_5_code 4 (some .int)) 2 0 0 lo G [.int x, .int (nI m)] (rs) (fun (r : Int32) (_ : Unit) => r = nI (SZ x m)) (fun (_ : Unit) => rs) := by
  refine Mi_of (lc := [(0, .int x), (1, .int (nI m))]) (by decide +kernel) (Nat.le_of_ble_eq_true rfl) rfl ?_
  intro X cx hXR hXl hr hin
  subst hXl
  have hX := RmX.of hXR
  refine V_iconst (v := nI 0) cx 1 rfl dX5_sizeOf_0 (by decide) ?_
  refine V_istore_n (lc1 := [(2, .int (nI 0)), (0, .int x), (1, .int (nI m))]) cx 2 rfl dX5_sizeOf_1 (by decide) rfl ?_
  refine V_iconst (v := nI 1) cx 3 rfl dX5_sizeOf_2 (by decide) ?_
  refine V_istore_n (lc1 := [(3, .int (nI 1)), (2, .int (nI 0)), (0, .int x), (1, .int (nI m))]) cx 4 rfl dX5_sizeOf_3 (by decide) rfl ?_
  have loop : ∀ (fuel : Nat) (i : Nat) (f : Nat), 1 ≤ i ∧ i ≤ m + 1 → f = SZ x (i - 1) → m + 1 - i < fuel → V X lo 4 G (Qi X lo G (fun (r : Int32) (_ : Unit) => r = nI (SZ x m)) (fun (_ : Unit) => rs) 0 0) 0 0 (rs) [(3, .int (nI i)), (2, .int (nI f)), (0, .int x), (1, .int (nI m))] [] 4 := by
    intro fuel
    induction fuel with
    | zero => intro i f hi hf hmz; exact absurd hmz (Nat.not_lt_zero _)
    | succ fuel ih =>
      intro i f hi hf hmz
      refine V_iload_n cx 5 rfl dX5_sizeOf_4 0 rfl ?_
      refine V_iload_n cx 6 rfl dX5_sizeOf_5 3 rfl ?_
      refine V_icmp_gt cx 9 40 rfl dX5_sizeOf_6 (by decide) (fun c_6 => ?_) (fun c_6 => ?_)
      · skip
        have n_6 : i > m := N_gt_t (by omega) (by omega) c_6
        refine V_iload_n cx 41 rfl dX5_sizeOf_40 1 rfl ?_
        exact V_ireturn cx hr () (by rw [hf, show i - 1 = m by omega]) rfl (by omega) (by omega) dX5_sizeOf_41
      · skip
        have n_6 : i ≤ m := N_gt_f (by omega) (by omega) c_6
        refine V_iload_n cx 10 rfl dX5_sizeOf_9 2 rfl ?_
        refine V_iload_n cx 11 rfl dX5_sizeOf_10 0 rfl ?_
        refine KX5_60 (As := [.int (nI i)]) (rest := [.int x]) cx (kX5_power (xl X) lo G _ i (by omega)) hX (by omega) rfl rfl (Nat.le_of_ble_eq_true rfl) 14 0 0 rfl rfl rfl (by omega) (by omega) dX5_sizeOf_11 (fun r_1 u_2 hw_3 => ?_)
        try dsimp only at hw_3
        subst hw_3
        refine V_iconst (v := nI 2) cx 15 rfl dX5_sizeOf_14 (by decide) ?_
        refine V_iload_n cx 16 rfl dX5_sizeOf_15 0 rfl ?_
        refine KX5_60 (As := [.int (nI i)]) (rest := [.int (nI 2), .int (nI (10 ^ i)), .int x]) cx (kX5_power (xl X) lo G _ i (by omega)) hX (by omega) rfl rfl (Nat.le_of_ble_eq_true rfl) 19 0 0 rfl rfl rfl (by omega) (by omega) dX5_sizeOf_16 (fun r_4 u_5 hw_6 => ?_)
        try dsimp only at hw_6
        subst hw_6
        refine V_imul cx 20 rfl dX5_sizeOf_19 ?_
        refine V_toi (nI (2 * (10 ^ i))) (nI_mulN _ _) ?_
        refine V_iconst (v := nI 1) cx 21 rfl dX5_sizeOf_20 (by decide) ?_
        refine V_isub cx 22 rfl dX5_sizeOf_21 ?_
        refine V_toi (nI ((2 * (10 ^ i)) - 1)) (nI_subN (by have := p10_pos i; omega)) ?_
        refine KX5_64 (As := [.int x, .int (nI (10 ^ i)), .int (nI ((2 * (10 ^ i)) - 1))]) (rest := []) cx (kX5_in (xl X) lo G _ x (nI (10 ^ i)) (nI ((2 * (10 ^ i)) - 1))) hX (by omega) rfl rfl (Nat.le_of_ble_eq_true rfl) 25 0 0 rfl rfl rfl (by omega) (by omega) dX5_sizeOf_22 (fun r_7 u_8 hw_9 => ?_)
        try dsimp only at hw_9
        subst hw_9
        refine V_if_eq cx 28 32 rfl dX5_sizeOf_25 (by decide) (fun c_25 => ?_) (fun c_25 => ?_)
        · skip
          have n_25 := B_eq_t c_25
          try simp only [decide_eq_true_eq, decide_eq_false_iff_not] at n_25
          refine V_iload_n cx 33 rfl dX5_sizeOf_32 1 rfl ?_
          refine V_istore_n (lc1 := [(2, .int (nI f)), (3, .int (nI i)), (0, .int x), (1, .int (nI m))]) cx 34 rfl dX5_sizeOf_33 (by decide) rfl ?_
          refine V_iinc (v := nI (i + 1)) (lc1 := [(3, .int (nI (i + 1))), (2, .int (nI f)), (0, .int x), (1, .int (nI m))]) cx 37 rfl dX5_sizeOf_34 1 rfl (nI_inc i 1) (by decide) rfl ?_
          refine V_goto cx 4 dX5_sizeOf_37 (by decide) ?_
          refine V.locs [0, 1, 2, 3] rfl ?_
          exact ih (i + 1) f (by omega) (by rw [show i + 1 - 1 = (i - 1) + 1 by omega]; simp only [SZ, show i - 1 + 1 = i by omega]; first | rw [if_pos n_25] | (rw [if_neg n_25]; exact hf)) (by omega)
        · skip
          have n_25 := B_eq_f c_25
          try simp only [decide_eq_true_eq, decide_eq_false_iff_not] at n_25
          refine V_iload_n cx 29 rfl dX5_sizeOf_28 0 rfl ?_
          refine V_goto cx 33 dX5_sizeOf_29 (by decide) ?_
          refine V_istore_n (lc1 := [(2, .int (nI i)), (3, .int (nI i)), (0, .int x), (1, .int (nI m))]) cx 34 rfl dX5_sizeOf_33 (by decide) rfl ?_
          refine V_iinc (v := nI (i + 1)) (lc1 := [(3, .int (nI (i + 1))), (2, .int (nI i)), (0, .int x), (1, .int (nI m))]) cx 37 rfl dX5_sizeOf_34 1 rfl (nI_inc i 1) (by decide) rfl ?_
          refine V_goto cx 4 dX5_sizeOf_37 (by decide) ?_
          refine V.locs [0, 1, 2, 3] rfl ?_
          exact ih (i + 1) i (by omega) (by rw [show i + 1 - 1 = (i - 1) + 1 by omega]; simp only [SZ, show i - 1 + 1 = i by omega]; first | rw [if_pos n_25] | (rw [if_neg n_25]; exact hf)) (by omega)
  refine V.locs [0, 1, 2, 3] rfl ?_
  exact loop _ 1 0 (by omega) (by rfl) (Nat.lt_succ_self _)
set_option maxHeartbeats 4000000 in
set_option maxRecDepth 100000 in
theorem kX5_isPart (l : Launch) (lo : Nat) (G : vG) (rs : va_W) (g : Nat → Nat) (th : Nat) (np : Nat) (nl : Nat) (ld : Nat) (ll : Nat) (mn : Int32) (sp : Nat) (T : Nat → Int32) (S : Nat → Int32) (C : Nat → Int32) (F : Nat → Int32) (LT : Nat → Int32) (LS : Nat → Int32) (VE : Nat → Int32) (BA : Nat → Int32) (wd : Nat → Int32) (mo : Nat → Int32) (lt : Nat → Int32) (op : Nat → Int32) (pl : Nat → Int32) (pt : Nat → Int32) (ks : Nat → Int64) (x : Int32) : Mi l yX5_isPart (.code yX5_isPart prog_7_method_6_code 2 (some .boolean)) 2 0 0 lo G [.ref (g 0), .int x] (mW G g th np nl ld ll mn sp T S C F LT LS VE BA wd mo lt op pl pt ks ++ rs) (fun (r : Int32) (_ : Unit) => r = bI (isP np x)) (fun (_ : Unit) => mW G g th np nl ld ll mn sp T S C F LT LS VE BA wd mo lt op pl pt ks ++ rs) := by
  refine Mi_of (lc := [(0, .ref (g 0)), (1, .int x)]) (by decide +kernel) (Nat.le_of_ble_eq_true rfl) rfl ?_
  intro X cx hXR hXl hr hin
  subst hXl
  have hX := RmX.of hXR
  refine V_iload_n cx 1 rfl dX5_isPart_0 1 rfl ?_
  refine V_iconst (v := nI 0) cx 2 rfl dX5_isPart_1 (by decide) ?_
  refine V_aload_n cx 3 rfl dX5_isPart_2 0 rfl ?_
  refine GX5_68 cx 0 rfl rfl 6 rfl dX5_isPart_3 ?_
  refine V_iconst (v := nI 1) cx 7 rfl dX5_isPart_6 (by decide) ?_
  refine V_isub cx 8 rfl dX5_isPart_7 ?_
  refine KX5_64 (As := [.int x, .int (nI 0), .int ((nI np) - (nI 1))]) (rest := []) cx (kX5_in (xl X) lo G _ x (nI 0) ((nI np) - (nI 1))) hX (by omega) rfl rfl (Nat.le_of_ble_eq_true rfl) 11 0 0 rfl rfl rfl (by omega) (by omega) dX5_isPart_8 (fun r_1 u_2 hw_3 => ?_)
  try dsimp only at hw_3
  subst hw_3
  exact V_zreturn cx hr (by first | rfl | exact bI_z _) () (by first | rfl | trivial) rfl (by omega) (by omega) dX5_isPart_11
set_option maxHeartbeats 4000000 in
set_option maxRecDepth 100000 in
theorem kX5_partWith (l : Launch) (lo : Nat) (G : vG) (rs : va_W) (g : Nat → Nat) (th : Nat) (np : Nat) (nl : Nat) (ld : Nat) (ll : Nat) (mn : Int32) (sp : Nat) (T : Nat → Int32) (S : Nat → Int32) (C : Nat → Int32) (F : Nat → Int32) (LT : Nat → Int32) (LS : Nat → Int32) (VE : Nat → Int32) (BA : Nat → Int32) (wd : Nat → Int32) (mo : Nat → Int32) (lt : Nat → Int32) (op : Nat → Int32) (pl : Nat → Int32) (pt : Nat → Int32) (ks : Nat → Int64) (x : Int32) (hnp : np ≤ 16) : Mi l yX5_partWith (.code yX5_partWith prog_7_method_7_code 4 (some .int)) 1 0 0 lo G [.ref (g 0), .int x] (mW G g th np nl ld ll mn sp T S C F LT LS VE BA wd mo lt op pl pt ks ++ rs) (fun (r : Int32) (_ : Unit) => r = lastW T x np) (fun (_ : Unit) => mW G g th np nl ld ll mn sp T S C F LT LS VE BA wd mo lt op pl pt ks ++ rs) := by
  refine Mi_of (lc := [(0, .ref (g 0)), (1, .int x)]) (by decide +kernel) (Nat.le_of_ble_eq_true rfl) rfl ?_
  intro X cx hXR hXl hr hin
  subst hXl
  have hX := RmX.of hXR
  refine V_iconst (v := (-1)) cx 1 rfl dX5_partWith_0 (by decide) ?_
  refine V_istore_n (lc1 := [(2, .int (-1)), (0, .ref (g 0)), (1, .int x)]) cx 2 rfl dX5_partWith_1 (by decide) rfl ?_
  refine V_iconst (v := nI 0) cx 3 rfl dX5_partWith_2 (by decide) ?_
  refine V_istore_n (lc1 := [(3, .int (nI 0)), (2, .int (-1)), (0, .ref (g 0)), (1, .int x)]) cx 4 rfl dX5_partWith_3 (by decide) rfl ?_
  have loop : ∀ (fuel : Nat) (i : Nat) (f : Int32), i ≤ np → f = lastW T x i → np - i < fuel → V X lo 4 G (Qi X lo G (fun (r : Int32) (_ : Unit) => r = lastW T x np) (fun (_ : Unit) => mW G g th np nl ld ll mn sp T S C F LT LS VE BA wd mo lt op pl pt ks ++ rs) 0 0) 0 0 (mW G g th np nl ld ll mn sp T S C F LT LS VE BA wd mo lt op pl pt ks ++ rs) [(3, .int (nI i)), (2, .int f), (0, .ref (g 0)), (1, .int x)] [] 4 := by
    intro fuel
    induction fuel with
    | zero => intro i f hi hf hmz; exact absurd hmz (Nat.not_lt_zero _)
    | succ fuel ih =>
      intro i f hi hf hmz
      refine V_iload_n cx 5 rfl dX5_partWith_4 0 rfl ?_
      refine V_aload_n cx 6 rfl dX5_partWith_5 2 rfl ?_
      refine GX5_68 cx 0 rfl rfl 9 rfl dX5_partWith_6 ?_
      refine V_icmp_ge cx 12 34 rfl dX5_partWith_9 (by decide) (fun c_9 => ?_) (fun c_9 => ?_)
      · skip
        have n_9 : i ≥ np := N_ge_t (by omega) (by omega) c_9
        refine V_iload_n cx 35 rfl dX5_partWith_34 1 rfl ?_
        exact V_ireturn cx hr () (by rw [hf, show i = np by omega]) rfl (by omega) (by omega) dX5_partWith_35
      · skip
        have n_9 : i < np := N_ge_f (by omega) (by omega) c_9
        refine V_aload_n cx 13 rfl dX5_partWith_12 2 rfl ?_
        refine GX5_7 cx 0 rfl rfl 16 rfl dX5_partWith_13 ?_
        refine V_iload_n cx 17 rfl dX5_partWith_16 0 rfl ?_
        refine V_ialdN cx i (rfl) (by omega) (by decide) 1 rfl 18 rfl dX5_partWith_17 ?_
        refine V_iload_n cx 19 rfl dX5_partWith_18 3 rfl ?_
        refine V_icmp_ne cx 22 26 rfl dX5_partWith_19 (by decide) (fun c_19 => ?_) (fun c_19 => ?_)
        · skip
          refine V_iload_n cx 27 rfl dX5_partWith_26 1 rfl ?_
          refine V_istore_n (lc1 := [(2, .int f), (3, .int (nI i)), (0, .ref (g 0)), (1, .int x)]) cx 28 rfl dX5_partWith_27 (by decide) rfl ?_
          refine V_iinc (v := nI (i + 1)) (lc1 := [(3, .int (nI (i + 1))), (2, .int f), (0, .ref (g 0)), (1, .int x)]) cx 31 rfl dX5_partWith_28 1 rfl (nI_inc i 1) (by decide) rfl ?_
          refine V_goto cx 4 dX5_partWith_31 (by decide) ?_
          refine V.locs [0, 1, 2, 3] rfl ?_
          exact ih (i + 1) f (by omega) (by simp only [lastW]; first | rw [if_pos c_19] | (rw [if_neg c_19]; exact hf)) (by omega)
        · skip
          refine V_iload_n cx 23 rfl dX5_partWith_22 0 rfl ?_
          refine V_goto cx 27 dX5_partWith_23 (by decide) ?_
          refine V_istore_n (lc1 := [(2, .int (nI i)), (3, .int (nI i)), (0, .ref (g 0)), (1, .int x)]) cx 28 rfl dX5_partWith_27 (by decide) rfl ?_
          refine V_iinc (v := nI (i + 1)) (lc1 := [(3, .int (nI (i + 1))), (2, .int (nI i)), (0, .ref (g 0)), (1, .int x)]) cx 31 rfl dX5_partWith_28 1 rfl (nI_inc i 1) (by decide) rfl ?_
          refine V_goto cx 4 dX5_partWith_31 (by decide) ?_
          refine V.locs [0, 1, 2, 3] rfl ?_
          exact ih (i + 1) (nI i) (by omega) (by simp only [lastW]; first | rw [if_pos c_19] | (rw [if_neg c_19]; exact hf)) (by omega)
  refine V.locs [0, 1, 2, 3] rfl ?_
  exact loop _ 0 (-1) (by omega) (by rfl) (Nat.lt_succ_self _)
end
section
/-- how often v can be doubled -/
def dbl : Nat → Nat → Nat
  | 0, _ => 0
  | f + 1, v => if v ≤ 10000 then 1 + dbl f (v * 2) else 0
def ko (c : Nat) : Nat := 10 + 10 * dbl 13 (2 * c)
theorem dbl_le (f v : Nat) : dbl f v ≤ f := by
  induction f generalizing v with
  | zero => exact Nat.le_refl _
  | succ f ih => unfold dbl; split <;> have := ih (v * 2) <;> omega
theorem dbl_hi (f : Nat) {v : Nat} (h : 10000 < v) : dbl f v = 0 := by
  cases f with
  | zero => rfl
  | succ f => unfold dbl; rw [if_neg (by omega)]
theorem ko_le (c : Nat) : ko c ≤ 140 := by have := dbl_le 13 (2 * c); unfold ko; omega
theorem ko_ge (c : Nat) : 10 ≤ ko c := by unfold ko; omega
theorem isP_t {np : Nat} {x : Int32} (hnp : np ≤ 16) (h : isP np x = true) : ∃ p, p < np ∧ x = nI p := by
  unfold isP at h
  rw [decide_eq_true_eq] at h
  obtain ⟨h1, h2⟩ := h
  obtain ⟨j, hj, rfl⟩ := nI_of (x := x) (Int32.not_lt.mpr h1)
  refine ⟨j, ?_, rfl⟩
  rcases Nat.eq_zero_or_pos np with rfl | hp
  · exfalso
    have : nI j ≤ -1 := h2
    rw [Int32.le_iff_toInt_le, nI_toInt hj] at this
    have e : (-1 : Int32).toInt = -1 := by decide
    omega
  · rw [show (1 : Int32) = nI 1 from rfl, nI_subN hp] at h2
    have := (nI_leI hj (by omega)).mp h2
    omega
theorem isP_of {np p : Nat} (hnp : np ≤ 16) (h : p < np) : isP np (nI p) = true := by
  unfold isP
  rw [decide_eq_true_eq, show (1 : Int32) = nI 1 from rfl, nI_subN (by omega), show (0 : Int32) = nI 0 from rfl]
  exact ⟨nI_le (by omega) (by omega), nI_le (by omega) (by omega)⟩
/-- the bit of a mask -/
def bitI (x : Int32) (q : Nat) : Bool := decide ((x >>> (nI q &&& 31)) &&& nI 1 = nI 1)
def setI (x : Int32) (q : Nat) (b : Bool) : Int32 := if b then x ||| (nI 1 <<< (nI q &&& 31)) else x &&& ((nI 1 <<< (nI q &&& 31)) ^^^ (-1))
def goodP (text count flags : Int32) : Prop := 0 < SZ text 4 ∧ (nI 1 ≤ count ∧ count ≤ nI 9999) ∧ (nI 1 ≤ flags ∧ flags ≤ nI 7)
def mAddPart (np : Nat) (T S C F : Nat → Int32) (text count flags r : Int32) (th1 np1 : Nat) (T1 S1 C1 F1 : Nat → Int32) : Prop :=
  (¬ goodP text count flags ∧ th1 = 1 ∧ np1 = np ∧ T1 = T ∧ S1 = S ∧ C1 = C ∧ F1 = F) ∨
  (goodP text count flags ∧ (np = 16 ∨ lastW T text np ≠ -1) ∧ th1 = 2 ∧ np1 = np ∧ T1 = T ∧ S1 = S ∧ C1 = C ∧ F1 = F) ∨
  (goodP text count flags ∧ np < 16 ∧ lastW T text np = -1 ∧ th1 = 0 ∧ r = nI np ∧ np1 = np + 1 ∧ T1 = upd T np text ∧ S1 = upd S np (nI (SZ text 4)) ∧ C1 = upd C np count ∧ F1 = upd F np flags)
def mSetFlags (np : Nat) (F : Nat → Int32) (part flags r : Int32) (th1 : Nat) (F1 : Nat → Int32) : Prop :=
  (isP np part = false ∧ th1 = 1 ∧ F1 = F) ∨ (isP np part = true ∧ ¬ (nI 0 ≤ flags ∧ flags ≤ nI 7) ∧ th1 = 2 ∧ F1 = F) ∨
  (∃ p, p < np ∧ part = nI p ∧ (nI 0 ≤ flags ∧ flags ≤ nI 7) ∧ th1 = 0 ∧ r = F p ∧ F1 = upd F p flags)
def isIn (T : Nat → Int32) (x : Int32) : Nat → Bool
  | 0 => false
  | i + 1 => isIn T x i || decide (T i = x)
def mAddLink (nl : Nat) (LT LS : Nat → Int32) (text r : Int32) (th1 nl1 : Nat) (LT1 LS1 : Nat → Int32) : Prop :=
  (SZ text 2 = 0 ∧ th1 = 1 ∧ nl1 = nl ∧ LT1 = LT ∧ LS1 = LS) ∨
  (SZ text 2 ≠ 0 ∧ (nl = 6 ∨ isIn LT text nl = true) ∧ th1 = 2 ∧ nl1 = nl ∧ LT1 = LT ∧ LS1 = LS) ∨
  (SZ text 2 ≠ 0 ∧ nl < 6 ∧ isIn LT text nl = false ∧ th1 = 0 ∧ r = nI nl ∧ nl1 = nl + 1 ∧ LT1 = upd LT nl text ∧ LS1 = upd LS nl (nI (SZ text 2)))
def mMask (np nq : Nat) (VE : Nat → Int32) (part next : Int32) (b : Bool) (r : Int32) (th1 : Nat) (VE1 : Nat → Int32) : Prop :=
  ((isP np part = false ∨ isP nq next = false) ∧ th1 = 1 ∧ VE1 = VE) ∨
  (∃ p q, p < np ∧ q < nq ∧ part = nI p ∧ next = nI q ∧ th1 = 0 ∧ r = bI (bitI (VE p) q) ∧ VE1 = upd VE p (setI (VE p) q b))
set_option maxHeartbeats 4000000 in
set_option maxRecDepth 100000 in
theorem kX5_thrown (l : Launch) (lo : Nat) (G : vG) (rs : va_W) (g : Nat → Nat) (th : Nat) (np : Nat) (nl : Nat) (ld : Nat) (ll : Nat) (mn : Int32) (sp : Nat) (T : Nat → Int32) (S : Nat → Int32) (C : Nat → Int32) (F : Nat → Int32) (LT : Nat → Int32) (LS : Nat → Int32) (VE : Nat → Int32) (BA : Nat → Int32) (wd : Nat → Int32) (mo : Nat → Int32) (lt : Nat → Int32) (op : Nat → Int32) (pl : Nat → Int32) (pt : Nat → Int32) (ks : Nat → Int64) : Mi l yX5_thrown (.code yX5_thrown prog_7_method_2_code 1 (some .int)) 1 0 0 lo G [.ref (g 0)] (mW G g th np nl ld ll mn sp T S C F LT LS VE BA wd mo lt op pl pt ks ++ rs) (fun (r : Int32) (_ : Unit) => r = nI th) (fun (_ : Unit) => mW G g th np nl ld ll mn sp T S C F LT LS VE BA wd mo lt op pl pt ks ++ rs) := by
  refine Mi_of (lc := [(0, .ref (g 0))]) (by decide +kernel) (Nat.le_of_ble_eq_true rfl) rfl ?_
  intro X cx hXR hXl hr hin
  subst hXl
  have hX := RmX.of hXR
  refine V_aload_n cx 1 rfl dX5_thrown_0 0 rfl ?_
  refine GX5_56 cx 0 rfl rfl 4 rfl dX5_thrown_1 ?_
  exact V_ireturn cx hr () (by first | rfl | trivial) rfl (by omega) (by omega) dX5_thrown_4
set_option maxHeartbeats 4000000 in
set_option maxRecDepth 100000 in
theorem kX5_parts (l : Launch) (lo : Nat) (G : vG) (rs : va_W) (g : Nat → Nat) (th : Nat) (np : Nat) (nl : Nat) (ld : Nat) (ll : Nat) (mn : Int32) (sp : Nat) (T : Nat → Int32) (S : Nat → Int32) (C : Nat → Int32) (F : Nat → Int32) (LT : Nat → Int32) (LS : Nat → Int32) (VE : Nat → Int32) (BA : Nat → Int32) (wd : Nat → Int32) (mo : Nat → Int32) (lt : Nat → Int32) (op : Nat → Int32) (pl : Nat → Int32) (pt : Nat → Int32) (ks : Nat → Int64) : Mi l yX5_parts (.code yX5_parts prog_7_method_13_code 1 (some .int)) 1 0 0 lo G [.ref (g 0)] (mW G g th np nl ld ll mn sp T S C F LT LS VE BA wd mo lt op pl pt ks ++ rs) (fun (r : Int32) (_ : Unit) => r = nI np) (fun (_ : Unit) => mW G g 0 np nl ld ll mn sp T S C F LT LS VE BA wd mo lt op pl pt ks ++ rs) := by
  refine Mi_of (lc := [(0, .ref (g 0))]) (by decide +kernel) (Nat.le_of_ble_eq_true rfl) rfl ?_
  intro X cx hXR hXl hr hin
  subst hXl
  have hX := RmX.of hXR
  refine V_aload_n cx 1 rfl dX5_parts_0 0 rfl ?_
  refine V_iconst (v := nI 0) cx 2 rfl dX5_parts_1 (by decide) ?_
  refine PX5_56 cx 0 rfl (Nat.le_of_ble_eq_true rfl) (mW G g 0 np nl ld ll mn sp T S C F LT LS VE BA wd mo lt op pl pt ks ++ rs) rfl 5 rfl dX5_parts_2 ?_
  refine V_aload_n cx 6 rfl dX5_parts_5 0 rfl ?_
  refine GX5_68 cx 0 rfl rfl 9 rfl dX5_parts_6 ?_
  exact V_ireturn cx hr () (by first | rfl | trivial) rfl (by omega) (by omega) dX5_parts_9
set_option maxHeartbeats 4000000 in
set_option maxRecDepth 100000 in
theorem kX5_learned (l : Launch) (lo : Nat) (G : vG) (rs : va_W) (g : Nat → Nat) (th : Nat) (np : Nat) (nl : Nat) (ld : Nat) (ll : Nat) (mn : Int32) (sp : Nat) (T : Nat → Int32) (S : Nat → Int32) (C : Nat → Int32) (F : Nat → Int32) (LT : Nat → Int32) (LS : Nat → Int32) (VE : Nat → Int32) (BA : Nat → Int32) (wd : Nat → Int32) (mo : Nat → Int32) (lt : Nat → Int32) (op : Nat → Int32) (pl : Nat → Int32) (pt : Nat → Int32) (ks : Nat → Int64) : Mi l yX5_learned (.code yX5_learned prog_7_method_44_code 1 (some .int)) 1 0 0 lo G [.ref (g 0)] (mW G g th np nl ld ll mn sp T S C F LT LS VE BA wd mo lt op pl pt ks ++ rs) (fun (r : Int32) (_ : Unit) => r = nI ld) (fun (_ : Unit) => mW G g 0 np nl ld ll mn sp T S C F LT LS VE BA wd mo lt op pl pt ks ++ rs) := by
  refine Mi_of (lc := [(0, .ref (g 0))]) (by decide +kernel) (Nat.le_of_ble_eq_true rfl) rfl ?_
  intro X cx hXR hXl hr hin
  subst hXl
  have hX := RmX.of hXR
  refine V_aload_n cx 1 rfl dX5_learned_0 0 rfl ?_
  refine V_iconst (v := nI 0) cx 2 rfl dX5_learned_1 (by decide) ?_
  refine PX5_56 cx 0 rfl (Nat.le_of_ble_eq_true rfl) (mW G g 0 np nl ld ll mn sp T S C F LT LS VE BA wd mo lt op pl pt ks ++ rs) rfl 5 rfl dX5_learned_2 ?_
  refine V_aload_n cx 6 rfl dX5_learned_5 0 rfl ?_
  refine GX5_163 cx 0 rfl rfl 9 rfl dX5_learned_6 ?_
  exact V_ireturn cx hr () (by first | rfl | trivial) rfl (by omega) (by omega) dX5_learned_9
set_option maxHeartbeats 4000000 in
set_option maxRecDepth 100000 in
theorem kX5_addPart (l : Launch) (lo : Nat) (G : vG) (rs : va_W) (g : Nat → Nat) (th : Nat) (np : Nat) (nl : Nat) (ld : Nat) (ll : Nat) (mn : Int32) (sp : Nat) (T : Nat → Int32) (S : Nat → Int32) (C : Nat → Int32) (F : Nat → Int32) (LT : Nat → Int32) (LS : Nat → Int32) (VE : Nat → Int32) (BA : Nat → Int32) (wd : Nat → Int32) (mo : Nat → Int32) (lt : Nat → Int32) (op : Nat → Int32) (pl : Nat → Int32) (pt : Nat → Int32) (ks : Nat → Int64) (text : Int32) (count : Int32) (flags : Int32) (hnp : np ≤ 16) : Mi l yX5_addPart (.code yX5_addPart prog_7_method_8_code 5 (some .int)) 3 0 0 lo G [.ref (g 0), .int text, .int count, .int flags] (mW G g th np nl ld ll mn sp T S C F LT LS VE BA wd mo lt op pl pt ks ++ rs) (fun (r : Int32) ((th1, np1, T1, S1, C1, F1) : (Nat) × (Nat) × (Nat → Int32) × (Nat → Int32) × (Nat → Int32) × (Nat → Int32)) => mAddPart np T S C F text count flags r th1 np1 T1 S1 C1 F1) (fun ((th1, np1, T1, S1, C1, F1) : (Nat) × (Nat) × (Nat → Int32) × (Nat → Int32) × (Nat → Int32) × (Nat → Int32)) => mW G g th1 np1 nl ld ll mn sp T1 S1 C1 F1 LT LS VE BA wd mo lt op pl pt ks ++ rs) := by
  refine Mi_of (lc := [(0, .ref (g 0)), (1, .int text), (2, .int count), (3, .int flags)]) (by decide +kernel) (Nat.le_of_ble_eq_true rfl) rfl ?_
  intro X cx hXR hXl hr hin
  subst hXl
  have hX := RmX.of hXR
  refine V_iload_n cx 1 rfl dX5_addPart_0 1 rfl ?_
  refine V_iconst (v := nI 4) cx 2 rfl dX5_addPart_1 (by decide) ?_
  refine KX5_71 (As := [.int text, .int (nI 4)]) (rest := []) cx (kX5_sizeOf (xl X) lo G _ text 4 (by omega)) hX (by omega) rfl rfl (Nat.le_of_ble_eq_true rfl) 5 0 0 rfl rfl rfl (by omega) (by omega) dX5_addPart_2 (fun r_1 u_2 hw_3 => ?_)
  try dsimp only at hw_3
  subst hw_3
  have fk_4 := SZ_le text 4
  refine V_if_le cx 8 33 rfl dX5_addPart_5 (by decide) (fun c_5 => ?_) (fun c_5 => ?_)
  · skip
    have n_5 : SZ text 4 ≤ 0 := Z_le_t (by omega) c_5
    refine V_iconst (v := nI 0) cx 34 rfl dX5_addPart_33 (by decide) ?_
    refine V_istore (lc1 := [(4, .int (nI 0)), (0, .ref (g 0)), (1, .int text), (2, .int count), (3, .int flags)]) cx 36 rfl dX5_addPart_34 (by decide) rfl ?_
    refine V_aload_n cx 37 rfl dX5_addPart_36 1 rfl ?_
    refine V_iload cx 39 rfl dX5_addPart_37 0 rfl ?_
    refine V_if_ne cx 42 46 rfl dX5_addPart_39 (by decide) (fun c_39 => ?_) (fun c_39 => ?_)
    · skip
      exact absurd c_39 (by decide)
    · skip
      refine V_iconst (v := nI 1) cx 43 rfl dX5_addPart_42 (by decide) ?_
      refine V_goto cx 69 dX5_addPart_43 (by decide) ?_
      refine PX5_56 cx 0 rfl (Nat.le_of_ble_eq_true rfl) (mW G g 1 np nl ld ll mn sp T S C F LT LS VE BA wd mo lt op pl pt ks ++ rs) rfl 72 rfl dX5_addPart_69 ?_
      refine V_aload_n cx 73 rfl dX5_addPart_72 1 rfl ?_
      refine GX5_56 cx 0 rfl rfl 76 rfl dX5_addPart_73 ?_
      refine V_if_le cx 79 81 rfl dX5_addPart_76 (by decide) (fun c_76 => ?_) (fun c_76 => ?_)
      · skip
        exact absurd c_76 (by decide)
      · skip
        refine V_iconst (v := nI 0) cx 80 rfl dX5_addPart_79 (by decide) ?_
        exact V_ireturn cx hr (1, np, T, S, C, F) (by refine Or.inl ⟨fun h => ?_, rfl, rfl, rfl, rfl, rfl, rfl⟩; first | (have := h.1; omega) | exact n_16 h.2.1 | exact n_26 h.2.2) rfl (by omega) (by omega) dX5_addPart_80
  · skip
    have n_5 : SZ text 4 > 0 := Z_le_f (by omega) c_5
    refine V_iload_n cx 9 rfl dX5_addPart_8 2 rfl ?_
    refine V_iconst (v := nI 1) cx 10 rfl dX5_addPart_9 (by decide) ?_
    refine V_sipush (v := nI 9999) cx 13 rfl dX5_addPart_10 (by decide) ?_
    refine KX5_64 (As := [.int count, .int (nI 1), .int (nI 9999)]) (rest := []) cx (kX5_in (xl X) lo G _ count (nI 1) (nI 9999)) hX (by omega) rfl rfl (Nat.le_of_ble_eq_true rfl) 16 0 0 rfl rfl rfl (by omega) (by omega) dX5_addPart_13 (fun r_5 u_6 hw_7 => ?_)
    try dsimp only at hw_7
    subst hw_7
    refine V_if_eq cx 19 33 rfl dX5_addPart_16 (by decide) (fun c_16 => ?_) (fun c_16 => ?_)
    · skip
      have n_16 := B_eq_t c_16
      try simp only [decide_eq_true_eq, decide_eq_false_iff_not] at n_16
      refine V_iconst (v := nI 0) cx 34 rfl dX5_addPart_33 (by decide) ?_
      refine V_istore (lc1 := [(4, .int (nI 0)), (0, .ref (g 0)), (1, .int text), (2, .int count), (3, .int flags)]) cx 36 rfl dX5_addPart_34 (by decide) rfl ?_
      refine V_aload_n cx 37 rfl dX5_addPart_36 1 rfl ?_
      refine V_iload cx 39 rfl dX5_addPart_37 0 rfl ?_
      refine V_if_ne cx 42 46 rfl dX5_addPart_39 (by decide) (fun c_39 => ?_) (fun c_39 => ?_)
      · skip
        exact absurd c_39 (by decide)
      · skip
        refine V_iconst (v := nI 1) cx 43 rfl dX5_addPart_42 (by decide) ?_
        refine V_goto cx 69 dX5_addPart_43 (by decide) ?_
        refine PX5_56 cx 0 rfl (Nat.le_of_ble_eq_true rfl) (mW G g 1 np nl ld ll mn sp T S C F LT LS VE BA wd mo lt op pl pt ks ++ rs) rfl 72 rfl dX5_addPart_69 ?_
        refine V_aload_n cx 73 rfl dX5_addPart_72 1 rfl ?_
        refine GX5_56 cx 0 rfl rfl 76 rfl dX5_addPart_73 ?_
        refine V_if_le cx 79 81 rfl dX5_addPart_76 (by decide) (fun c_76 => ?_) (fun c_76 => ?_)
        · skip
          exact absurd c_76 (by decide)
        · skip
          refine V_iconst (v := nI 0) cx 80 rfl dX5_addPart_79 (by decide) ?_
          exact V_ireturn cx hr (1, np, T, S, C, F) (by refine Or.inl ⟨fun h => ?_, rfl, rfl, rfl, rfl, rfl, rfl⟩; first | (have := h.1; omega) | exact n_16 h.2.1 | exact n_26 h.2.2) rfl (by omega) (by omega) dX5_addPart_80
    · skip
      have n_16 := B_eq_f c_16
      try simp only [decide_eq_true_eq, decide_eq_false_iff_not] at n_16
      refine V_iload_n cx 20 rfl dX5_addPart_19 3 rfl ?_
      refine V_iconst (v := nI 1) cx 21 rfl dX5_addPart_20 (by decide) ?_
      refine V_bipush (v := nI 7) cx 23 rfl dX5_addPart_21 (by decide) ?_
      refine KX5_64 (As := [.int flags, .int (nI 1), .int (nI 7)]) (rest := []) cx (kX5_in (xl X) lo G _ flags (nI 1) (nI 7)) hX (by omega) rfl rfl (Nat.le_of_ble_eq_true rfl) 26 0 0 rfl rfl rfl (by omega) (by omega) dX5_addPart_23 (fun r_8 u_9 hw_10 => ?_)
      try dsimp only at hw_10
      subst hw_10
      refine V_if_eq cx 29 33 rfl dX5_addPart_26 (by decide) (fun c_26 => ?_) (fun c_26 => ?_)
      · skip
        have n_26 := B_eq_t c_26
        try simp only [decide_eq_true_eq, decide_eq_false_iff_not] at n_26
        refine V_iconst (v := nI 0) cx 34 rfl dX5_addPart_33 (by decide) ?_
        refine V_istore (lc1 := [(4, .int (nI 0)), (0, .ref (g 0)), (1, .int text), (2, .int count), (3, .int flags)]) cx 36 rfl dX5_addPart_34 (by decide) rfl ?_
        refine V_aload_n cx 37 rfl dX5_addPart_36 1 rfl ?_
        refine V_iload cx 39 rfl dX5_addPart_37 0 rfl ?_
        refine V_if_ne cx 42 46 rfl dX5_addPart_39 (by decide) (fun c_39 => ?_) (fun c_39 => ?_)
        · skip
          exact absurd c_39 (by decide)
        · skip
          refine V_iconst (v := nI 1) cx 43 rfl dX5_addPart_42 (by decide) ?_
          refine V_goto cx 69 dX5_addPart_43 (by decide) ?_
          refine PX5_56 cx 0 rfl (Nat.le_of_ble_eq_true rfl) (mW G g 1 np nl ld ll mn sp T S C F LT LS VE BA wd mo lt op pl pt ks ++ rs) rfl 72 rfl dX5_addPart_69 ?_
          refine V_aload_n cx 73 rfl dX5_addPart_72 1 rfl ?_
          refine GX5_56 cx 0 rfl rfl 76 rfl dX5_addPart_73 ?_
          refine V_if_le cx 79 81 rfl dX5_addPart_76 (by decide) (fun c_76 => ?_) (fun c_76 => ?_)
          · skip
            exact absurd c_76 (by decide)
          · skip
            refine V_iconst (v := nI 0) cx 80 rfl dX5_addPart_79 (by decide) ?_
            exact V_ireturn cx hr (1, np, T, S, C, F) (by refine Or.inl ⟨fun h => ?_, rfl, rfl, rfl, rfl, rfl, rfl⟩; first | (have := h.1; omega) | exact n_16 h.2.1 | exact n_26 h.2.2) rfl (by omega) (by omega) dX5_addPart_80
      · skip
        have n_26 := B_eq_f c_26
        try simp only [decide_eq_true_eq, decide_eq_false_iff_not] at n_26
        refine V_iconst (v := nI 1) cx 30 rfl dX5_addPart_29 (by decide) ?_
        refine V_goto cx 34 dX5_addPart_30 (by decide) ?_
        refine V_istore (lc1 := [(4, .int (nI 1)), (0, .ref (g 0)), (1, .int text), (2, .int count), (3, .int flags)]) cx 36 rfl dX5_addPart_34 (by decide) rfl ?_
        refine V_aload_n cx 37 rfl dX5_addPart_36 1 rfl ?_
        refine V_iload cx 39 rfl dX5_addPart_37 0 rfl ?_
        refine V_if_ne cx 42 46 rfl dX5_addPart_39 (by decide) (fun c_39 => ?_) (fun c_39 => ?_)
        · skip
          refine V_aload_n cx 47 rfl dX5_addPart_46 1 rfl ?_
          refine GX5_68 cx 0 rfl rfl 50 rfl dX5_addPart_47 ?_
          refine V_bipush (v := nI 16) cx 52 rfl dX5_addPart_50 (by decide) ?_
          refine V_icmp_eq cx 55 64 rfl dX5_addPart_52 (by decide) (fun c_52 => ?_) (fun c_52 => ?_)
          · skip
            have n_52 : np = 16 := N_eq_t (by omega) (by omega) c_52
            refine V_iconst (v := nI 2) cx 65 rfl dX5_addPart_64 (by decide) ?_
            refine V_goto cx 69 dX5_addPart_65 (by decide) ?_
            refine PX5_56 cx 0 rfl (Nat.le_of_ble_eq_true rfl) (mW G g 2 np nl ld ll mn sp T S C F LT LS VE BA wd mo lt op pl pt ks ++ rs) rfl 72 rfl dX5_addPart_69 ?_
            refine V_aload_n cx 73 rfl dX5_addPart_72 1 rfl ?_
            refine GX5_56 cx 0 rfl rfl 76 rfl dX5_addPart_73 ?_
            refine V_if_le cx 79 81 rfl dX5_addPart_76 (by decide) (fun c_76 => ?_) (fun c_76 => ?_)
            · skip
              exact absurd c_76 (by decide)
            · skip
              refine V_iconst (v := nI 0) cx 80 rfl dX5_addPart_79 (by decide) ?_
              exact V_ireturn cx hr (2, np, T, S, C, F) (Or.inr (Or.inl ⟨⟨n_5, n_16, n_26⟩, by first | exact Or.inl n_52 | exact Or.inr c_61, rfl, rfl, rfl, rfl, rfl, rfl⟩)) rfl (by omega) (by omega) dX5_addPart_80
          · skip
            have n_52 : np ≠ 16 := N_eq_f (by omega) (by omega) c_52
            refine V_aload_n cx 56 rfl dX5_addPart_55 1 rfl ?_
            refine V_iload_n cx 57 rfl dX5_addPart_56 2 rfl ?_
            refine KX5_75 (As := [.int text]) (rest := [.ref (g 0)]) cx (kX5_partWith (xl X) lo G _ g th np nl ld ll mn sp T S C F LT LS VE BA wd mo lt op pl pt ks text (by omega)) hX (by omega) 0 rfl rfl rfl (Nat.le_of_ble_eq_true rfl) 60 0 0 rfl rfl rfl (by omega) (by omega) dX5_addPart_57 (fun r_11 u_12 hw_13 => ?_)
            try dsimp only at hw_13
            subst hw_13
            refine V_iconst (v := (-1)) cx 61 rfl dX5_addPart_60 (by decide) ?_
            refine V_icmp_eq cx 64 68 rfl dX5_addPart_61 (by decide) (fun c_61 => ?_) (fun c_61 => ?_)
            · skip
              refine V_iconst (v := nI 0) cx 69 rfl dX5_addPart_68 (by decide) ?_
              refine PX5_56 cx 0 rfl (Nat.le_of_ble_eq_true rfl) (mW G g 0 np nl ld ll mn sp T S C F LT LS VE BA wd mo lt op pl pt ks ++ rs) rfl 72 rfl dX5_addPart_69 ?_
              refine V_aload_n cx 73 rfl dX5_addPart_72 1 rfl ?_
              refine GX5_56 cx 0 rfl rfl 76 rfl dX5_addPart_73 ?_
              refine V_if_le cx 79 81 rfl dX5_addPart_76 (by decide) (fun c_76 => ?_) (fun c_76 => ?_)
              · skip
                refine V_aload_n cx 82 rfl dX5_addPart_81 1 rfl ?_
                refine GX5_7 cx 0 rfl rfl 85 rfl dX5_addPart_82 ?_
                refine V_aload_n cx 86 rfl dX5_addPart_85 1 rfl ?_
                refine GX5_68 cx 0 rfl rfl 89 rfl dX5_addPart_86 ?_
                refine V_iload_n cx 90 rfl dX5_addPart_89 2 rfl ?_
                refine V_iastN cx np (rfl) (by omega) (by decide) 1 rfl (mW G g 0 np nl ld ll mn sp (upd T np text) S C F LT LS VE BA wd mo lt op pl pt ks ++ rs) rfl 91 rfl dX5_addPart_90 ?_
                refine V_aload_n cx 92 rfl dX5_addPart_91 1 rfl ?_
                refine GX5_13 cx 0 rfl rfl 95 rfl dX5_addPart_92 ?_
                refine V_aload_n cx 96 rfl dX5_addPart_95 1 rfl ?_
                refine GX5_68 cx 0 rfl rfl 99 rfl dX5_addPart_96 ?_
                refine V_iload_n cx 100 rfl dX5_addPart_99 2 rfl ?_
                refine V_iconst (v := nI 4) cx 101 rfl dX5_addPart_100 (by decide) ?_
                refine KX5_71 (As := [.int text, .int (nI 4)]) (rest := [.int (nI np), .ref (g 2)]) cx (kX5_sizeOf (xl X) lo G _ text 4 (by omega)) hX (by omega) rfl rfl (Nat.le_of_ble_eq_true rfl) 104 0 0 rfl rfl rfl (by omega) (by omega) dX5_addPart_101 (fun r_14 u_15 hw_16 => ?_)
                try dsimp only at hw_16
                subst hw_16
                have fk_17 := SZ_le text 4
                refine V_iastN cx np (rfl) (by omega) (by decide) 2 rfl (mW G g 0 np nl ld ll mn sp (upd T np text) (upd S np (nI (SZ text 4))) C F LT LS VE BA wd mo lt op pl pt ks ++ rs) rfl 105 rfl dX5_addPart_104 ?_
                refine V_aload_n cx 106 rfl dX5_addPart_105 1 rfl ?_
                refine GX5_16 cx 0 rfl rfl 109 rfl dX5_addPart_106 ?_
                refine V_aload_n cx 110 rfl dX5_addPart_109 1 rfl ?_
                refine GX5_68 cx 0 rfl rfl 113 rfl dX5_addPart_110 ?_
                refine V_iload_n cx 114 rfl dX5_addPart_113 3 rfl ?_
                refine V_iastN cx np (rfl) (by omega) (by decide) 3 rfl (mW G g 0 np nl ld ll mn sp (upd T np text) (upd S np (nI (SZ text 4))) (upd C np count) F LT LS VE BA wd mo lt op pl pt ks ++ rs) rfl 115 rfl dX5_addPart_114 ?_
                refine V_aload_n cx 116 rfl dX5_addPart_115 1 rfl ?_
                refine GX5_19 cx 0 rfl rfl 119 rfl dX5_addPart_116 ?_
                refine V_aload_n cx 120 rfl dX5_addPart_119 1 rfl ?_
                refine GX5_68 cx 0 rfl rfl 123 rfl dX5_addPart_120 ?_
                refine V_iload_n cx 124 rfl dX5_addPart_123 4 rfl ?_
                refine V_iastN cx np (rfl) (by omega) (by decide) 4 rfl (mW G g 0 np nl ld ll mn sp (upd T np text) (upd S np (nI (SZ text 4))) (upd C np count) (upd F np flags) LT LS VE BA wd mo lt op pl pt ks ++ rs) rfl 125 rfl dX5_addPart_124 ?_
                refine V_aload_n cx 126 rfl dX5_addPart_125 1 rfl ?_
                refine V_dup cx 127 rfl dX5_addPart_126 rfl ?_
                refine GX5_68 cx 0 rfl rfl 130 rfl dX5_addPart_127 ?_
                refine V_iconst (v := nI 1) cx 131 rfl dX5_addPart_130 (by decide) ?_
                refine V_iadd cx 132 rfl dX5_addPart_131 ?_
                refine V_toi (nI (np + 1)) (nI_add _ _) ?_
                refine PX5_68 cx 0 rfl (Nat.le_of_ble_eq_true rfl) (mW G g 0 (np + 1) nl ld ll mn sp (upd T np text) (upd S np (nI (SZ text 4))) (upd C np count) (upd F np flags) LT LS VE BA wd mo lt op pl pt ks ++ rs) rfl 135 rfl dX5_addPart_132 ?_
                refine V_aload_n cx 136 rfl dX5_addPart_135 1 rfl ?_
                refine GX5_68 cx 0 rfl rfl 139 rfl dX5_addPart_136 ?_
                refine V_iconst (v := nI 1) cx 140 rfl dX5_addPart_139 (by decide) ?_
                refine V_isub cx 141 rfl dX5_addPart_140 ?_
                refine V_toi (nI np) (nI_subN (by omega)) ?_
                exact V_ireturn cx hr (0, np + 1, upd T np text, upd S np (nI (SZ text 4)), upd C np count, upd F np flags) (Or.inr (Or.inr ⟨⟨n_5, n_16, n_26⟩, by omega, c_61, rfl, rfl, rfl, rfl, rfl, rfl, rfl⟩)) rfl (by omega) (by omega) dX5_addPart_141
              · skip
                exact absurd c_76 (by decide)
            · skip
              refine V_iconst (v := nI 2) cx 65 rfl dX5_addPart_64 (by decide) ?_
              refine V_goto cx 69 dX5_addPart_65 (by decide) ?_
              refine PX5_56 cx 0 rfl (Nat.le_of_ble_eq_true rfl) (mW G g 2 np nl ld ll mn sp T S C F LT LS VE BA wd mo lt op pl pt ks ++ rs) rfl 72 rfl dX5_addPart_69 ?_
              refine V_aload_n cx 73 rfl dX5_addPart_72 1 rfl ?_
              refine GX5_56 cx 0 rfl rfl 76 rfl dX5_addPart_73 ?_
              refine V_if_le cx 79 81 rfl dX5_addPart_76 (by decide) (fun c_76 => ?_) (fun c_76 => ?_)
              · skip
                exact absurd c_76 (by decide)
              · skip
                refine V_iconst (v := nI 0) cx 80 rfl dX5_addPart_79 (by decide) ?_
                exact V_ireturn cx hr (2, np, T, S, C, F) (Or.inr (Or.inl ⟨⟨n_5, n_16, n_26⟩, by first | exact Or.inl n_52 | exact Or.inr c_61, rfl, rfl, rfl, rfl, rfl, rfl⟩)) rfl (by omega) (by omega) dX5_addPart_80
        · skip
          exact absurd c_39 (by decide)
set_option maxHeartbeats 4000000 in
set_option maxRecDepth 100000 in
theorem kX5_setFlags (l : Launch) (lo : Nat) (G : vG) (rs : va_W) (g : Nat → Nat) (th : Nat) (np : Nat) (nl : Nat) (ld : Nat) (ll : Nat) (mn : Int32) (sp : Nat) (T : Nat → Int32) (S : Nat → Int32) (C : Nat → Int32) (F : Nat → Int32) (LT : Nat → Int32) (LS : Nat → Int32) (VE : Nat → Int32) (BA : Nat → Int32) (wd : Nat → Int32) (mo : Nat → Int32) (lt : Nat → Int32) (op : Nat → Int32) (pl : Nat → Int32) (pt : Nat → Int32) (ks : Nat → Int64) (part : Int32) (flags : Int32) (hnp : np ≤ 16) : Mi l yX5_setFlags (.code yX5_setFlags prog_7_method_9_code 4 (some .int)) 3 0 0 lo G [.ref (g 0), .int part, .int flags] (mW G g th np nl ld ll mn sp T S C F LT LS VE BA wd mo lt op pl pt ks ++ rs) (fun (r : Int32) ((th1, F1) : (Nat) × (Nat → Int32)) => mSetFlags np F part flags r th1 F1) (fun ((th1, F1) : (Nat) × (Nat → Int32)) => mW G g th1 np nl ld ll mn sp T S C F1 LT LS VE BA wd mo lt op pl pt ks ++ rs) := by
  refine Mi_of (lc := [(0, .ref (g 0)), (1, .int part), (2, .int flags)]) (by decide +kernel) (Nat.le_of_ble_eq_true rfl) rfl ?_
  intro X cx hXR hXl hr hin
  subst hXl
  have hX := RmX.of hXR
  refine V_aload_n cx 1 rfl dX5_setFlags_0 0 rfl ?_
  refine V_aload_n cx 2 rfl dX5_setFlags_1 0 rfl ?_
  refine V_iload_n cx 3 rfl dX5_setFlags_2 1 rfl ?_
  refine KX5_78 (As := [.int part]) (rest := [.ref (g 0)]) cx (kX5_isPart (xl X) lo G _ g th np nl ld ll mn sp T S C F LT LS VE BA wd mo lt op pl pt ks part) hX (by omega) 0 rfl rfl rfl (Nat.le_of_ble_eq_true rfl) 6 0 0 rfl rfl rfl (by omega) (by omega) dX5_setFlags_3 (fun r_1 u_2 hw_3 => ?_)
  try dsimp only at hw_3
  subst hw_3
  refine V_if_ne cx 9 13 rfl dX5_setFlags_6 (by decide) (fun c_6 => ?_) (fun c_6 => ?_)
  · skip
    have n_6 := B_ne_t c_6
    obtain ⟨p, hp, ep⟩ := isP_t hnp n_6
    refine V_iload_n cx 14 rfl dX5_setFlags_13 2 rfl ?_
    refine V_iconst (v := nI 0) cx 15 rfl dX5_setFlags_14 (by decide) ?_
    refine V_bipush (v := nI 7) cx 17 rfl dX5_setFlags_15 (by decide) ?_
    refine KX5_64 (As := [.int flags, .int (nI 0), .int (nI 7)]) (rest := [.ref (g 0)]) cx (kX5_in (xl X) lo G _ flags (nI 0) (nI 7)) hX (by omega) rfl rfl (Nat.le_of_ble_eq_true rfl) 20 0 0 rfl rfl rfl (by omega) (by omega) dX5_setFlags_17 (fun r_4 u_5 hw_6 => ?_)
    try dsimp only at hw_6
    subst hw_6
    refine V_if_eq cx 23 27 rfl dX5_setFlags_20 (by decide) (fun c_20 => ?_) (fun c_20 => ?_)
    · skip
      have n_20 := B_eq_t c_20
      try simp only [decide_eq_true_eq, decide_eq_false_iff_not] at n_20
      refine V_iconst (v := nI 2) cx 28 rfl dX5_setFlags_27 (by decide) ?_
      refine PX5_56 cx 0 rfl (Nat.le_of_ble_eq_true rfl) (mW G g 2 np nl ld ll mn sp T S C F LT LS VE BA wd mo lt op pl pt ks ++ rs) rfl 31 rfl dX5_setFlags_28 ?_
      refine V_aload_n cx 32 rfl dX5_setFlags_31 0 rfl ?_
      refine GX5_56 cx 0 rfl rfl 35 rfl dX5_setFlags_32 ?_
      refine V_if_le cx 38 40 rfl dX5_setFlags_35 (by decide) (fun c_35 => ?_) (fun c_35 => ?_)
      · skip
        exact absurd c_35 (by decide)
      · skip
        refine V_iconst (v := nI 0) cx 39 rfl dX5_setFlags_38 (by decide) ?_
        exact V_ireturn cx hr (2, F) (Or.inr (Or.inl ⟨n_6, n_20, rfl, rfl⟩)) rfl (by omega) (by omega) dX5_setFlags_39
    · skip
      have n_20 := B_eq_f c_20
      try simp only [decide_eq_true_eq, decide_eq_false_iff_not] at n_20
      refine V_iconst (v := nI 0) cx 24 rfl dX5_setFlags_23 (by decide) ?_
      refine V_goto cx 28 dX5_setFlags_24 (by decide) ?_
      refine PX5_56 cx 0 rfl (Nat.le_of_ble_eq_true rfl) (mW G g 0 np nl ld ll mn sp T S C F LT LS VE BA wd mo lt op pl pt ks ++ rs) rfl 31 rfl dX5_setFlags_28 ?_
      refine V_aload_n cx 32 rfl dX5_setFlags_31 0 rfl ?_
      refine GX5_56 cx 0 rfl rfl 35 rfl dX5_setFlags_32 ?_
      refine V_if_le cx 38 40 rfl dX5_setFlags_35 (by decide) (fun c_35 => ?_) (fun c_35 => ?_)
      · skip
        refine V_aload_n cx 41 rfl dX5_setFlags_40 0 rfl ?_
        refine GX5_19 cx 0 rfl rfl 44 rfl dX5_setFlags_41 ?_
        refine V_iload_n cx 45 rfl dX5_setFlags_44 1 rfl ?_
        refine V_ialdN cx p (ep) (by omega) (by decide) 4 rfl 46 rfl dX5_setFlags_45 ?_
        refine V_istore_n (lc1 := [(3, .int (F p)), (0, .ref (g 0)), (1, .int part), (2, .int flags)]) cx 47 rfl dX5_setFlags_46 (by decide) rfl ?_
        refine V_aload_n cx 48 rfl dX5_setFlags_47 1 rfl ?_
        refine GX5_19 cx 0 rfl rfl 51 rfl dX5_setFlags_48 ?_
        refine V_iload_n cx 52 rfl dX5_setFlags_51 2 rfl ?_
        refine V_iload_n cx 53 rfl dX5_setFlags_52 3 rfl ?_
        refine V_iastN cx p (ep) (by omega) (by decide) 4 rfl (mW G g 0 np nl ld ll mn sp T S C (upd F p flags) LT LS VE BA wd mo lt op pl pt ks ++ rs) rfl 54 rfl dX5_setFlags_53 ?_
        refine V_iload_n cx 55 rfl dX5_setFlags_54 0 rfl ?_
        exact V_ireturn cx hr (0, upd F p flags) (Or.inr (Or.inr ⟨p, hp, ep, n_20, rfl, rfl, rfl⟩)) rfl (by omega) (by omega) dX5_setFlags_55
      · skip
        exact absurd c_35 (by decide)
  · skip
    have n_6 := B_ne_f c_6
    refine V_iconst (v := nI 1) cx 10 rfl dX5_setFlags_9 (by decide) ?_
    refine V_goto cx 28 dX5_setFlags_10 (by decide) ?_
    refine PX5_56 cx 0 rfl (Nat.le_of_ble_eq_true rfl) (mW G g 1 np nl ld ll mn sp T S C F LT LS VE BA wd mo lt op pl pt ks ++ rs) rfl 31 rfl dX5_setFlags_28 ?_
    refine V_aload_n cx 32 rfl dX5_setFlags_31 0 rfl ?_
    refine GX5_56 cx 0 rfl rfl 35 rfl dX5_setFlags_32 ?_
    refine V_if_le cx 38 40 rfl dX5_setFlags_35 (by decide) (fun c_35 => ?_) (fun c_35 => ?_)
    · skip
      exact absurd c_35 (by decide)
    · skip
      refine V_iconst (v := nI 0) cx 39 rfl dX5_setFlags_38 (by decide) ?_
      exact V_ireturn cx hr (1, F) (Or.inl ⟨n_6, rfl, rfl⟩) rfl (by omega) (by omega) dX5_setFlags_39
set_option maxHeartbeats 4000000 in
set_option maxRecDepth 100000 in
theorem kX5_addLink (l : Launch) (lo : Nat) (G : vG) (rs : va_W) (g : Nat → Nat) (th : Nat) (np : Nat) (nl : Nat) (ld : Nat) (ll : Nat) (mn : Int32) (sp : Nat) (T : Nat → Int32) (S : Nat → Int32) (C : Nat → Int32) (F : Nat → Int32) (LT : Nat → Int32) (LS : Nat → Int32) (VE : Nat → Int32) (BA : Nat → Int32) (wd : Nat → Int32) (mo : Nat → Int32) (lt : Nat → Int32) (op : Nat → Int32) (pl : Nat → Int32) (pt : Nat → Int32) (ks : Nat → Int64) (text : Int32) (hnl : nl ≤ 6) : Mi l yX5_addLink (.code yX5_addLink prog_7_method_10_code 4 (some .int)) 3 0 0 lo G [.ref (g 0), .int text] (mW G g th np nl ld ll mn sp T S C F LT LS VE BA wd mo lt op pl pt ks ++ rs) (fun (r : Int32) ((th1, nl1, LT1, LS1) : (Nat) × (Nat) × (Nat → Int32) × (Nat → Int32)) => mAddLink nl LT LS text r th1 nl1 LT1 LS1) (fun ((th1, nl1, LT1, LS1) : (Nat) × (Nat) × (Nat → Int32) × (Nat → Int32)) => mW G g th1 np nl1 ld ll mn sp T S C F LT1 LS1 VE BA wd mo lt op pl pt ks ++ rs) := by
  refine Mi_of (lc := [(0, .ref (g 0)), (1, .int text)]) (by decide +kernel) (Nat.le_of_ble_eq_true rfl) rfl ?_
  intro X cx hXR hXl hr hin
  subst hXl
  have hX := RmX.of hXR
  refine V_iconst (v := nI 0) cx 1 rfl dX5_addLink_0 (by decide) ?_
  refine V_istore_n (lc1 := [(2, .int (nI 0)), (0, .ref (g 0)), (1, .int text)]) cx 2 rfl dX5_addLink_1 (by decide) rfl ?_
  refine V_iconst (v := nI 0) cx 3 rfl dX5_addLink_2 (by decide) ?_
  refine V_istore_n (lc1 := [(3, .int (nI 0)), (2, .int (nI 0)), (0, .ref (g 0)), (1, .int text)]) cx 4 rfl dX5_addLink_3 (by decide) rfl ?_
  have loop : ∀ (fuel : Nat) (i : Nat) (b : Bool), i ≤ nl → b = isIn LT text i → nl - i < fuel → V X lo 4 G (Qi X lo G (fun (r : Int32) ((th1, nl1, LT1, LS1) : (Nat) × (Nat) × (Nat → Int32) × (Nat → Int32)) => mAddLink nl LT LS text r th1 nl1 LT1 LS1) (fun ((th1, nl1, LT1, LS1) : (Nat) × (Nat) × (Nat → Int32) × (Nat → Int32)) => mW G g th1 np nl1 ld ll mn sp T S C F LT1 LS1 VE BA wd mo lt op pl pt ks ++ rs) 0 0) 0 0 (mW G g th np nl ld ll mn sp T S C F LT LS VE BA wd mo lt op pl pt ks ++ rs) [(3, .int (nI i)), (2, .int (bI b)), (0, .ref (g 0)), (1, .int text)] [] 4 := by
    intro fuel
    induction fuel with
    | zero => intro i b hi hb hmz; exact absurd hmz (Nat.not_lt_zero _)
    | succ fuel ih =>
      intro i b hi hb hmz
      refine V_iload_n cx 5 rfl dX5_addLink_4 0 rfl ?_
      refine V_aload_n cx 6 rfl dX5_addLink_5 2 rfl ?_
      refine GX5_82 cx 0 rfl rfl 9 rfl dX5_addLink_6 ?_
      refine V_icmp_ge cx 12 38 rfl dX5_addLink_9 (by decide) (fun c_9 => ?_) (fun c_9 => ?_)
      · skip
        have n_9 : i ≥ nl := N_ge_t (by omega) (by omega) c_9
        have ei : i = nl := by omega
        refine V_aload_n cx 39 rfl dX5_addLink_38 2 rfl ?_
        refine V_iload_n cx 40 rfl dX5_addLink_39 3 rfl ?_
        refine V_iconst (v := nI 2) cx 41 rfl dX5_addLink_40 (by decide) ?_
        refine KX5_71 (As := [.int text, .int (nI 2)]) (rest := [.ref (g 0)]) cx (kX5_sizeOf (xl X) lo G _ text 2 (by omega)) hX (by omega) rfl rfl (Nat.le_of_ble_eq_true rfl) 44 0 0 rfl rfl rfl (by omega) (by omega) dX5_addLink_41 (fun r_1 u_2 hw_3 => ?_)
        try dsimp only at hw_3
        subst hw_3
        have fk_4 := SZ_le text 2
        refine V_if_ne cx 47 51 rfl dX5_addLink_44 (by decide) (fun c_44 => ?_) (fun c_44 => ?_)
        · skip
          have n_44 : SZ text 2 ≠ 0 := Z_ne_t (by omega) c_44
          refine V_aload_n cx 52 rfl dX5_addLink_51 2 rfl ?_
          refine GX5_82 cx 0 rfl rfl 55 rfl dX5_addLink_52 ?_
          refine V_bipush (v := nI 6) cx 57 rfl dX5_addLink_55 (by decide) ?_
          refine V_icmp_eq cx 60 64 rfl dX5_addLink_57 (by decide) (fun c_57 => ?_) (fun c_57 => ?_)
          · skip
            have n_57 : nl = 6 := N_eq_t (by omega) (by omega) c_57
            refine V_iconst (v := nI 2) cx 65 rfl dX5_addLink_64 (by decide) ?_
            refine V_goto cx 69 dX5_addLink_65 (by decide) ?_
            refine PX5_56 cx 0 rfl (Nat.le_of_ble_eq_true rfl) (mW G g 2 np nl ld ll mn sp T S C F LT LS VE BA wd mo lt op pl pt ks ++ rs) rfl 72 rfl dX5_addLink_69 ?_
            refine V_aload_n cx 73 rfl dX5_addLink_72 2 rfl ?_
            refine GX5_56 cx 0 rfl rfl 76 rfl dX5_addLink_73 ?_
            refine V_if_le cx 79 81 rfl dX5_addLink_76 (by decide) (fun c_76 => ?_) (fun c_76 => ?_)
            · skip
              exact absurd c_76 (by decide)
            · skip
              refine V_iconst (v := nI 0) cx 80 rfl dX5_addLink_79 (by decide) ?_
              exact V_ireturn cx hr (2, nl, LT, LS) (Or.inr (Or.inl ⟨n_44, by first | exact Or.inl n_57 | (right; rw [← ei, ← hb]; exact n_61), rfl, rfl, rfl, rfl⟩)) rfl (by omega) (by omega) dX5_addLink_80
          · skip
            have n_57 : nl ≠ 6 := N_eq_f (by omega) (by omega) c_57
            refine V_iload_n cx 61 rfl dX5_addLink_60 1 rfl ?_
            refine V_if_eq cx 64 68 rfl dX5_addLink_61 (by decide) (fun c_61 => ?_) (fun c_61 => ?_)
            · skip
              have n_61 := B_eq_t c_61
              try simp only [decide_eq_true_eq, decide_eq_false_iff_not] at n_61
              refine V_iconst (v := nI 0) cx 69 rfl dX5_addLink_68 (by decide) ?_
              refine PX5_56 cx 0 rfl (Nat.le_of_ble_eq_true rfl) (mW G g 0 np nl ld ll mn sp T S C F LT LS VE BA wd mo lt op pl pt ks ++ rs) rfl 72 rfl dX5_addLink_69 ?_
              refine V_aload_n cx 73 rfl dX5_addLink_72 2 rfl ?_
              refine GX5_56 cx 0 rfl rfl 76 rfl dX5_addLink_73 ?_
              refine V_if_le cx 79 81 rfl dX5_addLink_76 (by decide) (fun c_76 => ?_) (fun c_76 => ?_)
              · skip
                refine V_aload_n cx 82 rfl dX5_addLink_81 2 rfl ?_
                refine GX5_22 cx 0 rfl rfl 85 rfl dX5_addLink_82 ?_
                refine V_aload_n cx 86 rfl dX5_addLink_85 2 rfl ?_
                refine GX5_82 cx 0 rfl rfl 89 rfl dX5_addLink_86 ?_
                refine V_iload_n cx 90 rfl dX5_addLink_89 3 rfl ?_
                refine V_iastN cx nl (rfl) (by omega) (by decide) 5 rfl (mW G g 0 np nl ld ll mn sp T S C F (upd LT nl text) LS VE BA wd mo lt op pl pt ks ++ rs) rfl 91 rfl dX5_addLink_90 ?_
                refine V_aload_n cx 92 rfl dX5_addLink_91 2 rfl ?_
                refine GX5_25 cx 0 rfl rfl 95 rfl dX5_addLink_92 ?_
                refine V_aload_n cx 96 rfl dX5_addLink_95 2 rfl ?_
                refine GX5_82 cx 0 rfl rfl 99 rfl dX5_addLink_96 ?_
                refine V_iload_n cx 100 rfl dX5_addLink_99 3 rfl ?_
                refine V_iconst (v := nI 2) cx 101 rfl dX5_addLink_100 (by decide) ?_
                refine KX5_71 (As := [.int text, .int (nI 2)]) (rest := [.int (nI nl), .ref (g 6)]) cx (kX5_sizeOf (xl X) lo G _ text 2 (by omega)) hX (by omega) rfl rfl (Nat.le_of_ble_eq_true rfl) 104 0 0 rfl rfl rfl (by omega) (by omega) dX5_addLink_101 (fun r_5 u_6 hw_7 => ?_)
                try dsimp only at hw_7
                subst hw_7
                have fk_8 := SZ_le text 2
                refine V_iastN cx nl (rfl) (by omega) (by decide) 6 rfl (mW G g 0 np nl ld ll mn sp T S C F (upd LT nl text) (upd LS nl (nI (SZ text 2))) VE BA wd mo lt op pl pt ks ++ rs) rfl 105 rfl dX5_addLink_104 ?_
                refine V_aload_n cx 106 rfl dX5_addLink_105 2 rfl ?_
                refine V_dup cx 107 rfl dX5_addLink_106 rfl ?_
                refine GX5_82 cx 0 rfl rfl 110 rfl dX5_addLink_107 ?_
                refine V_iconst (v := nI 1) cx 111 rfl dX5_addLink_110 (by decide) ?_
                refine V_iadd cx 112 rfl dX5_addLink_111 ?_
                refine V_toi (nI (nl + 1)) (nI_add _ _) ?_
                refine PX5_82 cx 0 rfl (Nat.le_of_ble_eq_true rfl) (mW G g 0 np (nl + 1) ld ll mn sp T S C F (upd LT nl text) (upd LS nl (nI (SZ text 2))) VE BA wd mo lt op pl pt ks ++ rs) rfl 115 rfl dX5_addLink_112 ?_
                refine V_aload_n cx 116 rfl dX5_addLink_115 2 rfl ?_
                refine GX5_82 cx 0 rfl rfl 119 rfl dX5_addLink_116 ?_
                refine V_iconst (v := nI 1) cx 120 rfl dX5_addLink_119 (by decide) ?_
                refine V_isub cx 121 rfl dX5_addLink_120 ?_
                refine V_toi (nI nl) (nI_subN (by omega)) ?_
                exact V_ireturn cx hr (0, nl + 1, upd LT nl text, upd LS nl (nI (SZ text 2))) (Or.inr (Or.inr ⟨n_44, by omega, by rw [← ei, ← hb]; exact n_61, rfl, rfl, rfl, rfl, rfl⟩)) rfl (by omega) (by omega) dX5_addLink_121
              · skip
                exact absurd c_76 (by decide)
            · skip
              have n_61 := B_eq_f c_61
              try simp only [decide_eq_true_eq, decide_eq_false_iff_not] at n_61
              refine V_iconst (v := nI 2) cx 65 rfl dX5_addLink_64 (by decide) ?_
              refine V_goto cx 69 dX5_addLink_65 (by decide) ?_
              refine PX5_56 cx 0 rfl (Nat.le_of_ble_eq_true rfl) (mW G g 2 np nl ld ll mn sp T S C F LT LS VE BA wd mo lt op pl pt ks ++ rs) rfl 72 rfl dX5_addLink_69 ?_
              refine V_aload_n cx 73 rfl dX5_addLink_72 2 rfl ?_
              refine GX5_56 cx 0 rfl rfl 76 rfl dX5_addLink_73 ?_
              refine V_if_le cx 79 81 rfl dX5_addLink_76 (by decide) (fun c_76 => ?_) (fun c_76 => ?_)
              · skip
                exact absurd c_76 (by decide)
              · skip
                refine V_iconst (v := nI 0) cx 80 rfl dX5_addLink_79 (by decide) ?_
                exact V_ireturn cx hr (2, nl, LT, LS) (Or.inr (Or.inl ⟨n_44, by first | exact Or.inl n_57 | (right; rw [← ei, ← hb]; exact n_61), rfl, rfl, rfl, rfl⟩)) rfl (by omega) (by omega) dX5_addLink_80
        · skip
          have n_44 : SZ text 2 = 0 := Z_ne_f (by omega) c_44
          refine V_iconst (v := nI 1) cx 48 rfl dX5_addLink_47 (by decide) ?_
          refine V_goto cx 69 dX5_addLink_48 (by decide) ?_
          refine PX5_56 cx 0 rfl (Nat.le_of_ble_eq_true rfl) (mW G g 1 np nl ld ll mn sp T S C F LT LS VE BA wd mo lt op pl pt ks ++ rs) rfl 72 rfl dX5_addLink_69 ?_
          refine V_aload_n cx 73 rfl dX5_addLink_72 2 rfl ?_
          refine GX5_56 cx 0 rfl rfl 76 rfl dX5_addLink_73 ?_
          refine V_if_le cx 79 81 rfl dX5_addLink_76 (by decide) (fun c_76 => ?_) (fun c_76 => ?_)
          · skip
            exact absurd c_76 (by decide)
          · skip
            refine V_iconst (v := nI 0) cx 80 rfl dX5_addLink_79 (by decide) ?_
            exact V_ireturn cx hr (1, nl, LT, LS) (Or.inl ⟨n_44, rfl, rfl, rfl, rfl⟩) rfl (by omega) (by omega) dX5_addLink_80
      · skip
        have n_9 : i < nl := N_ge_f (by omega) (by omega) c_9
        refine V_iload_n cx 13 rfl dX5_addLink_12 1 rfl ?_
        refine V_if_ne cx 16 26 rfl dX5_addLink_13 (by decide) (fun c_13 => ?_) (fun c_13 => ?_)
        · skip
          have n_13 := B_ne_t c_13
          try simp only [decide_eq_true_eq, decide_eq_false_iff_not] at n_13
          refine V_iconst (v := nI 1) cx 27 rfl dX5_addLink_26 (by decide) ?_
          refine V_goto cx 31 dX5_addLink_27 (by decide) ?_
          refine V_istore_n (lc1 := [(2, .int (nI 1)), (3, .int (nI i)), (0, .ref (g 0)), (1, .int text)]) cx 32 rfl dX5_addLink_31 (by decide) rfl ?_
          refine V_iinc (v := nI (i + 1)) (lc1 := [(3, .int (nI (i + 1))), (2, .int (nI 1)), (0, .ref (g 0)), (1, .int text)]) cx 35 rfl dX5_addLink_32 1 rfl (nI_inc i 1) (by decide) rfl ?_
          refine V_goto cx 4 dX5_addLink_35 (by decide) ?_
          refine V.locs [0, 1, 2, 3] rfl ?_
          exact ih (i + 1) true (by omega) (by simp only [isIn]; rw [← hb]; first | (rw [n_13]; rfl) | (rw [decide_eq_true c_23, Bool.or_true]) | (rw [n_13, decide_eq_false c_23]; rfl)) (by omega)
        · skip
          have n_13 := B_ne_f c_13
          try simp only [decide_eq_true_eq, decide_eq_false_iff_not] at n_13
          refine V_aload_n cx 17 rfl dX5_addLink_16 2 rfl ?_
          refine GX5_22 cx 0 rfl rfl 20 rfl dX5_addLink_17 ?_
          refine V_iload_n cx 21 rfl dX5_addLink_20 0 rfl ?_
          refine V_ialdN cx i (rfl) (by omega) (by decide) 5 rfl 22 rfl dX5_addLink_21 ?_
          refine V_iload_n cx 23 rfl dX5_addLink_22 3 rfl ?_
          refine V_icmp_ne cx 26 30 rfl dX5_addLink_23 (by decide) (fun c_23 => ?_) (fun c_23 => ?_)
          · skip
            refine V_iconst (v := nI 0) cx 31 rfl dX5_addLink_30 (by decide) ?_
            refine V_istore_n (lc1 := [(2, .int (nI 0)), (3, .int (nI i)), (0, .ref (g 0)), (1, .int text)]) cx 32 rfl dX5_addLink_31 (by decide) rfl ?_
            refine V_iinc (v := nI (i + 1)) (lc1 := [(3, .int (nI (i + 1))), (2, .int (nI 0)), (0, .ref (g 0)), (1, .int text)]) cx 35 rfl dX5_addLink_32 1 rfl (nI_inc i 1) (by decide) rfl ?_
            refine V_goto cx 4 dX5_addLink_35 (by decide) ?_
            refine V.locs [0, 1, 2, 3] rfl ?_
            exact ih (i + 1) false (by omega) (by simp only [isIn]; rw [← hb]; first | (rw [n_13]; rfl) | (rw [decide_eq_true c_23, Bool.or_true]) | (rw [n_13, decide_eq_false c_23]; rfl)) (by omega)
          · skip
            refine V_iconst (v := nI 1) cx 27 rfl dX5_addLink_26 (by decide) ?_
            refine V_goto cx 31 dX5_addLink_27 (by decide) ?_
            refine V_istore_n (lc1 := [(2, .int (nI 1)), (3, .int (nI i)), (0, .ref (g 0)), (1, .int text)]) cx 32 rfl dX5_addLink_31 (by decide) rfl ?_
            refine V_iinc (v := nI (i + 1)) (lc1 := [(3, .int (nI (i + 1))), (2, .int (nI 1)), (0, .ref (g 0)), (1, .int text)]) cx 35 rfl dX5_addLink_32 1 rfl (nI_inc i 1) (by decide) rfl ?_
            refine V_goto cx 4 dX5_addLink_35 (by decide) ?_
            refine V.locs [0, 1, 2, 3] rfl ?_
            exact ih (i + 1) true (by omega) (by simp only [isIn]; rw [← hb]; first | (rw [n_13]; rfl) | (rw [decide_eq_true c_23, Bool.or_true]) | (rw [n_13, decide_eq_false c_23]; rfl)) (by omega)
  refine V.locs [0, 1, 2, 3] rfl ?_
  exact loop _ 0 false (by omega) (by rfl) (Nat.lt_succ_self _)
set_option maxHeartbeats 4000000 in
set_option maxRecDepth 100000 in
theorem kX5_veto (l : Launch) (lo : Nat) (G : vG) (rs : va_W) (g : Nat → Nat) (th : Nat) (np : Nat) (nl : Nat) (ld : Nat) (ll : Nat) (mn : Int32) (sp : Nat) (T : Nat → Int32) (S : Nat → Int32) (C : Nat → Int32) (F : Nat → Int32) (LT : Nat → Int32) (LS : Nat → Int32) (VE : Nat → Int32) (BA : Nat → Int32) (wd : Nat → Int32) (mo : Nat → Int32) (lt : Nat → Int32) (op : Nat → Int32) (pl : Nat → Int32) (pt : Nat → Int32) (ks : Nat → Int64) (part : Int32) (next : Int32) (b : Bool) (hnp : np ≤ 16) : Mi l yX5_veto (.code yX5_veto prog_7_method_11_code 5 (some .boolean)) 3 0 0 lo G [.ref (g 0), .int part, .int next, .int (bI b)] (mW G g th np nl ld ll mn sp T S C F LT LS VE BA wd mo lt op pl pt ks ++ rs) (fun (r : Int32) ((th1, VE1) : (Nat) × (Nat → Int32)) => mMask np np VE part next b r th1 VE1) (fun ((th1, VE1) : (Nat) × (Nat → Int32)) => mW G g th1 np nl ld ll mn sp T S C F LT LS VE1 BA wd mo lt op pl pt ks ++ rs) := by
  refine Mi_of (lc := [(0, .ref (g 0)), (1, .int part), (2, .int next), (3, .int (bI b))]) (by decide +kernel) (Nat.le_of_ble_eq_true rfl) rfl ?_
  intro X cx hXR hXl hr hin
  subst hXl
  have hX := RmX.of hXR
  refine V_aload_n cx 1 rfl dX5_veto_0 0 rfl ?_
  refine V_aload_n cx 2 rfl dX5_veto_1 0 rfl ?_
  refine V_iload_n cx 3 rfl dX5_veto_2 1 rfl ?_
  refine KX5_78 (As := [.int part]) (rest := [.ref (g 0)]) cx (kX5_isPart (xl X) lo G _ g th np nl ld ll mn sp T S C F LT LS VE BA wd mo lt op pl pt ks part) hX (by omega) 0 rfl rfl rfl (Nat.le_of_ble_eq_true rfl) 6 0 0 rfl rfl rfl (by omega) (by omega) dX5_veto_3 (fun r_1 u_2 hw_3 => ?_)
  try dsimp only at hw_3
  subst hw_3
  refine V_if_eq cx 9 21 rfl dX5_veto_6 (by decide) (fun c_6 => ?_) (fun c_6 => ?_)
  · skip
    have n_6 := B_eq_t c_6
    refine V_iconst (v := nI 1) cx 22 rfl dX5_veto_21 (by decide) ?_
    refine PX5_56 cx 0 rfl (Nat.le_of_ble_eq_true rfl) (mW G g 1 np nl ld ll mn sp T S C F LT LS VE BA wd mo lt op pl pt ks ++ rs) rfl 25 rfl dX5_veto_22 ?_
    refine V_aload_n cx 26 rfl dX5_veto_25 0 rfl ?_
    refine GX5_56 cx 0 rfl rfl 29 rfl dX5_veto_26 ?_
    refine V_if_le cx 32 34 rfl dX5_veto_29 (by decide) (fun c_29 => ?_) (fun c_29 => ?_)
    · skip
      exact absurd c_29 (by decide)
    · skip
      refine V_iconst (v := nI 0) cx 33 rfl dX5_veto_32 (by decide) ?_
      exact V_zreturn cx hr (by first | rfl | exact bI_z _) (1, VE) (Or.inl ⟨by first | exact Or.inl n_6 | exact Or.inr n_14, rfl, rfl⟩) rfl (by omega) (by omega) dX5_veto_33
  · skip
    have n_6 := B_eq_f c_6
    obtain ⟨p, hp, ep⟩ := isP_t hnp n_6
    refine V_aload_n cx 10 rfl dX5_veto_9 0 rfl ?_
    refine V_iload_n cx 11 rfl dX5_veto_10 2 rfl ?_
    refine KX5_78 (As := [.int next]) (rest := [.ref (g 0)]) cx (kX5_isPart (xl X) lo G _ g th np nl ld ll mn sp T S C F LT LS VE BA wd mo lt op pl pt ks next) hX (by omega) 0 rfl rfl rfl (Nat.le_of_ble_eq_true rfl) 14 0 0 rfl rfl rfl (by omega) (by omega) dX5_veto_11 (fun r_4 u_5 hw_6 => ?_)
    try dsimp only at hw_6
    subst hw_6
    refine V_if_eq cx 17 21 rfl dX5_veto_14 (by decide) (fun c_14 => ?_) (fun c_14 => ?_)
    · skip
      have n_14 := B_eq_t c_14
      refine V_iconst (v := nI 1) cx 22 rfl dX5_veto_21 (by decide) ?_
      refine PX5_56 cx 0 rfl (Nat.le_of_ble_eq_true rfl) (mW G g 1 np nl ld ll mn sp T S C F LT LS VE BA wd mo lt op pl pt ks ++ rs) rfl 25 rfl dX5_veto_22 ?_
      refine V_aload_n cx 26 rfl dX5_veto_25 0 rfl ?_
      refine GX5_56 cx 0 rfl rfl 29 rfl dX5_veto_26 ?_
      refine V_if_le cx 32 34 rfl dX5_veto_29 (by decide) (fun c_29 => ?_) (fun c_29 => ?_)
      · skip
        exact absurd c_29 (by decide)
      · skip
        refine V_iconst (v := nI 0) cx 33 rfl dX5_veto_32 (by decide) ?_
        exact V_zreturn cx hr (by first | rfl | exact bI_z _) (1, VE) (Or.inl ⟨by first | exact Or.inl n_6 | exact Or.inr n_14, rfl, rfl⟩) rfl (by omega) (by omega) dX5_veto_33
    · skip
      have n_14 := B_eq_f c_14
      obtain ⟨q, hq, eq⟩ := isP_t hnp n_14
      refine V_iconst (v := nI 0) cx 18 rfl dX5_veto_17 (by decide) ?_
      refine V_goto cx 22 dX5_veto_18 (by decide) ?_
      refine PX5_56 cx 0 rfl (Nat.le_of_ble_eq_true rfl) (mW G g 0 np nl ld ll mn sp T S C F LT LS VE BA wd mo lt op pl pt ks ++ rs) rfl 25 rfl dX5_veto_22 ?_
      refine V_aload_n cx 26 rfl dX5_veto_25 0 rfl ?_
      refine GX5_56 cx 0 rfl rfl 29 rfl dX5_veto_26 ?_
      refine V_if_le cx 32 34 rfl dX5_veto_29 (by decide) (fun c_29 => ?_) (fun c_29 => ?_)
      · skip
        refine V_aload_n cx 35 rfl dX5_veto_34 0 rfl ?_
        refine GX5_28 cx 0 rfl rfl 38 rfl dX5_veto_35 ?_
        refine V_iload_n cx 39 rfl dX5_veto_38 1 rfl ?_
        refine V_ialdN cx p (ep) (by omega) (by decide) 7 rfl 40 rfl dX5_veto_39 ?_
        refine V_istore (lc1 := [(4, .int (VE p)), (0, .ref (g 0)), (1, .int part), (2, .int next), (3, .int (bI b))]) cx 42 rfl dX5_veto_40 (by decide) rfl ?_
        refine V_aload_n cx 43 rfl dX5_veto_42 1 rfl ?_
        refine GX5_28 cx 0 rfl rfl 46 rfl dX5_veto_43 ?_
        refine V_iload_n cx 47 rfl dX5_veto_46 2 rfl ?_
        refine V_iload_n cx 48 rfl dX5_veto_47 4 rfl ?_
        refine V_if_eq cx 51 60 rfl dX5_veto_48 (by decide) (fun c_48 => ?_) (fun c_48 => ?_)
        · skip
          have n_48 := B_eq_t c_48
          try simp only [decide_eq_true_eq, decide_eq_false_iff_not] at n_48
          refine V_iload cx 62 rfl dX5_veto_60 0 rfl ?_
          refine V_iconst (v := nI 1) cx 63 rfl dX5_veto_62 (by decide) ?_
          refine V_iload_n cx 64 rfl dX5_veto_63 3 rfl ?_
          refine V_ishl cx 65 rfl dX5_veto_64 ?_
          refine V_iconst (v := (-1)) cx 66 rfl dX5_veto_65 (by decide) ?_
          refine V_ixor cx 67 rfl dX5_veto_66 ?_
          refine V_iand cx 68 rfl dX5_veto_67 ?_
          refine V_iastN cx p (ep) (by omega) (by decide) 7 rfl (mW G g 0 np nl ld ll mn sp T S C F LT LS (upd VE p ((VE p) &&& (((nI 1) <<< (next &&& 31)) ^^^ (-1)))) BA wd mo lt op pl pt ks ++ rs) rfl 69 rfl dX5_veto_68 ?_
          refine V_iload cx 71 rfl dX5_veto_69 0 rfl ?_
          refine V_iload_n cx 72 rfl dX5_veto_71 3 rfl ?_
          refine V_ishr cx 73 rfl dX5_veto_72 ?_
          refine V_iconst (v := nI 1) cx 74 rfl dX5_veto_73 (by decide) ?_
          refine V_iand cx 75 rfl dX5_veto_74 ?_
          refine V_iconst (v := nI 1) cx 76 rfl dX5_veto_75 (by decide) ?_
          refine V_icmp_ne cx 79 83 rfl dX5_veto_76 (by decide) (fun c_76 => ?_) (fun c_76 => ?_)
          · skip
            refine V_iconst (v := nI 0) cx 84 rfl dX5_veto_83 (by decide) ?_
            exact V_zreturn cx hr (by first | rfl | exact bI_z _) (0, upd VE p ((VE p) &&& (((nI 1) <<< (next &&& 31)) ^^^ (-1)))) (Or.inr ⟨p, q, hp, hq, ep, eq, rfl, by rw [bitI, ← eq]; first | exact bI_t c_76 | exact bI_f c_76, by rw [setI, ← eq]; first | (rw [n_48]; rfl) | rfl⟩) rfl (by omega) (by omega) dX5_veto_84
          · skip
            refine V_iconst (v := nI 1) cx 80 rfl dX5_veto_79 (by decide) ?_
            refine V_goto cx 84 dX5_veto_80 (by decide) ?_
            exact V_zreturn cx hr (by first | rfl | exact bI_z _) (0, upd VE p ((VE p) &&& (((nI 1) <<< (next &&& 31)) ^^^ (-1)))) (Or.inr ⟨p, q, hp, hq, ep, eq, rfl, by rw [bitI, ← eq]; first | exact bI_t c_76 | exact bI_f c_76, by rw [setI, ← eq]; first | (rw [n_48]; rfl) | rfl⟩) rfl (by omega) (by omega) dX5_veto_84
        · skip
          have n_48 := B_eq_f c_48
          try simp only [decide_eq_true_eq, decide_eq_false_iff_not] at n_48
          refine V_iload cx 53 rfl dX5_veto_51 0 rfl ?_
          refine V_iconst (v := nI 1) cx 54 rfl dX5_veto_53 (by decide) ?_
          refine V_iload_n cx 55 rfl dX5_veto_54 3 rfl ?_
          refine V_ishl cx 56 rfl dX5_veto_55 ?_
          refine V_ior cx 57 rfl dX5_veto_56 ?_
          refine V_goto cx 68 dX5_veto_57 (by decide) ?_
          refine V_iastN cx p (ep) (by omega) (by decide) 7 rfl (mW G g 0 np nl ld ll mn sp T S C F LT LS (upd VE p ((VE p) ||| ((nI 1) <<< (next &&& 31)))) BA wd mo lt op pl pt ks ++ rs) rfl 69 rfl dX5_veto_68 ?_
          refine V_iload cx 71 rfl dX5_veto_69 0 rfl ?_
          refine V_iload_n cx 72 rfl dX5_veto_71 3 rfl ?_
          refine V_ishr cx 73 rfl dX5_veto_72 ?_
          refine V_iconst (v := nI 1) cx 74 rfl dX5_veto_73 (by decide) ?_
          refine V_iand cx 75 rfl dX5_veto_74 ?_
          refine V_iconst (v := nI 1) cx 76 rfl dX5_veto_75 (by decide) ?_
          refine V_icmp_ne cx 79 83 rfl dX5_veto_76 (by decide) (fun c_76 => ?_) (fun c_76 => ?_)
          · skip
            refine V_iconst (v := nI 0) cx 84 rfl dX5_veto_83 (by decide) ?_
            exact V_zreturn cx hr (by first | rfl | exact bI_z _) (0, upd VE p ((VE p) ||| ((nI 1) <<< (next &&& 31)))) (Or.inr ⟨p, q, hp, hq, ep, eq, rfl, by rw [bitI, ← eq]; first | exact bI_t c_76 | exact bI_f c_76, by rw [setI, ← eq]; first | (rw [n_48]; rfl) | rfl⟩) rfl (by omega) (by omega) dX5_veto_84
          · skip
            refine V_iconst (v := nI 1) cx 80 rfl dX5_veto_79 (by decide) ?_
            refine V_goto cx 84 dX5_veto_80 (by decide) ?_
            exact V_zreturn cx hr (by first | rfl | exact bI_z _) (0, upd VE p ((VE p) ||| ((nI 1) <<< (next &&& 31)))) (Or.inr ⟨p, q, hp, hq, ep, eq, rfl, by rw [bitI, ← eq]; first | exact bI_t c_76 | exact bI_f c_76, by rw [setI, ← eq]; first | (rw [n_48]; rfl) | rfl⟩) rfl (by omega) (by omega) dX5_veto_84
      · skip
        exact absurd c_29 (by decide)
set_option maxHeartbeats 4000000 in
set_option maxRecDepth 100000 in
theorem kX5_bar (l : Launch) (lo : Nat) (G : vG) (rs : va_W) (g : Nat → Nat) (th : Nat) (np : Nat) (nl : Nat) (ld : Nat) (ll : Nat) (mn : Int32) (sp : Nat) (T : Nat → Int32) (S : Nat → Int32) (C : Nat → Int32) (F : Nat → Int32) (LT : Nat → Int32) (LS : Nat → Int32) (VE : Nat → Int32) (BA : Nat → Int32) (wd : Nat → Int32) (mo : Nat → Int32) (lt : Nat → Int32) (op : Nat → Int32) (pl : Nat → Int32) (pt : Nat → Int32) (ks : Nat → Int64) (part : Int32) (next : Int32) (b : Bool) (hnp : np ≤ 16) (hnl : nl ≤ 6) : Mi l yX5_bar (.code yX5_bar prog_7_method_12_code 5 (some .boolean)) 3 0 0 lo G [.ref (g 0), .int part, .int next, .int (bI b)] (mW G g th np nl ld ll mn sp T S C F LT LS VE BA wd mo lt op pl pt ks ++ rs) (fun (r : Int32) ((th1, VE1) : (Nat) × (Nat → Int32)) => mMask np nl BA part next b r th1 VE1) (fun ((th1, VE1) : (Nat) × (Nat → Int32)) => mW G g th1 np nl ld ll mn sp T S C F LT LS VE VE1 wd mo lt op pl pt ks ++ rs) := by
  refine Mi_of (lc := [(0, .ref (g 0)), (1, .int part), (2, .int next), (3, .int (bI b))]) (by decide +kernel) (Nat.le_of_ble_eq_true rfl) rfl ?_
  intro X cx hXR hXl hr hin
  subst hXl
  have hX := RmX.of hXR
  refine V_aload_n cx 1 rfl dX5_bar_0 0 rfl ?_
  refine V_aload_n cx 2 rfl dX5_bar_1 0 rfl ?_
  refine V_iload_n cx 3 rfl dX5_bar_2 1 rfl ?_
  refine KX5_78 (As := [.int part]) (rest := [.ref (g 0)]) cx (kX5_isPart (xl X) lo G _ g th np nl ld ll mn sp T S C F LT LS VE BA wd mo lt op pl pt ks part) hX (by omega) 0 rfl rfl rfl (Nat.le_of_ble_eq_true rfl) 6 0 0 rfl rfl rfl (by omega) (by omega) dX5_bar_3 (fun r_1 u_2 hw_3 => ?_)
  try dsimp only at hw_3
  subst hw_3
  refine V_if_eq cx 9 27 rfl dX5_bar_6 (by decide) (fun c_6 => ?_) (fun c_6 => ?_)
  · skip
    have n_6 := B_eq_t c_6
    refine V_iconst (v := nI 1) cx 28 rfl dX5_bar_27 (by decide) ?_
    refine PX5_56 cx 0 rfl (Nat.le_of_ble_eq_true rfl) (mW G g 1 np nl ld ll mn sp T S C F LT LS VE BA wd mo lt op pl pt ks ++ rs) rfl 31 rfl dX5_bar_28 ?_
    refine V_aload_n cx 32 rfl dX5_bar_31 0 rfl ?_
    refine GX5_56 cx 0 rfl rfl 35 rfl dX5_bar_32 ?_
    refine V_if_le cx 38 40 rfl dX5_bar_35 (by decide) (fun c_35 => ?_) (fun c_35 => ?_)
    · skip
      exact absurd c_35 (by decide)
    · skip
      refine V_iconst (v := nI 0) cx 39 rfl dX5_bar_38 (by decide) ?_
      exact V_zreturn cx hr (by first | rfl | exact bI_z _) (1, BA) (Or.inl ⟨by first | exact Or.inl n_6 | exact Or.inr n_20, rfl, rfl⟩) rfl (by omega) (by omega) dX5_bar_39
  · skip
    have n_6 := B_eq_f c_6
    obtain ⟨p, hp, ep⟩ := isP_t hnp n_6
    refine V_iload_n cx 10 rfl dX5_bar_9 2 rfl ?_
    refine V_iconst (v := nI 0) cx 11 rfl dX5_bar_10 (by decide) ?_
    refine V_aload_n cx 12 rfl dX5_bar_11 0 rfl ?_
    refine GX5_82 cx 0 rfl rfl 15 rfl dX5_bar_12 ?_
    refine V_iconst (v := nI 1) cx 16 rfl dX5_bar_15 (by decide) ?_
    refine V_isub cx 17 rfl dX5_bar_16 ?_
    refine KX5_64 (As := [.int next, .int (nI 0), .int ((nI nl) - (nI 1))]) (rest := [.ref (g 0)]) cx (kX5_in (xl X) lo G _ next (nI 0) ((nI nl) - (nI 1))) hX (by omega) rfl rfl (Nat.le_of_ble_eq_true rfl) 20 0 0 rfl rfl rfl (by omega) (by omega) dX5_bar_17 (fun r_4 u_5 hw_6 => ?_)
    try dsimp only at hw_6
    subst hw_6
    refine V_if_eq cx 23 27 rfl dX5_bar_20 (by decide) (fun c_20 => ?_) (fun c_20 => ?_)
    · skip
      have n_20 : isP nl next = false := B_eq_t c_20
      refine V_iconst (v := nI 1) cx 28 rfl dX5_bar_27 (by decide) ?_
      refine PX5_56 cx 0 rfl (Nat.le_of_ble_eq_true rfl) (mW G g 1 np nl ld ll mn sp T S C F LT LS VE BA wd mo lt op pl pt ks ++ rs) rfl 31 rfl dX5_bar_28 ?_
      refine V_aload_n cx 32 rfl dX5_bar_31 0 rfl ?_
      refine GX5_56 cx 0 rfl rfl 35 rfl dX5_bar_32 ?_
      refine V_if_le cx 38 40 rfl dX5_bar_35 (by decide) (fun c_35 => ?_) (fun c_35 => ?_)
      · skip
        exact absurd c_35 (by decide)
      · skip
        refine V_iconst (v := nI 0) cx 39 rfl dX5_bar_38 (by decide) ?_
        exact V_zreturn cx hr (by first | rfl | exact bI_z _) (1, BA) (Or.inl ⟨by first | exact Or.inl n_6 | exact Or.inr n_20, rfl, rfl⟩) rfl (by omega) (by omega) dX5_bar_39
    · skip
      have n_20 : isP nl next = true := B_eq_f c_20
      obtain ⟨q, hq, eq⟩ := isP_t (by omega) n_20
      refine V_iconst (v := nI 0) cx 24 rfl dX5_bar_23 (by decide) ?_
      refine V_goto cx 28 dX5_bar_24 (by decide) ?_
      refine PX5_56 cx 0 rfl (Nat.le_of_ble_eq_true rfl) (mW G g 0 np nl ld ll mn sp T S C F LT LS VE BA wd mo lt op pl pt ks ++ rs) rfl 31 rfl dX5_bar_28 ?_
      refine V_aload_n cx 32 rfl dX5_bar_31 0 rfl ?_
      refine GX5_56 cx 0 rfl rfl 35 rfl dX5_bar_32 ?_
      refine V_if_le cx 38 40 rfl dX5_bar_35 (by decide) (fun c_35 => ?_) (fun c_35 => ?_)
      · skip
        refine V_aload_n cx 41 rfl dX5_bar_40 0 rfl ?_
        refine GX5_31 cx 0 rfl rfl 44 rfl dX5_bar_41 ?_
        refine V_iload_n cx 45 rfl dX5_bar_44 1 rfl ?_
        refine V_ialdN cx p (ep) (by omega) (by decide) 8 rfl 46 rfl dX5_bar_45 ?_
        refine V_istore (lc1 := [(4, .int (BA p)), (0, .ref (g 0)), (1, .int part), (2, .int next), (3, .int (bI b))]) cx 48 rfl dX5_bar_46 (by decide) rfl ?_
        refine V_aload_n cx 49 rfl dX5_bar_48 1 rfl ?_
        refine GX5_31 cx 0 rfl rfl 52 rfl dX5_bar_49 ?_
        refine V_iload_n cx 53 rfl dX5_bar_52 2 rfl ?_
        refine V_iload_n cx 54 rfl dX5_bar_53 4 rfl ?_
        refine V_if_eq cx 57 66 rfl dX5_bar_54 (by decide) (fun c_54 => ?_) (fun c_54 => ?_)
        · skip
          have n_54 := B_eq_t c_54
          try simp only [decide_eq_true_eq, decide_eq_false_iff_not] at n_54
          refine V_iload cx 68 rfl dX5_bar_66 0 rfl ?_
          refine V_iconst (v := nI 1) cx 69 rfl dX5_bar_68 (by decide) ?_
          refine V_iload_n cx 70 rfl dX5_bar_69 3 rfl ?_
          refine V_ishl cx 71 rfl dX5_bar_70 ?_
          refine V_iconst (v := (-1)) cx 72 rfl dX5_bar_71 (by decide) ?_
          refine V_ixor cx 73 rfl dX5_bar_72 ?_
          refine V_iand cx 74 rfl dX5_bar_73 ?_
          refine V_iastN cx p (ep) (by omega) (by decide) 8 rfl (mW G g 0 np nl ld ll mn sp T S C F LT LS VE (upd BA p ((BA p) &&& (((nI 1) <<< (next &&& 31)) ^^^ (-1)))) wd mo lt op pl pt ks ++ rs) rfl 75 rfl dX5_bar_74 ?_
          refine V_iload cx 77 rfl dX5_bar_75 0 rfl ?_
          refine V_iload_n cx 78 rfl dX5_bar_77 3 rfl ?_
          refine V_ishr cx 79 rfl dX5_bar_78 ?_
          refine V_iconst (v := nI 1) cx 80 rfl dX5_bar_79 (by decide) ?_
          refine V_iand cx 81 rfl dX5_bar_80 ?_
          refine V_iconst (v := nI 1) cx 82 rfl dX5_bar_81 (by decide) ?_
          refine V_icmp_ne cx 85 89 rfl dX5_bar_82 (by decide) (fun c_82 => ?_) (fun c_82 => ?_)
          · skip
            refine V_iconst (v := nI 0) cx 90 rfl dX5_bar_89 (by decide) ?_
            exact V_zreturn cx hr (by first | rfl | exact bI_z _) (0, upd BA p ((BA p) &&& (((nI 1) <<< (next &&& 31)) ^^^ (-1)))) (Or.inr ⟨p, q, hp, hq, ep, eq, rfl, by rw [bitI, ← eq]; first | exact bI_t c_82 | exact bI_f c_82, by rw [setI, ← eq]; first | (rw [n_54]; rfl) | rfl⟩) rfl (by omega) (by omega) dX5_bar_90
          · skip
            refine V_iconst (v := nI 1) cx 86 rfl dX5_bar_85 (by decide) ?_
            refine V_goto cx 90 dX5_bar_86 (by decide) ?_
            exact V_zreturn cx hr (by first | rfl | exact bI_z _) (0, upd BA p ((BA p) &&& (((nI 1) <<< (next &&& 31)) ^^^ (-1)))) (Or.inr ⟨p, q, hp, hq, ep, eq, rfl, by rw [bitI, ← eq]; first | exact bI_t c_82 | exact bI_f c_82, by rw [setI, ← eq]; first | (rw [n_54]; rfl) | rfl⟩) rfl (by omega) (by omega) dX5_bar_90
        · skip
          have n_54 := B_eq_f c_54
          try simp only [decide_eq_true_eq, decide_eq_false_iff_not] at n_54
          refine V_iload cx 59 rfl dX5_bar_57 0 rfl ?_
          refine V_iconst (v := nI 1) cx 60 rfl dX5_bar_59 (by decide) ?_
          refine V_iload_n cx 61 rfl dX5_bar_60 3 rfl ?_
          refine V_ishl cx 62 rfl dX5_bar_61 ?_
          refine V_ior cx 63 rfl dX5_bar_62 ?_
          refine V_goto cx 74 dX5_bar_63 (by decide) ?_
          refine V_iastN cx p (ep) (by omega) (by decide) 8 rfl (mW G g 0 np nl ld ll mn sp T S C F LT LS VE (upd BA p ((BA p) ||| ((nI 1) <<< (next &&& 31)))) wd mo lt op pl pt ks ++ rs) rfl 75 rfl dX5_bar_74 ?_
          refine V_iload cx 77 rfl dX5_bar_75 0 rfl ?_
          refine V_iload_n cx 78 rfl dX5_bar_77 3 rfl ?_
          refine V_ishr cx 79 rfl dX5_bar_78 ?_
          refine V_iconst (v := nI 1) cx 80 rfl dX5_bar_79 (by decide) ?_
          refine V_iand cx 81 rfl dX5_bar_80 ?_
          refine V_iconst (v := nI 1) cx 82 rfl dX5_bar_81 (by decide) ?_
          refine V_icmp_ne cx 85 89 rfl dX5_bar_82 (by decide) (fun c_82 => ?_) (fun c_82 => ?_)
          · skip
            refine V_iconst (v := nI 0) cx 90 rfl dX5_bar_89 (by decide) ?_
            exact V_zreturn cx hr (by first | rfl | exact bI_z _) (0, upd BA p ((BA p) ||| ((nI 1) <<< (next &&& 31)))) (Or.inr ⟨p, q, hp, hq, ep, eq, rfl, by rw [bitI, ← eq]; first | exact bI_t c_82 | exact bI_f c_82, by rw [setI, ← eq]; first | (rw [n_54]; rfl) | rfl⟩) rfl (by omega) (by omega) dX5_bar_90
          · skip
            refine V_iconst (v := nI 1) cx 86 rfl dX5_bar_85 (by decide) ?_
            refine V_goto cx 90 dX5_bar_86 (by decide) ?_
            exact V_zreturn cx hr (by first | rfl | exact bI_z _) (0, upd BA p ((BA p) ||| ((nI 1) <<< (next &&& 31)))) (Or.inr ⟨p, q, hp, hq, ep, eq, rfl, by rw [bitI, ← eq]; first | exact bI_t c_82 | exact bI_f c_82, by rw [setI, ← eq]; first | (rw [n_54]; rfl) | rfl⟩) rfl (by omega) (by omega) dX5_bar_90
      · skip
        exact absurd c_35 (by decide)
set_option maxHeartbeats 4000000 in
set_option maxRecDepth 100000 in
theorem kX5_count (l : Launch) (lo : Nat) (G : vG) (rs : va_W) (g : Nat → Nat) (th : Nat) (np : Nat) (nl : Nat) (ld : Nat) (ll : Nat) (mn : Int32) (sp : Nat) (T : Nat → Int32) (S : Nat → Int32) (C : Nat → Int32) (F : Nat → Int32) (LT : Nat → Int32) (LS : Nat → Int32) (VE : Nat → Int32) (BA : Nat → Int32) (wd : Nat → Int32) (mo : Nat → Int32) (lt : Nat → Int32) (op : Nat → Int32) (pl : Nat → Int32) (pt : Nat → Int32) (ks : Nat → Int64) (part : Int32) (hnp : np ≤ 16) : Mi l yX5_count (.code yX5_count prog_7_method_14_code 2 (some .int)) 3 0 0 lo G [.ref (g 0), .int part] (mW G g th np nl ld ll mn sp T S C F LT LS VE BA wd mo lt op pl pt ks ++ rs) (fun (r : Int32) (th1 : (Nat)) => (isP np part = false ∧ th1 = 1) ∨ ∃ p, p < np ∧ part = nI p ∧ th1 = 0 ∧ r = C p) (fun (th1 : (Nat)) => mW G g th1 np nl ld ll mn sp T S C F LT LS VE BA wd mo lt op pl pt ks ++ rs) := by
  refine Mi_of (lc := [(0, .ref (g 0)), (1, .int part)]) (by decide +kernel) (Nat.le_of_ble_eq_true rfl) rfl ?_
  intro X cx hXR hXl hr hin
  subst hXl
  have hX := RmX.of hXR
  refine V_aload_n cx 1 rfl dX5_count_0 0 rfl ?_
  refine V_aload_n cx 2 rfl dX5_count_1 0 rfl ?_
  refine V_iload_n cx 3 rfl dX5_count_2 1 rfl ?_
  refine KX5_78 (As := [.int part]) (rest := [.ref (g 0)]) cx (kX5_isPart (xl X) lo G _ g th np nl ld ll mn sp T S C F LT LS VE BA wd mo lt op pl pt ks part) hX (by omega) 0 rfl rfl rfl (Nat.le_of_ble_eq_true rfl) 6 0 0 rfl rfl rfl (by omega) (by omega) dX5_count_3 (fun r_1 u_2 hw_3 => ?_)
  try dsimp only at hw_3
  subst hw_3
  refine V_if_eq cx 9 13 rfl dX5_count_6 (by decide) (fun c_6 => ?_) (fun c_6 => ?_)
  · skip
    have n_6 := B_eq_t c_6
    refine V_iconst (v := nI 1) cx 14 rfl dX5_count_13 (by decide) ?_
    refine PX5_56 cx 0 rfl (Nat.le_of_ble_eq_true rfl) (mW G g 1 np nl ld ll mn sp T S C F LT LS VE BA wd mo lt op pl pt ks ++ rs) rfl 17 rfl dX5_count_14 ?_
    refine V_aload_n cx 18 rfl dX5_count_17 0 rfl ?_
    refine GX5_56 cx 0 rfl rfl 21 rfl dX5_count_18 ?_
    refine V_if_le cx 24 28 rfl dX5_count_21 (by decide) (fun c_21 => ?_) (fun c_21 => ?_)
    · skip
      exact absurd c_21 (by decide)
    · skip
      refine V_iconst (v := nI 0) cx 25 rfl dX5_count_24 (by decide) ?_
      refine V_goto cx 34 dX5_count_25 (by decide) ?_
      exact V_ireturn cx hr 1 (Or.inl ⟨n_6, rfl⟩) rfl (by omega) (by omega) dX5_count_34
  · skip
    have n_6 := B_eq_f c_6
    obtain ⟨p, hp, ep⟩ := isP_t hnp n_6
    refine V_iconst (v := nI 0) cx 10 rfl dX5_count_9 (by decide) ?_
    refine V_goto cx 14 dX5_count_10 (by decide) ?_
    refine PX5_56 cx 0 rfl (Nat.le_of_ble_eq_true rfl) (mW G g 0 np nl ld ll mn sp T S C F LT LS VE BA wd mo lt op pl pt ks ++ rs) rfl 17 rfl dX5_count_14 ?_
    refine V_aload_n cx 18 rfl dX5_count_17 0 rfl ?_
    refine GX5_56 cx 0 rfl rfl 21 rfl dX5_count_18 ?_
    refine V_if_le cx 24 28 rfl dX5_count_21 (by decide) (fun c_21 => ?_) (fun c_21 => ?_)
    · skip
      refine V_aload_n cx 29 rfl dX5_count_28 0 rfl ?_
      refine GX5_16 cx 0 rfl rfl 32 rfl dX5_count_29 ?_
      refine V_iload_n cx 33 rfl dX5_count_32 1 rfl ?_
      refine V_ialdN cx p (ep) (by omega) (by decide) 3 rfl 34 rfl dX5_count_33 ?_
      exact V_ireturn cx hr 0 (Or.inr ⟨p, hp, ep, rfl, rfl⟩) rfl (by omega) (by omega) dX5_count_34
    · skip
      exact absurd c_21 (by decide)
set_option maxHeartbeats 4000000 in
set_option maxRecDepth 100000 in
theorem kX5_costNow (l : Launch) (lo : Nat) (G : vG) (rs : va_W) (g : Nat → Nat) (th : Nat) (np : Nat) (nl : Nat) (ld : Nat) (ll : Nat) (mn : Int32) (sp : Nat) (T : Nat → Int32) (S : Nat → Int32) (C : Nat → Int32) (F : Nat → Int32) (LT : Nat → Int32) (LS : Nat → Int32) (VE : Nat → Int32) (BA : Nat → Int32) (wd : Nat → Int32) (mo : Nat → Int32) (lt : Nat → Int32) (op : Nat → Int32) (pl : Nat → Int32) (pt : Nat → Int32) (ks : Nat → Int64) (p : Nat) (c : Nat) (hp : p < 16) (hc : C p = nI c) (hc1 : 1 ≤ c ∧ c ≤ 9999) : Mi l yX5_costNow (.code yX5_costNow prog_7_method_15_code 4 (some .int)) 1 0 0 lo G [.ref (g 0), .int (nI p)] (mW G g th np nl ld ll mn sp T S C F LT LS VE BA wd mo lt op pl pt ks ++ rs) (fun (r : Int32) (_ : Unit) => r = nI (ko c)) (fun (_ : Unit) => mW G g th np nl ld ll mn sp T S C F LT LS VE BA wd mo lt op pl pt ks ++ rs) := by
  refine Mi_of (lc := [(0, .ref (g 0)), (1, .int (nI p))]) (by decide +kernel) (Nat.le_of_ble_eq_true rfl) rfl ?_
  intro X cx hXR hXl hr hin
  subst hXl
  have hX := RmX.of hXR
  refine V_bipush (v := nI 10) cx 2 rfl dX5_costNow_0 (by decide) ?_
  refine V_istore_n (lc1 := [(2, .int (nI 10)), (0, .ref (g 0)), (1, .int (nI p))]) cx 3 rfl dX5_costNow_2 (by decide) rfl ?_
  refine V_iconst (v := nI 2) cx 4 rfl dX5_costNow_3 (by decide) ?_
  refine V_aload_n cx 5 rfl dX5_costNow_4 1 rfl ?_
  refine GX5_16 cx 0 rfl rfl 8 rfl dX5_costNow_5 ?_
  refine V_iload_n cx 9 rfl dX5_costNow_8 2 rfl ?_
  refine V_ialdN cx p (rfl) (by omega) (by decide) 3 rfl 10 rfl dX5_costNow_9 ?_
  refine V_toi (nI c) (hc) ?_
  refine V_imul cx 11 rfl dX5_costNow_10 ?_
  refine V_toi (nI (2 * c)) (nI_mulN _ _) ?_
  refine V_istore_n (lc1 := [(3, .int (nI (2 * c))), (2, .int (nI 10)), (0, .ref (g 0)), (1, .int (nI p))]) cx 12 rfl dX5_costNow_11 (by decide) rfl ?_
  have loop : ∀ (fuel : Nat) (i : Nat) (v : Nat) (k : Nat), v = 2 ^ (i + 1) * c → v ≤ 20000 → i ≤ 13 → k + 10 * dbl (13 - i) v = ko c → 14 - i < fuel → V X lo 4 G (Qi X lo G (fun (r : Int32) (_ : Unit) => r = nI (ko c)) (fun (_ : Unit) => mW G g th np nl ld ll mn sp T S C F LT LS VE BA wd mo lt op pl pt ks ++ rs) 0 0) 0 0 (mW G g th np nl ld ll mn sp T S C F LT LS VE BA wd mo lt op pl pt ks ++ rs) [(3, .int (nI v)), (2, .int (nI k)), (0, .ref (g 0)), (1, .int (nI p))] [] 12 := by
    intro fuel
    induction fuel with
    | zero => intro i v k hv hb hi hk hmz; exact absurd hmz (Nat.not_lt_zero _)
    | succ fuel ih =>
      intro i v k hv hb hi hk hmz
      refine V_iload_n cx 13 rfl dX5_costNow_12 0 rfl ?_
      refine V_sipush (v := nI 10000) cx 16 rfl dX5_costNow_13 (by decide) ?_
      refine V_icmp_gt cx 19 29 rfl dX5_costNow_16 (by decide) (fun c_16 => ?_) (fun c_16 => ?_)
      · skip
        have n_16 : v > 10000 := N_gt_t (by omega) (by omega) c_16
        refine V_iload_n cx 30 rfl dX5_costNow_29 1 rfl ?_
        exact V_ireturn cx hr () (by rw [dbl_hi _ (by omega)] at hk; rw [show k = ko c by omega]) rfl (by omega) (by omega) dX5_costNow_30
      · skip
        have n_16 : v ≤ 10000 := N_gt_f (by omega) (by omega) c_16
        refine V_iinc (v := nI (k + 10)) (lc1 := [(2, .int (nI (k + 10))), (3, .int (nI v)), (0, .ref (g 0)), (1, .int (nI p))]) cx 22 rfl dX5_costNow_19 1 rfl (nI_inc k 10) (by decide) rfl ?_
        refine V_iload_n cx 23 rfl dX5_costNow_22 1 rfl ?_
        refine V_iconst (v := nI 2) cx 24 rfl dX5_costNow_23 (by decide) ?_
        refine V_imul cx 25 rfl dX5_costNow_24 ?_
        refine V_toi (nI (v * 2)) (nI_mulN _ _) ?_
        refine V_istore_n (lc1 := [(3, .int (nI (v * 2))), (2, .int (nI (k + 10))), (0, .ref (g 0)), (1, .int (nI p))]) cx 26 rfl dX5_costNow_25 (by decide) rfl ?_
        refine V_goto cx 12 dX5_costNow_26 (by decide) ?_
        refine V.locs [0, 1, 2, 3] rfl ?_
        have h13 : i < 13 := by
            rcases Nat.lt_or_ge i 13 with h | h
            · exact h
            · exfalso
              have h2 : 2 ^ 14 ≤ 2 ^ (i + 1) := Nat.pow_le_pow_right (by decide) (by omega)
              have h3 : 2 ^ (i + 1) * 1 ≤ 2 ^ (i + 1) * c := Nat.mul_le_mul_left _ hc1.1
              omega
        exact ih (i + 1) (v * 2) (k + 10) (by rw [hv, Nat.pow_succ 2 (i + 1)]; ac_rfl) (by omega) (by omega) (by rw [show 13 - i = (13 - (i + 1)) + 1 by omega] at hk; unfold dbl at hk; rw [if_pos n_16] at hk; omega) (by omega)
  refine V.locs [0, 1, 2, 3] rfl ?_
  exact loop _ 0 (2 * c) 10 (by rfl) (by omega) (by omega) (by rfl) (Nat.lt_succ_self _)
set_option maxHeartbeats 4000000 in
set_option maxRecDepth 100000 in
theorem kX5_costOf (l : Launch) (lo : Nat) (G : vG) (rs : va_W) (g : Nat → Nat) (th : Nat) (np : Nat) (nl : Nat) (ld : Nat) (ll : Nat) (mn : Int32) (sp : Nat) (T : Nat → Int32) (S : Nat → Int32) (C : Nat → Int32) (F : Nat → Int32) (LT : Nat → Int32) (LS : Nat → Int32) (VE : Nat → Int32) (BA : Nat → Int32) (wd : Nat → Int32) (mo : Nat → Int32) (lt : Nat → Int32) (op : Nat → Int32) (pl : Nat → Int32) (pt : Nat → Int32) (ks : Nat → Int64) (part : Int32) (cn : Nat → Nat) (hnp : np ≤ 16) (hC : ∀ i, i < np → C i = nI (cn i) ∧ 1 ≤ cn i ∧ cn i ≤ 9999) : Mi l yX5_costOf (.code yX5_costOf prog_7_method_16_code 2 (some .int)) 3 0 0 lo G [.ref (g 0), .int part] (mW G g th np nl ld ll mn sp T S C F LT LS VE BA wd mo lt op pl pt ks ++ rs) (fun (r : Int32) (th1 : (Nat)) => (isP np part = false ∧ th1 = 1) ∨ ∃ p, p < np ∧ part = nI p ∧ th1 = 0 ∧ r = nI (ko (cn p))) (fun (th1 : (Nat)) => mW G g th1 np nl ld ll mn sp T S C F LT LS VE BA wd mo lt op pl pt ks ++ rs) := by
  refine Mi_of (lc := [(0, .ref (g 0)), (1, .int part)]) (by decide +kernel) (Nat.le_of_ble_eq_true rfl) rfl ?_
  intro X cx hXR hXl hr hin
  subst hXl
  have hX := RmX.of hXR
  refine V_aload_n cx 1 rfl dX5_costOf_0 0 rfl ?_
  refine V_aload_n cx 2 rfl dX5_costOf_1 0 rfl ?_
  refine V_iload_n cx 3 rfl dX5_costOf_2 1 rfl ?_
  refine KX5_78 (As := [.int part]) (rest := [.ref (g 0)]) cx (kX5_isPart (xl X) lo G _ g th np nl ld ll mn sp T S C F LT LS VE BA wd mo lt op pl pt ks part) hX (by omega) 0 rfl rfl rfl (Nat.le_of_ble_eq_true rfl) 6 0 0 rfl rfl rfl (by omega) (by omega) dX5_costOf_3 (fun r_1 u_2 hw_3 => ?_)
  try dsimp only at hw_3
  subst hw_3
  refine V_if_eq cx 9 13 rfl dX5_costOf_6 (by decide) (fun c_6 => ?_) (fun c_6 => ?_)
  · skip
    have n_6 := B_eq_t c_6
    refine V_iconst (v := nI 1) cx 14 rfl dX5_costOf_13 (by decide) ?_
    refine PX5_56 cx 0 rfl (Nat.le_of_ble_eq_true rfl) (mW G g 1 np nl ld ll mn sp T S C F LT LS VE BA wd mo lt op pl pt ks ++ rs) rfl 17 rfl dX5_costOf_14 ?_
    refine V_aload_n cx 18 rfl dX5_costOf_17 0 rfl ?_
    refine GX5_56 cx 0 rfl rfl 21 rfl dX5_costOf_18 ?_
    refine V_if_le cx 24 28 rfl dX5_costOf_21 (by decide) (fun c_21 => ?_) (fun c_21 => ?_)
    · skip
      exact absurd c_21 (by decide)
    · skip
      refine V_iconst (v := nI 0) cx 25 rfl dX5_costOf_24 (by decide) ?_
      refine V_goto cx 33 dX5_costOf_25 (by decide) ?_
      exact V_ireturn cx hr 1 (Or.inl ⟨n_6, rfl⟩) rfl (by omega) (by omega) dX5_costOf_33
  · skip
    have n_6 := B_eq_f c_6
    obtain ⟨p, hp, ep⟩ := isP_t hnp n_6
    refine V_iconst (v := nI 0) cx 10 rfl dX5_costOf_9 (by decide) ?_
    refine V_goto cx 14 dX5_costOf_10 (by decide) ?_
    refine PX5_56 cx 0 rfl (Nat.le_of_ble_eq_true rfl) (mW G g 0 np nl ld ll mn sp T S C F LT LS VE BA wd mo lt op pl pt ks ++ rs) rfl 17 rfl dX5_costOf_14 ?_
    refine V_aload_n cx 18 rfl dX5_costOf_17 0 rfl ?_
    refine GX5_56 cx 0 rfl rfl 21 rfl dX5_costOf_18 ?_
    refine V_if_le cx 24 28 rfl dX5_costOf_21 (by decide) (fun c_21 => ?_) (fun c_21 => ?_)
    · skip
      subst ep
      refine V_aload_n cx 29 rfl dX5_costOf_28 0 rfl ?_
      refine V_iload_n cx 30 rfl dX5_costOf_29 1 rfl ?_
      refine KX5_85 (As := [.int (nI p)]) (rest := []) cx (kX5_costNow (xl X) lo G _ g 0 np nl ld ll mn sp T S C F LT LS VE BA wd mo lt op pl pt ks p (cn p) (by omega) (hC p hp).1 (hC p hp).2) hX (by omega) 0 rfl rfl rfl (Nat.le_of_ble_eq_true rfl) 33 0 0 rfl rfl rfl (by omega) (by omega) dX5_costOf_30 (fun r_4 u_5 hw_6 => ?_)
      try dsimp only at hw_6
      subst hw_6
      exact V_ireturn cx hr 0 (Or.inr ⟨p, hp, rfl, rfl, rfl⟩) rfl (by omega) (by omega) dX5_costOf_33
    · skip
      exact absurd c_21 (by decide)
set_option maxHeartbeats 4000000 in
set_option maxRecDepth 100000 in
theorem kX5_find (l : Launch) (lo : Nat) (G : vG) (rs : va_W) (g : Nat → Nat) (th : Nat) (np : Nat) (nl : Nat) (ld : Nat) (ll : Nat) (mn : Int32) (sp : Nat) (T : Nat → Int32) (S : Nat → Int32) (C : Nat → Int32) (F : Nat → Int32) (LT : Nat → Int32) (LS : Nat → Int32) (VE : Nat → Int32) (BA : Nat → Int32) (wd : Nat → Int32) (mo : Nat → Int32) (lt : Nat → Int32) (op : Nat → Int32) (pl : Nat → Int32) (pt : Nat → Int32) (ks : Nat → Int64) (text : Int32) (hnp : np ≤ 16) : Mi l yX5_find (.code yX5_find prog_7_method_17_code 2 (some .int)) 3 0 0 lo G [.ref (g 0), .int text] (mW G g th np nl ld ll mn sp T S C F LT LS VE BA wd mo lt op pl pt ks ++ rs) (fun (r : Int32) (th1 : (Nat)) => (SZ text 8 = 0 ∧ th1 = 1) ∨ (0 < SZ text 8 ∧ th1 = 0 ∧ r = lastW T text np)) (fun (th1 : (Nat)) => mW G g th1 np nl ld ll mn sp T S C F LT LS VE BA wd mo lt op pl pt ks ++ rs) := by
  refine Mi_of (lc := [(0, .ref (g 0)), (1, .int text)]) (by decide +kernel) (Nat.le_of_ble_eq_true rfl) rfl ?_
  intro X cx hXR hXl hr hin
  subst hXl
  have hX := RmX.of hXR
  refine V_aload_n cx 1 rfl dX5_find_0 0 rfl ?_
  refine V_iload_n cx 2 rfl dX5_find_1 1 rfl ?_
  refine V_bipush (v := nI 8) cx 4 rfl dX5_find_2 (by decide) ?_
  refine KX5_71 (As := [.int text, .int (nI 8)]) (rest := [.ref (g 0)]) cx (kX5_sizeOf (xl X) lo G _ text 8 (by omega)) hX (by omega) rfl rfl (Nat.le_of_ble_eq_true rfl) 7 0 0 rfl rfl rfl (by omega) (by omega) dX5_find_4 (fun r_1 u_2 hw_3 => ?_)
  try dsimp only at hw_3
  subst hw_3
  have fk_4 := SZ_le text 8
  refine V_if_le cx 10 14 rfl dX5_find_7 (by decide) (fun c_7 => ?_) (fun c_7 => ?_)
  · skip
    have n_7 : SZ text 8 ≤ 0 := Z_le_t (by omega) c_7
    refine V_iconst (v := nI 1) cx 15 rfl dX5_find_14 (by decide) ?_
    refine PX5_56 cx 0 rfl (Nat.le_of_ble_eq_true rfl) (mW G g 1 np nl ld ll mn sp T S C F LT LS VE BA wd mo lt op pl pt ks ++ rs) rfl 18 rfl dX5_find_15 ?_
    refine V_aload_n cx 19 rfl dX5_find_18 0 rfl ?_
    refine GX5_56 cx 0 rfl rfl 22 rfl dX5_find_19 ?_
    refine V_if_le cx 25 29 rfl dX5_find_22 (by decide) (fun c_22 => ?_) (fun c_22 => ?_)
    · skip
      exact absurd c_22 (by decide)
    · skip
      refine V_iconst (v := nI 0) cx 26 rfl dX5_find_25 (by decide) ?_
      refine V_goto cx 34 dX5_find_26 (by decide) ?_
      exact V_ireturn cx hr 1 (Or.inl ⟨by omega, rfl⟩) rfl (by omega) (by omega) dX5_find_34
  · skip
    have n_7 : SZ text 8 > 0 := Z_le_f (by omega) c_7
    refine V_iconst (v := nI 0) cx 11 rfl dX5_find_10 (by decide) ?_
    refine V_goto cx 15 dX5_find_11 (by decide) ?_
    refine PX5_56 cx 0 rfl (Nat.le_of_ble_eq_true rfl) (mW G g 0 np nl ld ll mn sp T S C F LT LS VE BA wd mo lt op pl pt ks ++ rs) rfl 18 rfl dX5_find_15 ?_
    refine V_aload_n cx 19 rfl dX5_find_18 0 rfl ?_
    refine GX5_56 cx 0 rfl rfl 22 rfl dX5_find_19 ?_
    refine V_if_le cx 25 29 rfl dX5_find_22 (by decide) (fun c_22 => ?_) (fun c_22 => ?_)
    · skip
      refine V_aload_n cx 30 rfl dX5_find_29 0 rfl ?_
      refine V_iload_n cx 31 rfl dX5_find_30 1 rfl ?_
      refine KX5_75 (As := [.int text]) (rest := []) cx (kX5_partWith (xl X) lo G _ g 0 np nl ld ll mn sp T S C F LT LS VE BA wd mo lt op pl pt ks text (by omega)) hX (by omega) 0 rfl rfl rfl (Nat.le_of_ble_eq_true rfl) 34 0 0 rfl rfl rfl (by omega) (by omega) dX5_find_31 (fun r_5 u_6 hw_7 => ?_)
      try dsimp only at hw_7
      subst hw_7
      exact V_ireturn cx hr 0 (Or.inr ⟨n_7, rfl, rfl⟩) rfl (by omega) (by omega) dX5_find_34
    · skip
      exact absurd c_22 (by decide)
end
section
theorem zz_look : True := trivial
end
