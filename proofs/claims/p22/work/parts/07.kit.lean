abbrev vX : Type := Program × Launch × Env × Room × State × MethodId × Array Value × List Frame × Method × Code
abbrev xp (X : vX) : Program := X.1
abbrev xl (X : vX) : Launch := X.2.1
abbrev xe (X : vX) : Env := X.2.2.1
abbrev xR (X : vX) : Room := X.2.2.2.1
abbrev xs (X : vX) : State := X.2.2.2.2.1
abbrev xm (X : vX) : MethodId := X.2.2.2.2.2.1
abbrev xa (X : vX) : Array Value := X.2.2.2.2.2.2.1
abbrev xb (X : vX) : List Frame := X.2.2.2.2.2.2.2.1
abbrev xh (X : vX) : Method := X.2.2.2.2.2.2.2.2.1
abbrev xc (X : vX) : Code := X.2.2.2.2.2.2.2.2.2
abbrev vG : Type := va_G × ClassId × ClassId × ClassId
abbrev gT (G : vG) : List (ClassId × FieldType) := [(G.2.1, .int), (G.2.2.1, .long), (G.2.2.2, .boolean)]
def Lo (lo : Nat) : Nat → Prop := fun q => lo ≤ q
/-- links of nest mates, and what is castable: words that ride beside the tables' own -/
def wsN : List Cond := [.fieldLinkNest RX4 105 "PartSplitter$Lexicon" "tree" "LPartSplitter$Tree;" "PartSplitter", .fieldLinkNest RX4 118 "PartSplitter$SplitRow" "found" "I" "PartSplitter", .fieldLinkNest RX4 143 "PartSplitter$SplitRow" "keys" "[J" "PartSplitter", .fieldLinkNest RX4 150 "PartSplitter$Lessons" "used" "I" "PartSplitter", .fieldLinkNest RX4 45 "PartSplitter$Lexicon" "partsUsed" "I" "PartSplitter", .fieldLinkNest RX4 70 "PartSplitter$Lexicon" "partFlags" "[I" "PartSplitter", .fieldLinkNest RX4 74 "PartSplitter$Lexicon" "linksUsed" "I" "PartSplitter", .fieldLinkNest RX4 87 "PartSplitter$Lexicon" "vetoes" "[Z" "PartSplitter", .fieldLinkNest RX4 96 "PartSplitter$Lexicon" "bars" "[Z" "PartSplitter", .fieldLinkNest RX4 99 "PartSplitter$Lexicon" "partCounts" "[I" "PartSplitter", .fieldLinkNest RX0 29 "PartSplitter$Lexicon" "partCounts" "[I" "PartSplitter", .fieldLinkNest RX2 63 "PartSplitter$Lexicon" "partCounts" "[I" "PartSplitter", .fieldLinkNest RX2 83 "PartSplitter$Lexicon" "vetoes" "[Z" "PartSplitter", .fieldLinkNest RX2 87 "PartSplitter$Lexicon" "bars" "[Z" "PartSplitter", .methodLinkNest RX4 11 yX1_init "PartSplitter", .methodLinkNest RX1 33 yX3_init "PartSplitter", .methodLinkNest RX1 53 yX4_lettersIn "PartSplitter", .methodLinkNest RX2 47 yX4_lettersIn "PartSplitter", .methodLinkNest RX3 26 yX4_lettersIn "PartSplitter", .castable "java/lang/IllegalArgumentException" "java/lang/IllegalArgumentException", .castable "java/lang/IllegalStateException" "java/lang/IllegalStateException", .castable "java/lang/IndexOutOfBoundsException" "java/lang/IndexOutOfBoundsException", .declares ⟨"java/lang/RuntimeException", "<init>", "(Ljava/lang/String;)V"⟩, .declares ⟨"java/lang/Exception", "<init>", "(Ljava/lang/String;)V"⟩, .declares ⟨"java/lang/Throwable", "<init>", "(Ljava/lang/String;)V"⟩]
def strsN : List (Nat × String) := [(134, "place is below 0"), (153, "50 words are learned"), (169, "no word is learned"), (177, "no text of so many letters"), (179, "no such part"), (181, "k is below 0"), (38, "count is not 1 to 9999"), (43, "flags are not 1 to 7"), (51, "there are 16 parts"), (58, "there is a part with these letters"), (68, "flags are not 0 to 7"), (77, "there are 6 links"), (82, "there is a link with these letters"), (93, "no such link")]
def trees9 (j : Nat) : Value := .int ([0, 1, 1, 2, 5, 14, 42, 132, 429].getD j 0)
/-- what holds of the machine beside the world, below lo -/
def GX (lo : Nat) (U : State) (H : Heap) : Prop :=
  (∀ w ∈ wsN, va_Nw w U) ∧ ((∀ q ∈ strsN, ∃ sa : Nat, vk_R "PartSplitter" q.1 q.2 sa U) ∧ va_Nc "java/lang/IllegalStateException" "java/lang/IllegalArgumentException" U ∧ va_Nc "java/lang/IllegalArgumentException" "java/lang/IndexOutOfBoundsException" U) ∧ vx_Zq Bundle.tN "UNASSIGNED_STACK" Bundle.steD (Lo lo) U H ∧ vx_Zq Bundle.tN "SUPPRESSED_SENTINEL" Bundle.listD (Lo lo) U H ∧ ∃ t : Nat, va_Z "PartSplitter" "TREES" "[I" (.ref t) (Lo lo) U H ∧ va_T .int t 9 trees9 (Lo lo) U H
theorem wsN_warm {s U : State} (hW : s.WarmedH U.vm) : ∀ w ∈ wsN, va_Nw w s → va_Nw w U := by
  intro w hw h
  simp only [wsN, List.mem_cons, List.not_mem_nil, or_false] at hw
  rcases hw with rfl | rfl | rfl | rfl | rfl | rfl | rfl | rfl | rfl | rfl | rfl | rfl | rfl | rfl | rfl | rfl | rfl | rfl | rfl | rfl | rfl | rfl | rfl | rfl | rfl <;> first | exact va_Nw.warmF hW h | exact va_Nw.warmM hW h | exact va_Nw.warmC hW h | exact va_Nw.warmD hW h
theorem GX.moved {lo : Nat} {s U : State} {H H1 : Heap} (h : GX lo s H) (hW : s.WarmedH U.vm) (hq : ∀ a : Nat, a < H.size → ¬ Lo lo a → H1[a]? = H[a]?) : GX lo U H1 := by
  obtain ⟨h1, ⟨h2, h7, h8⟩, h3, h4, t, h5, h6⟩ := h
  refine ⟨fun w hw => wsN_warm hW w hw (h1 w hw), ⟨fun q hq' => ?_, h7.moved hW.alike, h8.moved hW.alike⟩, (vx_Zq.moved hW.alike h3).kept hq, (vx_Zq.moved hW.alike h4).kept hq, t, (va_Z.moved hW.alike h5).kept hq, (va_T.moved hW.alike h6).kept hq⟩
  obtain ⟨sa, hs⟩ := h2 q hq'
  exact ⟨sa, hs.warm hW⟩
theorem GX.calling {lo : Nat} {U : State} {H : Heap} (h : GX lo U H) (g : JFrame) (mk : MethodId) (a : Array Value) : GX lo (U.calling g mk a) H := h.moved (U := U.calling g mk a) (State.WarmedH.refl (s := U)) (fun _ _ _ => rfl)
/-- what a method finds -/
def BI (lo : Nat) (G : vG) (ws : va_W) (U : State) : Prop := lo ≤ U.heap.size ∧ va_P G.1 vwCl ws U.heap ∧ va_D (Lo lo) ws ∧ va_K G.1 vwCl (gT G) U ∧ GX lo U U.heap
/-- what it leaves -/
def BO (lo : Nat) (G : vG) (ws : va_W) (t : State) : Prop := va_P G.1 vwCl ws t.heap ∧ va_D (Lo lo) ws
theorem bi_blind (av : List Value) (lo : Nat) (G : vG) (ws : va_W) : FrameBlind (va_Pc av (BI lo G ws)) := fun a U g mk q => by
  obtain ⟨q0, q1, q2, q3, q4, q5⟩ := q
  exact ⟨q0, q1, q2, q3, va_K.moved (u := U) (U := U.calling g mk a) (Vm.Alike.refl U.vm) q4, q5.calling g mk a⟩
def V (X : vX) (lo nL : Nat) (G : vG) (Q : State → Prop) (k n : Nat) (ws : va_W) (lc : List (Nat × Value)) (st : List Value) (pc : Nat) : Prop :=
  ∀ (H : Heap) (locs : List Loc) (ls : Array Slot), va_P G.1 vwCl ws H → va_D (Lo lo) ws → va_S (Lo lo) (xs X).heap H locs → lv_has ls nL lc → W (xp X) (xl X) (xe X) (xR X) (xs X) (xm X) (xa X) (xb X) (xh X) (xc X) H locs k n Q (F0 (xm X) pc ls st)
def Cx (X : vX) (lo nL : Nat) (G : vG) (cc : ByteArray) (own : String) : Prop :=
  (xp X).tables.exec = Jvm.exec ∧ (xc X).code = cc ∧ (xc X).maxLocals = nL ∧ (xs X).vm.findClass own = some (xm X).cls ∧ (∀ w ∈ WA, w.before (xa X) (xs X) = true) ∧ va_K G.1 vwCl (gT G) (xs X) ∧ GX lo (xs X) (xs X).heap ∧ lo ≤ (xs X).heap.size ∧ (xh X).locks = false
section VR
variable {X : vX} {lo nL : Nat} {G : vG} {Q : State → Prop} {k n : Nat} {ws : va_W} {lc : List (Nat × Value)} {st : List Value} {pc : Nat} {cc : ByteArray} {own : String}
theorem Cx.hA (C : Cx X lo nL G cc own) : ∀ q, (xs X).heap.size ≤ q → Lo lo q := fun q h => Nat.le_trans C.2.2.2.2.2.2.2.1 h
theorem Cx.word (C : Cx X lo nL G cc own) {w : Cond} (h : w ∈ WA) : w.before (xa X) (xs X) = true := C.2.2.2.2.1 w h
/-- a weaker world, in another order -/
theorem V.sub {ws' : va_W} (is : List Nat) (hn : va_nd is = true) (h1 : is.map (fun i => ws[i]?) = ws'.map some) (kk : V X lo nL G Q k n ws' lc st pc) : V X lo nL G Q k n ws lc st pc := fun H locs ls hP hD hS hl => kk H locs ls (hP.sub is (by
    have := congrArg (fun l => l.filterMap id) h1
    simpa [List.filterMap_map, Function.comp_def] using this)) (hD.sub is hn h1) hS hl
theorem V.swap {a b c : va_W} (kk : V X lo nL G Q k n (b ++ (a ++ c)) lc st pc) : V X lo nL G Q k n (a ++ (b ++ c)) lc st pc := fun H locs ls hP hD hS hl => by
  have key : ∀ (i : Nat) (q : Nat × va_E), (b ++ (a ++ c))[i]? = some q → ∃ j, (a ++ (b ++ c))[j]? = some q ∧ ((i < b.length ∧ j = a.length + i) ∨ (b.length ≤ i ∧ i < b.length + a.length ∧ j = i - b.length) ∨ (b.length + a.length ≤ i ∧ j = i)) := by
    intro i q hi
    by_cases h1 : i < b.length
    · refine ⟨a.length + i, ?_, Or.inl ⟨h1, rfl⟩⟩
      rw [List.getElem?_append_left h1] at hi
      rw [List.getElem?_append_right (by omega), Nat.add_sub_cancel_left, List.getElem?_append_left h1]
      exact hi
    · rw [List.getElem?_append_right (by omega)] at hi
      by_cases h2 : i - b.length < a.length
      · rw [List.getElem?_append_left h2] at hi
        refine ⟨i - b.length, ?_, Or.inr (Or.inl ⟨by omega, by omega, rfl⟩)⟩
        rw [List.getElem?_append_left h2]
        exact hi
      · rw [List.getElem?_append_right (by omega)] at hi
        refine ⟨i, ?_, Or.inr (Or.inr ⟨by omega, rfl⟩)⟩
        rw [List.getElem?_append_right (by omega), List.getElem?_append_right (by omega), show i - a.length - b.length = i - b.length - a.length by omega]
        exact hi
  refine kk H locs ls (fun i q hi => ?_) ⟨fun i j p q hi hj hpq => ?_, fun i q hi => ?_⟩ hS hl
  · obtain ⟨j, hj, -⟩ := key i q hi
    exact hP j q hj
  · obtain ⟨i', hi', e1⟩ := key i p hi
    obtain ⟨j', hj', e2⟩ := key j q hj
    have := hD.1 i' j' p q hi' hj' hpq
    omega
  · obtain ⟨j, hj, -⟩ := key i q hi
    exact hD.2 j q hj
theorem V.widen {k' n' : Nat} (h1 : k ≤ k') (h2 : n ≤ n') (kk : V X lo nL G Q k' n' ws lc st pc) : V X lo nL G Q k n ws lc st pc := fun H locs ls hP hD hS hl => W.widen h1 h2 (kk H locs ls hP hD hS hl)
theorem V.locs {lc' : List (Nat × Value)} (ks : List Nat) (h : lv_pick lc ks = lc') (kk : V X lo nL G Q k n ws lc' st pc) : V X lo nL G Q k n ws lc st pc := fun H locs ls hP hD hS hl => kk H locs ls hP hD hS (lv_sub hl ks h)
theorem V.worldEq {ws' : va_W} (h : ws = ws') (kk : V X lo nL G Q k n ws' lc st pc) : V X lo nL G Q k n ws lc st pc := h ▸ kk
theorem V_iconst (C : Cx X lo nL G cc own) {i : Int} {v : Int32} (p1 : Nat) (hp : pc + 1 = p1) (d : decode cc pc = .ok (.iconst i, 1)) (hv : Int32.ofInt i = v) (kk : V X lo nL G Q k n ws lc (.int v :: st) p1) : V X lo nL G Q k n ws lc (st) pc := by
  subst hp
  exact fun H locs ls hP hD hS hl => lv_iconst C.1 C.2.1 d hv (kk H locs ls hP hD hS hl)
theorem V_bipush (C : Cx X lo nL G cc own) {i : Int} {v : Int32} (p1 : Nat) (hp : pc + 2 = p1) (d : decode cc pc = .ok (.bipush i, 2)) (hv : (Int8.ofInt i).toInt32 = v) (kk : V X lo nL G Q k n ws lc (.int v :: st) p1) : V X lo nL G Q k n ws lc (st) pc := by
  subst hp
  exact fun H locs ls hP hD hS hl => lv_bipush C.1 C.2.1 d hv (kk H locs ls hP hD hS hl)
theorem V_sipush (C : Cx X lo nL G cc own) {i : Int} {v : Int32} (p1 : Nat) (hp : pc + 3 = p1) (d : decode cc pc = .ok (.sipush i, 3)) (hv : (Int16.ofInt i).toInt32 = v) (kk : V X lo nL G Q k n ws lc (.int v :: st) p1) : V X lo nL G Q k n ws lc (st) pc := by
  subst hp
  exact fun H locs ls hP hD hS hl => lv_sipush C.1 C.2.1 d hv (kk H locs ls hP hD hS hl)
theorem V_lconst (C : Cx X lo nL G cc own) {i : Fin 2} {v : Int64} (p1 : Nat) (hp : pc + 1 = p1) (d : decode cc pc = .ok (.lconst i, 1)) (hv : Int64.ofNat (i : Nat) = v) (kk : V X lo nL G Q k n ws lc (.long v :: st) p1) : V X lo nL G Q k n ws lc (st) pc := by
  subst hp
  exact fun H locs ls hP hD hS hl => lv_lconst C.1 C.2.1 d hv (kk H locs ls hP hD hS hl)
theorem V_ldc2 (C : Cx X lo nL G cc own) {i : Nat} {v : Int64} (p1 : Nat) (hp : pc + 3 = p1) (d : decode cc pc = .ok (.ldc2_w i, 3)) (hw : Cond.constantLong own i v ∈ WA) (kk : V X lo nL G Q k n ws lc (.long v :: st) p1) : V X lo nL G Q k n ws lc (st) pc := by
  subst hp
  exact fun H locs ls hP hD hS hl => lv_ldc2 C.1 C.2.1 C.2.2.2.1 (C.word hw) d (kk H locs ls hP hD hS hl)
theorem V_iload_n (C : Cx X lo nL G cc own) {i : Fin 4} {x : Int32} (p1 : Nat) (hp : pc + 1 = p1) (d : decode cc pc = .ok (.iload_n i, 1)) (j : Nat) (hj : lc[j]? = some ((i : Nat), .int x)) (kk : V X lo nL G Q k n ws lc (.int x :: st) p1) : V X lo nL G Q k n ws lc (st) pc := by
  subst hp
  exact fun H locs ls hP hD hS hl => lv_iload_n C.1 C.2.1 d rfl (lv_at hl j hj) (kk H locs ls hP hD hS hl)
theorem V_iload (C : Cx X lo nL G cc own) {i : Nat} {x : Int32} (p1 : Nat) (hp : pc + 2 = p1) (d : decode cc pc = .ok (.iload i, 2)) (j : Nat) (hj : lc[j]? = some (i, .int x)) (kk : V X lo nL G Q k n ws lc (.int x :: st) p1) : V X lo nL G Q k n ws lc (st) pc := by
  subst hp
  exact fun H locs ls hP hD hS hl => lv_iload C.1 C.2.1 d (lv_at hl j hj) (kk H locs ls hP hD hS hl)
theorem V_istore_n (C : Cx X lo nL G cc own) {i : Fin 4} {x : Int32} {lc1 : List (Nat × Value)} (p1 : Nat) (hp : pc + 1 = p1) (d : decode cc pc = .ok (.istore_n i, 1)) (hn : (i : Nat) < nL) (hlc : ((i : Nat), Value.int x) :: lc.filter (fun q => !(q.1 == (i : Nat)) && !(q.1 + 1 == (i : Nat) && q.2.category == 2)) = lc1) (kk : V X lo nL G Q k n ws lc1 (st) p1) : V X lo nL G Q k n ws lc (.int x :: st) pc := by
  subst hp
  exact fun H locs ls hP hD hS hl => lv_istore_n C.1 C.2.1 d rfl hl hn hlc (fun ls hl => kk H locs ls hP hD hS hl)
theorem V_istore (C : Cx X lo nL G cc own) {i : Nat} {x : Int32} {lc1 : List (Nat × Value)} (p1 : Nat) (hp : pc + 2 = p1) (d : decode cc pc = .ok (.istore i, 2)) (hn : i < nL) (hlc : (i, Value.int x) :: lc.filter (fun q => !(q.1 == i) && !(q.1 + 1 == i && q.2.category == 2)) = lc1) (kk : V X lo nL G Q k n ws lc1 (st) p1) : V X lo nL G Q k n ws lc (.int x :: st) pc := by
  subst hp
  exact fun H locs ls hP hD hS hl => lv_istore C.1 C.2.1 d hl hn hlc (fun ls hl => kk H locs ls hP hD hS hl)
theorem V_lload_n (C : Cx X lo nL G cc own) {i : Fin 4} {x : Int64} (p1 : Nat) (hp : pc + 1 = p1) (d : decode cc pc = .ok (.lload_n i, 1)) (j : Nat) (hj : lc[j]? = some ((i : Nat), .long x)) (kk : V X lo nL G Q k n ws lc (.long x :: st) p1) : V X lo nL G Q k n ws lc (st) pc := by
  subst hp
  exact fun H locs ls hP hD hS hl => lv_lload_n C.1 C.2.1 d rfl (lv_at hl j hj) (kk H locs ls hP hD hS hl)
theorem V_lload (C : Cx X lo nL G cc own) {i : Nat} {x : Int64} (p1 : Nat) (hp : pc + 2 = p1) (d : decode cc pc = .ok (.lload i, 2)) (j : Nat) (hj : lc[j]? = some (i, .long x)) (kk : V X lo nL G Q k n ws lc (.long x :: st) p1) : V X lo nL G Q k n ws lc (st) pc := by
  subst hp
  exact fun H locs ls hP hD hS hl => lv_lload C.1 C.2.1 d (lv_at hl j hj) (kk H locs ls hP hD hS hl)
theorem V_lstore_n (C : Cx X lo nL G cc own) {i : Fin 4} {x : Int64} {lc1 : List (Nat × Value)} (p1 : Nat) (hp : pc + 1 = p1) (d : decode cc pc = .ok (.lstore_n i, 1)) (hn : (i : Nat) + 1 < nL) (hlc : ((i : Nat), Value.long x) :: lc.filter (fun q => !(q.1 == (i : Nat)) && (!(q.1 == (i : Nat) + 1) && !(q.1 + 1 == (i : Nat) && q.2.category == 2))) = lc1) (kk : V X lo nL G Q k n ws lc1 (st) p1) : V X lo nL G Q k n ws lc (.long x :: st) pc := by
  subst hp
  exact fun H locs ls hP hD hS hl => lv_lstore_n C.1 C.2.1 d rfl hl hn hlc (fun ls hl => kk H locs ls hP hD hS hl)
theorem V_lstore (C : Cx X lo nL G cc own) {i : Nat} {x : Int64} {lc1 : List (Nat × Value)} (p1 : Nat) (hp : pc + 2 = p1) (d : decode cc pc = .ok (.lstore i, 2)) (hn : i + 1 < nL) (hlc : (i, Value.long x) :: lc.filter (fun q => !(q.1 == i) && (!(q.1 == i + 1) && !(q.1 + 1 == i && q.2.category == 2))) = lc1) (kk : V X lo nL G Q k n ws lc1 (st) p1) : V X lo nL G Q k n ws lc (.long x :: st) pc := by
  subst hp
  exact fun H locs ls hP hD hS hl => lv_lstore C.1 C.2.1 d hl hn hlc (fun ls hl => kk H locs ls hP hD hS hl)
theorem V_aload_n (C : Cx X lo nL G cc own) {i : Fin 4} {x : Nat} (p1 : Nat) (hp : pc + 1 = p1) (d : decode cc pc = .ok (.aload_n i, 1)) (j : Nat) (hj : lc[j]? = some ((i : Nat), .ref x)) (kk : V X lo nL G Q k n ws lc (.ref x :: st) p1) : V X lo nL G Q k n ws lc (st) pc := by
  subst hp
  exact fun H locs ls hP hD hS hl => lv_aload_n C.1 C.2.1 d rfl (lv_at hl j hj) (kk H locs ls hP hD hS hl)
theorem V_aload (C : Cx X lo nL G cc own) {i : Nat} {x : Nat} (p1 : Nat) (hp : pc + 2 = p1) (d : decode cc pc = .ok (.aload i, 2)) (j : Nat) (hj : lc[j]? = some (i, .ref x)) (kk : V X lo nL G Q k n ws lc (.ref x :: st) p1) : V X lo nL G Q k n ws lc (st) pc := by
  subst hp
  exact fun H locs ls hP hD hS hl => lv_aload C.1 C.2.1 d (lv_at hl j hj) (kk H locs ls hP hD hS hl)
theorem V_astore_n (C : Cx X lo nL G cc own) {i : Fin 4} {x : Nat} {lc1 : List (Nat × Value)} (p1 : Nat) (hp : pc + 1 = p1) (d : decode cc pc = .ok (.astore_n i, 1)) (hn : (i : Nat) < nL) (hlc : ((i : Nat), Value.ref x) :: lc.filter (fun q => !(q.1 == (i : Nat)) && !(q.1 + 1 == (i : Nat) && q.2.category == 2)) = lc1) (kk : V X lo nL G Q k n ws lc1 (st) p1) : V X lo nL G Q k n ws lc (.ref x :: st) pc := by
  subst hp
  exact fun H locs ls hP hD hS hl => lv_astore_n C.1 C.2.1 d rfl hl hn hlc (fun ls hl => kk H locs ls hP hD hS hl)
theorem V_astore (C : Cx X lo nL G cc own) {i : Nat} {x : Nat} {lc1 : List (Nat × Value)} (p1 : Nat) (hp : pc + 2 = p1) (d : decode cc pc = .ok (.astore i, 2)) (hn : i < nL) (hlc : (i, Value.ref x) :: lc.filter (fun q => !(q.1 == i) && !(q.1 + 1 == i && q.2.category == 2)) = lc1) (kk : V X lo nL G Q k n ws lc1 (st) p1) : V X lo nL G Q k n ws lc (.ref x :: st) pc := by
  subst hp
  exact fun H locs ls hP hD hS hl => lv_astore C.1 C.2.1 d hl hn hlc (fun ls hl => kk H locs ls hP hD hS hl)
theorem V_iinc (C : Cx X lo nL G cc own) {i : Nat} {a : Int} {x v : Int32} {lc1 : List (Nat × Value)} (p1 : Nat) (hp : pc + 3 = p1) (d : decode cc pc = .ok (.iinc i a, 3)) (j : Nat) (hj : lc[j]? = some (i, .int x)) (hv : x + Int32.ofInt a = v) (hn : i < nL) (hlc : (i, Value.int v) :: lc.filter (fun q => !(q.1 == i) && !(q.1 + 1 == i && q.2.category == 2)) = lc1) (kk : V X lo nL G Q k n ws lc1 (st) p1) : V X lo nL G Q k n ws lc (st) pc := by
  subst hp
  exact fun H locs ls hP hD hS hl => lv_iinc C.1 C.2.1 d hl hj hv hn hlc (fun ls hl => kk H locs ls hP hD hS hl)
theorem V_iadd (C : Cx X lo nL G cc own) {x y : Int32} (p1 : Nat) (hp : pc + 1 = p1) (d : decode cc pc = .ok (.iadd, 1))  (kk : V X lo nL G Q k n ws lc (.int (x + y) :: st) p1) : V X lo nL G Q k n ws lc (.int y :: .int x :: st) pc := by
  subst hp
  exact fun H locs ls hP hD hS hl => lv_iadd C.1 C.2.1 d (kk H locs ls hP hD hS hl)
theorem V_isub (C : Cx X lo nL G cc own) {x y : Int32} (p1 : Nat) (hp : pc + 1 = p1) (d : decode cc pc = .ok (.isub, 1))  (kk : V X lo nL G Q k n ws lc (.int (x - y) :: st) p1) : V X lo nL G Q k n ws lc (.int y :: .int x :: st) pc := by
  subst hp
  exact fun H locs ls hP hD hS hl => lv_isub C.1 C.2.1 d (kk H locs ls hP hD hS hl)
theorem V_imul (C : Cx X lo nL G cc own) {x y : Int32} (p1 : Nat) (hp : pc + 1 = p1) (d : decode cc pc = .ok (.imul, 1))  (kk : V X lo nL G Q k n ws lc (.int (x * y) :: st) p1) : V X lo nL G Q k n ws lc (.int y :: .int x :: st) pc := by
  subst hp
  exact fun H locs ls hP hD hS hl => lv_imul C.1 C.2.1 d (kk H locs ls hP hD hS hl)
theorem V_iand (C : Cx X lo nL G cc own) {x y : Int32} (p1 : Nat) (hp : pc + 1 = p1) (d : decode cc pc = .ok (.iand, 1))  (kk : V X lo nL G Q k n ws lc (.int (x &&& y) :: st) p1) : V X lo nL G Q k n ws lc (.int y :: .int x :: st) pc := by
  subst hp
  exact fun H locs ls hP hD hS hl => lv_iand C.1 C.2.1 d (kk H locs ls hP hD hS hl)
theorem V_ior (C : Cx X lo nL G cc own) {x y : Int32} (p1 : Nat) (hp : pc + 1 = p1) (d : decode cc pc = .ok (.ior, 1))  (kk : V X lo nL G Q k n ws lc (.int (x ||| y) :: st) p1) : V X lo nL G Q k n ws lc (.int y :: .int x :: st) pc := by
  subst hp
  exact fun H locs ls hP hD hS hl => lv_ior C.1 C.2.1 d (kk H locs ls hP hD hS hl)
theorem V_ixor (C : Cx X lo nL G cc own) {x y : Int32} (p1 : Nat) (hp : pc + 1 = p1) (d : decode cc pc = .ok (.ixor, 1))  (kk : V X lo nL G Q k n ws lc (.int (x ^^^ y) :: st) p1) : V X lo nL G Q k n ws lc (.int y :: .int x :: st) pc := by
  subst hp
  exact fun H locs ls hP hD hS hl => lv_ixor C.1 C.2.1 d (kk H locs ls hP hD hS hl)
theorem V_ishl (C : Cx X lo nL G cc own) {x y : Int32} (p1 : Nat) (hp : pc + 1 = p1) (d : decode cc pc = .ok (.ishl, 1))  (kk : V X lo nL G Q k n ws lc (.int (x <<< (y &&& 31)) :: st) p1) : V X lo nL G Q k n ws lc (.int y :: .int x :: st) pc := by
  subst hp
  exact fun H locs ls hP hD hS hl => lv_ishl C.1 C.2.1 d (kk H locs ls hP hD hS hl)
theorem V_ishr (C : Cx X lo nL G cc own) {x y : Int32} (p1 : Nat) (hp : pc + 1 = p1) (d : decode cc pc = .ok (.ishr, 1))  (kk : V X lo nL G Q k n ws lc (.int (x >>> (y &&& 31)) :: st) p1) : V X lo nL G Q k n ws lc (.int y :: .int x :: st) pc := by
  subst hp
  exact fun H locs ls hP hD hS hl => lv_ishr C.1 C.2.1 d (kk H locs ls hP hD hS hl)
theorem V_idiv (C : Cx X lo nL G cc own) {x y : Int32} (p1 : Nat) (hp : pc + 1 = p1) (d : decode cc pc = .ok (.idiv, 1)) (hne : ¬ y = 0) (kk : V X lo nL G Q k n ws lc (.int (x / y) :: st) p1) : V X lo nL G Q k n ws lc (.int y :: .int x :: st) pc := by
  subst hp
  exact fun H locs ls hP hD hS hl => lv_idiv C.1 C.2.1 d hne (kk H locs ls hP hD hS hl)
theorem V_irem (C : Cx X lo nL G cc own) {x y : Int32} (p1 : Nat) (hp : pc + 1 = p1) (d : decode cc pc = .ok (.irem, 1)) (hne : ¬ y = 0) (kk : V X lo nL G Q k n ws lc (.int (x - x / y * y) :: st) p1) : V X lo nL G Q k n ws lc (.int y :: .int x :: st) pc := by
  subst hp
  exact fun H locs ls hP hD hS hl => lv_irem C.1 C.2.1 d hne (kk H locs ls hP hD hS hl)
theorem V_ladd (C : Cx X lo nL G cc own) {x y : Int64} (p1 : Nat) (hp : pc + 1 = p1) (d : decode cc pc = .ok (.ladd, 1))  (kk : V X lo nL G Q k n ws lc (.long (x + y) :: st) p1) : V X lo nL G Q k n ws lc (.long y :: .long x :: st) pc := by
  subst hp
  exact fun H locs ls hP hD hS hl => lv_ladd C.1 C.2.1 d (kk H locs ls hP hD hS hl)
theorem V_lsub (C : Cx X lo nL G cc own) {x y : Int64} (p1 : Nat) (hp : pc + 1 = p1) (d : decode cc pc = .ok (.lsub, 1))  (kk : V X lo nL G Q k n ws lc (.long (x - y) :: st) p1) : V X lo nL G Q k n ws lc (.long y :: .long x :: st) pc := by
  subst hp
  exact fun H locs ls hP hD hS hl => lv_lsub C.1 C.2.1 d (kk H locs ls hP hD hS hl)
theorem V_lmul (C : Cx X lo nL G cc own) {x y : Int64} (p1 : Nat) (hp : pc + 1 = p1) (d : decode cc pc = .ok (.lmul, 1))  (kk : V X lo nL G Q k n ws lc (.long (x * y) :: st) p1) : V X lo nL G Q k n ws lc (.long y :: .long x :: st) pc := by
  subst hp
  exact fun H locs ls hP hD hS hl => lv_lmul C.1 C.2.1 d (kk H locs ls hP hD hS hl)
theorem V_lor (C : Cx X lo nL G cc own) {x y : Int64} (p1 : Nat) (hp : pc + 1 = p1) (d : decode cc pc = .ok (.lor, 1))  (kk : V X lo nL G Q k n ws lc (.long (x ||| y) :: st) p1) : V X lo nL G Q k n ws lc (.long y :: .long x :: st) pc := by
  subst hp
  exact fun H locs ls hP hD hS hl => lv_lor C.1 C.2.1 d (kk H locs ls hP hD hS hl)
theorem V_ldiv (C : Cx X lo nL G cc own) {x y : Int64} (p1 : Nat) (hp : pc + 1 = p1) (d : decode cc pc = .ok (.ldiv, 1)) (hne : ¬ y = 0) (kk : V X lo nL G Q k n ws lc (.long (x / y) :: st) p1) : V X lo nL G Q k n ws lc (.long y :: .long x :: st) pc := by
  subst hp
  exact fun H locs ls hP hD hS hl => lv_ldiv C.1 C.2.1 d hne (kk H locs ls hP hD hS hl)
theorem V_lrem (C : Cx X lo nL G cc own) {x y : Int64} (p1 : Nat) (hp : pc + 1 = p1) (d : decode cc pc = .ok (.lrem, 1)) (hne : ¬ y = 0) (kk : V X lo nL G Q k n ws lc (.long (x - x / y * y) :: st) p1) : V X lo nL G Q k n ws lc (.long y :: .long x :: st) pc := by
  subst hp
  exact fun H locs ls hP hD hS hl => lv_lrem C.1 C.2.1 d hne (kk H locs ls hP hD hS hl)
theorem V_lushr (C : Cx X lo nL G cc own) {x : Int64} {y : Int32} (p1 : Nat) (hp : pc + 1 = p1) (d : decode cc pc = .ok (.lushr, 1))  (kk : V X lo nL G Q k n ws lc (.long ((x.toUInt64 >>> (y.toInt64.toUInt64 &&& Int64.toUInt64 63)).toInt64) :: st) p1) : V X lo nL G Q k n ws lc (.int y :: .long x :: st) pc := by
  subst hp
  exact fun H locs ls hP hD hS hl => lv_lushr C.1 C.2.1 d rfl (kk H locs ls hP hD hS hl)
theorem V_lshl (C : Cx X lo nL G cc own) {x : Int64} {y : Int32} (p1 : Nat) (hp : pc + 1 = p1) (d : decode cc pc = .ok (.lshl, 1))  (kk : V X lo nL G Q k n ws lc (.long (x <<< (y.toInt64 &&& 63)) :: st) p1) : V X lo nL G Q k n ws lc (.int y :: .long x :: st) pc := by
  subst hp
  exact fun H locs ls hP hD hS hl => lv_lshl C.1 C.2.1 d rfl (kk H locs ls hP hD hS hl)
theorem V_i2l (C : Cx X lo nL G cc own) {x : Int32} (p1 : Nat) (hp : pc + 1 = p1) (d : decode cc pc = .ok (.i2l, 1))  (kk : V X lo nL G Q k n ws lc (.long x.toInt64 :: st) p1) : V X lo nL G Q k n ws lc (.int x :: st) pc := by
  subst hp
  exact fun H locs ls hP hD hS hl => lv_i2l C.1 C.2.1 d rfl (kk H locs ls hP hD hS hl)
theorem V_l2i (C : Cx X lo nL G cc own) {x : Int64} (p1 : Nat) (hp : pc + 1 = p1) (d : decode cc pc = .ok (.l2i, 1))  (kk : V X lo nL G Q k n ws lc (.int x.toInt32 :: st) p1) : V X lo nL G Q k n ws lc (.long x :: st) pc := by
  subst hp
  exact fun H locs ls hP hD hS hl => lv_l2i C.1 C.2.1 d rfl (kk H locs ls hP hD hS hl)
theorem V_lcmp (C : Cx X lo nL G cc own) {x y : Int64} (p1 : Nat) (hp : pc + 1 = p1) (d : decode cc pc = .ok (.lcmp, 1))  (kk : V X lo nL G Q k n ws lc (.int (lg_cmp x y) :: st) p1) : V X lo nL G Q k n ws lc (.long y :: .long x :: st) pc := by
  subst hp
  exact fun H locs ls hP hD hS hl => W.lcmp C.1 C.2.1 d (kk H locs ls hP hD hS hl)
theorem V_dup (C : Cx X lo nL G cc own) {v : Value} (p1 : Nat) (hp : pc + 1 = p1) (d : decode cc pc = .ok (.dup, 1)) (hv : v.category = 1) (kk : V X lo nL G Q k n ws lc (v :: v :: st) p1) : V X lo nL G Q k n ws lc (v :: st) pc := by
  subst hp
  exact fun H locs ls hP hD hS hl => lv_dup C.1 C.2.1 d hv (kk H locs ls hP hD hS hl)
theorem V_dup2 (C : Cx X lo nL G cc own) {v u : Value} (p1 : Nat) (hp : pc + 1 = p1) (d : decode cc pc = .ok (.dup2, 1)) (hv : v.category = 1) (hu : u.category = 1) (kk : V X lo nL G Q k n ws lc (v :: u :: v :: u :: st) p1) : V X lo nL G Q k n ws lc (v :: u :: st) pc := by
  subst hp
  exact fun H locs ls hP hD hS hl => lv_dup2_11 C.1 C.2.1 d hv hu (kk H locs ls hP hD hS hl)
theorem V_pop (C : Cx X lo nL G cc own) {v : Value} (p1 : Nat) (hp : pc + 1 = p1) (d : decode cc pc = .ok (.pop, 1)) (hv : v.category = 1) (kk : V X lo nL G Q k n ws lc (st) p1) : V X lo nL G Q k n ws lc (v :: st) pc := by
  subst hp
  exact fun H locs ls hP hD hS hl => lv_pop C.1 C.2.1 d hv (kk H locs ls hP hD hS hl)
theorem V_if_eq (C : Cx X lo nL G cc own) {x : Int32} {off : Int} (p1 tgt : Nat) (hp : pc + 3 = p1) (d : decode cc pc = .ok (.ifCond .eq off, 3)) (ht : (pc : Int) + off = (tgt : Int)) (kt : x = 0 → V X lo nL G Q k n ws lc st tgt) (kf : ¬ x = 0 → V X lo nL G Q k n ws lc st p1) : V X lo nL G Q k n ws lc (.int x :: st) pc := by
  subst hp
  exact fun H locs ls hP hD hS hl => lv_if_eq C.1 C.2.1 d ht (fun c => kt c H locs ls hP hD hS hl) (fun c => kf c H locs ls hP hD hS hl)
theorem V_if_ne (C : Cx X lo nL G cc own) {x : Int32} {off : Int} (p1 tgt : Nat) (hp : pc + 3 = p1) (d : decode cc pc = .ok (.ifCond .ne off, 3)) (ht : (pc : Int) + off = (tgt : Int)) (kt : ¬ x = 0 → V X lo nL G Q k n ws lc st tgt) (kf : x = 0 → V X lo nL G Q k n ws lc st p1) : V X lo nL G Q k n ws lc (.int x :: st) pc := by
  subst hp
  exact fun H locs ls hP hD hS hl => lv_if_ne C.1 C.2.1 d ht (fun c => kt c H locs ls hP hD hS hl) (fun c => kf c H locs ls hP hD hS hl)
theorem V_if_lt (C : Cx X lo nL G cc own) {x : Int32} {off : Int} (p1 tgt : Nat) (hp : pc + 3 = p1) (d : decode cc pc = .ok (.ifCond .lt off, 3)) (ht : (pc : Int) + off = (tgt : Int)) (kt : x < 0 → V X lo nL G Q k n ws lc st tgt) (kf : ¬ x < 0 → V X lo nL G Q k n ws lc st p1) : V X lo nL G Q k n ws lc (.int x :: st) pc := by
  subst hp
  exact fun H locs ls hP hD hS hl => lv_if_lt C.1 C.2.1 d ht (fun c => kt c H locs ls hP hD hS hl) (fun c => kf c H locs ls hP hD hS hl)
theorem V_if_ge (C : Cx X lo nL G cc own) {x : Int32} {off : Int} (p1 tgt : Nat) (hp : pc + 3 = p1) (d : decode cc pc = .ok (.ifCond .ge off, 3)) (ht : (pc : Int) + off = (tgt : Int)) (kt : 0 ≤ x → V X lo nL G Q k n ws lc st tgt) (kf : ¬ 0 ≤ x → V X lo nL G Q k n ws lc st p1) : V X lo nL G Q k n ws lc (.int x :: st) pc := by
  subst hp
  exact fun H locs ls hP hD hS hl => lv_if_ge C.1 C.2.1 d ht (fun c => kt c H locs ls hP hD hS hl) (fun c => kf c H locs ls hP hD hS hl)
theorem V_if_gt (C : Cx X lo nL G cc own) {x : Int32} {off : Int} (p1 tgt : Nat) (hp : pc + 3 = p1) (d : decode cc pc = .ok (.ifCond .gt off, 3)) (ht : (pc : Int) + off = (tgt : Int)) (kt : 0 < x → V X lo nL G Q k n ws lc st tgt) (kf : ¬ 0 < x → V X lo nL G Q k n ws lc st p1) : V X lo nL G Q k n ws lc (.int x :: st) pc := by
  subst hp
  exact fun H locs ls hP hD hS hl => lv_if_gt C.1 C.2.1 d ht (fun c => kt c H locs ls hP hD hS hl) (fun c => kf c H locs ls hP hD hS hl)
theorem V_if_le (C : Cx X lo nL G cc own) {x : Int32} {off : Int} (p1 tgt : Nat) (hp : pc + 3 = p1) (d : decode cc pc = .ok (.ifCond .le off, 3)) (ht : (pc : Int) + off = (tgt : Int)) (kt : x ≤ 0 → V X lo nL G Q k n ws lc st tgt) (kf : ¬ x ≤ 0 → V X lo nL G Q k n ws lc st p1) : V X lo nL G Q k n ws lc (.int x :: st) pc := by
  subst hp
  exact fun H locs ls hP hD hS hl => lv_if_le C.1 C.2.1 d ht (fun c => kt c H locs ls hP hD hS hl) (fun c => kf c H locs ls hP hD hS hl)
theorem V_icmp_eq (C : Cx X lo nL G cc own) {x y : Int32} {off : Int} (p1 tgt : Nat) (hp : pc + 3 = p1) (d : decode cc pc = .ok (.if_icmp .eq off, 3)) (ht : (pc : Int) + off = (tgt : Int)) (kt : x = y → V X lo nL G Q k n ws lc st tgt) (kf : ¬ x = y → V X lo nL G Q k n ws lc st p1) : V X lo nL G Q k n ws lc (.int y :: .int x :: st) pc := by
  subst hp
  exact fun H locs ls hP hD hS hl => lv_icmp_eq C.1 C.2.1 d ht (fun c => kt c H locs ls hP hD hS hl) (fun c => kf c H locs ls hP hD hS hl)
theorem V_icmp_ne (C : Cx X lo nL G cc own) {x y : Int32} {off : Int} (p1 tgt : Nat) (hp : pc + 3 = p1) (d : decode cc pc = .ok (.if_icmp .ne off, 3)) (ht : (pc : Int) + off = (tgt : Int)) (kt : ¬ x = y → V X lo nL G Q k n ws lc st tgt) (kf : x = y → V X lo nL G Q k n ws lc st p1) : V X lo nL G Q k n ws lc (.int y :: .int x :: st) pc := by
  subst hp
  exact fun H locs ls hP hD hS hl => lv_icmp_ne C.1 C.2.1 d ht (fun c => kt c H locs ls hP hD hS hl) (fun c => kf c H locs ls hP hD hS hl)
theorem V_icmp_lt (C : Cx X lo nL G cc own) {x y : Int32} {off : Int} (p1 tgt : Nat) (hp : pc + 3 = p1) (d : decode cc pc = .ok (.if_icmp .lt off, 3)) (ht : (pc : Int) + off = (tgt : Int)) (kt : x < y → V X lo nL G Q k n ws lc st tgt) (kf : ¬ x < y → V X lo nL G Q k n ws lc st p1) : V X lo nL G Q k n ws lc (.int y :: .int x :: st) pc := by
  subst hp
  exact fun H locs ls hP hD hS hl => lv_icmp_lt C.1 C.2.1 d ht (fun c => kt c H locs ls hP hD hS hl) (fun c => kf c H locs ls hP hD hS hl)
theorem V_icmp_ge (C : Cx X lo nL G cc own) {x y : Int32} {off : Int} (p1 tgt : Nat) (hp : pc + 3 = p1) (d : decode cc pc = .ok (.if_icmp .ge off, 3)) (ht : (pc : Int) + off = (tgt : Int)) (kt : y ≤ x → V X lo nL G Q k n ws lc st tgt) (kf : ¬ y ≤ x → V X lo nL G Q k n ws lc st p1) : V X lo nL G Q k n ws lc (.int y :: .int x :: st) pc := by
  subst hp
  exact fun H locs ls hP hD hS hl => lv_icmp_ge C.1 C.2.1 d ht (fun c => kt c H locs ls hP hD hS hl) (fun c => kf c H locs ls hP hD hS hl)
theorem V_icmp_gt (C : Cx X lo nL G cc own) {x y : Int32} {off : Int} (p1 tgt : Nat) (hp : pc + 3 = p1) (d : decode cc pc = .ok (.if_icmp .gt off, 3)) (ht : (pc : Int) + off = (tgt : Int)) (kt : y < x → V X lo nL G Q k n ws lc st tgt) (kf : ¬ y < x → V X lo nL G Q k n ws lc st p1) : V X lo nL G Q k n ws lc (.int y :: .int x :: st) pc := by
  subst hp
  exact fun H locs ls hP hD hS hl => lv_icmp_gt C.1 C.2.1 d ht (fun c => kt c H locs ls hP hD hS hl) (fun c => kf c H locs ls hP hD hS hl)
theorem V_icmp_le (C : Cx X lo nL G cc own) {x y : Int32} {off : Int} (p1 tgt : Nat) (hp : pc + 3 = p1) (d : decode cc pc = .ok (.if_icmp .le off, 3)) (ht : (pc : Int) + off = (tgt : Int)) (kt : x ≤ y → V X lo nL G Q k n ws lc st tgt) (kf : ¬ x ≤ y → V X lo nL G Q k n ws lc st p1) : V X lo nL G Q k n ws lc (.int y :: .int x :: st) pc := by
  subst hp
  exact fun H locs ls hP hD hS hl => lv_icmp_le C.1 C.2.1 d ht (fun c => kt c H locs ls hP hD hS hl) (fun c => kf c H locs ls hP hD hS hl)
theorem V_goto (C : Cx X lo nL G cc own) {off : Int} (tgt : Nat) (d : decode cc pc = .ok (.goto off, 3)) (ht : (pc : Int) + off = (tgt : Int)) (kk : V X lo nL G Q k n ws lc st tgt) : V X lo nL G Q k n ws lc st pc := fun H locs ls hP hD hS hl => lv_goto C.1 C.2.1 d ht (kk H locs ls hP hD hS hl)
theorem V_topi {x : Int32} (kk : ∀ y : Int32, y = x → V X lo nL G Q k n ws lc (.int y :: st) pc) : V X lo nL G Q k n ws lc (.int x :: st) pc := kk x rfl
theorem V_topl {x : Int64} (kk : ∀ y : Int64, y = x → V X lo nL G Q k n ws lc (.long y :: st) pc) : V X lo nL G Q k n ws lc (.long x :: st) pc := kk x rfl
theorem V_toi {x : Int32} (y : Int32) (h : x = y) (kk : V X lo nL G Q k n ws lc (.int y :: st) pc) : V X lo nL G Q k n ws lc (.int x :: st) pc := h ▸ kk
theorem V_tol {x : Int64} (y : Int64) (h : x = y) (kk : V X lo nL G Q k n ws lc (.long y :: st) pc) : V X lo nL G Q k n ws lc (.long x :: st) pc := h ▸ kk
theorem V_iald (C : Cx X lo nL G cc own) {i : Int32} {a N : Nat} {f : Nat → Int32} (p1 : Nat) (hp : pc + 1 = p1) (d : decode cc pc = .ok (.iaload, 1)) (q0 : Nat) (ha : ws[q0]? = some (a, .inl (G.2.1, N, .inl f))) (hin : vp_in i N) (kk : V X lo nL G Q k n ws lc (.int (f i.toNatClampNeg) :: st) p1) : V X lo nL G Q k n ws lc (.int i :: .ref a :: st) pc := by
  subst hp
  exact fun H locs ls hP hD hS hl => va_iald C.1 C.2.1 C.2.2.2.2.2.1 hP q0 0 ha rfl hin d (kk H locs ls hP hD hS hl)
theorem V_lald (C : Cx X lo nL G cc own) {i : Int32} {a N : Nat} {f : Nat → Int64} (p1 : Nat) (hp : pc + 1 = p1) (d : decode cc pc = .ok (.laload, 1)) (q0 : Nat) (ha : ws[q0]? = some (a, .inl (G.2.2.1, N, .inr (.inl f)))) (hin : vp_in i N) (kk : V X lo nL G Q k n ws lc (.long (f i.toNatClampNeg) :: st) p1) : V X lo nL G Q k n ws lc (.int i :: .ref a :: st) pc := by
  subst hp
  exact fun H locs ls hP hD hS hl => va_lald C.1 C.2.1 C.2.2.2.2.2.1 hP q0 1 ha rfl hin d (kk H locs ls hP hD hS hl)
theorem V_zald (C : Cx X lo nL G cc own) {i : Int32} {a N : Nat} {f : Nat → Int32} (p1 : Nat) (hp : pc + 1 = p1) (d : decode cc pc = .ok (.baload, 1)) (q0 : Nat) (ha : ws[q0]? = some (a, .inl (G.2.2.2, N, .inl f))) (hin : vp_in i N) (kk : V X lo nL G Q k n ws lc (.int (f i.toNatClampNeg) :: st) p1) : V X lo nL G Q k n ws lc (.int i :: .ref a :: st) pc := by
  subst hp
  exact fun H locs ls hP hD hS hl => va_zald C.1 C.2.1 C.2.2.2.2.2.1 hP q0 2 ha rfl hin d (kk H locs ls hP hD hS hl)
theorem V_iast (C : Cx X lo nL G cc own) {i : Int32} {x : Int32} {a N : Nat} {f : Nat → Int32} (p1 : Nat) (hp : pc + 1 = p1) (d : decode cc pc = .ok (.iastore, 1)) (q0 : Nat) (ha : ws[q0]? = some (a, .inl (G.2.1, N, .inl f))) (hin : vp_in i N) (ws1 : va_W) (hw : ws.set q0 (a, .inl (G.2.1, N, .inl (upd f i.toNatClampNeg x))) = ws1) (kk : V X lo nL G Q k n ws1 lc (st) p1) : V X lo nL G Q k n ws lc (.int x :: .int i :: .ref a :: st) pc := by
  subst hp
  exact fun H locs ls hP hD hS hl => va_iast C.1 C.2.1 C.2.2.2.2.2.1 hP hD hS q0 0 ha rfl hin d (fun H locs hP hD hS => kk H locs ls (hw ▸ hP) (hw ▸ hD) hS hl)
theorem V_last (C : Cx X lo nL G cc own) {i : Int32} {x : Int64} {a N : Nat} {f : Nat → Int64} (p1 : Nat) (hp : pc + 1 = p1) (d : decode cc pc = .ok (.lastore, 1)) (q0 : Nat) (ha : ws[q0]? = some (a, .inl (G.2.2.1, N, .inr (.inl f)))) (hin : vp_in i N) (ws1 : va_W) (hw : ws.set q0 (a, .inl (G.2.2.1, N, .inr (.inl (vp_updL f i.toNatClampNeg x)))) = ws1) (kk : V X lo nL G Q k n ws1 lc (st) p1) : V X lo nL G Q k n ws lc (.long x :: .int i :: .ref a :: st) pc := by
  subst hp
  exact fun H locs ls hP hD hS hl => va_last C.1 C.2.1 C.2.2.2.2.2.1 hP hD hS q0 1 ha rfl hin d (fun H locs hP hD hS => kk H locs ls (hw ▸ hP) (hw ▸ hD) hS hl)
theorem V_zast (C : Cx X lo nL G cc own) {i : Int32} {x : Int32} {a N : Nat} {f : Nat → Int32} (p1 : Nat) (hp : pc + 1 = p1) (d : decode cc pc = .ok (.bastore, 1)) (q0 : Nat) (ha : ws[q0]? = some (a, .inl (G.2.2.2, N, .inl f))) (hin : vp_in i N) (ws1 : va_W) (hw : ws.set q0 (a, .inl (G.2.2.2, N, .inl (upd f i.toNatClampNeg (vp_nar .boolean x)))) = ws1) (kk : V X lo nL G Q k n ws1 lc (st) p1) : V X lo nL G Q k n ws lc (.int x :: .int i :: .ref a :: st) pc := by
  subst hp
  exact fun H locs ls hP hD hS hl => va_zast C.1 C.2.1 C.2.2.2.2.2.1 hP hD hS q0 2 ha rfl hin d (fun H locs hP hD hS => kk H locs ls (hw ▸ hP) (hw ▸ hD) hS hl)
theorem V_get (C : Cx X lo nL G cc own) {ref : String} {ci index N a : Nat} {Cn : String} {T : u_T} (hin : ∀ w ∈ u_ws Cn T N, w ∈ WA) (hc : vwCl[ci]? = some (Cn, T, N)) (kf : Nat) (hk : kf < N) (hlink : Cond.fieldLink own index ref (T kf).2.1 (T kf).2.2.1 ∈ WA) (hsame : (T kf).1 = ref) (q0 : Nat) {fs : List Value} (he : ws[q0]? = some (a, .inr (ci, fs))) {v : Value} (hv : fs[kf]? = some v) (p1 : Nat) (hp : pc + 3 = p1) (d : decode cc pc = .ok (.getfield index, 3)) (kk : V X lo nL G Q k n ws lc (v :: st) p1) : V X lo nL G Q k n ws lc (.ref a :: st) pc := by
  subst hp
  subst hsame
  exact fun H locs ls hP hD hS hl => va_get C.1 C.2.1 C.2.2.2.2.1 hin C.2.2.2.1 C.2.2.2.2.2.1 hP q0 he hc kf hk (C.word hlink) (fun _ h => h) hv d (kk H locs ls hP hD hS hl)
theorem V_getN (C : Cx X lo nL G cc own) {ref host : String} {ci index N a : Nat} {Cn : String} {T : u_T} (hin : ∀ w ∈ u_ws Cn T N, w ∈ WA) (hc : vwCl[ci]? = some (Cn, T, N)) (kf : Nat) (hk : kf < N) (hlink : Cond.fieldLinkNest own index ref (T kf).2.1 (T kf).2.2.1 host ∈ wsN) (hsame : (T kf).1 = ref) (q0 : Nat) {fs : List Value} (he : ws[q0]? = some (a, .inr (ci, fs))) {v : Value} (hv : fs[kf]? = some v) (p1 : Nat) (hp : pc + 3 = p1) (d : decode cc pc = .ok (.getfield index, 3)) (kk : V X lo nL G Q k n ws lc (v :: st) p1) : V X lo nL G Q k n ws lc (.ref a :: st) pc := by
  subst hp
  subst hsame
  exact fun H locs ls hP hD hS hl => va_getN C.1 C.2.1 C.2.2.2.2.1 hin C.2.2.2.1 C.2.2.2.2.2.1 hP q0 he hc kf hk (va_Nw.use rfl (C.2.2.2.2.2.2.1.1 _ hlink)) (fun _ h => h) hv d (kk H locs ls hP hD hS hl)
theorem V_put (C : Cx X lo nL G cc own) {ref : String} {ci index N a : Nat} {Cn : String} {T : u_T} (hin : ∀ w ∈ u_ws Cn T N, w ∈ WA) (ty0 : Nat → FieldType) (hty : ∀ k, k < N → parseFieldDescriptor (T k).2.2.1 = some (ty0 k)) (hnm : ∀ a, a < N → ∀ b, b < N → a ≠ b → (T a).2.1 ≠ (T b).2.1) (hc : vwCl[ci]? = some (Cn, T, N)) (kf : Nat) (hk : kf < N) (hlink : Cond.fieldLink own index ref (T kf).2.1 (T kf).2.2.1 ∈ WA) (hsame : (T kf).1 = ref) (hfin : (T kf).2.2.2 = false) (q0 : Nat) {fs : List Value} (he : ws[q0]? = some (a, .inr (ci, fs))) {v : Value} (hn : narrow (ty0 kf) v = v) (hfit : fits (ty0 kf) v = true) (hl0 : kf < fs.length) (ws1 : va_W) (hw : ws.set q0 (a, .inr (ci, fs.set kf v)) = ws1) (p1 : Nat) (hp : pc + 3 = p1) (d : decode cc pc = .ok (.putfield index, 3)) (kk : V X lo nL G Q k n ws1 lc st p1) : V X lo nL G Q k n ws lc (v :: .ref a :: st) pc := by
  subst hp
  subst hsame
  exact fun H locs ls hP hD hS hl => va_put C.1 C.2.1 C.2.2.2.2.1 hin ty0 hty hnm C.2.2.2.1 C.2.2.2.2.2.1 hP hD hS q0 he hc kf hk (C.word hlink) (fun _ h => h) hfin (hty kf hk) hn hfit hl0 d (fun H locs hP hD hS => kk H locs ls (hw ▸ hP) (hw ▸ hD) hS hl)
theorem V_putN (C : Cx X lo nL G cc own) {ref host : String} {ci index N a : Nat} {Cn : String} {T : u_T} (hin : ∀ w ∈ u_ws Cn T N, w ∈ WA) (ty0 : Nat → FieldType) (hty : ∀ k, k < N → parseFieldDescriptor (T k).2.2.1 = some (ty0 k)) (hnm : ∀ a, a < N → ∀ b, b < N → a ≠ b → (T a).2.1 ≠ (T b).2.1) (hc : vwCl[ci]? = some (Cn, T, N)) (kf : Nat) (hk : kf < N) (hlink : Cond.fieldLinkNest own index ref (T kf).2.1 (T kf).2.2.1 host ∈ wsN) (hsame : (T kf).1 = ref) (hfin : (T kf).2.2.2 = false) (q0 : Nat) {fs : List Value} (he : ws[q0]? = some (a, .inr (ci, fs))) {v : Value} (hn : narrow (ty0 kf) v = v) (hfit : fits (ty0 kf) v = true) (hl0 : kf < fs.length) (ws1 : va_W) (hw : ws.set q0 (a, .inr (ci, fs.set kf v)) = ws1) (p1 : Nat) (hp : pc + 3 = p1) (d : decode cc pc = .ok (.putfield index, 3)) (kk : V X lo nL G Q k n ws1 lc st p1) : V X lo nL G Q k n ws lc (v :: .ref a :: st) pc := by
  subst hp
  subst hsame
  exact fun H locs ls hP hD hS hl => va_putN C.1 C.2.1 C.2.2.2.2.1 hin ty0 hty hnm C.2.2.2.1 C.2.2.2.2.2.1 hP hD hS q0 he hc kf hk (va_Nw.use rfl (C.2.2.2.2.2.2.1.1 _ hlink)) (fun _ h => h) hfin (hty kf hk) hn hfit hl0 d (fun H locs hP hD hS => kk H locs ls (hw ▸ hP) (hw ▸ hD) hS hl)
end VR
def rmD (d mc ms : Nat) : Room := { frames := d, cells := mc, slots := ms, locals := 40 * d }
theorem good_sub {ws : List Cond} (h : ∀ w ∈ ws, w ∈ WA) : GoodIn WA ws := fun w hw => ⟨h w hw, good_of_word (WA_good w (h w hw))⟩
theorem good_V {own : String} {index : Nat} {Cn : String} {y : MethodName} {cw : Cond} (h1 : Cond.methodLink own index y ∈ WA) (h2 : Cond.instanceMethod y ∈ WA) (h3 : Cond.selects Cn y y ∈ WA) (h4 : Cond.initialized Cn ∈ WA) (h5 : cw ∈ WA) : GoodIn WA (wsV own index Cn y (cw :: WA)) := good_sub (fun w hw => by
  rcases List.mem_append.mp hw with h | h
  · simp only [List.mem_cons, List.not_mem_nil, or_false] at h
    rcases h with rfl | rfl | rfl | rfl <;> assumption
  · rcases List.mem_cons.mp h with rfl | h
    · exact h5
    · exact h)
theorem good_S {own : String} {index : Nat} {y : MethodName} {cw : Cond} (h1 : Cond.methodLink own index y ∈ WA) (h2 : Cond.static y ∈ WA) (h4 : Cond.initialized y.cls ∈ WA) (h5 : cw ∈ WA) : GoodIn WA (va_wsS own index y (cw :: WA)) := good_sub (fun w hw => by
  rcases List.mem_append.mp hw with h | h
  · simp only [List.mem_cons, List.not_mem_nil, or_false] at h
    rcases h with rfl | rfl | rfl <;> assumption
  · rcases List.mem_cons.mp h with rfl | h
    · exact h5
    · exact h)
theorem good_C {cw : Cond} (h5 : cw ∈ WA) : GoodIn WA (cw :: WA) := good_sub (fun w hw => by
  rcases List.mem_cons.mp hw with rfl | h
  · exact h5
  · exact h)
/-- a method's contract: it finds a world, and leaves one -/
def Mi (l : Launch) (y : MethodName) (cw : Cond) (d mc ms lo : Nat) (G : vG) (av : List Value) (wi : va_W) {S : Type} (post : Int32 → S → Prop) (wo : S → va_W) : Prop := Met l y (cw :: WA) (rmD d mc ms) (va_Pc av (BI lo G wi)) (va_Qi post (fun u t => BO lo G (wo u) t) (Lo lo)) mc ms (Lo lo)
def Ml (l : Launch) (y : MethodName) (cw : Cond) (d mc ms lo : Nat) (G : vG) (av : List Value) (wi : va_W) {S : Type} (post : Int64 → S → Prop) (wo : S → va_W) : Prop := Met l y (cw :: WA) (rmD d mc ms) (va_Pc av (BI lo G wi)) (va_Ql post (fun u t => BO lo G (wo u) t) (Lo lo)) mc ms (Lo lo)
def Mv (l : Launch) (y : MethodName) (cw : Cond) (d mc ms lo : Nat) (G : vG) (av : List Value) (wi : va_W) {S : Type} (post : S → Prop) (wo : S → va_W) : Prop := Met l y (cw :: WA) (rmD d mc ms) (va_Pc av (BI lo G wi)) (va_Qv post (fun u t => BO lo G (wo u) t) (Lo lo)) mc ms (Lo lo)
/-- what is thrown: the world stays as it was -/
def XC (lo : Nat) (G : vG) (px : String → Prop) (wx : va_W) : String → State → State → Prop := vx_X (fun _ : Unit => True) (fun E _ t => px E ∧ BO lo G wx t) (Lo lo)
def Xi (l : Launch) (y : MethodName) (cw : Cond) (d mc ms lo : Nat) (G : vG) (av : List Value) (wi : va_W) (px : String → Prop) {S : Type} (post : Int32 → S → Prop) (wo : S → va_W) : Prop := vx_Met l y (cw :: WA) (rmD d mc ms) (va_Pc av (BI lo G wi)) (va_Qi post (fun u t => BO lo G (wo u) t) (Lo lo)) (XC lo G px wi) mc ms (Lo lo)
def Xl (l : Launch) (y : MethodName) (cw : Cond) (d mc ms lo : Nat) (G : vG) (av : List Value) (wi : va_W) (px : String → Prop) {S : Type} (post : Int64 → S → Prop) (wo : S → va_W) : Prop := vx_Met l y (cw :: WA) (rmD d mc ms) (va_Pc av (BI lo G wi)) (va_Ql post (fun u t => BO lo G (wo u) t) (Lo lo)) (XC lo G px wi) mc ms (Lo lo)
def Xv (l : Launch) (y : MethodName) (cw : Cond) (d mc ms lo : Nat) (G : vG) (av : List Value) (wi : va_W) (px : String → Prop) {S : Type} (post : S → Prop) (wo : S → va_W) : Prop := vx_Met l y (cw :: WA) (rmD d mc ms) (va_Pc av (BI lo G wi)) (va_Qv post (fun u t => BO lo G (wo u) t) (Lo lo)) (XC lo G px wi) mc ms (Lo lo)
def Qi (X : vX) (lo : Nat) (G : vG) {S : Type} (post : Int32 → S → Prop) (wo : S → va_W) (mc ms : Nat) : State → Prop := MQ (xb X) (va_Qi post (fun u t => BO lo G (wo u) t) (Lo lo)) (xa X) (xs X) mc ms (Lo lo)
def Ql (X : vX) (lo : Nat) (G : vG) {S : Type} (post : Int64 → S → Prop) (wo : S → va_W) (mc ms : Nat) : State → Prop := MQ (xb X) (va_Ql post (fun u t => BO lo G (wo u) t) (Lo lo)) (xa X) (xs X) mc ms (Lo lo)
def Qv (X : vX) (lo : Nat) (G : vG) {S : Type} (post : S → Prop) (wo : S → va_W) (mc ms : Nat) : State → Prop := MQ (xb X) (va_Qv post (fun u t => BO lo G (wo u) t) (Lo lo)) (xa X) (xs X) mc ms (Lo lo)
def QXi (X : vX) (lo : Nat) (G : vG) (px : String → Prop) (wx : va_W) {S : Type} (post : Int32 → S → Prop) (wo : S → va_W) (mc ms : Nat) : State → Prop := vx_MQ (xb X) (va_Qi post (fun u t => BO lo G (wo u) t) (Lo lo)) (XC lo G px wx) (xa X) (xs X) mc ms (Lo lo)
def QXl (X : vX) (lo : Nat) (G : vG) (px : String → Prop) (wx : va_W) {S : Type} (post : Int64 → S → Prop) (wo : S → va_W) (mc ms : Nat) : State → Prop := vx_MQ (xb X) (va_Ql post (fun u t => BO lo G (wo u) t) (Lo lo)) (XC lo G px wx) (xa X) (xs X) mc ms (Lo lo)
def QXv (X : vX) (lo : Nat) (G : vG) (px : String → Prop) (wx : va_W) {S : Type} (post : S → Prop) (wo : S → va_W) (mc ms : Nat) : State → Prop := vx_MQ (xb X) (va_Qv post (fun u t => BO lo G (wo u) t) (Lo lo)) (XC lo G px wx) (xa X) (xs X) mc ms (Lo lo)

theorem Mi_of {l : Launch} {y : MethodName} {cc : ByteArray} {maxL d mc ms lo : Nat} {ret : Option FieldType} {G : vG} {av : List Value} {wi : va_W} {S : Type} {post : Int32 → S → Prop} {wo : S → va_W} {lc : List (Nat × Value)} (hy : plainName y.cls = true) (hlen : (lg_sl av).length ≤ maxL) (hav : lv_args 0 av = lc)
    (body : ∀ X : vX, Cx X lo maxL G cc y.cls → xR X = rmD d mc ms → xl X = l → (xh X).sig.returnType = ret → (xh X).name = y.name → V X lo maxL G (Qi X lo G post wo mc ms) 0 0 wi lc [] 0) : Mi l y (.code y cc maxL ret) d mc ms lo G av wi post wo := by
  refine Met.ofW (cc := cc) (maxL := maxL) (ret := ret) hy rfl ?_
  intro p e s m args below meth c s₁ B hml hv
  obtain ⟨rfl, hlo, hP, hD, hK, hG⟩ := hv
  rw [lg_entry_eq]
  have hts := atoms_spec (ws := Cond.code y cc maxL ret :: WA) B.pre
  exact body (p, l, e, rmD d mc ms, s, m, _, below, meth, c) ⟨B.exec, B.bytes, hml, findClass_of_methodNamed B.named, fun w hw => hts w (List.mem_cons_of_mem _ hw), hK, hG, hlo, B.notSynchronized⟩ rfl rfl B.returns (name_of_methodNamed B.named B.method).1 s.heap [] _ hP hD va_S.rf (hav ▸ lv_entry av hlen)
theorem Xi_of {l : Launch} {y : MethodName} {cc : ByteArray} {maxL d mc ms lo : Nat} {ret : Option FieldType} {G : vG} {av : List Value} {wi : va_W} {px : String → Prop} {S : Type} {post : Int32 → S → Prop} {wo : S → va_W} {lc : List (Nat × Value)} (hy : plainName y.cls = true) (hlen : (lg_sl av).length ≤ maxL) (hav : lv_args 0 av = lc)
    (body : ∀ X : vX, Cx X lo maxL G cc y.cls → xR X = rmD d mc ms → xl X = l → (xh X).sig.returnType = ret → (∀ x ∈ (xc X).exceptionTable.toList, False) → V X lo maxL G (QXi X lo G px wi post wo mc ms) 0 0 wi lc [] 0) : Xi l y (.code y cc maxL ret) d mc ms lo G av wi px post wo := by
  refine vx_ofW (cc := cc) (maxL := maxL) (ret := ret) hy rfl ?_
  intro p e s m args below meth c s₁ B hml hout hv
  obtain ⟨rfl, hlo, hP, hD, hK, hG⟩ := hv
  rw [lg_entry_eq]
  have hts := atoms_spec (ws := Cond.code y cc maxL ret :: WA) B.pre
  exact body (p, l, e, rmD d mc ms, s, m, _, below, meth, c) ⟨B.exec, B.bytes, hml, findClass_of_methodNamed B.named, fun w hw => hts w (List.mem_cons_of_mem _ hw), hK, hG, hlo, B.notSynchronized⟩ rfl rfl B.returns hout s.heap [] _ hP hD va_S.rf (hav ▸ lv_entry av hlen)
theorem Ml_of {l : Launch} {y : MethodName} {cc : ByteArray} {maxL d mc ms lo : Nat} {ret : Option FieldType} {G : vG} {av : List Value} {wi : va_W} {S : Type} {post : Int64 → S → Prop} {wo : S → va_W} {lc : List (Nat × Value)} (hy : plainName y.cls = true) (hlen : (lg_sl av).length ≤ maxL) (hav : lv_args 0 av = lc)
    (body : ∀ X : vX, Cx X lo maxL G cc y.cls → xR X = rmD d mc ms → xl X = l → (xh X).sig.returnType = ret → (xh X).name = y.name → V X lo maxL G (Ql X lo G post wo mc ms) 0 0 wi lc [] 0) : Ml l y (.code y cc maxL ret) d mc ms lo G av wi post wo := by
  refine Met.ofW (cc := cc) (maxL := maxL) (ret := ret) hy rfl ?_
  intro p e s m args below meth c s₁ B hml hv
  obtain ⟨rfl, hlo, hP, hD, hK, hG⟩ := hv
  rw [lg_entry_eq]
  have hts := atoms_spec (ws := Cond.code y cc maxL ret :: WA) B.pre
  exact body (p, l, e, rmD d mc ms, s, m, _, below, meth, c) ⟨B.exec, B.bytes, hml, findClass_of_methodNamed B.named, fun w hw => hts w (List.mem_cons_of_mem _ hw), hK, hG, hlo, B.notSynchronized⟩ rfl rfl B.returns (name_of_methodNamed B.named B.method).1 s.heap [] _ hP hD va_S.rf (hav ▸ lv_entry av hlen)
theorem Xl_of {l : Launch} {y : MethodName} {cc : ByteArray} {maxL d mc ms lo : Nat} {ret : Option FieldType} {G : vG} {av : List Value} {wi : va_W} {px : String → Prop} {S : Type} {post : Int64 → S → Prop} {wo : S → va_W} {lc : List (Nat × Value)} (hy : plainName y.cls = true) (hlen : (lg_sl av).length ≤ maxL) (hav : lv_args 0 av = lc)
    (body : ∀ X : vX, Cx X lo maxL G cc y.cls → xR X = rmD d mc ms → xl X = l → (xh X).sig.returnType = ret → (∀ x ∈ (xc X).exceptionTable.toList, False) → V X lo maxL G (QXl X lo G px wi post wo mc ms) 0 0 wi lc [] 0) : Xl l y (.code y cc maxL ret) d mc ms lo G av wi px post wo := by
  refine vx_ofW (cc := cc) (maxL := maxL) (ret := ret) hy rfl ?_
  intro p e s m args below meth c s₁ B hml hout hv
  obtain ⟨rfl, hlo, hP, hD, hK, hG⟩ := hv
  rw [lg_entry_eq]
  have hts := atoms_spec (ws := Cond.code y cc maxL ret :: WA) B.pre
  exact body (p, l, e, rmD d mc ms, s, m, _, below, meth, c) ⟨B.exec, B.bytes, hml, findClass_of_methodNamed B.named, fun w hw => hts w (List.mem_cons_of_mem _ hw), hK, hG, hlo, B.notSynchronized⟩ rfl rfl B.returns hout s.heap [] _ hP hD va_S.rf (hav ▸ lv_entry av hlen)
theorem Mv_of {l : Launch} {y : MethodName} {cc : ByteArray} {maxL d mc ms lo : Nat} {ret : Option FieldType} {G : vG} {av : List Value} {wi : va_W} {S : Type} {post : S → Prop} {wo : S → va_W} {lc : List (Nat × Value)} (hy : plainName y.cls = true) (hlen : (lg_sl av).length ≤ maxL) (hav : lv_args 0 av = lc)
    (body : ∀ X : vX, Cx X lo maxL G cc y.cls → xR X = rmD d mc ms → xl X = l → (xh X).sig.returnType = ret → (xh X).name = y.name → V X lo maxL G (Qv X lo G post wo mc ms) 0 0 wi lc [] 0) : Mv l y (.code y cc maxL ret) d mc ms lo G av wi post wo := by
  refine Met.ofW (cc := cc) (maxL := maxL) (ret := ret) hy rfl ?_
  intro p e s m args below meth c s₁ B hml hv
  obtain ⟨rfl, hlo, hP, hD, hK, hG⟩ := hv
  rw [lg_entry_eq]
  have hts := atoms_spec (ws := Cond.code y cc maxL ret :: WA) B.pre
  exact body (p, l, e, rmD d mc ms, s, m, _, below, meth, c) ⟨B.exec, B.bytes, hml, findClass_of_methodNamed B.named, fun w hw => hts w (List.mem_cons_of_mem _ hw), hK, hG, hlo, B.notSynchronized⟩ rfl rfl B.returns (name_of_methodNamed B.named B.method).1 s.heap [] _ hP hD va_S.rf (hav ▸ lv_entry av hlen)
theorem Xv_of {l : Launch} {y : MethodName} {cc : ByteArray} {maxL d mc ms lo : Nat} {ret : Option FieldType} {G : vG} {av : List Value} {wi : va_W} {px : String → Prop} {S : Type} {post : S → Prop} {wo : S → va_W} {lc : List (Nat × Value)} (hy : plainName y.cls = true) (hlen : (lg_sl av).length ≤ maxL) (hav : lv_args 0 av = lc)
    (body : ∀ X : vX, Cx X lo maxL G cc y.cls → xR X = rmD d mc ms → xl X = l → (xh X).sig.returnType = ret → (∀ x ∈ (xc X).exceptionTable.toList, False) → V X lo maxL G (QXv X lo G px wi post wo mc ms) 0 0 wi lc [] 0) : Xv l y (.code y cc maxL ret) d mc ms lo G av wi px post wo := by
  refine vx_ofW (cc := cc) (maxL := maxL) (ret := ret) hy rfl ?_
  intro p e s m args below meth c s₁ B hml hout hv
  obtain ⟨rfl, hlo, hP, hD, hK, hG⟩ := hv
  rw [lg_entry_eq]
  have hts := atoms_spec (ws := Cond.code y cc maxL ret :: WA) B.pre
  exact body (p, l, e, rmD d mc ms, s, m, _, below, meth, c) ⟨B.exec, B.bytes, hml, findClass_of_methodNamed B.named, fun w hw => hts w (List.mem_cons_of_mem _ hw), hK, hG, hlo, B.notSynchronized⟩ rfl rfl B.returns hout s.heap [] _ hP hD va_S.rf (hav ▸ lv_entry av hlen)
section VR2
variable {X : vX} {lo nL : Nat} {G : vG} {Q : State → Prop} {k n : Nat} {ws : va_W} {lc : List (Nat × Value)} {st : List Value} {pc : Nat} {cc : ByteArray} {own : String}
theorem V_ireturn (C : Cx X lo nL G cc own) {v : Int32} {S : Type} {post : Int32 → S → Prop} {wo : S → va_W} {mc ms : Nat} (hr : (xh X).sig.returnType = some .int) (u : S) (hp : post v u) (hw : ws = wo u) (hk : k ≤ mc) (hn : n ≤ ms) (d : decode cc pc = .ok (.ireturn, 1)) : V X lo nL G (Qi X lo G post wo mc ms) k n ws lc [.int v] pc := fun H locs ls hP hD hS hl => by
  subst hw
  exact W.widen hk hn (W.iret C.1 C.2.1 hr (fun t ht hW => ⟨⟨v, u, rfl, hp, by rw [ht]; exact hP, hD⟩, hS.F ht⟩) hS.2.2 d (hlocks := C.2.2.2.2.2.2.2.2))
theorem V_ireturnX (C : Cx X lo nL G cc own) {v : Int32} {S : Type} {px : String → Prop} {wx : va_W} {post : Int32 → S → Prop} {wo : S → va_W} {mc ms : Nat} (hr : (xh X).sig.returnType = some .int) (u : S) (hp : post v u) (hw : ws = wo u) (hk : k ≤ mc) (hn : n ≤ ms) (d : decode cc pc = .ok (.ireturn, 1)) : V X lo nL G (QXi X lo G px wx post wo mc ms) k n ws lc [.int v] pc := fun H locs ls hP hD hS hl => by
  subst hw
  exact vx_ret (W.widen hk hn (W.iret C.1 C.2.1 hr (fun t ht hW => ⟨⟨v, u, rfl, hp, by rw [ht]; exact hP, hD⟩, hS.F ht⟩) hS.2.2 d (hlocks := C.2.2.2.2.2.2.2.2)))
theorem V_zreturn (C : Cx X lo nL G cc own) {v : Int32} {S : Type} {post : Int32 → S → Prop} {wo : S → va_W} {mc ms : Nat} (hr : (xh X).sig.returnType = some .boolean) (hz : narrow .boolean (.int v) = .int v) (u : S) (hp : post v u) (hw : ws = wo u) (hk : k ≤ mc) (hn : n ≤ ms) (d : decode cc pc = .ok (.ireturn, 1)) : V X lo nL G (Qi X lo G post wo mc ms) k n ws lc [.int v] pc := fun H locs ls hP hD hS hl => by
  subst hw
  exact W.widen hk hn (W.zret C.1 C.2.1 hr hz (fun t ht hW => ⟨⟨v, u, rfl, hp, by rw [ht]; exact hP, hD⟩, hS.F ht⟩) hS.2.2 d (hlocks := C.2.2.2.2.2.2.2.2))
theorem V_zreturnX (C : Cx X lo nL G cc own) {v : Int32} {S : Type} {px : String → Prop} {wx : va_W} {post : Int32 → S → Prop} {wo : S → va_W} {mc ms : Nat} (hr : (xh X).sig.returnType = some .boolean) (hz : narrow .boolean (.int v) = .int v) (u : S) (hp : post v u) (hw : ws = wo u) (hk : k ≤ mc) (hn : n ≤ ms) (d : decode cc pc = .ok (.ireturn, 1)) : V X lo nL G (QXi X lo G px wx post wo mc ms) k n ws lc [.int v] pc := fun H locs ls hP hD hS hl => by
  subst hw
  exact vx_ret (W.widen hk hn (W.zret C.1 C.2.1 hr hz (fun t ht hW => ⟨⟨v, u, rfl, hp, by rw [ht]; exact hP, hD⟩, hS.F ht⟩) hS.2.2 d (hlocks := C.2.2.2.2.2.2.2.2)))
theorem V_lreturn (C : Cx X lo nL G cc own) {v : Int64} {S : Type} {post : Int64 → S → Prop} {wo : S → va_W} {mc ms : Nat} (hr : (xh X).sig.returnType = some .long) (u : S) (hp : post v u) (hw : ws = wo u) (hk : k ≤ mc) (hn : n ≤ ms) (d : decode cc pc = .ok (.lreturn, 1)) : V X lo nL G (Ql X lo G post wo mc ms) k n ws lc [.long v] pc := fun H locs ls hP hD hS hl => by
  subst hw
  exact W.widen hk hn (W.lret C.1 C.2.1 hr (fun t ht hW => ⟨⟨v, u, rfl, hp, by rw [ht]; exact hP, hD⟩, hS.F ht⟩) hS.2.2 d (hlocks := C.2.2.2.2.2.2.2.2))
theorem V_lreturnX (C : Cx X lo nL G cc own) {v : Int64} {S : Type} {px : String → Prop} {wx : va_W} {post : Int64 → S → Prop} {wo : S → va_W} {mc ms : Nat} (hr : (xh X).sig.returnType = some .long) (u : S) (hp : post v u) (hw : ws = wo u) (hk : k ≤ mc) (hn : n ≤ ms) (d : decode cc pc = .ok (.lreturn, 1)) : V X lo nL G (QXl X lo G px wx post wo mc ms) k n ws lc [.long v] pc := fun H locs ls hP hD hS hl => by
  subst hw
  exact vx_ret (W.widen hk hn (W.lret C.1 C.2.1 hr (fun t ht hW => ⟨⟨v, u, rfl, hp, by rw [ht]; exact hP, hD⟩, hS.F ht⟩) hS.2.2 d (hlocks := C.2.2.2.2.2.2.2.2)))
theorem V_vreturn (C : Cx X lo nL G cc own) {S : Type} {post : S → Prop} {wo : S → va_W} {mc ms : Nat} (hr : (xh X).sig.returnType = none) (u : S) (hp : post u) (hw : ws = wo u) (hk : k ≤ mc) (hn : n ≤ ms) (d : decode cc pc = .ok (.return_, 1)) : V X lo nL G (Qv X lo G post wo mc ms) k n ws lc [] pc := fun H locs ls hP hD hS hl => by
  subst hw
  exact W.widen hk hn (W.vret C.1 C.2.1 hr (fun t ht hW => ⟨⟨u, rfl, hp, by rw [ht]; exact hP, hD⟩, hS.F ht⟩) hS.2.2 d (hlocks := C.2.2.2.2.2.2.2.2))
theorem V_vreturnX (C : Cx X lo nL G cc own) {S : Type} {px : String → Prop} {wx : va_W} {post : S → Prop} {wo : S → va_W} {mc ms : Nat} (hr : (xh X).sig.returnType = none) (u : S) (hp : post u) (hw : ws = wo u) (hk : k ≤ mc) (hn : n ≤ ms) (d : decode cc pc = .ok (.return_, 1)) : V X lo nL G (QXv X lo G px wx post wo mc ms) k n ws lc [] pc := fun H locs ls hP hD hS hl => by
  subst hw
  exact vx_ret (W.widen hk hn (W.vret C.1 C.2.1 hr (fun t ht hW => ⟨⟨u, rfl, hp, by rw [ht]; exact hP, hD⟩, hS.F ht⟩) hS.2.2 d (hlocks := C.2.2.2.2.2.2.2.2)))
def VRun (X : vX) (lo nL : Nat) (G : vG) (k n mc ms : Nat) (ws : va_W) (lc : List (Nat × Value)) (st rest : List Value) (pc : Nat) (Qa : State → Outcome → State → Prop) : Prop :=
  ∀ (H : Heap) (locs : List Loc) (ls : Array Slot), va_P G.1 vwCl ws H → va_D (Lo lo) ws → va_S (Lo lo) (xs X).heap H locs → lv_has ls nL lc → va_Run (xp X) (xl X) (xe X) (xR X) (xs X) (xm X) (xa X) (xb X) (xh X) (xc X) H locs k n mc ms (F0 (xm X) pc ls st) rest Qa (Lo lo)
def VRunX (X : vX) (lo nL : Nat) (G : vG) (k n mc ms : Nat) (ws : va_W) (lc : List (Nat × Value)) (st rest : List Value) (pc : Nat) (Qa : State → Outcome → State → Prop) (XC : String → State → State → Prop) : Prop :=
  ∀ (H : Heap) (locs : List Loc) (ls : Array Slot), va_P G.1 vwCl ws H → va_D (Lo lo) ws → va_S (Lo lo) (xs X).heap H locs → lv_has ls nL lc → vx_Run (xp X) (xl X) (xe X) (xR X) (xs X) (xm X) (xa X) (xb X) (xh X) (xc X) H locs k n mc ms (F0 (xm X) pc ls st) rest Qa XC (Lo lo)
theorem Cx.bi (C : Cx X lo nL G cc own) {H : Heap} {locs : List Loc} (hP : va_P G.1 vwCl ws H) (hD : va_D (Lo lo) ws) (hS : va_S (Lo lo) (xs X).heap H locs) : ∀ U : State, U.heap = H → (xs X).WarmedH U.vm → BI lo G ws U := fun U hU hW => by
  subst hU
  exact ⟨Nat.le_trans C.2.2.2.2.2.2.2.1 hS.1, hP, hD, va_K.moved hW.alike C.2.2.2.2.2.1, C.2.2.2.2.2.2.1.moved hW (fun a h1 h2 => hS.2.1 a h1 h2)⟩
theorem lg_room {ls : Array Slot} {m : MethodId} {pc : Nat} {st rest : List Value} (h : (rest.map fun v => v.category).sum ≤ 8) : 2 * (F0 m pc ls st).monitorRoom + (rest.map fun v => v.category).sum ≤ 8 := lv_room h
theorem V_runV (C : Cx X lo nL G cc own) {y : MethodName} {Cn : String} {bytes : ByteArray} {maxL d mc ms index nA ci q0 N b : Nat} {ret : Option FieldType} {T : u_T} {fs As rest : List Value} {Qc : Array Value → State → Outcome → State → Prop} (hM : Met (xl X) y (Cond.code y bytes maxL ret :: WA) (rmD d mc ms) (va_Pc (.ref b :: As) (BI lo G ws)) Qc mc ms (Lo lo)) (hw : Cond.methodLink own index y ∈ WA ∧ Cond.instanceMethod y ∈ WA ∧ Cond.selects Cn y y ∈ WA ∧ Cond.initialized Cn ∈ WA ∧ Cond.code y bytes maxL ret ∈ WA) (hd : y.cls = Cn ∧ y.cls ≠ "java/lang/invoke/MethodHandle" ∧ y.cls ≠ "java/lang/invoke/VarHandle" ∧ (parseMethodDescriptor y.desc).map (fun d => d.parameters.length) = some nA) (hR : (rmD d mc ms).frames + 1 ≤ (xR X).frames ∧ 8 + (maxL + 11) + (rmD d mc ms).locals ≤ (xR X).locals) (he : ws[q0]? = some (b, .inr (ci, fs))) (hc : vwCl[ci]? = some (Cn, T, N)) (hn : As.length = nA) (hst : st = As.reverse ++ .ref b :: rest) (hrest : (rest.map fun v => v.category).sum ≤ 8) (hf : k + mc ≤ (xR X).cells ∧ n + ms ≤ (xR X).slots) (d : decode cc pc = .ok (.invokevirtual index, 3)) : VRun X lo nL G k n mc ms ws lc st rest pc (Qc (Value.ref b :: As).toArray) := fun H locs ls hP hD hS hl =>
  va_runV (As := As) (rest := rest) ⟨C.1, C.2.1, C.2.2.1, C.2.2.2.1, C.2.2.2.2.1⟩ hM (cwV nA C.2.2.2.2.1 (good_V hw.1 hw.2.1 hw.2.2.1 hw.2.2.2.1 hw.2.2.2.2) rfl rfl rfl hd hR) ⟨bi_blind _ lo G ws, va_recv C.2.2.2.2.2.1 hP hc he, fun U hU hW => ⟨rfl, C.bi hP hD hS U hU hW⟩⟩ rfl hn hl.1 hst (lg_room hrest) d hf
theorem V_runVX (C : Cx X lo nL G cc own) {y : MethodName} {Cn : String} {bytes : ByteArray} {maxL d mc ms index nA ci q0 N b : Nat} {ret : Option FieldType} {T : u_T} {fs As rest : List Value} {Qc : Array Value → State → Outcome → State → Prop} {XC0 : String → State → State → Prop} (hM : vx_Met (xl X) y (Cond.code y bytes maxL ret :: WA) (rmD d mc ms) (va_Pc (.ref b :: As) (BI lo G ws)) Qc XC0 mc ms (Lo lo)) (hw : Cond.methodLink own index y ∈ WA ∧ Cond.instanceMethod y ∈ WA ∧ Cond.selects Cn y y ∈ WA ∧ Cond.initialized Cn ∈ WA ∧ Cond.code y bytes maxL ret ∈ WA) (hd : y.cls = Cn ∧ y.cls ≠ "java/lang/invoke/MethodHandle" ∧ y.cls ≠ "java/lang/invoke/VarHandle" ∧ (parseMethodDescriptor y.desc).map (fun d => d.parameters.length) = some nA) (hR : (rmD d mc ms).frames + 1 ≤ (xR X).frames ∧ 8 + (maxL + 11) + (rmD d mc ms).locals ≤ (xR X).locals) (he : ws[q0]? = some (b, .inr (ci, fs))) (hc : vwCl[ci]? = some (Cn, T, N)) (hn : As.length = nA) (hst : st = As.reverse ++ .ref b :: rest) (hrest : (rest.map fun v => v.category).sum ≤ 8) (hf : k + mc ≤ (xR X).cells ∧ n + ms ≤ (xR X).slots) (d : decode cc pc = .ok (.invokevirtual index, 3)) : VRunX X lo nL G k n mc ms ws lc st rest pc (Qc (Value.ref b :: As).toArray) XC0 := fun H locs ls hP hD hS hl =>
  vx_runV (As := As) (rest := rest) ⟨C.1, C.2.1, C.2.2.1, C.2.2.2.1, C.2.2.2.2.1⟩ hM (cwV nA C.2.2.2.2.1 (good_V hw.1 hw.2.1 hw.2.2.1 hw.2.2.2.1 hw.2.2.2.2) rfl rfl rfl hd hR) ⟨bi_blind _ lo G ws, va_recv C.2.2.2.2.2.1 hP hc he, fun U hU hW => ⟨rfl, C.bi hP hD hS U hU hW⟩⟩ rfl hn hl.1 hst (lg_room hrest) d hf
theorem V_runS (C : Cx X lo nL G cc own) {y : MethodName} {bytes : ByteArray} {maxL d mc ms index nA : Nat} {ret : Option FieldType} {As rest : List Value} {Qc : Array Value → State → Outcome → State → Prop} (hM : Met (xl X) y (Cond.code y bytes maxL ret :: WA) (rmD d mc ms) (va_Pc As (BI lo G ws)) Qc mc ms (Lo lo)) (hw : Cond.methodLink own index y ∈ WA ∧ Cond.static y ∈ WA ∧ Cond.initialized y.cls ∈ WA ∧ Cond.code y bytes maxL ret ∈ WA) (hd : y.cls ≠ "java/lang/invoke/MethodHandle" ∧ y.cls ≠ "java/lang/invoke/VarHandle" ∧ (parseMethodDescriptor y.desc).map (fun d => d.parameters.length) = some nA) (hR : (rmD d mc ms).frames + 1 ≤ (xR X).frames ∧ 8 + (maxL + 11) + (rmD d mc ms).locals ≤ (xR X).locals) (hn : As.length = nA) (hst : st = As.reverse ++ rest) (hrest : (rest.map fun v => v.category).sum ≤ 8) (hf : k + mc ≤ (xR X).cells ∧ n + ms ≤ (xR X).slots) (d : decode cc pc = .ok (.invokestatic index, 3)) : VRun X lo nL G k n mc ms ws lc st rest pc (Qc As.toArray) := fun H locs ls hP hD hS hl =>
  va_runS (As := As) (rest := rest) ⟨C.1, C.2.1, C.2.2.1, C.2.2.2.1, C.2.2.2.2.1⟩ hM (va_cwS nA C.2.2.2.2.1 (good_S hw.1 hw.2.1 hw.2.2.1 hw.2.2.2) rfl rfl rfl hd hR) ⟨bi_blind _ lo G ws, fun U hU hW => ⟨rfl, C.bi hP hD hS U hU hW⟩⟩ rfl hn hl.1 hst (lg_room hrest) d hf
theorem V_runSX (C : Cx X lo nL G cc own) {y : MethodName} {bytes : ByteArray} {maxL d mc ms index nA : Nat} {ret : Option FieldType} {As rest : List Value} {Qc : Array Value → State → Outcome → State → Prop} {XC0 : String → State → State → Prop} (hM : vx_Met (xl X) y (Cond.code y bytes maxL ret :: WA) (rmD d mc ms) (va_Pc As (BI lo G ws)) Qc XC0 mc ms (Lo lo)) (hw : Cond.methodLink own index y ∈ WA ∧ Cond.static y ∈ WA ∧ Cond.initialized y.cls ∈ WA ∧ Cond.code y bytes maxL ret ∈ WA) (hd : y.cls ≠ "java/lang/invoke/MethodHandle" ∧ y.cls ≠ "java/lang/invoke/VarHandle" ∧ (parseMethodDescriptor y.desc).map (fun d => d.parameters.length) = some nA) (hR : (rmD d mc ms).frames + 1 ≤ (xR X).frames ∧ 8 + (maxL + 11) + (rmD d mc ms).locals ≤ (xR X).locals) (hn : As.length = nA) (hst : st = As.reverse ++ rest) (hrest : (rest.map fun v => v.category).sum ≤ 8) (hf : k + mc ≤ (xR X).cells ∧ n + ms ≤ (xR X).slots) (d : decode cc pc = .ok (.invokestatic index, 3)) : VRunX X lo nL G k n mc ms ws lc st rest pc (Qc As.toArray) XC0 := fun H locs ls hP hD hS hl =>
  vx_runS (As := As) (rest := rest) ⟨C.1, C.2.1, C.2.2.1, C.2.2.2.1, C.2.2.2.2.1⟩ hM (va_cwS nA C.2.2.2.2.1 (good_S hw.1 hw.2.1 hw.2.2.1 hw.2.2.2) rfl rfl rfl hd hR) ⟨bi_blind _ lo G ws, fun U hU hW => ⟨rfl, C.bi hP hD hS U hU hW⟩⟩ rfl hn hl.1 hst (lg_room hrest) d hf
theorem V_runSN (C : Cx X lo nL G cc own) {y : MethodName} {host : String} {bytes : ByteArray} {maxL d mc ms index nA : Nat} {ret : Option FieldType} {As rest : List Value} {Qc : Array Value → State → Outcome → State → Prop} (hM : Met (xl X) y (Cond.code y bytes maxL ret :: WA) (rmD d mc ms) (va_Pc As (BI lo G ws)) Qc mc ms (Lo lo)) (hw : Cond.methodLinkNest own index y host ∈ wsN ∧ Cond.static y ∈ WA ∧ Cond.initialized y.cls ∈ WA ∧ Cond.code y bytes maxL ret ∈ WA) (hd : y.cls ≠ "java/lang/invoke/MethodHandle" ∧ y.cls ≠ "java/lang/invoke/VarHandle" ∧ (parseMethodDescriptor y.desc).map (fun d => d.parameters.length) = some nA) (hR : (rmD d mc ms).frames + 1 ≤ (xR X).frames ∧ 8 + (maxL + 11) + (rmD d mc ms).locals ≤ (xR X).locals) (hn : As.length = nA) (hst : st = As.reverse ++ rest) (hrest : (rest.map fun v => v.category).sum ≤ 8) (hf : k + mc ≤ (xR X).cells ∧ n + ms ≤ (xR X).slots) (d : decode cc pc = .ok (.invokestatic index, 3)) : VRun X lo nL G k n mc ms ws lc st rest pc (Qc As.toArray) := fun H locs ls hP hD hS hl =>
  va_runSN (As := As) (rest := rest) ⟨C.1, C.2.1, C.2.2.1, C.2.2.2.1, C.2.2.2.2.1⟩ hM ⟨va_cnB nA C.2.2.2.2.1 (good_C hw.2.2.2) rfl rfl rfl (C.2.2.2.2.2.2.1.1 _ hw.1) (C.word hw.2.2.1) hd hR, C.word hw.2.1, trivial⟩ ⟨bi_blind _ lo G ws, fun U hU hW => ⟨rfl, C.bi hP hD hS U hU hW⟩⟩ rfl hn hl.1 hst (lg_room hrest) d hf
theorem V_calli {S : Type} {post : Int32 → S → Prop} {wo : S → va_W} {mc ms : Nat} {rest : List Value} {a : Array Value} (hr : VRun X lo nL G k n mc ms ws lc st rest pc (va_Qi post (fun u t => BO lo G (wo u) t) (Lo lo) a)) (p1 k1 n1 : Nat) (hp : pc + 3 = p1) (hk : k + mc = k1) (hn : n + ms = n1) (kk : ∀ (r : Int32) (u : S), post r u → V X lo nL G Q k1 n1 (wo u) lc (.int r :: rest) p1) : V X lo nL G Q k n ws lc st pc := by
  subst hp; subst hk; subst hn
  exact fun H locs ls hP hD hS hl => va_calli (hr H locs ls hP hD hS hl) hS (fun q _ h => h) (fun q h => h) (fun r u t H1 locs1 ht hvm hw hB hz hk1 hS1 => kk r u hw H1 locs1 ls (ht ▸ hB.1) hB.2 hS1 hl)
theorem V_callXi {S : Type} {post : Int32 → S → Prop} {px : String → Prop} {wx : va_W} {wo : S → va_W} {mc ms : Nat} {rest : List Value} {a : Array Value} (hr : VRunX X lo nL G k n mc ms ws lc st rest pc (va_Qi post (fun u t => BO lo G (wo u) t) (Lo lo) a) (XC lo G px wx)) (p1 k1 n1 : Nat) (hp : pc + 3 = p1) (hk : k + mc = k1) (hn : n + ms = n1)
    (kx : ∀ (E : String) (ce : Cell) (q9 : Addr) (H1 : Heap) (locs1 : List Loc) (ls : Array Slot), px E → va_P G.1 vwCl wx H1 → va_D (Lo lo) wx → va_S (Lo lo) (xs X).heap H1 locs1 → lv_has ls nL lc → H1[q9]? = some ce → ce.vm = .none → (xs X).vm.findClass E = some ce.cls → vx_W (xp X) (xl X) (xe X) (xR X) (xs X) (xm X) (xa X) (xb X) (xh X) (xc X) H1 locs1 k1 n1 Q (F0 (xm X) pc ls rest) q9) (kk : ∀ (r : Int32) (u : S), post r u → V X lo nL G Q k1 n1 (wo u) lc (.int r :: rest) p1) : V X lo nL G Q k n ws lc st pc := by
  subst hp; subst hk; subst hn
  exact fun H locs ls hP hD hS hl => vx_calli (hr H locs ls hP hD hS hl) hS (fun q _ h => h) (fun q h => h) (fun q _ h => h) (fun E ce q9 u t H1 locs1 ht hvm hu hB hz hk1 hS1 h1 h2 h3 => kx E ce q9 H1 locs1 ls hB.1 (ht ▸ hB.2.1) hB.2.2 hS1 hl h1 h2 h3) (fun r u t H1 locs1 ht hvm hw hB hz hk1 hS1 => kk r u hw H1 locs1 ls (ht ▸ hB.1) hB.2 hS1 hl)
theorem V_calll {S : Type} {post : Int64 → S → Prop} {wo : S → va_W} {mc ms : Nat} {rest : List Value} {a : Array Value} (hr : VRun X lo nL G k n mc ms ws lc st rest pc (va_Ql post (fun u t => BO lo G (wo u) t) (Lo lo) a)) (p1 k1 n1 : Nat) (hp : pc + 3 = p1) (hk : k + mc = k1) (hn : n + ms = n1) (kk : ∀ (r : Int64) (u : S), post r u → V X lo nL G Q k1 n1 (wo u) lc (.long r :: rest) p1) : V X lo nL G Q k n ws lc st pc := by
  subst hp; subst hk; subst hn
  exact fun H locs ls hP hD hS hl => va_calll (hr H locs ls hP hD hS hl) hS (fun q _ h => h) (fun q h => h) (fun r u t H1 locs1 ht hvm hw hB hz hk1 hS1 => kk r u hw H1 locs1 ls (ht ▸ hB.1) hB.2 hS1 hl)
theorem V_callXl {S : Type} {post : Int64 → S → Prop} {px : String → Prop} {wx : va_W} {wo : S → va_W} {mc ms : Nat} {rest : List Value} {a : Array Value} (hr : VRunX X lo nL G k n mc ms ws lc st rest pc (va_Ql post (fun u t => BO lo G (wo u) t) (Lo lo) a) (XC lo G px wx)) (p1 k1 n1 : Nat) (hp : pc + 3 = p1) (hk : k + mc = k1) (hn : n + ms = n1)
    (kx : ∀ (E : String) (ce : Cell) (q9 : Addr) (H1 : Heap) (locs1 : List Loc) (ls : Array Slot), px E → va_P G.1 vwCl wx H1 → va_D (Lo lo) wx → va_S (Lo lo) (xs X).heap H1 locs1 → lv_has ls nL lc → H1[q9]? = some ce → ce.vm = .none → (xs X).vm.findClass E = some ce.cls → vx_W (xp X) (xl X) (xe X) (xR X) (xs X) (xm X) (xa X) (xb X) (xh X) (xc X) H1 locs1 k1 n1 Q (F0 (xm X) pc ls rest) q9) (kk : ∀ (r : Int64) (u : S), post r u → V X lo nL G Q k1 n1 (wo u) lc (.long r :: rest) p1) : V X lo nL G Q k n ws lc st pc := by
  subst hp; subst hk; subst hn
  exact fun H locs ls hP hD hS hl => vx_calll (hr H locs ls hP hD hS hl) hS (fun q _ h => h) (fun q h => h) (fun q _ h => h) (fun E ce q9 u t H1 locs1 ht hvm hu hB hz hk1 hS1 h1 h2 h3 => kx E ce q9 H1 locs1 ls hB.1 (ht ▸ hB.2.1) hB.2.2 hS1 hl h1 h2 h3) (fun r u t H1 locs1 ht hvm hw hB hz hk1 hS1 => kk r u hw H1 locs1 ls (ht ▸ hB.1) hB.2 hS1 hl)
theorem V_callv {S : Type} {post : S → Prop} {wo : S → va_W} {mc ms : Nat} {rest : List Value} {a : Array Value} (hr : VRun X lo nL G k n mc ms ws lc st rest pc (va_Qv post (fun u t => BO lo G (wo u) t) (Lo lo) a)) (p1 k1 n1 : Nat) (hp : pc + 3 = p1) (hk : k + mc = k1) (hn : n + ms = n1) (kk : ∀ u : S, post u → V X lo nL G Q k1 n1 (wo u) lc rest p1) : V X lo nL G Q k n ws lc st pc := by
  subst hp; subst hk; subst hn
  exact fun H locs ls hP hD hS hl => va_callv (hr H locs ls hP hD hS hl) hS (fun q _ h => h) (fun q h => h) (fun u t H1 locs1 ht hvm hw hB hz hk1 hS1 => kk u hw H1 locs1 ls (ht ▸ hB.1) hB.2 hS1 hl)
theorem V_callXv {S : Type} {post : S → Prop} {px : String → Prop} {wx : va_W} {wo : S → va_W} {mc ms : Nat} {rest : List Value} {a : Array Value} (hr : VRunX X lo nL G k n mc ms ws lc st rest pc (va_Qv post (fun u t => BO lo G (wo u) t) (Lo lo) a) (XC lo G px wx)) (p1 k1 n1 : Nat) (hp : pc + 3 = p1) (hk : k + mc = k1) (hn : n + ms = n1)
    (kx : ∀ (E : String) (ce : Cell) (q9 : Addr) (H1 : Heap) (locs1 : List Loc) (ls : Array Slot), px E → va_P G.1 vwCl wx H1 → va_D (Lo lo) wx → va_S (Lo lo) (xs X).heap H1 locs1 → lv_has ls nL lc → H1[q9]? = some ce → ce.vm = .none → (xs X).vm.findClass E = some ce.cls → vx_W (xp X) (xl X) (xe X) (xR X) (xs X) (xm X) (xa X) (xb X) (xh X) (xc X) H1 locs1 k1 n1 Q (F0 (xm X) pc ls rest) q9) (kk : ∀ u : S, post u → V X lo nL G Q k1 n1 (wo u) lc rest p1) : V X lo nL G Q k n ws lc st pc := by
  subst hp; subst hk; subst hn
  exact fun H locs ls hP hD hS hl => vx_callv (hr H locs ls hP hD hS hl) hS (fun q _ h => h) (fun q h => h) (fun q _ h => h) (fun E ce q9 u t H1 locs1 ht hvm hu hB hz hk1 hS1 h1 h2 h3 => kx E ce q9 H1 locs1 ls hB.1 (ht ▸ hB.2.1) hB.2.2 hS1 hl h1 h2 h3) (fun u t H1 locs1 ht hvm hw hB hz hk1 hS1 => kk u hw H1 locs1 ls (ht ▸ hB.1) hB.2 hS1 hl)
/-- what a callee threw leaves this method too: no handler here -/
theorem vx_leave (C : Cx X lo nL G cc own) {px px0 : String → Prop} {wx : va_W} {mc ms : Nat} {Qc : Array Value → State → Outcome → State → Prop} {rest : List Value} (hout : ∀ x ∈ (xc X).exceptionTable.toList, False) (hpx : ∀ E, px0 E → px E) (hk : k ≤ mc) (hn : n ≤ ms) : ∀ (E : String) (ce : Cell) (q9 : Addr) (H1 : Heap) (locs1 : List Loc) (ls : Array Slot), px0 E → va_P G.1 vwCl wx H1 → va_D (Lo lo) wx → va_S (Lo lo) (xs X).heap H1 locs1 → lv_has ls nL lc → H1[q9]? = some ce → ce.vm = .none → (xs X).vm.findClass E = some ce.cls → vx_W (xp X) (xl X) (xe X) (xR X) (xs X) (xm X) (xa X) (xb X) (xh X) (xc X) H1 locs1 k n (vx_MQ (xb X) Qc (XC lo G px wx) (xa X) (xs X) mc ms (Lo lo)) (F0 (xm X) pc ls rest) q9 := fun E ce q9 H1 locs1 ls he hP hD hS hl h1 h2 h3 => vx_out (fun x hx => absurd hx (fun h => hout x h)) C.2.2.2.2.2.2.2.2 h1 h2 h3 (fun t ht hvm => ⟨(), trivial, ⟨hpx E he, by rw [ht]; exact hP, hD⟩, hS.F ht⟩) hS.2.2 hk hn
end VR2
section VR3
variable {X : vX} {lo nL : Nat} {G : vG} {Q : State → Prop} {k n : Nat} {ws : va_W} {lc : List (Nat × Value)} {st : List Value} {pc : Nat} {cc : ByteArray} {own : String}
theorem V_putF (C : Cx X lo nL G cc own) {ref : String} {ci index N a : Nat} {Cn : String} {T : u_T} (hin : ∀ w ∈ u_ws Cn T N, w ∈ WA) (ty0 : Nat → FieldType) (hty : ∀ k, k < N → parseFieldDescriptor (T k).2.2.1 = some (ty0 k)) (hnm : ∀ a, a < N → ∀ b, b < N → a ≠ b → (T a).2.1 ≠ (T b).2.1) (hc : vwCl[ci]? = some (Cn, T, N)) (kf : Nat) (hk : kf < N) (hlink : Cond.fieldLink own index ref (T kf).2.1 (T kf).2.2.1 ∈ WA) (hsame : (T kf).1 = ref) (hfin : (T kf).2.2.2 = true) (hin2 : (xh X).name = "<init>") (hdecl : (T kf).1 = own) (q0 : Nat) {fs : List Value} (he : ws[q0]? = some (a, .inr (ci, fs))) {v : Value} (hn : narrow (ty0 kf) v = v) (hfit : fits (ty0 kf) v = true) (hl0 : kf < fs.length) (ws1 : va_W) (hw : ws.set q0 (a, .inr (ci, fs.set kf v)) = ws1) (p1 : Nat) (hp : pc + 3 = p1) (d : decode cc pc = .ok (.putfield index, 3)) (kk : V X lo nL G Q k n ws1 lc st p1) : V X lo nL G Q k n ws lc (v :: .ref a :: st) pc := by
  subst hp
  subst hsame
  exact fun H locs ls hP hD hS hl => va_putF C.1 C.2.1 C.2.2.2.2.1 hin ty0 hty hnm C.2.2.2.1 C.2.2.2.2.2.1 hP hD hS q0 he hc kf hk (C.word hlink) (fun _ h => h) hfin hin2 hdecl (hty kf hk) hn hfit hl0 d (fun H locs hP hD hS => kk H locs ls (hw ▸ hP) (hw ▸ hD) hS hl)
theorem V_new (C : Cx X lo nL G cc own) {Cn : String} {T : u_T} {N ci index : Nat} (hin : ∀ w ∈ u_ws Cn T N, w ∈ WA) (ty0 : Nat → FieldType) (hty : ∀ k, k < N → parseFieldDescriptor (T k).2.2.1 = some (ty0 k)) (hcl : Cond.classLink own index Cn ∈ WA) (hinst : Cond.instantiable Cn N ∈ WA) (hini : Cond.initialized Cn ∈ WA) (hc : vwCl[ci]? = some (Cn, T, N)) {fs : List Value} (hfs : ∀ j, j < N → defaultValue (ty0 j) = vp_V fs j) (k1 n1 : Nat) (hk : k + 1 = k1) (hn : n + N = n1) (hcells : k1 ≤ (xR X).cells) (hslots : n1 ≤ (xR X).slots) (p1 : Nat) (hp : pc + 3 = p1) (d : decode cc pc = .ok (.new index, 3)) (kk : ∀ q : Nat, V X lo nL G Q k1 n1 (ws ++ [(q, .inr (ci, fs))]) lc (.ref q :: st) p1) : V X lo nL G Q k n ws lc st pc := by
  subst hp; subst hk; subst hn
  exact fun H locs ls hP hD hS hl => va_new C.1 C.2.1 C.2.2.2.2.1 hin ty0 hty C.2.2.2.1 (C.word hcl) (C.word hinst) (C.word hini) C.2.2.2.2.2.1 hP hD hS C.hA hc hfs hcells hslots d (fun q H1 hP hD hS => kk q H1 locs ls hP hD hS hl)
theorem gK_eq {G : vG} {U : State} {cA : ClassId} {ty : FieldType} (i : Nat) (c0 : ClassId) (h : va_K G.1 vwCl (gT G ++ [(cA, ty)]) U) (hi : (gT G)[i]? = some (c0, ty)) (hr : ∀ c : ClassId, va_RA U c ty → U.vm.findClass ("[" ++ ty.toString) = some c) : cA = c0 := by
  have h1 := hr _ (h.2 3 (cA, ty) rfl).2
  have h2 := hr _ (h.2 i (c0, ty) (by rw [List.getElem?_append_left (List.getElem?_eq_some_iff.mp hi).1]; exact hi)).2
  exact Option.some.inj (h1.symm.trans h2)

theorem V_newaI (C : Cx X lo nL G cc own) {N : Int32} (N1 : Nat) (hNN : N.toNatClampNeg = N1) (hneg : ¬ N < 0) (hN : N1 ≤ 60000) (k1 n1 : Nat) (hk : k + 1 = k1) (hn : n + N1 = n1) (hcells : k1 ≤ (xR X).cells) (hslots : n1 ≤ (xR X).slots) (p1 : Nat) (hp : pc + 2 = p1) (d : decode cc pc = .ok (.newarray .int, 2)) (kk : ∀ q : Nat, V X lo nL G Q k1 n1 (ws ++ [(q, .inl (G.2.1, N1, .inl (fun _ => 0)))]) lc (.ref q :: st) p1) : V X lo nL G Q k n ws lc (.int N :: st) pc := by
  subst hp; subst hk; subst hn
  exact fun H locs ls hP hD hS hl => va_newa (atype := .int) (ty := .int) (a0 := (N1, .inl (fun _ => 0))) C.1 C.2.1 (C.word ac_int) rfl C.2.2.2.2.2.1 hP hD hS C.hA (fun _ => rfl) hneg hNN (by show N1 * 4 ≤ 536870912; omega) hcells hslots d (fun q cA H1 hK hP hD hS => by
    have e := gK_eq 0 G.2.1 hK rfl (fun _ h => h)
    subst e
    exact kk q H1 locs ls hP hD hS hl)
theorem V_newaJ (C : Cx X lo nL G cc own) {N : Int32} (N1 : Nat) (hNN : N.toNatClampNeg = N1) (hneg : ¬ N < 0) (hN : N1 ≤ 60000) (k1 n1 : Nat) (hk : k + 1 = k1) (hn : n + N1 = n1) (hcells : k1 ≤ (xR X).cells) (hslots : n1 ≤ (xR X).slots) (p1 : Nat) (hp : pc + 2 = p1) (d : decode cc pc = .ok (.newarray .long, 2)) (kk : ∀ q : Nat, V X lo nL G Q k1 n1 (ws ++ [(q, .inl (G.2.2.1, N1, .inr (.inl (fun _ => 0))))]) lc (.ref q :: st) p1) : V X lo nL G Q k n ws lc (.int N :: st) pc := by
  subst hp; subst hk; subst hn
  exact fun H locs ls hP hD hS hl => va_newa (atype := .long) (ty := .long) (a0 := (N1, .inr (.inl (fun _ => 0)))) C.1 C.2.1 (C.word ac_long) rfl C.2.2.2.2.2.1 hP hD hS C.hA (fun _ => rfl) hneg hNN (by show N1 * 8 ≤ 536870912; omega) hcells hslots d (fun q cA H1 hK hP hD hS => by
    have e := gK_eq 1 G.2.2.1 hK rfl (fun _ h => h)
    subst e
    exact kk q H1 locs ls hP hD hS hl)
theorem V_newaZ (C : Cx X lo nL G cc own) {N : Int32} (N1 : Nat) (hNN : N.toNatClampNeg = N1) (hneg : ¬ N < 0) (hN : N1 ≤ 60000) (k1 n1 : Nat) (hk : k + 1 = k1) (hn : n + N1 = n1) (hcells : k1 ≤ (xR X).cells) (hslots : n1 ≤ (xR X).slots) (p1 : Nat) (hp : pc + 2 = p1) (d : decode cc pc = .ok (.newarray .boolean, 2)) (kk : ∀ q : Nat, V X lo nL G Q k1 n1 (ws ++ [(q, .inl (G.2.2.2, N1, .inl (fun _ => 0)))]) lc (.ref q :: st) p1) : V X lo nL G Q k n ws lc (.int N :: st) pc := by
  subst hp; subst hk; subst hn
  exact fun H locs ls hP hD hS hl => va_newa (atype := .boolean) (ty := .boolean) (a0 := (N1, .inl (fun _ => 0))) C.1 C.2.1 (C.word ac_boolean) rfl C.2.2.2.2.2.1 hP hD hS C.hA (fun _ => rfl) hneg hNN (by show N1 * 1 ≤ 536870912; omega) hcells hslots d (fun q cA H1 hK hP hD hS => by
    have e := gK_eq 2 G.2.2.2 hK rfl (fun _ h => h)
    subst e
    exact kk q H1 locs ls hP hD hS hl)
theorem V_objInit (C : Cx X lo nL G cc own) {index a : Nat} {rest : List Value} (hlink : Cond.methodLink own index objectInit ∈ WA) (hR : 1 ≤ (xR X).frames ∧ 20 ≤ (xR X).locals) (hrest : (rest.map fun v => v.category).sum ≤ 8) (p1 : Nat) (hp : pc + 3 = p1) (d : decode cc pc = .ok (.invokespecial index, 3)) (kk : V X lo nL G Q k n ws lc rest p1) : V X lo nL G Q k n ws lc (.ref a :: rest) pc := by
  subst hp
  exact fun H locs ls hP hD hS hl => W.objInit C.1 C.2.1 C.2.2.2.1 (C.word hlink) (C.word im_obj) (C.word co_obj) rfl (by rw [C.2.2.1]; exact hl.1) rfl d hR.1 (by have := lg_room (ls := ls) (m := xm X) (pc := pc) (st := .ref a :: rest) hrest; omega) (kk H locs ls hP hD hS hl)
theorem V_runI (C : Cx X lo nL G cc own) {y : MethodName} {bytes : ByteArray} {maxL d mc ms index nA b : Nat} {As rest : List Value} {Qc : Array Value → State → Outcome → State → Prop} (hM : Met (xl X) y (Cond.code y bytes maxL none :: WA) (rmD d mc ms) (va_Pc (.ref b :: As) (BI lo G ws)) Qc mc ms (Lo lo)) (hw : Cond.methodLink own index y ∈ WA ∧ Cond.instanceMethod y ∈ WA ∧ Cond.initialized y.cls ∈ WA ∧ Cond.code y bytes maxL none ∈ WA) (hy : y.name = "<init>") (hd : y.cls ≠ "java/lang/invoke/MethodHandle" ∧ y.cls ≠ "java/lang/invoke/VarHandle" ∧ (parseMethodDescriptor y.desc).map (fun d => d.parameters.length) = some nA) (hR : (rmD d mc ms).frames + 1 ≤ (xR X).frames ∧ 8 + (maxL + 11) + (rmD d mc ms).locals ≤ (xR X).locals) (hn : As.length = nA) (hst : st = As.reverse ++ .ref b :: rest) (hrest : (rest.map fun v => v.category).sum ≤ 8) (hf : k + mc ≤ (xR X).cells ∧ n + ms ≤ (xR X).slots) (d : decode cc pc = .ok (.invokespecial index, 3)) : VRun X lo nL G k n mc ms ws lc st rest pc (Qc (Value.ref b :: As).toArray) := fun H locs ls hP hD hS hl =>
  va_runI (As := As) (rest := rest) ⟨C.1, C.2.1, C.2.2.1, C.2.2.2.1, C.2.2.2.2.1⟩ hM (cwI nA C.2.2.2.2.1 (good_C hw.2.2.2) rfl rfl rfl (C.word hw.2.2.1) (C.word hw.1) (C.word hw.2.1) hy hd hR) ⟨bi_blind _ lo G ws, fun U hU hW => ⟨rfl, C.bi hP hD hS U hU hW⟩⟩ rfl hn hl.1 hst (lg_room hrest) d hf
theorem V_runIN (C : Cx X lo nL G cc own) {y : MethodName} {host : String} {bytes : ByteArray} {maxL d mc ms index nA b : Nat} {As rest : List Value} {Qc : Array Value → State → Outcome → State → Prop} (hM : Met (xl X) y (Cond.code y bytes maxL none :: WA) (rmD d mc ms) (va_Pc (.ref b :: As) (BI lo G ws)) Qc mc ms (Lo lo)) (hw : Cond.methodLinkNest own index y host ∈ wsN ∧ Cond.instanceMethod y ∈ WA ∧ Cond.initialized y.cls ∈ WA ∧ Cond.code y bytes maxL none ∈ WA) (hy : y.name = "<init>") (hd : y.cls ≠ "java/lang/invoke/MethodHandle" ∧ y.cls ≠ "java/lang/invoke/VarHandle" ∧ (parseMethodDescriptor y.desc).map (fun d => d.parameters.length) = some nA) (hR : (rmD d mc ms).frames + 1 ≤ (xR X).frames ∧ 8 + (maxL + 11) + (rmD d mc ms).locals ≤ (xR X).locals) (hn : As.length = nA) (hst : st = As.reverse ++ .ref b :: rest) (hrest : (rest.map fun v => v.category).sum ≤ 8) (hf : k + mc ≤ (xR X).cells ∧ n + ms ≤ (xR X).slots) (d : decode cc pc = .ok (.invokespecial index, 3)) : VRun X lo nL G k n mc ms ws lc st rest pc (Qc (Value.ref b :: As).toArray) := fun H locs ls hP hD hS hl =>
  va_runIN (As := As) (rest := rest) ⟨C.1, C.2.1, C.2.2.1, C.2.2.2.1, C.2.2.2.2.1⟩ hM ⟨va_cnB nA C.2.2.2.2.1 (good_C hw.2.2.2) rfl rfl rfl (C.2.2.2.2.2.2.1.1 _ hw.1) (C.word hw.2.2.1) hd hR, hy, C.word hw.2.1⟩ ⟨bi_blind _ lo G ws, fun U hU hW => ⟨rfl, C.bi hP hD hS U hU hW⟩⟩ rfl hn hl.1 hst (lg_room hrest) d hf
/-- array cells by a natural number -/
theorem V_ialdN (C : Cx X lo nL G cc own) {i : Int32} {a N : Nat} {f : Nat → Int32} (j : Nat) (hi : i = nI j) (hj : j < N) (hN : N ≤ 60000) (q0 : Nat) (ha : ws[q0]? = some (a, .inl (G.2.1, N, .inl f))) (p1 : Nat) (hp : pc + 1 = p1) (d : decode cc pc = .ok (.iaload, 1)) (kk : V X lo nL G Q k n ws lc (.int (f j) :: st) p1) : V X lo nL G Q k n ws lc (.int i :: .ref a :: st) pc := by
  subst hi
  refine V_iald C p1 hp d q0 ha (vp_in_nI hj (by omega)) ?_
  rw [nI_clamp (by omega)]
  exact kk
theorem V_zaldN (C : Cx X lo nL G cc own) {i : Int32} {a N : Nat} {f : Nat → Int32} (j : Nat) (hi : i = nI j) (hj : j < N) (hN : N ≤ 60000) (q0 : Nat) (ha : ws[q0]? = some (a, .inl (G.2.2.2, N, .inl f))) (p1 : Nat) (hp : pc + 1 = p1) (d : decode cc pc = .ok (.baload, 1)) (kk : V X lo nL G Q k n ws lc (.int (f j) :: st) p1) : V X lo nL G Q k n ws lc (.int i :: .ref a :: st) pc := by
  subst hi
  refine V_zald C p1 hp d q0 ha (vp_in_nI hj (by omega)) ?_
  rw [nI_clamp (by omega)]
  exact kk
theorem V_laldN (C : Cx X lo nL G cc own) {i : Int32} {a N : Nat} {f : Nat → Int64} (j : Nat) (hi : i = nI j) (hj : j < N) (hN : N ≤ 60000) (q0 : Nat) (ha : ws[q0]? = some (a, .inl (G.2.2.1, N, .inr (.inl f)))) (p1 : Nat) (hp : pc + 1 = p1) (d : decode cc pc = .ok (.laload, 1)) (kk : V X lo nL G Q k n ws lc (.long (f j) :: st) p1) : V X lo nL G Q k n ws lc (.int i :: .ref a :: st) pc := by
  subst hi
  refine V_lald C p1 hp d q0 ha (vp_in_nI hj (by omega)) ?_
  rw [nI_clamp (by omega)]
  exact kk
theorem V_iastN (C : Cx X lo nL G cc own) {i x : Int32} {a N : Nat} {f : Nat → Int32} (j : Nat) (hi : i = nI j) (hj : j < N) (hN : N ≤ 60000) (q0 : Nat) (ha : ws[q0]? = some (a, .inl (G.2.1, N, .inl f))) (ws1 : va_W) (hw : ws.set q0 (a, .inl (G.2.1, N, .inl (upd f j x))) = ws1) (p1 : Nat) (hp : pc + 1 = p1) (d : decode cc pc = .ok (.iastore, 1)) (kk : V X lo nL G Q k n ws1 lc st p1) : V X lo nL G Q k n ws lc (.int x :: .int i :: .ref a :: st) pc := by
  subst hi
  exact V_iast C p1 hp d q0 ha (vp_in_nI hj (by omega)) ws1 (by rw [nI_clamp (by omega)]; exact hw) kk
theorem V_lastN (C : Cx X lo nL G cc own) {i : Int32} {x : Int64} {a N : Nat} {f : Nat → Int64} (j : Nat) (hi : i = nI j) (hj : j < N) (hN : N ≤ 60000) (q0 : Nat) (ha : ws[q0]? = some (a, .inl (G.2.2.1, N, .inr (.inl f)))) (ws1 : va_W) (hw : ws.set q0 (a, .inl (G.2.2.1, N, .inr (.inl (vp_updL f j x)))) = ws1) (p1 : Nat) (hp : pc + 1 = p1) (d : decode cc pc = .ok (.lastore, 1)) (kk : V X lo nL G Q k n ws1 lc st p1) : V X lo nL G Q k n ws lc (.long x :: .int i :: .ref a :: st) pc := by
  subst hi
  exact V_last C p1 hp d q0 ha (vp_in_nI hj (by omega)) ws1 (by rw [nI_clamp (by omega)]; exact hw) kk
theorem V_zastN (C : Cx X lo nL G cc own) {i x : Int32} {a N : Nat} {f : Nat → Int32} (j : Nat) (hi : i = nI j) (hx : vp_nar .boolean x = x) (hj : j < N) (hN : N ≤ 60000) (q0 : Nat) (ha : ws[q0]? = some (a, .inl (G.2.2.2, N, .inl f))) (ws1 : va_W) (hw : ws.set q0 (a, .inl (G.2.2.2, N, .inl (upd f j x))) = ws1) (p1 : Nat) (hp : pc + 1 = p1) (d : decode cc pc = .ok (.bastore, 1)) (kk : V X lo nL G Q k n ws1 lc st p1) : V X lo nL G Q k n ws lc (.int x :: .int i :: .ref a :: st) pc := by
  subst hi
  exact V_zast C p1 hp d q0 ha (vp_in_nI hj (by omega)) ws1 (by rw [hx, nI_clamp (by omega)]; exact hw) kk
end VR3
