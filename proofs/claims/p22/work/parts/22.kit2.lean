/-! rows more: array lengths, the table of trees, throws -/
abbrev EIAE : String := "java/lang/IllegalArgumentException"
theorem ini_IAE : Cond.initialized EIAE ∈ WA := wa_mem 24 (by decide +kernel) rfl
abbrev EISE : String := "java/lang/IllegalStateException"
theorem ini_ISE : Cond.initialized EISE ∈ WA := wa_mem 25 (by decide +kernel) rfl
abbrev EIOB : String := "java/lang/IndexOutOfBoundsException"
theorem ini_IOB : Cond.initialized EIOB ∈ WA := wa_mem 23 (by decide +kernel) rfl
def exNames : List String := ["java/lang/RuntimeException", "java/lang/Exception"]
theorem hat_IAE : ∀ w ∈ (vx_atS RX4 40 EIAE exNames).filter goodWord, w ∈ lw_tbl := by decide +kernel
theorem hat2_IAE : ∀ w ∈ (vx_atS RX4 40 EIAE exNames).filter goodWord, w ∈ WA := fun w h => List.mem_filter.mpr ⟨hat_IAE w h, (List.mem_filter.mp h).2⟩
theorem hatN_IAE : ∀ w ∈ (vx_atS RX4 40 EIAE exNames).filter (fun w => !goodWord w), w ∈ wsN := by decide +kernel
theorem hgd_IAE : ∀ w ∈ Cond.classLink RX4 36 EIAE :: Cond.initialized EIAE :: vx_atS RX4 40 EIAE exNames, vx_ot w = true := by decide +kernel
theorem hat_ISE : ∀ w ∈ (vx_atS RX4 53 EISE exNames).filter goodWord, w ∈ lw_tbl := by decide +kernel
theorem hat2_ISE : ∀ w ∈ (vx_atS RX4 53 EISE exNames).filter goodWord, w ∈ WA := fun w h => List.mem_filter.mpr ⟨hat_ISE w h, (List.mem_filter.mp h).2⟩
theorem hatN_ISE : ∀ w ∈ (vx_atS RX4 53 EISE exNames).filter (fun w => !goodWord w), w ∈ wsN := by decide +kernel
theorem hgd_ISE : ∀ w ∈ Cond.classLink RX4 49 EISE :: Cond.initialized EISE :: vx_atS RX4 53 EISE exNames, vx_ot w = true := by decide +kernel
theorem hat_IOB : ∀ w ∈ (vx_atS RX4 95 EIOB exNames).filter goodWord, w ∈ lw_tbl := by decide +kernel
theorem hat2_IOB : ∀ w ∈ (vx_atS RX4 95 EIOB exNames).filter goodWord, w ∈ WA := fun w h => List.mem_filter.mpr ⟨hat_IOB w h, (List.mem_filter.mp h).2⟩
theorem hatN_IOB : ∀ w ∈ (vx_atS RX4 95 EIOB exNames).filter (fun w => !goodWord w), w ∈ wsN := by decide +kernel
theorem hgd_IOB : ∀ w ∈ Cond.classLink RX4 91 EIOB :: Cond.initialized EIOB :: vx_atS RX4 95 EIOB exNames, vx_ot w = true := by decide +kernel
section VR4
variable {X : vX} {lo nL : Nat} {G : vG} {Q : State → Prop} {k n : Nat} {ws : va_W} {lc : List (Nat × Value)} {st : List Value} {pc : Nat} {cc : ByteArray} {own : String}
theorem V_alenI (C : Cx X lo nL G cc own) {a N : Nat} {f : Nat → Int32} (q0 : Nat) (ha : ws[q0]? = some (a, .inl (G.2.1, N, .inl f))) (p1 : Nat) (hp : pc + 1 = p1) (d : decode cc pc = .ok (.arraylength, 1)) (kk : V X lo nL G Q k n ws lc (.int (nI N) :: st) p1) : V X lo nL G Q k n ws lc (.ref a :: st) pc := by
  subst hp
  exact fun H locs ls hP hD hS hl => va_alen (x := (N, .inl f)) (ty := .int) C.1 C.2.1 C.2.2.2.2.2.1 hP q0 0 ha rfl rfl d (kk H locs ls hP hD hS hl)
theorem V_alenJ (C : Cx X lo nL G cc own) {a N : Nat} {f : Nat → Int64} (q0 : Nat) (ha : ws[q0]? = some (a, .inl (G.2.2.1, N, .inr (.inl f)))) (p1 : Nat) (hp : pc + 1 = p1) (d : decode cc pc = .ok (.arraylength, 1)) (kk : V X lo nL G Q k n ws lc (.int (nI N) :: st) p1) : V X lo nL G Q k n ws lc (.ref a :: st) pc := by
  subst hp
  exact fun H locs ls hP hD hS hl => va_alen (x := (N, .inr (.inl f))) (ty := .long) C.1 C.2.1 C.2.2.2.2.2.1 hP q0 1 ha rfl rfl d (kk H locs ls hP hD hS hl)
/-- the table of trees: its cell, by a name -/
theorem V_trees (C : Cx X lo nL G cc RX4) (p1 : Nat) (hp : pc + 3 = p1) (d : decode cc pc = .ok (.getstatic 147, 3)) (kk : ∀ t : Nat, va_T .int t 9 trees9 (Lo lo) (xs X) (xs X).heap → V X lo nL G Q k n ws lc (.ref t :: st) p1) : V X lo nL G Q k n ws lc st pc := by
  subst hp
  obtain ⟨t, h1, h2⟩ := C.2.2.2.2.2.2.1.2.2.2.2
  exact fun H locs ls hP hD hS hl => va_gets (C := "PartSplitter") (ref := "PartSplitter") C.1 C.2.1 h1 hS C.2.2.2.1 (C.word fl_X4_147) (fun _ h => h) d (kk t h2 H locs ls hP hD hS hl)
theorem V_tlen (C : Cx X lo nL G cc own) {t : Nat} (hT : va_T .int t 9 trees9 (Lo lo) (xs X) (xs X).heap) (p1 : Nat) (hp : pc + 1 = p1) (d : decode cc pc = .ok (.arraylength, 1)) (kk : V X lo nL G Q k n ws lc (.int (nI 9) :: st) p1) : V X lo nL G Q k n ws lc (.ref t :: st) pc := by
  subst hp
  exact fun H locs ls hP hD hS hl => va_tlen C.1 C.2.1 hT hS rfl d (kk H locs ls hP hD hS hl)
theorem V_tald (C : Cx X lo nL G cc own) {t : Nat} (hT : va_T .int t 9 trees9 (Lo lo) (xs X) (xs X).heap) {i : Int32} (j : Nat) (hi : i = nI j) (hj : j < 9) (p1 : Nat) (hp : pc + 1 = p1) (d : decode cc pc = .ok (.iaload, 1)) (kk : V X lo nL G Q k n ws lc (trees9 j :: st) p1) : V X lo nL G Q k n ws lc (.int i :: .ref t :: st) pc := by
  subst hp
  subst hi
  exact fun H locs ls hP hD hS hl => va_ti C.1 C.2.1 hT hS (vp_in_nI hj (by decide)) (by rw [nI_clamp (show j < 2 ^ 31 by omega)]) d (kk H locs ls hP hD hS hl)
theorem V_throwS (C : Cx X lo nL G cc RX4) (hst : (xl X).stackTraces = false) {cls text : String} {ik is ic mc ms D0 : Nat} {px : String → Prop} {wx : va_W} {Qc : Array Value → State → Outcome → State → Prop} (hk : Cond.classLink RX4 ik cls ∈ WA) (hini : Cond.initialized cls ∈ WA) (hstr : (is, text) ∈ strsN) (hcls : Bundle.fit cls = true) (hat : ∀ w ∈ (vx_atS RX4 ic cls exNames).filter goodWord, w ∈ WA) (hatN : ∀ w ∈ (vx_atS RX4 ic cls exNames).filter (fun w => !goodWord w), w ∈ wsN) (hgood : ∀ w ∈ Cond.classLink RX4 ik cls :: Cond.initialized cls :: vx_atS RX4 ic cls exNames, vx_ot w = true)
    (hout : ∀ x ∈ (xc X).exceptionTable.toList, False) (hX : RmX X D0 mc ms) (hD0 : 7 ≤ D0) (hkc : k + 1 ≤ mc) (hns : n + 6 ≤ ms) (hpx : px cls) (hw : ws = wx)
    (d0 : decode cc pc = .ok (.new ik, 3)) (d3 : decode cc (pc + 3) = .ok (.dup, 1)) (d4 : decode cc (pc + 4) = .ok (.ldc is, 2)) (d6 : decode cc (pc + 6) = .ok (.invokespecial ic, 3)) (d9 : decode cc (pc + 9) = .ok (.athrow, 1)) : V X lo nL G (vx_MQ (xb X) Qc (XC lo G px wx) (xa X) (xs X) mc ms (Lo lo)) k n ws lc [] pc := by
  subst hw
  obtain ⟨g1, g2, g3, g4, g5⟩ := C.2.2.2.2.2.2.1
  obtain ⟨sa, hsa⟩ := g2.1 _ hstr
  obtain ⟨x1, x2, x3, x4⟩ := hX
  exact fun H locs ls hP hD hS hl => vx_throwS (names := exNames) C.1 C.2.1 hst C.2.2.2.1 hcls (by decide +kernel) (C.word hk) (C.word hini) hsa (vx_hat (fun w hw => C.word (hat w hw)) hatN (fun w hw => va_Nw.use (by revert hw; revert w; decide +kernel) (g1 w hw))) hgood g3 g4 hS (by rw [C.2.2.1]; exact hl.1) d0 d3 d4 d6 d9 (fun x hx => absurd hx (fun h => hout x h)) (by show 5 < _; omega) (by show 0 + (13 * 3 + 43) ≤ _; omega) (by omega) (by omega) C.2.2.2.2.2.2.2.2
    (fun t ht hz hq => ⟨(), trivial, ⟨hpx, hP.kept (fun j q hj => hq _ (hP j q hj).lt), hD⟩, ⟨Nat.le_trans hS.1 hz, fun q h1 h2 => (hq q (Nat.lt_of_lt_of_le h1 hS.1)).trans (hS.2.1 q h1 h2)⟩⟩) hS.2.2 hkc hns
end VR4
