/-- how often v can be doubled -/
def dbl : Nat → Nat → Nat
  | 0, _ => 0
  | f + 1, v => if v ≤ 10000 then 1 + dbl f (v * 2) else 0
def ko (c : Nat) : Nat := 10 + 10 * dbl 13 (2 * c)
theorem dbl_le (f v : Nat) : dbl f v ≤ f := by
  induction f generalizing v with
  | zero => exact Nat.le_refl _
  | succ f ih => unfold dbl; split <;> have := ih (v * 2) <;> omega
theorem dbl_hi (f : Nat) {v : Nat} (h : 10000 < v) : dbl f v = 0 := by
  cases f with
  | zero => rfl
  | succ f => unfold dbl; rw [if_neg (by omega)]
theorem ko_le (c : Nat) : ko c ≤ 140 := by have := dbl_le 13 (2 * c); unfold ko; omega
theorem ko_ge (c : Nat) : 10 ≤ ko c := by unfold ko; omega
theorem isP_t {np : Nat} {x : Int32} (hnp : np ≤ 16) (h : isP np x = true) : ∃ p, p < np ∧ x = nI p := by
  unfold isP at h
  rw [decide_eq_true_eq] at h
  obtain ⟨h1, h2⟩ := h
  obtain ⟨j, hj, rfl⟩ := nI_of (x := x) (Int32.not_lt.mpr h1)
  refine ⟨j, ?_, rfl⟩
  rcases Nat.eq_zero_or_pos np with rfl | hp
  · exfalso
    have : nI j ≤ -1 := h2
    rw [Int32.le_iff_toInt_le, nI_toInt hj] at this
    have e : (-1 : Int32).toInt = -1 := by decide
    omega
  · rw [show (1 : Int32) = nI 1 from rfl, nI_subN hp] at h2
    have := (nI_leI hj (by omega)).mp h2
    omega
theorem isP_of {np p : Nat} (hnp : np ≤ 16) (h : p < np) : isP np (nI p) = true := by
  unfold isP
  rw [decide_eq_true_eq, show (1 : Int32) = nI 1 from rfl, nI_subN (by omega), show (0 : Int32) = nI 0 from rfl]
  exact ⟨nI_le (by omega) (by omega), nI_le (by omega) (by omega)⟩
/-- the bit of a mask -/
def bitI (x : Int32) (q : Nat) : Bool := decide ((x >>> (nI q &&& 31)) &&& nI 1 = nI 1)
def setI (x : Int32) (q : Nat) (b : Bool) : Int32 := if b then x ||| (nI 1 <<< (nI q &&& 31)) else x &&& ((nI 1 <<< (nI q &&& 31)) ^^^ (-1))
def goodP (text count flags : Int32) : Prop := 0 < SZ text 4 ∧ (nI 1 ≤ count ∧ count ≤ nI 9999) ∧ (nI 1 ≤ flags ∧ flags ≤ nI 7)
def mAddPart (np : Nat) (T S C F : Nat → Int32) (text count flags r : Int32) (th1 np1 : Nat) (T1 S1 C1 F1 : Nat → Int32) : Prop :=
  (¬ goodP text count flags ∧ th1 = 1 ∧ np1 = np ∧ T1 = T ∧ S1 = S ∧ C1 = C ∧ F1 = F) ∨
  (goodP text count flags ∧ (np = 16 ∨ lastW T text np ≠ -1) ∧ th1 = 2 ∧ np1 = np ∧ T1 = T ∧ S1 = S ∧ C1 = C ∧ F1 = F) ∨
  (goodP text count flags ∧ np < 16 ∧ lastW T text np = -1 ∧ th1 = 0 ∧ r = nI np ∧ np1 = np + 1 ∧ T1 = upd T np text ∧ S1 = upd S np (nI (SZ text 4)) ∧ C1 = upd C np count ∧ F1 = upd F np flags)
def mSetFlags (np : Nat) (F : Nat → Int32) (part flags r : Int32) (th1 : Nat) (F1 : Nat → Int32) : Prop :=
  (isP np part = false ∧ th1 = 1 ∧ F1 = F) ∨ (isP np part = true ∧ ¬ (nI 0 ≤ flags ∧ flags ≤ nI 7) ∧ th1 = 2 ∧ F1 = F) ∨
  (∃ p, p < np ∧ part = nI p ∧ (nI 0 ≤ flags ∧ flags ≤ nI 7) ∧ th1 = 0 ∧ r = F p ∧ F1 = upd F p flags)
def isIn (T : Nat → Int32) (x : Int32) : Nat → Bool
  | 0 => false
  | i + 1 => isIn T x i || decide (T i = x)
def mAddLink (nl : Nat) (LT LS : Nat → Int32) (text r : Int32) (th1 nl1 : Nat) (LT1 LS1 : Nat → Int32) : Prop :=
  (SZ text 2 = 0 ∧ th1 = 1 ∧ nl1 = nl ∧ LT1 = LT ∧ LS1 = LS) ∨
  (SZ text 2 ≠ 0 ∧ (nl = 6 ∨ isIn LT text nl = true) ∧ th1 = 2 ∧ nl1 = nl ∧ LT1 = LT ∧ LS1 = LS) ∨
  (SZ text 2 ≠ 0 ∧ nl < 6 ∧ isIn LT text nl = false ∧ th1 = 0 ∧ r = nI nl ∧ nl1 = nl + 1 ∧ LT1 = upd LT nl text ∧ LS1 = upd LS nl (nI (SZ text 2)))
def mMask (np nq : Nat) (VE : Nat → Int32) (part next : Int32) (b : Bool) (r : Int32) (th1 : Nat) (VE1 : Nat → Int32) : Prop :=
  ((isP np part = false ∨ isP nq next = false) ∧ th1 = 1 ∧ VE1 = VE) ∨
  (∃ p q, p < np ∧ q < nq ∧ part = nI p ∧ next = nI q ∧ th1 = 0 ∧ r = bI (bitI (VE p) q) ∧ VE1 = upd VE p (setI (VE p) q b))
set_option maxHeartbeats 4000000 in
set_option maxRecDepth 100000 in
theorem kX5_thrown (l : Launch) (lo : Nat) (G : vG) (rs : va_W) (g : Nat → Nat) (th : Nat) (np : Nat) (nl : Nat) (ld : Nat) (ll : Nat) (mn : Int32) (sp : Nat) (T : Nat → Int32) (S : Nat → Int32) (C : Nat → Int32) (F : Nat → Int32) (LT : Nat → Int32) (LS : Nat → Int32) (VE : Nat → Int32) (BA : Nat → Int32) (wd : Nat → Int32) (mo : Nat → Int32) (lt : Nat → Int32) (op : Nat → Int32) (pl : Nat → Int32) (pt : Nat → Int32) (ks : Nat → Int64) : Mi l yX5_thrown (.code yX5_thrown prog_7_method_2_code 1 (some .int)) 1 0 0 lo G [.ref (g 0)] (mW G g th np nl ld ll mn sp T S C F LT LS VE BA wd mo lt op pl pt ks ++ rs) (fun (r : Int32) (_ : Unit) => r = nI th) (fun (_ : Unit) => mW G g th np nl ld ll mn sp T S C F LT LS VE BA wd mo lt op pl pt ks ++ rs) := by
  refine Mi_of (lc := [(0, .ref (g 0))]) (by decide +kernel) (Nat.le_of_ble_eq_true rfl) rfl ?_
  intro X cx hXR hXl hr hin
  subst hXl
  have hX := RmX.of hXR
  refine V_aload_n cx 1 rfl dX5_thrown_0 0 rfl ?_
  refine GX5_56 cx 0 rfl rfl 4 rfl dX5_thrown_1 ?_
  exact V_ireturn cx hr () (by first | rfl | trivial) rfl (by omega) (by omega) dX5_thrown_4
set_option maxHeartbeats 4000000 in
set_option maxRecDepth 100000 in
theorem kX5_parts (l : Launch) (lo : Nat) (G : vG) (rs : va_W) (g : Nat → Nat) (th : Nat) (np : Nat) (nl : Nat) (ld : Nat) (ll : Nat) (mn : Int32) (sp : Nat) (T : Nat → Int32) (S : Nat → Int32) (C : Nat → Int32) (F : Nat → Int32) (LT : Nat → Int32) (LS : Nat → Int32) (VE : Nat → Int32) (BA : Nat → Int32) (wd : Nat → Int32) (mo : Nat → Int32) (lt : Nat → Int32) (op : Nat → Int32) (pl : Nat → Int32) (pt : Nat → Int32) (ks : Nat → Int64) : Mi l yX5_parts (.code yX5_parts prog_7_method_13_code 1 (some .int)) 1 0 0 lo G [.ref (g 0)] (mW G g th np nl ld ll mn sp T S C F LT LS VE BA wd mo lt op pl pt ks ++ rs) (fun (r : Int32) (_ : Unit) => r = nI np) (fun (_ : Unit) => mW G g 0 np nl ld ll mn sp T S C F LT LS VE BA wd mo lt op pl pt ks ++ rs) := by
  refine Mi_of (lc := [(0, .ref (g 0))]) (by decide +kernel) (Nat.le_of_ble_eq_true rfl) rfl ?_
  intro X cx hXR hXl hr hin
  subst hXl
  have hX := RmX.of hXR
  refine V_aload_n cx 1 rfl dX5_parts_0 0 rfl ?_
  refine V_iconst (v := nI 0) cx 2 rfl dX5_parts_1 (by decide) ?_
  refine PX5_56 cx 0 rfl (Nat.le_of_ble_eq_true rfl) (mW G g 0 np nl ld ll mn sp T S C F LT LS VE BA wd mo lt op pl pt ks ++ rs) rfl 5 rfl dX5_parts_2 ?_
  refine V_aload_n cx 6 rfl dX5_parts_5 0 rfl ?_
  refine GX5_68 cx 0 rfl rfl 9 rfl dX5_parts_6 ?_
  exact V_ireturn cx hr () (by first | rfl | trivial) rfl (by omega) (by omega) dX5_parts_9
set_option maxHeartbeats 4000000 in
set_option maxRecDepth 100000 in
theorem kX5_learned (l : Launch) (lo : Nat) (G : vG) (rs : va_W) (g : Nat → Nat) (th : Nat) (np : Nat) (nl : Nat) (ld : Nat) (ll : Nat) (mn : Int32) (sp : Nat) (T : Nat → Int32) (S : Nat → Int32) (C : Nat → Int32) (F : Nat → Int32) (LT : Nat → Int32) (LS : Nat → Int32) (VE : Nat → Int32) (BA : Nat → Int32) (wd : Nat → Int32) (mo : Nat → Int32) (lt : Nat → Int32) (op : Nat → Int32) (pl : Nat → Int32) (pt : Nat → Int32) (ks : Nat → Int64) : Mi l yX5_learned (.code yX5_learned prog_7_method_44_code 1 (some .int)) 1 0 0 lo G [.ref (g 0)] (mW G g th np nl ld ll mn sp T S C F LT LS VE BA wd mo lt op pl pt ks ++ rs) (fun (r : Int32) (_ : Unit) => r = nI ld) (fun (_ : Unit) => mW G g 0 np nl ld ll mn sp T S C F LT LS VE BA wd mo lt op pl pt ks ++ rs) := by
  refine Mi_of (lc := [(0, .ref (g 0))]) (by decide +kernel) (Nat.le_of_ble_eq_true rfl) rfl ?_
  intro X cx hXR hXl hr hin
  subst hXl
  have hX := RmX.of hXR
  refine V_aload_n cx 1 rfl dX5_learned_0 0 rfl ?_
  refine V_iconst (v := nI 0) cx 2 rfl dX5_learned_1 (by decide) ?_
  refine PX5_56 cx 0 rfl (Nat.le_of_ble_eq_true rfl) (mW G g 0 np nl ld ll mn sp T S C F LT LS VE BA wd mo lt op pl pt ks ++ rs) rfl 5 rfl dX5_learned_2 ?_
  refine V_aload_n cx 6 rfl dX5_learned_5 0 rfl ?_
  refine GX5_163 cx 0 rfl rfl 9 rfl dX5_learned_6 ?_
  exact V_ireturn cx hr () (by first | rfl | trivial) rfl (by omega) (by omega) dX5_learned_9
set_option maxHeartbeats 4000000 in
set_option maxRecDepth 100000 in
theorem kX5_addPart (l : Launch) (lo : Nat) (G : vG) (rs : va_W) (g : Nat → Nat) (th : Nat) (np : Nat) (nl : Nat) (ld : Nat) (ll : Nat) (mn : Int32) (sp : Nat) (T : Nat → Int32) (S : Nat → Int32) (C : Nat → Int32) (F : Nat → Int32) (LT : Nat → Int32) (LS : Nat → Int32) (VE : Nat → Int32) (BA : Nat → Int32) (wd : Nat → Int32) (mo : Nat → Int32) (lt : Nat → Int32) (op : Nat → Int32) (pl : Nat → Int32) (pt : Nat → Int32) (ks : Nat → Int64) (text : Int32) (count : Int32) (flags : Int32) (hnp : np ≤ 16) : Mi l yX5_addPart (.code yX5_addPart prog_7_method_8_code 5 (some .int)) 3 0 0 lo G [.ref (g 0), .int text, .int count, .int flags] (mW G g th np nl ld ll mn sp T S C F LT LS VE BA wd mo lt op pl pt ks ++ rs) (fun (r : Int32) ((th1, np1, T1, S1, C1, F1) : (Nat) × (Nat) × (Nat → Int32) × (Nat → Int32) × (Nat → Int32) × (Nat → Int32)) => mAddPart np T S C F text count flags r th1 np1 T1 S1 C1 F1) (fun ((th1, np1, T1, S1, C1, F1) : (Nat) × (Nat) × (Nat → Int32) × (Nat → Int32) × (Nat → Int32) × (Nat → Int32)) => mW G g th1 np1 nl ld ll mn sp T1 S1 C1 F1 LT LS VE BA wd mo lt op pl pt ks ++ rs) := by
  refine Mi_of (lc := [(0, .ref (g 0)), (1, .int text), (2, .int count), (3, .int flags)]) (by decide +kernel) (Nat.le_of_ble_eq_true rfl) rfl ?_
  intro X cx hXR hXl hr hin
  subst hXl
  have hX := RmX.of hXR
  refine V_iload_n cx 1 rfl dX5_addPart_0 1 rfl ?_
  refine V_iconst (v := nI 4) cx 2 rfl dX5_addPart_1 (by decide) ?_
  refine KX5_71 (As := [.int text, .int (nI 4)]) (rest := []) cx (kX5_sizeOf (xl X) lo G _ text 4 (by omega)) hX (by omega) rfl rfl (Nat.le_of_ble_eq_true rfl) 5 0 0 rfl rfl rfl (by omega) (by omega) dX5_addPart_2 (fun r_1 u_2 hw_3 => ?_)
  try dsimp only at hw_3
  subst hw_3
  have fk_4 := SZ_le text 4
  refine V_if_le cx 8 33 rfl dX5_addPart_5 (by decide) (fun c_5 => ?_) (fun c_5 => ?_)
  · skip
    have n_5 : SZ text 4 ≤ 0 := Z_le_t (by omega) c_5
    refine V_iconst (v := nI 0) cx 34 rfl dX5_addPart_33 (by decide) ?_
    refine V_istore (lc1 := [(4, .int (nI 0)), (0, .ref (g 0)), (1, .int text), (2, .int count), (3, .int flags)]) cx 36 rfl dX5_addPart_34 (by decide) rfl ?_
    refine V_aload_n cx 37 rfl dX5_addPart_36 1 rfl ?_
    refine V_iload cx 39 rfl dX5_addPart_37 0 rfl ?_
    refine V_if_ne cx 42 46 rfl dX5_addPart_39 (by decide) (fun c_39 => ?_) (fun c_39 => ?_)
    · skip
      exact absurd c_39 (by decide)
    · skip
      refine V_iconst (v := nI 1) cx 43 rfl dX5_addPart_42 (by decide) ?_
      refine V_goto cx 69 dX5_addPart_43 (by decide) ?_
      refine PX5_56 cx 0 rfl (Nat.le_of_ble_eq_true rfl) (mW G g 1 np nl ld ll mn sp T S C F LT LS VE BA wd mo lt op pl pt ks ++ rs) rfl 72 rfl dX5_addPart_69 ?_
      refine V_aload_n cx 73 rfl dX5_addPart_72 1 rfl ?_
      refine GX5_56 cx 0 rfl rfl 76 rfl dX5_addPart_73 ?_
      refine V_if_le cx 79 81 rfl dX5_addPart_76 (by decide) (fun c_76 => ?_) (fun c_76 => ?_)
      · skip
        exact absurd c_76 (by decide)
      · skip
        refine V_iconst (v := nI 0) cx 80 rfl dX5_addPart_79 (by decide) ?_
        exact V_ireturn cx hr (1, np, T, S, C, F) (by refine Or.inl ⟨fun h => ?_, rfl, rfl, rfl, rfl, rfl, rfl⟩; first | (have := h.1; omega) | exact n_16 h.2.1 | exact n_26 h.2.2) rfl (by omega) (by omega) dX5_addPart_80
  · skip
    have n_5 : SZ text 4 > 0 := Z_le_f (by omega) c_5
    refine V_iload_n cx 9 rfl dX5_addPart_8 2 rfl ?_
    refine V_iconst (v := nI 1) cx 10 rfl dX5_addPart_9 (by decide) ?_
    refine V_sipush (v := nI 9999) cx 13 rfl dX5_addPart_10 (by decide) ?_
    refine KX5_64 (As := [.int count, .int (nI 1), .int (nI 9999)]) (rest := []) cx (kX5_in (xl X) lo G _ count (nI 1) (nI 9999)) hX (by omega) rfl rfl (Nat.le_of_ble_eq_true rfl) 16 0 0 rfl rfl rfl (by omega) (by omega) dX5_addPart_13 (fun r_5 u_6 hw_7 => ?_)
    try dsimp only at hw_7
    subst hw_7
    refine V_if_eq cx 19 33 rfl dX5_addPart_16 (by decide) (fun c_16 => ?_) (fun c_16 => ?_)
    · skip
      have n_16 := B_eq_t c_16
      try simp only [decide_eq_true_eq, decide_eq_false_iff_not] at n_16
      refine V_iconst (v := nI 0) cx 34 rfl dX5_addPart_33 (by decide) ?_
      refine V_istore (lc1 := [(4, .int (nI 0)), (0, .ref (g 0)), (1, .int text), (2, .int count), (3, .int flags)]) cx 36 rfl dX5_addPart_34 (by decide) rfl ?_
      refine V_aload_n cx 37 rfl dX5_addPart_36 1 rfl ?_
      refine V_iload cx 39 rfl dX5_addPart_37 0 rfl ?_
      refine V_if_ne cx 42 46 rfl dX5_addPart_39 (by decide) (fun c_39 => ?_) (fun c_39 => ?_)
      · skip
        exact absurd c_39 (by decide)
      · skip
        refine V_iconst (v := nI 1) cx 43 rfl dX5_addPart_42 (by decide) ?_
        refine V_goto cx 69 dX5_addPart_43 (by decide) ?_
        refine PX5_56 cx 0 rfl (Nat.le_of_ble_eq_true rfl) (mW G g 1 np nl ld ll mn sp T S C F LT LS VE BA wd mo lt op pl pt ks ++ rs) rfl 72 rfl dX5_addPart_69 ?_
        refine V_aload_n cx 73 rfl dX5_addPart_72 1 rfl ?_
        refine GX5_56 cx 0 rfl rfl 76 rfl dX5_addPart_73 ?_
        refine V_if_le cx 79 81 rfl dX5_addPart_76 (by decide) (fun c_76 => ?_) (fun c_76 => ?_)
        · skip
          exact absurd c_76 (by decide)
        · skip
          refine V_iconst (v := nI 0) cx 80 rfl dX5_addPart_79 (by decide) ?_
          exact V_ireturn cx hr (1, np, T, S, C, F) (by refine Or.inl ⟨fun h => ?_, rfl, rfl, rfl, rfl, rfl, rfl⟩; first | (have := h.1; omega) | exact n_16 h.2.1 | exact n_26 h.2.2) rfl (by omega) (by omega) dX5_addPart_80
    · skip
      have n_16 := B_eq_f c_16
      try simp only [decide_eq_true_eq, decide_eq_false_iff_not] at n_16
      refine V_iload_n cx 20 rfl dX5_addPart_19 3 rfl ?_
      refine V_iconst (v := nI 1) cx 21 rfl dX5_addPart_20 (by decide) ?_
      refine V_bipush (v := nI 7) cx 23 rfl dX5_addPart_21 (by decide) ?_
      refine KX5_64 (As := [.int flags, .int (nI 1), .int (nI 7)]) (rest := []) cx (kX5_in (xl X) lo G _ flags (nI 1) (nI 7)) hX (by omega) rfl rfl (Nat.le_of_ble_eq_true rfl) 26 0 0 rfl rfl rfl (by omega) (by omega) dX5_addPart_23 (fun r_8 u_9 hw_10 => ?_)
      try dsimp only at hw_10
      subst hw_10
      refine V_if_eq cx 29 33 rfl dX5_addPart_26 (by decide) (fun c_26 => ?_) (fun c_26 => ?_)
      · skip
        have n_26 := B_eq_t c_26
        try simp only [decide_eq_true_eq, decide_eq_false_iff_not] at n_26
        refine V_iconst (v := nI 0) cx 34 rfl dX5_addPart_33 (by decide) ?_
        refine V_istore (lc1 := [(4, .int (nI 0)), (0, .ref (g 0)), (1, .int text), (2, .int count), (3, .int flags)]) cx 36 rfl dX5_addPart_34 (by decide) rfl ?_
        refine V_aload_n cx 37 rfl dX5_addPart_36 1 rfl ?_
        refine V_iload cx 39 rfl dX5_addPart_37 0 rfl ?_
        refine V_if_ne cx 42 46 rfl dX5_addPart_39 (by decide) (fun c_39 => ?_) (fun c_39 => ?_)
        · skip
          exact absurd c_39 (by decide)
        · skip
          refine V_iconst (v := nI 1) cx 43 rfl dX5_addPart_42 (by decide) ?_
          refine V_goto cx 69 dX5_addPart_43 (by decide) ?_
          refine PX5_56 cx 0 rfl (Nat.le_of_ble_eq_true rfl) (mW G g 1 np nl ld ll mn sp T S C F LT LS VE BA wd mo lt op pl pt ks ++ rs) rfl 72 rfl dX5_addPart_69 ?_
          refine V_aload_n cx 73 rfl dX5_addPart_72 1 rfl ?_
          refine GX5_56 cx 0 rfl rfl 76 rfl dX5_addPart_73 ?_
          refine V_if_le cx 79 81 rfl dX5_addPart_76 (by decide) (fun c_76 => ?_) (fun c_76 => ?_)
          · skip
            exact absurd c_76 (by decide)
          · skip
            refine V_iconst (v := nI 0) cx 80 rfl dX5_addPart_79 (by decide) ?_
            exact V_ireturn cx hr (1, np, T, S, C, F) (by refine Or.inl ⟨fun h => ?_, rfl, rfl, rfl, rfl, rfl, rfl⟩; first | (have := h.1; omega) | exact n_16 h.2.1 | exact n_26 h.2.2) rfl (by omega) (by omega) dX5_addPart_80
      · skip
        have n_26 := B_eq_f c_26
        try simp only [decide_eq_true_eq, decide_eq_false_iff_not] at n_26
        refine V_iconst (v := nI 1) cx 30 rfl dX5_addPart_29 (by decide) ?_
        refine V_goto cx 34 dX5_addPart_30 (by decide) ?_
        refine V_istore (lc1 := [(4, .int (nI 1)), (0, .ref (g 0)), (1, .int text), (2, .int count), (3, .int flags)]) cx 36 rfl dX5_addPart_34 (by decide) rfl ?_
        refine V_aload_n cx 37 rfl dX5_addPart_36 1 rfl ?_
        refine V_iload cx 39 rfl dX5_addPart_37 0 rfl ?_
        refine V_if_ne cx 42 46 rfl dX5_addPart_39 (by decide) (fun c_39 => ?_) (fun c_39 => ?_)
        · skip
          refine V_aload_n cx 47 rfl dX5_addPart_46 1 rfl ?_
          refine GX5_68 cx 0 rfl rfl 50 rfl dX5_addPart_47 ?_
          refine V_bipush (v := nI 16) cx 52 rfl dX5_addPart_50 (by decide) ?_
          refine V_icmp_eq cx 55 64 rfl dX5_addPart_52 (by decide) (fun c_52 => ?_) (fun c_52 => ?_)
          · skip
            have n_52 : np = 16 := N_eq_t (by omega) (by omega) c_52
            refine V_iconst (v := nI 2) cx 65 rfl dX5_addPart_64 (by decide) ?_
            refine V_goto cx 69 dX5_addPart_65 (by decide) ?_
            refine PX5_56 cx 0 rfl (Nat.le_of_ble_eq_true rfl) (mW G g 2 np nl ld ll mn sp T S C F LT LS VE BA wd mo lt op pl pt ks ++ rs) rfl 72 rfl dX5_addPart_69 ?_
            refine V_aload_n cx 73 rfl dX5_addPart_72 1 rfl ?_
            refine GX5_56 cx 0 rfl rfl 76 rfl dX5_addPart_73 ?_
            refine V_if_le cx 79 81 rfl dX5_addPart_76 (by decide) (fun c_76 => ?_) (fun c_76 => ?_)
            · skip
              exact absurd c_76 (by decide)
            · skip
              refine V_iconst (v := nI 0) cx 80 rfl dX5_addPart_79 (by decide) ?_
              exact V_ireturn cx hr (2, np, T, S, C, F) (Or.inr (Or.inl ⟨⟨n_5, n_16, n_26⟩, by first | exact Or.inl n_52 | exact Or.inr c_61, rfl, rfl, rfl, rfl, rfl, rfl⟩)) rfl (by omega) (by omega) dX5_addPart_80
          · skip
            have n_52 : np ≠ 16 := N_eq_f (by omega) (by omega) c_52
            refine V_aload_n cx 56 rfl dX5_addPart_55 1 rfl ?_
            refine V_iload_n cx 57 rfl dX5_addPart_56 2 rfl ?_
            refine KX5_75 (As := [.int text]) (rest := [.ref (g 0)]) cx (kX5_partWith (xl X) lo G _ g th np nl ld ll mn sp T S C F LT LS VE BA wd mo lt op pl pt ks text (by omega)) hX (by omega) 0 rfl rfl rfl (Nat.le_of_ble_eq_true rfl) 60 0 0 rfl rfl rfl (by omega) (by omega) dX5_addPart_57 (fun r_11 u_12 hw_13 => ?_)
            try dsimp only at hw_13
            subst hw_13
            refine V_iconst (v := (-1)) cx 61 rfl dX5_addPart_60 (by decide) ?_
            refine V_icmp_eq cx 64 68 rfl dX5_addPart_61 (by decide) (fun c_61 => ?_) (fun c_61 => ?_)
            · skip
              refine V_iconst (v := nI 0) cx 69 rfl dX5_addPart_68 (by decide) ?_
              refine PX5_56 cx 0 rfl (Nat.le_of_ble_eq_true rfl) (mW G g 0 np nl ld ll mn sp T S C F LT LS VE BA wd mo lt op pl pt ks ++ rs) rfl 72 rfl dX5_addPart_69 ?_
              refine V_aload_n cx 73 rfl dX5_addPart_72 1 rfl ?_
              refine GX5_56 cx 0 rfl rfl 76 rfl dX5_addPart_73 ?_
              refine V_if_le cx 79 81 rfl dX5_addPart_76 (by decide) (fun c_76 => ?_) (fun c_76 => ?_)
              · skip
                refine V_aload_n cx 82 rfl dX5_addPart_81 1 rfl ?_
                refine GX5_7 cx 0 rfl rfl 85 rfl dX5_addPart_82 ?_
                refine V_aload_n cx 86 rfl dX5_addPart_85 1 rfl ?_
                refine GX5_68 cx 0 rfl rfl 89 rfl dX5_addPart_86 ?_
                refine V_iload_n cx 90 rfl dX5_addPart_89 2 rfl ?_
                refine V_iastN cx np (rfl) (by omega) (by decide) 1 rfl (mW G g 0 np nl ld ll mn sp (upd T np text) S C F LT LS VE BA wd mo lt op pl pt ks ++ rs) rfl 91 rfl dX5_addPart_90 ?_
                refine V_aload_n cx 92 rfl dX5_addPart_91 1 rfl ?_
                refine GX5_13 cx 0 rfl rfl 95 rfl dX5_addPart_92 ?_
                refine V_aload_n cx 96 rfl dX5_addPart_95 1 rfl ?_
                refine GX5_68 cx 0 rfl rfl 99 rfl dX5_addPart_96 ?_
                refine V_iload_n cx 100 rfl dX5_addPart_99 2 rfl ?_
                refine V_iconst (v := nI 4) cx 101 rfl dX5_addPart_100 (by decide) ?_
                refine KX5_71 (As := [.int text, .int (nI 4)]) (rest := [.int (nI np), .ref (g 2)]) cx (kX5_sizeOf (xl X) lo G _ text 4 (by omega)) hX (by omega) rfl rfl (Nat.le_of_ble_eq_true rfl) 104 0 0 rfl rfl rfl (by omega) (by omega) dX5_addPart_101 (fun r_14 u_15 hw_16 => ?_)
                try dsimp only at hw_16
                subst hw_16
                have fk_17 := SZ_le text 4
                refine V_iastN cx np (rfl) (by omega) (by decide) 2 rfl (mW G g 0 np nl ld ll mn sp (upd T np text) (upd S np (nI (SZ text 4))) C F LT LS VE BA wd mo lt op pl pt ks ++ rs) rfl 105 rfl dX5_addPart_104 ?_
                refine V_aload_n cx 106 rfl dX5_addPart_105 1 rfl ?_
                refine GX5_16 cx 0 rfl rfl 109 rfl dX5_addPart_106 ?_
                refine V_aload_n cx 110 rfl dX5_addPart_109 1 rfl ?_
                refine GX5_68 cx 0 rfl rfl 113 rfl dX5_addPart_110 ?_
                refine V_iload_n cx 114 rfl dX5_addPart_113 3 rfl ?_
                refine V_iastN cx np (rfl) (by omega) (by decide) 3 rfl (mW G g 0 np nl ld ll mn sp (upd T np text) (upd S np (nI (SZ text 4))) (upd C np count) F LT LS VE BA wd mo lt op pl pt ks ++ rs) rfl 115 rfl dX5_addPart_114 ?_
                refine V_aload_n cx 116 rfl dX5_addPart_115 1 rfl ?_
                refine GX5_19 cx 0 rfl rfl 119 rfl dX5_addPart_116 ?_
                refine V_aload_n cx 120 rfl dX5_addPart_119 1 rfl ?_
                refine GX5_68 cx 0 rfl rfl 123 rfl dX5_addPart_120 ?_
                refine V_iload_n cx 124 rfl dX5_addPart_123 4 rfl ?_
                refine V_iastN cx np (rfl) (by omega) (by decide) 4 rfl (mW G g 0 np nl ld ll mn sp (upd T np text) (upd S np (nI (SZ text 4))) (upd C np count) (upd F np flags) LT LS VE BA wd mo lt op pl pt ks ++ rs) rfl 125 rfl dX5_addPart_124 ?_
                refine V_aload_n cx 126 rfl dX5_addPart_125 1 rfl ?_
                refine V_dup cx 127 rfl dX5_addPart_126 rfl ?_
                refine GX5_68 cx 0 rfl rfl 130 rfl dX5_addPart_127 ?_
                refine V_iconst (v := nI 1) cx 131 rfl dX5_addPart_130 (by decide) ?_
                refine V_iadd cx 132 rfl dX5_addPart_131 ?_
                refine V_toi (nI (np + 1)) (nI_add _ _) ?_
                refine PX5_68 cx 0 rfl (Nat.le_of_ble_eq_true rfl) (mW G g 0 (np + 1) nl ld ll mn sp (upd T np text) (upd S np (nI (SZ text 4))) (upd C np count) (upd F np flags) LT LS VE BA wd mo lt op pl pt ks ++ rs) rfl 135 rfl dX5_addPart_132 ?_
                refine V_aload_n cx 136 rfl dX5_addPart_135 1 rfl ?_
                refine GX5_68 cx 0 rfl rfl 139 rfl dX5_addPart_136 ?_
                refine V_iconst (v := nI 1) cx 140 rfl dX5_addPart_139 (by decide) ?_
                refine V_isub cx 141 rfl dX5_addPart_140 ?_
                refine V_toi (nI np) (nI_subN (by omega)) ?_
                exact V_ireturn cx hr (0, np + 1, upd T np text, upd S np (nI (SZ text 4)), upd C np count, upd F np flags) (Or.inr (Or.inr ⟨⟨n_5, n_16, n_26⟩, by omega, c_61, rfl, rfl, rfl, rfl, rfl, rfl, rfl⟩)) rfl (by omega) (by omega) dX5_addPart_141
              · skip
                exact absurd c_76 (by decide)
            · skip
              refine V_iconst (v := nI 2) cx 65 rfl dX5_addPart_64 (by decide) ?_
              refine V_goto cx 69 dX5_addPart_65 (by decide) ?_
              refine PX5_56 cx 0 rfl (Nat.le_of_ble_eq_true rfl) (mW G g 2 np nl ld ll mn sp T S C F LT LS VE BA wd mo lt op pl pt ks ++ rs) rfl 72 rfl dX5_addPart_69 ?_
              refine V_aload_n cx 73 rfl dX5_addPart_72 1 rfl ?_
              refine GX5_56 cx 0 rfl rfl 76 rfl dX5_addPart_73 ?_
              refine V_if_le cx 79 81 rfl dX5_addPart_76 (by decide) (fun c_76 => ?_) (fun c_76 => ?_)
              · skip
                exact absurd c_76 (by decide)
              · skip
                refine V_iconst (v := nI 0) cx 80 rfl dX5_addPart_79 (by decide) ?_
                exact V_ireturn cx hr (2, np, T, S, C, F) (Or.inr (Or.inl ⟨⟨n_5, n_16, n_26⟩, by first | exact Or.inl n_52 | exact Or.inr c_61, rfl, rfl, rfl, rfl, rfl, rfl⟩)) rfl (by omega) (by omega) dX5_addPart_80
        · skip
          exact absurd c_39 (by decide)
set_option maxHeartbeats 4000000 in
set_option maxRecDepth 100000 in
theorem kX5_setFlags (l : Launch) (lo : Nat) (G : vG) (rs : va_W) (g : Nat → Nat) (th : Nat) (np : Nat) (nl : Nat) (ld : Nat) (ll : Nat) (mn : Int32) (sp : Nat) (T : Nat → Int32) (S : Nat → Int32) (C : Nat → Int32) (F : Nat → Int32) (LT : Nat → Int32) (LS : Nat → Int32) (VE : Nat → Int32) (BA : Nat → Int32) (wd : Nat → Int32) (mo : Nat → Int32) (lt : Nat → Int32) (op : Nat → Int32) (pl : Nat → Int32) (pt : Nat → Int32) (ks : Nat → Int64) (part : Int32) (flags : Int32) (hnp : np ≤ 16) : Mi l yX5_setFlags (.code yX5_setFlags prog_7_method_9_code 4 (some .int)) 3 0 0 lo G [.ref (g 0), .int part, .int flags] (mW G g th np nl ld ll mn sp T S C F LT LS VE BA wd mo lt op pl pt ks ++ rs) (fun (r : Int32) ((th1, F1) : (Nat) × (Nat → Int32)) => mSetFlags np F part flags r th1 F1) (fun ((th1, F1) : (Nat) × (Nat → Int32)) => mW G g th1 np nl ld ll mn sp T S C F1 LT LS VE BA wd mo lt op pl pt ks ++ rs) := by
  refine Mi_of (lc := [(0, .ref (g 0)), (1, .int part), (2, .int flags)]) (by decide +kernel) (Nat.le_of_ble_eq_true rfl) rfl ?_
  intro X cx hXR hXl hr hin
  subst hXl
  have hX := RmX.of hXR
  refine V_aload_n cx 1 rfl dX5_setFlags_0 0 rfl ?_
  refine V_aload_n cx 2 rfl dX5_setFlags_1 0 rfl ?_
  refine V_iload_n cx 3 rfl dX5_setFlags_2 1 rfl ?_
  refine KX5_78 (As := [.int part]) (rest := [.ref (g 0)]) cx (kX5_isPart (xl X) lo G _ g th np nl ld ll mn sp T S C F LT LS VE BA wd mo lt op pl pt ks part) hX (by omega) 0 rfl rfl rfl (Nat.le_of_ble_eq_true rfl) 6 0 0 rfl rfl rfl (by omega) (by omega) dX5_setFlags_3 (fun r_1 u_2 hw_3 => ?_)
  try dsimp only at hw_3
  subst hw_3
  refine V_if_ne cx 9 13 rfl dX5_setFlags_6 (by decide) (fun c_6 => ?_) (fun c_6 => ?_)
  · skip
    have n_6 := B_ne_t c_6
    obtain ⟨p, hp, ep⟩ := isP_t hnp n_6
    refine V_iload_n cx 14 rfl dX5_setFlags_13 2 rfl ?_
    refine V_iconst (v := nI 0) cx 15 rfl dX5_setFlags_14 (by decide) ?_
    refine V_bipush (v := nI 7) cx 17 rfl dX5_setFlags_15 (by decide) ?_
    refine KX5_64 (As := [.int flags, .int (nI 0), .int (nI 7)]) (rest := [.ref (g 0)]) cx (kX5_in (xl X) lo G _ flags (nI 0) (nI 7)) hX (by omega) rfl rfl (Nat.le_of_ble_eq_true rfl) 20 0 0 rfl rfl rfl (by omega) (by omega) dX5_setFlags_17 (fun r_4 u_5 hw_6 => ?_)
    try dsimp only at hw_6
    subst hw_6
    refine V_if_eq cx 23 27 rfl dX5_setFlags_20 (by decide) (fun c_20 => ?_) (fun c_20 => ?_)
    · skip
      have n_20 := B_eq_t c_20
      try simp only [decide_eq_true_eq, decide_eq_false_iff_not] at n_20
      refine V_iconst (v := nI 2) cx 28 rfl dX5_setFlags_27 (by decide) ?_
      refine PX5_56 cx 0 rfl (Nat.le_of_ble_eq_true rfl) (mW G g 2 np nl ld ll mn sp T S C F LT LS VE BA wd mo lt op pl pt ks ++ rs) rfl 31 rfl dX5_setFlags_28 ?_
      refine V_aload_n cx 32 rfl dX5_setFlags_31 0 rfl ?_
      refine GX5_56 cx 0 rfl rfl 35 rfl dX5_setFlags_32 ?_
      refine V_if_le cx 38 40 rfl dX5_setFlags_35 (by decide) (fun c_35 => ?_) (fun c_35 => ?_)
      · skip
        exact absurd c_35 (by decide)
      · skip
        refine V_iconst (v := nI 0) cx 39 rfl dX5_setFlags_38 (by decide) ?_
        exact V_ireturn cx hr (2, F) (Or.inr (Or.inl ⟨n_6, n_20, rfl, rfl⟩)) rfl (by omega) (by omega) dX5_setFlags_39
    · skip
      have n_20 := B_eq_f c_20
      try simp only [decide_eq_true_eq, decide_eq_false_iff_not] at n_20
      refine V_iconst (v := nI 0) cx 24 rfl dX5_setFlags_23 (by decide) ?_
      refine V_goto cx 28 dX5_setFlags_24 (by decide) ?_
      refine PX5_56 cx 0 rfl (Nat.le_of_ble_eq_true rfl) (mW G g 0 np nl ld ll mn sp T S C F LT LS VE BA wd mo lt op pl pt ks ++ rs) rfl 31 rfl dX5_setFlags_28 ?_
      refine V_aload_n cx 32 rfl dX5_setFlags_31 0 rfl ?_
      refine GX5_56 cx 0 rfl rfl 35 rfl dX5_setFlags_32 ?_
      refine V_if_le cx 38 40 rfl dX5_setFlags_35 (by decide) (fun c_35 => ?_) (fun c_35 => ?_)
      · skip
        refine V_aload_n cx 41 rfl dX5_setFlags_40 0 rfl ?_
        refine GX5_19 cx 0 rfl rfl 44 rfl dX5_setFlags_41 ?_
        refine V_iload_n cx 45 rfl dX5_setFlags_44 1 rfl ?_
        refine V_ialdN cx p (ep) (by omega) (by decide) 4 rfl 46 rfl dX5_setFlags_45 ?_
        refine V_istore_n (lc1 := [(3, .int (F p)), (0, .ref (g 0)), (1, .int part), (2, .int flags)]) cx 47 rfl dX5_setFlags_46 (by decide) rfl ?_
        refine V_aload_n cx 48 rfl dX5_setFlags_47 1 rfl ?_
        refine GX5_19 cx 0 rfl rfl 51 rfl dX5_setFlags_48 ?_
        refine V_iload_n cx 52 rfl dX5_setFlags_51 2 rfl ?_
        refine V_iload_n cx 53 rfl dX5_setFlags_52 3 rfl ?_
        refine V_iastN cx p (ep) (by omega) (by decide) 4 rfl (mW G g 0 np nl ld ll mn sp T S C (upd F p flags) LT LS VE BA wd mo lt op pl pt ks ++ rs) rfl 54 rfl dX5_setFlags_53 ?_
        refine V_iload_n cx 55 rfl dX5_setFlags_54 0 rfl ?_
        exact V_ireturn cx hr (0, upd F p flags) (Or.inr (Or.inr ⟨p, hp, ep, n_20, rfl, rfl, rfl⟩)) rfl (by omega) (by omega) dX5_setFlags_55
      · skip
        exact absurd c_35 (by decide)
  · skip
    have n_6 := B_ne_f c_6
    refine V_iconst (v := nI 1) cx 10 rfl dX5_setFlags_9 (by decide) ?_
    refine V_goto cx 28 dX5_setFlags_10 (by decide) ?_
    refine PX5_56 cx 0 rfl (Nat.le_of_ble_eq_true rfl) (mW G g 1 np nl ld ll mn sp T S C F LT LS VE BA wd mo lt op pl pt ks ++ rs) rfl 31 rfl dX5_setFlags_28 ?_
    refine V_aload_n cx 32 rfl dX5_setFlags_31 0 rfl ?_
    refine GX5_56 cx 0 rfl rfl 35 rfl dX5_setFlags_32 ?_
    refine V_if_le cx 38 40 rfl dX5_setFlags_35 (by decide) (fun c_35 => ?_) (fun c_35 => ?_)
    · skip
      exact absurd c_35 (by decide)
    · skip
      refine V_iconst (v := nI 0) cx 39 rfl dX5_setFlags_38 (by decide) ?_
      exact V_ireturn cx hr (1, F) (Or.inl ⟨n_6, rfl, rfl⟩) rfl (by omega) (by omega) dX5_setFlags_39
set_option maxHeartbeats 4000000 in
set_option maxRecDepth 100000 in
theorem kX5_addLink (l : Launch) (lo : Nat) (G : vG) (rs : va_W) (g : Nat → Nat) (th : Nat) (np : Nat) (nl : Nat) (ld : Nat) (ll : Nat) (mn : Int32) (sp : Nat) (T : Nat → Int32) (S : Nat → Int32) (C : Nat → Int32) (F : Nat → Int32) (LT : Nat → Int32) (LS : Nat → Int32) (VE : Nat → Int32) (BA : Nat → Int32) (wd : Nat → Int32) (mo : Nat → Int32) (lt : Nat → Int32) (op : Nat → Int32) (pl : Nat → Int32) (pt : Nat → Int32) (ks : Nat → Int64) (text : Int32) (hnl : nl ≤ 6) : Mi l yX5_addLink (.code yX5_addLink prog_7_method_10_code 4 (some .int)) 3 0 0 lo G [.ref (g 0), .int text] (mW G g th np nl ld ll mn sp T S C F LT LS VE BA wd mo lt op pl pt ks ++ rs) (fun (r : Int32) ((th1, nl1, LT1, LS1) : (Nat) × (Nat) × (Nat → Int32) × (Nat → Int32)) => mAddLink nl LT LS text r th1 nl1 LT1 LS1) (fun ((th1, nl1, LT1, LS1) : (Nat) × (Nat) × (Nat → Int32) × (Nat → Int32)) => mW G g th1 np nl1 ld ll mn sp T S C F LT1 LS1 VE BA wd mo lt op pl pt ks ++ rs) := by
  refine Mi_of (lc := [(0, .ref (g 0)), (1, .int text)]) (by decide +kernel) (Nat.le_of_ble_eq_true rfl) rfl ?_
  intro X cx hXR hXl hr hin
  subst hXl
  have hX := RmX.of hXR
  refine V_iconst (v := nI 0) cx 1 rfl dX5_addLink_0 (by decide) ?_
  refine V_istore_n (lc1 := [(2, .int (nI 0)), (0, .ref (g 0)), (1, .int text)]) cx 2 rfl dX5_addLink_1 (by decide) rfl ?_
  refine V_iconst (v := nI 0) cx 3 rfl dX5_addLink_2 (by decide) ?_
  refine V_istore_n (lc1 := [(3, .int (nI 0)), (2, .int (nI 0)), (0, .ref (g 0)), (1, .int text)]) cx 4 rfl dX5_addLink_3 (by decide) rfl ?_
  have loop_4 : ∀ (fuel : Nat) (i : Nat) (b : Bool), (i ≤ nl) → (b = isIn LT text i) → nl - i < fuel → V X lo 4 G (Qi X lo G (fun (r : Int32) ((th1, nl1, LT1, LS1) : (Nat) × (Nat) × (Nat → Int32) × (Nat → Int32)) => mAddLink nl LT LS text r th1 nl1 LT1 LS1) (fun ((th1, nl1, LT1, LS1) : (Nat) × (Nat) × (Nat → Int32) × (Nat → Int32)) => mW G g th1 np nl1 ld ll mn sp T S C F LT1 LS1 VE BA wd mo lt op pl pt ks ++ rs) 0 0) 0 0 (mW G g th np nl ld ll mn sp T S C F LT LS VE BA wd mo lt op pl pt ks ++ rs) [(3, .int (nI i)), (2, .int (bI b)), (0, .ref (g 0)), (1, .int text)] [] 4 := by
    intro fuel
    induction fuel with
    | zero => intro i b hi hb hmz; exact absurd hmz (Nat.not_lt_zero _)
    | succ fuel ih_4 =>
      intro i b hi hb hmz_4
      refine V_iload_n cx 5 rfl dX5_addLink_4 0 rfl ?_
      refine V_aload_n cx 6 rfl dX5_addLink_5 2 rfl ?_
      refine GX5_82 cx 0 rfl rfl 9 rfl dX5_addLink_6 ?_
      refine V_icmp_ge cx 12 38 rfl dX5_addLink_9 (by decide) (fun c_9 => ?_) (fun c_9 => ?_)
      · skip
        have n_9 : i ≥ nl := N_ge_t (by omega) (by omega) c_9
        have ei : i = nl := by omega
        refine V_aload_n cx 39 rfl dX5_addLink_38 2 rfl ?_
        refine V_iload_n cx 40 rfl dX5_addLink_39 3 rfl ?_
        refine V_iconst (v := nI 2) cx 41 rfl dX5_addLink_40 (by decide) ?_
        refine KX5_71 (As := [.int text, .int (nI 2)]) (rest := [.ref (g 0)]) cx (kX5_sizeOf (xl X) lo G _ text 2 (by omega)) hX (by omega) rfl rfl (Nat.le_of_ble_eq_true rfl) 44 0 0 rfl rfl rfl (by omega) (by omega) dX5_addLink_41 (fun r_1 u_2 hw_3 => ?_)
        try dsimp only at hw_3
        subst hw_3
        have fk_4 := SZ_le text 2
        refine V_if_ne cx 47 51 rfl dX5_addLink_44 (by decide) (fun c_44 => ?_) (fun c_44 => ?_)
        · skip
          have n_44 : SZ text 2 ≠ 0 := Z_ne_t (by omega) c_44
          refine V_aload_n cx 52 rfl dX5_addLink_51 2 rfl ?_
          refine GX5_82 cx 0 rfl rfl 55 rfl dX5_addLink_52 ?_
          refine V_bipush (v := nI 6) cx 57 rfl dX5_addLink_55 (by decide) ?_
          refine V_icmp_eq cx 60 64 rfl dX5_addLink_57 (by decide) (fun c_57 => ?_) (fun c_57 => ?_)
          · skip
            have n_57 : nl = 6 := N_eq_t (by omega) (by omega) c_57
            refine V_iconst (v := nI 2) cx 65 rfl dX5_addLink_64 (by decide) ?_
            refine V_goto cx 69 dX5_addLink_65 (by decide) ?_
            refine PX5_56 cx 0 rfl (Nat.le_of_ble_eq_true rfl) (mW G g 2 np nl ld ll mn sp T S C F LT LS VE BA wd mo lt op pl pt ks ++ rs) rfl 72 rfl dX5_addLink_69 ?_
            refine V_aload_n cx 73 rfl dX5_addLink_72 2 rfl ?_
            refine GX5_56 cx 0 rfl rfl 76 rfl dX5_addLink_73 ?_
            refine V_if_le cx 79 81 rfl dX5_addLink_76 (by decide) (fun c_76 => ?_) (fun c_76 => ?_)
            · skip
              exact absurd c_76 (by decide)
            · skip
              refine V_iconst (v := nI 0) cx 80 rfl dX5_addLink_79 (by decide) ?_
              exact V_ireturn cx hr (2, nl, LT, LS) (Or.inr (Or.inl ⟨n_44, by first | exact Or.inl n_57 | (right; rw [← ei, ← hb]; exact n_61), rfl, rfl, rfl, rfl⟩)) rfl (by omega) (by omega) dX5_addLink_80
          · skip
            have n_57 : nl ≠ 6 := N_eq_f (by omega) (by omega) c_57
            refine V_iload_n cx 61 rfl dX5_addLink_60 1 rfl ?_
            refine V_if_eq cx 64 68 rfl dX5_addLink_61 (by decide) (fun c_61 => ?_) (fun c_61 => ?_)
            · skip
              have n_61 := B_eq_t c_61
              try simp only [decide_eq_true_eq, decide_eq_false_iff_not] at n_61
              refine V_iconst (v := nI 0) cx 69 rfl dX5_addLink_68 (by decide) ?_
              refine PX5_56 cx 0 rfl (Nat.le_of_ble_eq_true rfl) (mW G g 0 np nl ld ll mn sp T S C F LT LS VE BA wd mo lt op pl pt ks ++ rs) rfl 72 rfl dX5_addLink_69 ?_
              refine V_aload_n cx 73 rfl dX5_addLink_72 2 rfl ?_
              refine GX5_56 cx 0 rfl rfl 76 rfl dX5_addLink_73 ?_
              refine V_if_le cx 79 81 rfl dX5_addLink_76 (by decide) (fun c_76 => ?_) (fun c_76 => ?_)
              · skip
                refine V_aload_n cx 82 rfl dX5_addLink_81 2 rfl ?_
                refine GX5_22 cx 0 rfl rfl 85 rfl dX5_addLink_82 ?_
                refine V_aload_n cx 86 rfl dX5_addLink_85 2 rfl ?_
                refine GX5_82 cx 0 rfl rfl 89 rfl dX5_addLink_86 ?_
                refine V_iload_n cx 90 rfl dX5_addLink_89 3 rfl ?_
                refine V_iastN cx nl (rfl) (by omega) (by decide) 5 rfl (mW G g 0 np nl ld ll mn sp T S C F (upd LT nl text) LS VE BA wd mo lt op pl pt ks ++ rs) rfl 91 rfl dX5_addLink_90 ?_
                refine V_aload_n cx 92 rfl dX5_addLink_91 2 rfl ?_
                refine GX5_25 cx 0 rfl rfl 95 rfl dX5_addLink_92 ?_
                refine V_aload_n cx 96 rfl dX5_addLink_95 2 rfl ?_
                refine GX5_82 cx 0 rfl rfl 99 rfl dX5_addLink_96 ?_
                refine V_iload_n cx 100 rfl dX5_addLink_99 3 rfl ?_
                refine V_iconst (v := nI 2) cx 101 rfl dX5_addLink_100 (by decide) ?_
                refine KX5_71 (As := [.int text, .int (nI 2)]) (rest := [.int (nI nl), .ref (g 6)]) cx (kX5_sizeOf (xl X) lo G _ text 2 (by omega)) hX (by omega) rfl rfl (Nat.le_of_ble_eq_true rfl) 104 0 0 rfl rfl rfl (by omega) (by omega) dX5_addLink_101 (fun r_5 u_6 hw_7 => ?_)
                try dsimp only at hw_7
                subst hw_7
                have fk_8 := SZ_le text 2
                refine V_iastN cx nl (rfl) (by omega) (by decide) 6 rfl (mW G g 0 np nl ld ll mn sp T S C F (upd LT nl text) (upd LS nl (nI (SZ text 2))) VE BA wd mo lt op pl pt ks ++ rs) rfl 105 rfl dX5_addLink_104 ?_
                refine V_aload_n cx 106 rfl dX5_addLink_105 2 rfl ?_
                refine V_dup cx 107 rfl dX5_addLink_106 rfl ?_
                refine GX5_82 cx 0 rfl rfl 110 rfl dX5_addLink_107 ?_
                refine V_iconst (v := nI 1) cx 111 rfl dX5_addLink_110 (by decide) ?_
                refine V_iadd cx 112 rfl dX5_addLink_111 ?_
                refine V_toi (nI (nl + 1)) (nI_add _ _) ?_
                refine PX5_82 cx 0 rfl (Nat.le_of_ble_eq_true rfl) (mW G g 0 np (nl + 1) ld ll mn sp T S C F (upd LT nl text) (upd LS nl (nI (SZ text 2))) VE BA wd mo lt op pl pt ks ++ rs) rfl 115 rfl dX5_addLink_112 ?_
                refine V_aload_n cx 116 rfl dX5_addLink_115 2 rfl ?_
                refine GX5_82 cx 0 rfl rfl 119 rfl dX5_addLink_116 ?_
                refine V_iconst (v := nI 1) cx 120 rfl dX5_addLink_119 (by decide) ?_
                refine V_isub cx 121 rfl dX5_addLink_120 ?_
                refine V_toi (nI nl) (nI_subN (by omega)) ?_
                exact V_ireturn cx hr (0, nl + 1, upd LT nl text, upd LS nl (nI (SZ text 2))) (Or.inr (Or.inr ⟨n_44, by omega, by rw [← ei, ← hb]; exact n_61, rfl, rfl, rfl, rfl, rfl⟩)) rfl (by omega) (by omega) dX5_addLink_121
              · skip
                exact absurd c_76 (by decide)
            · skip
              have n_61 := B_eq_f c_61
              try simp only [decide_eq_true_eq, decide_eq_false_iff_not] at n_61
              refine V_iconst (v := nI 2) cx 65 rfl dX5_addLink_64 (by decide) ?_
              refine V_goto cx 69 dX5_addLink_65 (by decide) ?_
              refine PX5_56 cx 0 rfl (Nat.le_of_ble_eq_true rfl) (mW G g 2 np nl ld ll mn sp T S C F LT LS VE BA wd mo lt op pl pt ks ++ rs) rfl 72 rfl dX5_addLink_69 ?_
              refine V_aload_n cx 73 rfl dX5_addLink_72 2 rfl ?_
              refine GX5_56 cx 0 rfl rfl 76 rfl dX5_addLink_73 ?_
              refine V_if_le cx 79 81 rfl dX5_addLink_76 (by decide) (fun c_76 => ?_) (fun c_76 => ?_)
              · skip
                exact absurd c_76 (by decide)
              · skip
                refine V_iconst (v := nI 0) cx 80 rfl dX5_addLink_79 (by decide) ?_
                exact V_ireturn cx hr (2, nl, LT, LS) (Or.inr (Or.inl ⟨n_44, by first | exact Or.inl n_57 | (right; rw [← ei, ← hb]; exact n_61), rfl, rfl, rfl, rfl⟩)) rfl (by omega) (by omega) dX5_addLink_80
        · skip
          have n_44 : SZ text 2 = 0 := Z_ne_f (by omega) c_44
          refine V_iconst (v := nI 1) cx 48 rfl dX5_addLink_47 (by decide) ?_
          refine V_goto cx 69 dX5_addLink_48 (by decide) ?_
          refine PX5_56 cx 0 rfl (Nat.le_of_ble_eq_true rfl) (mW G g 1 np nl ld ll mn sp T S C F LT LS VE BA wd mo lt op pl pt ks ++ rs) rfl 72 rfl dX5_addLink_69 ?_
          refine V_aload_n cx 73 rfl dX5_addLink_72 2 rfl ?_
          refine GX5_56 cx 0 rfl rfl 76 rfl dX5_addLink_73 ?_
          refine V_if_le cx 79 81 rfl dX5_addLink_76 (by decide) (fun c_76 => ?_) (fun c_76 => ?_)
          · skip
            exact absurd c_76 (by decide)
          · skip
            refine V_iconst (v := nI 0) cx 80 rfl dX5_addLink_79 (by decide) ?_
            exact V_ireturn cx hr (1, nl, LT, LS) (Or.inl ⟨n_44, rfl, rfl, rfl, rfl⟩) rfl (by omega) (by omega) dX5_addLink_80
      · skip
        have n_9 : i < nl := N_ge_f (by omega) (by omega) c_9
        refine V_iload_n cx 13 rfl dX5_addLink_12 1 rfl ?_
        refine V_if_ne cx 16 26 rfl dX5_addLink_13 (by decide) (fun c_13 => ?_) (fun c_13 => ?_)
        · skip
          have n_13 := B_ne_t c_13
          try simp only [decide_eq_true_eq, decide_eq_false_iff_not] at n_13
          refine V_iconst (v := nI 1) cx 27 rfl dX5_addLink_26 (by decide) ?_
          refine V_goto cx 31 dX5_addLink_27 (by decide) ?_
          refine V_istore_n (lc1 := [(2, .int (nI 1)), (3, .int (nI i)), (0, .ref (g 0)), (1, .int text)]) cx 32 rfl dX5_addLink_31 (by decide) rfl ?_
          refine V_iinc (v := nI (i + 1)) (lc1 := [(3, .int (nI (i + 1))), (2, .int (nI 1)), (0, .ref (g 0)), (1, .int text)]) cx 35 rfl dX5_addLink_32 1 rfl (nI_inc i 1) (by decide) rfl ?_
          refine V_goto cx 4 dX5_addLink_35 (by decide) ?_
          refine V.locs [0, 1, 2, 3] rfl ?_
          exact ih_4 (i + 1) true (by omega) (by simp only [isIn]; rw [← hb]; first | (rw [n_13]; rfl) | (rw [decide_eq_true c_23, Bool.or_true]) | (rw [n_13, decide_eq_false c_23]; rfl)) (by omega)
        · skip
          have n_13 := B_ne_f c_13
          try simp only [decide_eq_true_eq, decide_eq_false_iff_not] at n_13
          refine V_aload_n cx 17 rfl dX5_addLink_16 2 rfl ?_
          refine GX5_22 cx 0 rfl rfl 20 rfl dX5_addLink_17 ?_
          refine V_iload_n cx 21 rfl dX5_addLink_20 0 rfl ?_
          refine V_ialdN cx i (rfl) (by omega) (by decide) 5 rfl 22 rfl dX5_addLink_21 ?_
          refine V_iload_n cx 23 rfl dX5_addLink_22 3 rfl ?_
          refine V_icmp_ne cx 26 30 rfl dX5_addLink_23 (by decide) (fun c_23 => ?_) (fun c_23 => ?_)
          · skip
            refine V_iconst (v := nI 0) cx 31 rfl dX5_addLink_30 (by decide) ?_
            refine V_istore_n (lc1 := [(2, .int (nI 0)), (3, .int (nI i)), (0, .ref (g 0)), (1, .int text)]) cx 32 rfl dX5_addLink_31 (by decide) rfl ?_
            refine V_iinc (v := nI (i + 1)) (lc1 := [(3, .int (nI (i + 1))), (2, .int (nI 0)), (0, .ref (g 0)), (1, .int text)]) cx 35 rfl dX5_addLink_32 1 rfl (nI_inc i 1) (by decide) rfl ?_
            refine V_goto cx 4 dX5_addLink_35 (by decide) ?_
            refine V.locs [0, 1, 2, 3] rfl ?_
            exact ih_4 (i + 1) false (by omega) (by simp only [isIn]; rw [← hb]; first | (rw [n_13]; rfl) | (rw [decide_eq_true c_23, Bool.or_true]) | (rw [n_13, decide_eq_false c_23]; rfl)) (by omega)
          · skip
            refine V_iconst (v := nI 1) cx 27 rfl dX5_addLink_26 (by decide) ?_
            refine V_goto cx 31 dX5_addLink_27 (by decide) ?_
            refine V_istore_n (lc1 := [(2, .int (nI 1)), (3, .int (nI i)), (0, .ref (g 0)), (1, .int text)]) cx 32 rfl dX5_addLink_31 (by decide) rfl ?_
            refine V_iinc (v := nI (i + 1)) (lc1 := [(3, .int (nI (i + 1))), (2, .int (nI 1)), (0, .ref (g 0)), (1, .int text)]) cx 35 rfl dX5_addLink_32 1 rfl (nI_inc i 1) (by decide) rfl ?_
            refine V_goto cx 4 dX5_addLink_35 (by decide) ?_
            refine V.locs [0, 1, 2, 3] rfl ?_
            exact ih_4 (i + 1) true (by omega) (by simp only [isIn]; rw [← hb]; first | (rw [n_13]; rfl) | (rw [decide_eq_true c_23, Bool.or_true]) | (rw [n_13, decide_eq_false c_23]; rfl)) (by omega)
  refine V.locs [0, 1, 2, 3] rfl ?_
  exact loop_4 _ 0 false (by omega) (by rfl) (Nat.lt_succ_self _)
set_option maxHeartbeats 4000000 in
set_option maxRecDepth 100000 in
theorem kX5_veto (l : Launch) (lo : Nat) (G : vG) (rs : va_W) (g : Nat → Nat) (th : Nat) (np : Nat) (nl : Nat) (ld : Nat) (ll : Nat) (mn : Int32) (sp : Nat) (T : Nat → Int32) (S : Nat → Int32) (C : Nat → Int32) (F : Nat → Int32) (LT : Nat → Int32) (LS : Nat → Int32) (VE : Nat → Int32) (BA : Nat → Int32) (wd : Nat → Int32) (mo : Nat → Int32) (lt : Nat → Int32) (op : Nat → Int32) (pl : Nat → Int32) (pt : Nat → Int32) (ks : Nat → Int64) (part : Int32) (next : Int32) (b : Bool) (hnp : np ≤ 16) : Mi l yX5_veto (.code yX5_veto prog_7_method_11_code 5 (some .boolean)) 3 0 0 lo G [.ref (g 0), .int part, .int next, .int (bI b)] (mW G g th np nl ld ll mn sp T S C F LT LS VE BA wd mo lt op pl pt ks ++ rs) (fun (r : Int32) ((th1, VE1) : (Nat) × (Nat → Int32)) => mMask np np VE part next b r th1 VE1) (fun ((th1, VE1) : (Nat) × (Nat → Int32)) => mW G g th1 np nl ld ll mn sp T S C F LT LS VE1 BA wd mo lt op pl pt ks ++ rs) := by
  refine Mi_of (lc := [(0, .ref (g 0)), (1, .int part), (2, .int next), (3, .int (bI b))]) (by decide +kernel) (Nat.le_of_ble_eq_true rfl) rfl ?_
  intro X cx hXR hXl hr hin
  subst hXl
  have hX := RmX.of hXR
  refine V_aload_n cx 1 rfl dX5_veto_0 0 rfl ?_
  refine V_aload_n cx 2 rfl dX5_veto_1 0 rfl ?_
  refine V_iload_n cx 3 rfl dX5_veto_2 1 rfl ?_
  refine KX5_78 (As := [.int part]) (rest := [.ref (g 0)]) cx (kX5_isPart (xl X) lo G _ g th np nl ld ll mn sp T S C F LT LS VE BA wd mo lt op pl pt ks part) hX (by omega) 0 rfl rfl rfl (Nat.le_of_ble_eq_true rfl) 6 0 0 rfl rfl rfl (by omega) (by omega) dX5_veto_3 (fun r_1 u_2 hw_3 => ?_)
  try dsimp only at hw_3
  subst hw_3
  refine V_if_eq cx 9 21 rfl dX5_veto_6 (by decide) (fun c_6 => ?_) (fun c_6 => ?_)
  · skip
    have n_6 := B_eq_t c_6
    refine V_iconst (v := nI 1) cx 22 rfl dX5_veto_21 (by decide) ?_
    refine PX5_56 cx 0 rfl (Nat.le_of_ble_eq_true rfl) (mW G g 1 np nl ld ll mn sp T S C F LT LS VE BA wd mo lt op pl pt ks ++ rs) rfl 25 rfl dX5_veto_22 ?_
    refine V_aload_n cx 26 rfl dX5_veto_25 0 rfl ?_
    refine GX5_56 cx 0 rfl rfl 29 rfl dX5_veto_26 ?_
    refine V_if_le cx 32 34 rfl dX5_veto_29 (by decide) (fun c_29 => ?_) (fun c_29 => ?_)
    · skip
      exact absurd c_29 (by decide)
    · skip
      refine V_iconst (v := nI 0) cx 33 rfl dX5_veto_32 (by decide) ?_
      exact V_zreturn cx hr (by first | rfl | exact bI_z _) (1, VE) (Or.inl ⟨by first | exact Or.inl n_6 | exact Or.inr n_14, rfl, rfl⟩) rfl (by omega) (by omega) dX5_veto_33
  · skip
    have n_6 := B_eq_f c_6
    obtain ⟨p, hp, ep⟩ := isP_t hnp n_6
    refine V_aload_n cx 10 rfl dX5_veto_9 0 rfl ?_
    refine V_iload_n cx 11 rfl dX5_veto_10 2 rfl ?_
    refine KX5_78 (As := [.int next]) (rest := [.ref (g 0)]) cx (kX5_isPart (xl X) lo G _ g th np nl ld ll mn sp T S C F LT LS VE BA wd mo lt op pl pt ks next) hX (by omega) 0 rfl rfl rfl (Nat.le_of_ble_eq_true rfl) 14 0 0 rfl rfl rfl (by omega) (by omega) dX5_veto_11 (fun r_4 u_5 hw_6 => ?_)
    try dsimp only at hw_6
    subst hw_6
    refine V_if_eq cx 17 21 rfl dX5_veto_14 (by decide) (fun c_14 => ?_) (fun c_14 => ?_)
    · skip
      have n_14 := B_eq_t c_14
      refine V_iconst (v := nI 1) cx 22 rfl dX5_veto_21 (by decide) ?_
      refine PX5_56 cx 0 rfl (Nat.le_of_ble_eq_true rfl) (mW G g 1 np nl ld ll mn sp T S C F LT LS VE BA wd mo lt op pl pt ks ++ rs) rfl 25 rfl dX5_veto_22 ?_
      refine V_aload_n cx 26 rfl dX5_veto_25 0 rfl ?_
      refine GX5_56 cx 0 rfl rfl 29 rfl dX5_veto_26 ?_
      refine V_if_le cx 32 34 rfl dX5_veto_29 (by decide) (fun c_29 => ?_) (fun c_29 => ?_)
      · skip
        exact absurd c_29 (by decide)
      · skip
        refine V_iconst (v := nI 0) cx 33 rfl dX5_veto_32 (by decide) ?_
        exact V_zreturn cx hr (by first | rfl | exact bI_z _) (1, VE) (Or.inl ⟨by first | exact Or.inl n_6 | exact Or.inr n_14, rfl, rfl⟩) rfl (by omega) (by omega) dX5_veto_33
    · skip
      have n_14 := B_eq_f c_14
      obtain ⟨q, hq, eq⟩ := isP_t hnp n_14
      refine V_iconst (v := nI 0) cx 18 rfl dX5_veto_17 (by decide) ?_
      refine V_goto cx 22 dX5_veto_18 (by decide) ?_
      refine PX5_56 cx 0 rfl (Nat.le_of_ble_eq_true rfl) (mW G g 0 np nl ld ll mn sp T S C F LT LS VE BA wd mo lt op pl pt ks ++ rs) rfl 25 rfl dX5_veto_22 ?_
      refine V_aload_n cx 26 rfl dX5_veto_25 0 rfl ?_
      refine GX5_56 cx 0 rfl rfl 29 rfl dX5_veto_26 ?_
      refine V_if_le cx 32 34 rfl dX5_veto_29 (by decide) (fun c_29 => ?_) (fun c_29 => ?_)
      · skip
        refine V_aload_n cx 35 rfl dX5_veto_34 0 rfl ?_
        refine GX5_28 cx 0 rfl rfl 38 rfl dX5_veto_35 ?_
        refine V_iload_n cx 39 rfl dX5_veto_38 1 rfl ?_
        refine V_ialdN cx p (ep) (by omega) (by decide) 7 rfl 40 rfl dX5_veto_39 ?_
        refine V_istore (lc1 := [(4, .int (VE p)), (0, .ref (g 0)), (1, .int part), (2, .int next), (3, .int (bI b))]) cx 42 rfl dX5_veto_40 (by decide) rfl ?_
        refine V_aload_n cx 43 rfl dX5_veto_42 1 rfl ?_
        refine GX5_28 cx 0 rfl rfl 46 rfl dX5_veto_43 ?_
        refine V_iload_n cx 47 rfl dX5_veto_46 2 rfl ?_
        refine V_iload_n cx 48 rfl dX5_veto_47 4 rfl ?_
        refine V_if_eq cx 51 60 rfl dX5_veto_48 (by decide) (fun c_48 => ?_) (fun c_48 => ?_)
        · skip
          have n_48 := B_eq_t c_48
          try simp only [decide_eq_true_eq, decide_eq_false_iff_not] at n_48
          refine V_iload cx 62 rfl dX5_veto_60 0 rfl ?_
          refine V_iconst (v := nI 1) cx 63 rfl dX5_veto_62 (by decide) ?_
          refine V_iload_n cx 64 rfl dX5_veto_63 3 rfl ?_
          refine V_ishl cx 65 rfl dX5_veto_64 ?_
          refine V_iconst (v := (-1)) cx 66 rfl dX5_veto_65 (by decide) ?_
          refine V_ixor cx 67 rfl dX5_veto_66 ?_
          refine V_iand cx 68 rfl dX5_veto_67 ?_
          refine V_iastN cx p (ep) (by omega) (by decide) 7 rfl (mW G g 0 np nl ld ll mn sp T S C F LT LS (upd VE p ((VE p) &&& (((nI 1) <<< (next &&& 31)) ^^^ (-1)))) BA wd mo lt op pl pt ks ++ rs) rfl 69 rfl dX5_veto_68 ?_
          refine V_iload cx 71 rfl dX5_veto_69 0 rfl ?_
          refine V_iload_n cx 72 rfl dX5_veto_71 3 rfl ?_
          refine V_ishr cx 73 rfl dX5_veto_72 ?_
          refine V_iconst (v := nI 1) cx 74 rfl dX5_veto_73 (by decide) ?_
          refine V_iand cx 75 rfl dX5_veto_74 ?_
          refine V_iconst (v := nI 1) cx 76 rfl dX5_veto_75 (by decide) ?_
          refine V_icmp_ne cx 79 83 rfl dX5_veto_76 (by decide) (fun c_76 => ?_) (fun c_76 => ?_)
          · skip
            refine V_iconst (v := nI 0) cx 84 rfl dX5_veto_83 (by decide) ?_
            exact V_zreturn cx hr (by first | rfl | exact bI_z _) (0, upd VE p ((VE p) &&& (((nI 1) <<< (next &&& 31)) ^^^ (-1)))) (Or.inr ⟨p, q, hp, hq, ep, eq, rfl, by rw [bitI, ← eq]; first | exact bI_t c_76 | exact bI_f c_76, by rw [setI, ← eq]; first | (rw [n_48]; rfl) | rfl⟩) rfl (by omega) (by omega) dX5_veto_84
          · skip
            refine V_iconst (v := nI 1) cx 80 rfl dX5_veto_79 (by decide) ?_
            refine V_goto cx 84 dX5_veto_80 (by decide) ?_
            exact V_zreturn cx hr (by first | rfl | exact bI_z _) (0, upd VE p ((VE p) &&& (((nI 1) <<< (next &&& 31)) ^^^ (-1)))) (Or.inr ⟨p, q, hp, hq, ep, eq, rfl, by rw [bitI, ← eq]; first | exact bI_t c_76 | exact bI_f c_76, by rw [setI, ← eq]; first | (rw [n_48]; rfl) | rfl⟩) rfl (by omega) (by omega) dX5_veto_84
        · skip
          have n_48 := B_eq_f c_48
          try simp only [decide_eq_true_eq, decide_eq_false_iff_not] at n_48
          refine V_iload cx 53 rfl dX5_veto_51 0 rfl ?_
          refine V_iconst (v := nI 1) cx 54 rfl dX5_veto_53 (by decide) ?_
          refine V_iload_n cx 55 rfl dX5_veto_54 3 rfl ?_
          refine V_ishl cx 56 rfl dX5_veto_55 ?_
          refine V_ior cx 57 rfl dX5_veto_56 ?_
          refine V_goto cx 68 dX5_veto_57 (by decide) ?_
          refine V_iastN cx p (ep) (by omega) (by decide) 7 rfl (mW G g 0 np nl ld ll mn sp T S C F LT LS (upd VE p ((VE p) ||| ((nI 1) <<< (next &&& 31)))) BA wd mo lt op pl pt ks ++ rs) rfl 69 rfl dX5_veto_68 ?_
          refine V_iload cx 71 rfl dX5_veto_69 0 rfl ?_
          refine V_iload_n cx 72 rfl dX5_veto_71 3 rfl ?_
          refine V_ishr cx 73 rfl dX5_veto_72 ?_
          refine V_iconst (v := nI 1) cx 74 rfl dX5_veto_73 (by decide) ?_
          refine V_iand cx 75 rfl dX5_veto_74 ?_
          refine V_iconst (v := nI 1) cx 76 rfl dX5_veto_75 (by decide) ?_
          refine V_icmp_ne cx 79 83 rfl dX5_veto_76 (by decide) (fun c_76 => ?_) (fun c_76 => ?_)
          · skip
            refine V_iconst (v := nI 0) cx 84 rfl dX5_veto_83 (by decide) ?_
            exact V_zreturn cx hr (by first | rfl | exact bI_z _) (0, upd VE p ((VE p) ||| ((nI 1) <<< (next &&& 31)))) (Or.inr ⟨p, q, hp, hq, ep, eq, rfl, by rw [bitI, ← eq]; first | exact bI_t c_76 | exact bI_f c_76, by rw [setI, ← eq]; first | (rw [n_48]; rfl) | rfl⟩) rfl (by omega) (by omega) dX5_veto_84
          · skip
            refine V_iconst (v := nI 1) cx 80 rfl dX5_veto_79 (by decide) ?_
            refine V_goto cx 84 dX5_veto_80 (by decide) ?_
            exact V_zreturn cx hr (by first | rfl | exact bI_z _) (0, upd VE p ((VE p) ||| ((nI 1) <<< (next &&& 31)))) (Or.inr ⟨p, q, hp, hq, ep, eq, rfl, by rw [bitI, ← eq]; first | exact bI_t c_76 | exact bI_f c_76, by rw [setI, ← eq]; first | (rw [n_48]; rfl) | rfl⟩) rfl (by omega) (by omega) dX5_veto_84
      · skip
        exact absurd c_29 (by decide)
set_option maxHeartbeats 4000000 in
set_option maxRecDepth 100000 in
theorem kX5_bar (l : Launch) (lo : Nat) (G : vG) (rs : va_W) (g : Nat → Nat) (th : Nat) (np : Nat) (nl : Nat) (ld : Nat) (ll : Nat) (mn : Int32) (sp : Nat) (T : Nat → Int32) (S : Nat → Int32) (C : Nat → Int32) (F : Nat → Int32) (LT : Nat → Int32) (LS : Nat → Int32) (VE : Nat → Int32) (BA : Nat → Int32) (wd : Nat → Int32) (mo : Nat → Int32) (lt : Nat → Int32) (op : Nat → Int32) (pl : Nat → Int32) (pt : Nat → Int32) (ks : Nat → Int64) (part : Int32) (next : Int32) (b : Bool) (hnp : np ≤ 16) (hnl : nl ≤ 6) : Mi l yX5_bar (.code yX5_bar prog_7_method_12_code 5 (some .boolean)) 3 0 0 lo G [.ref (g 0), .int part, .int next, .int (bI b)] (mW G g th np nl ld ll mn sp T S C F LT LS VE BA wd mo lt op pl pt ks ++ rs) (fun (r : Int32) ((th1, VE1) : (Nat) × (Nat → Int32)) => mMask np nl BA part next b r th1 VE1) (fun ((th1, VE1) : (Nat) × (Nat → Int32)) => mW G g th1 np nl ld ll mn sp T S C F LT LS VE VE1 wd mo lt op pl pt ks ++ rs) := by
  refine Mi_of (lc := [(0, .ref (g 0)), (1, .int part), (2, .int next), (3, .int (bI b))]) (by decide +kernel) (Nat.le_of_ble_eq_true rfl) rfl ?_
  intro X cx hXR hXl hr hin
  subst hXl
  have hX := RmX.of hXR
  refine V_aload_n cx 1 rfl dX5_bar_0 0 rfl ?_
  refine V_aload_n cx 2 rfl dX5_bar_1 0 rfl ?_
  refine V_iload_n cx 3 rfl dX5_bar_2 1 rfl ?_
  refine KX5_78 (As := [.int part]) (rest := [.ref (g 0)]) cx (kX5_isPart (xl X) lo G _ g th np nl ld ll mn sp T S C F LT LS VE BA wd mo lt op pl pt ks part) hX (by omega) 0 rfl rfl rfl (Nat.le_of_ble_eq_true rfl) 6 0 0 rfl rfl rfl (by omega) (by omega) dX5_bar_3 (fun r_1 u_2 hw_3 => ?_)
  try dsimp only at hw_3
  subst hw_3
  refine V_if_eq cx 9 27 rfl dX5_bar_6 (by decide) (fun c_6 => ?_) (fun c_6 => ?_)
  · skip
    have n_6 := B_eq_t c_6
    refine V_iconst (v := nI 1) cx 28 rfl dX5_bar_27 (by decide) ?_
    refine PX5_56 cx 0 rfl (Nat.le_of_ble_eq_true rfl) (mW G g 1 np nl ld ll mn sp T S C F LT LS VE BA wd mo lt op pl pt ks ++ rs) rfl 31 rfl dX5_bar_28 ?_
    refine V_aload_n cx 32 rfl dX5_bar_31 0 rfl ?_
    refine GX5_56 cx 0 rfl rfl 35 rfl dX5_bar_32 ?_
    refine V_if_le cx 38 40 rfl dX5_bar_35 (by decide) (fun c_35 => ?_) (fun c_35 => ?_)
    · skip
      exact absurd c_35 (by decide)
    · skip
      refine V_iconst (v := nI 0) cx 39 rfl dX5_bar_38 (by decide) ?_
      exact V_zreturn cx hr (by first | rfl | exact bI_z _) (1, BA) (Or.inl ⟨by first | exact Or.inl n_6 | exact Or.inr n_20, rfl, rfl⟩) rfl (by omega) (by omega) dX5_bar_39
  · skip
    have n_6 := B_eq_f c_6
    obtain ⟨p, hp, ep⟩ := isP_t hnp n_6
    refine V_iload_n cx 10 rfl dX5_bar_9 2 rfl ?_
    refine V_iconst (v := nI 0) cx 11 rfl dX5_bar_10 (by decide) ?_
    refine V_aload_n cx 12 rfl dX5_bar_11 0 rfl ?_
    refine GX5_82 cx 0 rfl rfl 15 rfl dX5_bar_12 ?_
    refine V_iconst (v := nI 1) cx 16 rfl dX5_bar_15 (by decide) ?_
    refine V_isub cx 17 rfl dX5_bar_16 ?_
    refine KX5_64 (As := [.int next, .int (nI 0), .int ((nI nl) - (nI 1))]) (rest := [.ref (g 0)]) cx (kX5_in (xl X) lo G _ next (nI 0) ((nI nl) - (nI 1))) hX (by omega) rfl rfl (Nat.le_of_ble_eq_true rfl) 20 0 0 rfl rfl rfl (by omega) (by omega) dX5_bar_17 (fun r_4 u_5 hw_6 => ?_)
    try dsimp only at hw_6
    subst hw_6
    refine V_if_eq cx 23 27 rfl dX5_bar_20 (by decide) (fun c_20 => ?_) (fun c_20 => ?_)
    · skip
      have n_20 : isP nl next = false := B_eq_t c_20
      refine V_iconst (v := nI 1) cx 28 rfl dX5_bar_27 (by decide) ?_
      refine PX5_56 cx 0 rfl (Nat.le_of_ble_eq_true rfl) (mW G g 1 np nl ld ll mn sp T S C F LT LS VE BA wd mo lt op pl pt ks ++ rs) rfl 31 rfl dX5_bar_28 ?_
      refine V_aload_n cx 32 rfl dX5_bar_31 0 rfl ?_
      refine GX5_56 cx 0 rfl rfl 35 rfl dX5_bar_32 ?_
      refine V_if_le cx 38 40 rfl dX5_bar_35 (by decide) (fun c_35 => ?_) (fun c_35 => ?_)
      · skip
        exact absurd c_35 (by decide)
      · skip
        refine V_iconst (v := nI 0) cx 39 rfl dX5_bar_38 (by decide) ?_
        exact V_zreturn cx hr (by first | rfl | exact bI_z _) (1, BA) (Or.inl ⟨by first | exact Or.inl n_6 | exact Or.inr n_20, rfl, rfl⟩) rfl (by omega) (by omega) dX5_bar_39
    · skip
      have n_20 : isP nl next = true := B_eq_f c_20
      obtain ⟨q, hq, eq⟩ := isP_t (by omega) n_20
      refine V_iconst (v := nI 0) cx 24 rfl dX5_bar_23 (by decide) ?_
      refine V_goto cx 28 dX5_bar_24 (by decide) ?_
      refine PX5_56 cx 0 rfl (Nat.le_of_ble_eq_true rfl) (mW G g 0 np nl ld ll mn sp T S C F LT LS VE BA wd mo lt op pl pt ks ++ rs) rfl 31 rfl dX5_bar_28 ?_
      refine V_aload_n cx 32 rfl dX5_bar_31 0 rfl ?_
      refine GX5_56 cx 0 rfl rfl 35 rfl dX5_bar_32 ?_
      refine V_if_le cx 38 40 rfl dX5_bar_35 (by decide) (fun c_35 => ?_) (fun c_35 => ?_)
      · skip
        refine V_aload_n cx 41 rfl dX5_bar_40 0 rfl ?_
        refine GX5_31 cx 0 rfl rfl 44 rfl dX5_bar_41 ?_
        refine V_iload_n cx 45 rfl dX5_bar_44 1 rfl ?_
        refine V_ialdN cx p (ep) (by omega) (by decide) 8 rfl 46 rfl dX5_bar_45 ?_
        refine V_istore (lc1 := [(4, .int (BA p)), (0, .ref (g 0)), (1, .int part), (2, .int next), (3, .int (bI b))]) cx 48 rfl dX5_bar_46 (by decide) rfl ?_
        refine V_aload_n cx 49 rfl dX5_bar_48 1 rfl ?_
        refine GX5_31 cx 0 rfl rfl 52 rfl dX5_bar_49 ?_
        refine V_iload_n cx 53 rfl dX5_bar_52 2 rfl ?_
        refine V_iload_n cx 54 rfl dX5_bar_53 4 rfl ?_
        refine V_if_eq cx 57 66 rfl dX5_bar_54 (by decide) (fun c_54 => ?_) (fun c_54 => ?_)
        · skip
          have n_54 := B_eq_t c_54
          try simp only [decide_eq_true_eq, decide_eq_false_iff_not] at n_54
          refine V_iload cx 68 rfl dX5_bar_66 0 rfl ?_
          refine V_iconst (v := nI 1) cx 69 rfl dX5_bar_68 (by decide) ?_
          refine V_iload_n cx 70 rfl dX5_bar_69 3 rfl ?_
          refine V_ishl cx 71 rfl dX5_bar_70 ?_
          refine V_iconst (v := (-1)) cx 72 rfl dX5_bar_71 (by decide) ?_
          refine V_ixor cx 73 rfl dX5_bar_72 ?_
          refine V_iand cx 74 rfl dX5_bar_73 ?_
          refine V_iastN cx p (ep) (by omega) (by decide) 8 rfl (mW G g 0 np nl ld ll mn sp T S C F LT LS VE (upd BA p ((BA p) &&& (((nI 1) <<< (next &&& 31)) ^^^ (-1)))) wd mo lt op pl pt ks ++ rs) rfl 75 rfl dX5_bar_74 ?_
          refine V_iload cx 77 rfl dX5_bar_75 0 rfl ?_
          refine V_iload_n cx 78 rfl dX5_bar_77 3 rfl ?_
          refine V_ishr cx 79 rfl dX5_bar_78 ?_
          refine V_iconst (v := nI 1) cx 80 rfl dX5_bar_79 (by decide) ?_
          refine V_iand cx 81 rfl dX5_bar_80 ?_
          refine V_iconst (v := nI 1) cx 82 rfl dX5_bar_81 (by decide) ?_
          refine V_icmp_ne cx 85 89 rfl dX5_bar_82 (by decide) (fun c_82 => ?_) (fun c_82 => ?_)
          · skip
            refine V_iconst (v := nI 0) cx 90 rfl dX5_bar_89 (by decide) ?_
            exact V_zreturn cx hr (by first | rfl | exact bI_z _) (0, upd BA p ((BA p) &&& (((nI 1) <<< (next &&& 31)) ^^^ (-1)))) (Or.inr ⟨p, q, hp, hq, ep, eq, rfl, by rw [bitI, ← eq]; first | exact bI_t c_82 | exact bI_f c_82, by rw [setI, ← eq]; first | (rw [n_54]; rfl) | rfl⟩) rfl (by omega) (by omega) dX5_bar_90
          · skip
            refine V_iconst (v := nI 1) cx 86 rfl dX5_bar_85 (by decide) ?_
            refine V_goto cx 90 dX5_bar_86 (by decide) ?_
            exact V_zreturn cx hr (by first | rfl | exact bI_z _) (0, upd BA p ((BA p) &&& (((nI 1) <<< (next &&& 31)) ^^^ (-1)))) (Or.inr ⟨p, q, hp, hq, ep, eq, rfl, by rw [bitI, ← eq]; first | exact bI_t c_82 | exact bI_f c_82, by rw [setI, ← eq]; first | (rw [n_54]; rfl) | rfl⟩) rfl (by omega) (by omega) dX5_bar_90
        · skip
          have n_54 := B_eq_f c_54
          try simp only [decide_eq_true_eq, decide_eq_false_iff_not] at n_54
          refine V_iload cx 59 rfl dX5_bar_57 0 rfl ?_
          refine V_iconst (v := nI 1) cx 60 rfl dX5_bar_59 (by decide) ?_
          refine V_iload_n cx 61 rfl dX5_bar_60 3 rfl ?_
          refine V_ishl cx 62 rfl dX5_bar_61 ?_
          refine V_ior cx 63 rfl dX5_bar_62 ?_
          refine V_goto cx 74 dX5_bar_63 (by decide) ?_
          refine V_iastN cx p (ep) (by omega) (by decide) 8 rfl (mW G g 0 np nl ld ll mn sp T S C F LT LS VE (upd BA p ((BA p) ||| ((nI 1) <<< (next &&& 31)))) wd mo lt op pl pt ks ++ rs) rfl 75 rfl dX5_bar_74 ?_
          refine V_iload cx 77 rfl dX5_bar_75 0 rfl ?_
          refine V_iload_n cx 78 rfl dX5_bar_77 3 rfl ?_
          refine V_ishr cx 79 rfl dX5_bar_78 ?_
          refine V_iconst (v := nI 1) cx 80 rfl dX5_bar_79 (by decide) ?_
          refine V_iand cx 81 rfl dX5_bar_80 ?_
          refine V_iconst (v := nI 1) cx 82 rfl dX5_bar_81 (by decide) ?_
          refine V_icmp_ne cx 85 89 rfl dX5_bar_82 (by decide) (fun c_82 => ?_) (fun c_82 => ?_)
          · skip
            refine V_iconst (v := nI 0) cx 90 rfl dX5_bar_89 (by decide) ?_
            exact V_zreturn cx hr (by first | rfl | exact bI_z _) (0, upd BA p ((BA p) ||| ((nI 1) <<< (next &&& 31)))) (Or.inr ⟨p, q, hp, hq, ep, eq, rfl, by rw [bitI, ← eq]; first | exact bI_t c_82 | exact bI_f c_82, by rw [setI, ← eq]; first | (rw [n_54]; rfl) | rfl⟩) rfl (by omega) (by omega) dX5_bar_90
          · skip
            refine V_iconst (v := nI 1) cx 86 rfl dX5_bar_85 (by decide) ?_
            refine V_goto cx 90 dX5_bar_86 (by decide) ?_
            exact V_zreturn cx hr (by first | rfl | exact bI_z _) (0, upd BA p ((BA p) ||| ((nI 1) <<< (next &&& 31)))) (Or.inr ⟨p, q, hp, hq, ep, eq, rfl, by rw [bitI, ← eq]; first | exact bI_t c_82 | exact bI_f c_82, by rw [setI, ← eq]; first | (rw [n_54]; rfl) | rfl⟩) rfl (by omega) (by omega) dX5_bar_90
      · skip
        exact absurd c_35 (by decide)
set_option maxHeartbeats 4000000 in
set_option maxRecDepth 100000 in
theorem kX5_count (l : Launch) (lo : Nat) (G : vG) (rs : va_W) (g : Nat → Nat) (th : Nat) (np : Nat) (nl : Nat) (ld : Nat) (ll : Nat) (mn : Int32) (sp : Nat) (T : Nat → Int32) (S : Nat → Int32) (C : Nat → Int32) (F : Nat → Int32) (LT : Nat → Int32) (LS : Nat → Int32) (VE : Nat → Int32) (BA : Nat → Int32) (wd : Nat → Int32) (mo : Nat → Int32) (lt : Nat → Int32) (op : Nat → Int32) (pl : Nat → Int32) (pt : Nat → Int32) (ks : Nat → Int64) (part : Int32) (hnp : np ≤ 16) : Mi l yX5_count (.code yX5_count prog_7_method_14_code 2 (some .int)) 3 0 0 lo G [.ref (g 0), .int part] (mW G g th np nl ld ll mn sp T S C F LT LS VE BA wd mo lt op pl pt ks ++ rs) (fun (r : Int32) (th1 : (Nat)) => (isP np part = false ∧ th1 = 1) ∨ ∃ p, p < np ∧ part = nI p ∧ th1 = 0 ∧ r = C p) (fun (th1 : (Nat)) => mW G g th1 np nl ld ll mn sp T S C F LT LS VE BA wd mo lt op pl pt ks ++ rs) := by
  refine Mi_of (lc := [(0, .ref (g 0)), (1, .int part)]) (by decide +kernel) (Nat.le_of_ble_eq_true rfl) rfl ?_
  intro X cx hXR hXl hr hin
  subst hXl
  have hX := RmX.of hXR
  refine V_aload_n cx 1 rfl dX5_count_0 0 rfl ?_
  refine V_aload_n cx 2 rfl dX5_count_1 0 rfl ?_
  refine V_iload_n cx 3 rfl dX5_count_2 1 rfl ?_
  refine KX5_78 (As := [.int part]) (rest := [.ref (g 0)]) cx (kX5_isPart (xl X) lo G _ g th np nl ld ll mn sp T S C F LT LS VE BA wd mo lt op pl pt ks part) hX (by omega) 0 rfl rfl rfl (Nat.le_of_ble_eq_true rfl) 6 0 0 rfl rfl rfl (by omega) (by omega) dX5_count_3 (fun r_1 u_2 hw_3 => ?_)
  try dsimp only at hw_3
  subst hw_3
  refine V_if_eq cx 9 13 rfl dX5_count_6 (by decide) (fun c_6 => ?_) (fun c_6 => ?_)
  · skip
    have n_6 := B_eq_t c_6
    refine V_iconst (v := nI 1) cx 14 rfl dX5_count_13 (by decide) ?_
    refine PX5_56 cx 0 rfl (Nat.le_of_ble_eq_true rfl) (mW G g 1 np nl ld ll mn sp T S C F LT LS VE BA wd mo lt op pl pt ks ++ rs) rfl 17 rfl dX5_count_14 ?_
    refine V_aload_n cx 18 rfl dX5_count_17 0 rfl ?_
    refine GX5_56 cx 0 rfl rfl 21 rfl dX5_count_18 ?_
    refine V_if_le cx 24 28 rfl dX5_count_21 (by decide) (fun c_21 => ?_) (fun c_21 => ?_)
    · skip
      exact absurd c_21 (by decide)
    · skip
      refine V_iconst (v := nI 0) cx 25 rfl dX5_count_24 (by decide) ?_
      refine V_goto cx 34 dX5_count_25 (by decide) ?_
      exact V_ireturn cx hr 1 (Or.inl ⟨n_6, rfl⟩) rfl (by omega) (by omega) dX5_count_34
  · skip
    have n_6 := B_eq_f c_6
    obtain ⟨p, hp, ep⟩ := isP_t hnp n_6
    refine V_iconst (v := nI 0) cx 10 rfl dX5_count_9 (by decide) ?_
    refine V_goto cx 14 dX5_count_10 (by decide) ?_
    refine PX5_56 cx 0 rfl (Nat.le_of_ble_eq_true rfl) (mW G g 0 np nl ld ll mn sp T S C F LT LS VE BA wd mo lt op pl pt ks ++ rs) rfl 17 rfl dX5_count_14 ?_
    refine V_aload_n cx 18 rfl dX5_count_17 0 rfl ?_
    refine GX5_56 cx 0 rfl rfl 21 rfl dX5_count_18 ?_
    refine V_if_le cx 24 28 rfl dX5_count_21 (by decide) (fun c_21 => ?_) (fun c_21 => ?_)
    · skip
      refine V_aload_n cx 29 rfl dX5_count_28 0 rfl ?_
      refine GX5_16 cx 0 rfl rfl 32 rfl dX5_count_29 ?_
      refine V_iload_n cx 33 rfl dX5_count_32 1 rfl ?_
      refine V_ialdN cx p (ep) (by omega) (by decide) 3 rfl 34 rfl dX5_count_33 ?_
      exact V_ireturn cx hr 0 (Or.inr ⟨p, hp, ep, rfl, rfl⟩) rfl (by omega) (by omega) dX5_count_34
    · skip
      exact absurd c_21 (by decide)
set_option maxHeartbeats 4000000 in
set_option maxRecDepth 100000 in
theorem kX5_costNow (l : Launch) (lo : Nat) (G : vG) (rs : va_W) (g : Nat → Nat) (th : Nat) (np : Nat) (nl : Nat) (ld : Nat) (ll : Nat) (mn : Int32) (sp : Nat) (T : Nat → Int32) (S : Nat → Int32) (C : Nat → Int32) (F : Nat → Int32) (LT : Nat → Int32) (LS : Nat → Int32) (VE : Nat → Int32) (BA : Nat → Int32) (wd : Nat → Int32) (mo : Nat → Int32) (lt : Nat → Int32) (op : Nat → Int32) (pl : Nat → Int32) (pt : Nat → Int32) (ks : Nat → Int64) (p : Nat) (c : Nat) (hp : p < 16) (hc : C p = nI c) (hc1 : 1 ≤ c ∧ c ≤ 9999) : Mi l yX5_costNow (.code yX5_costNow prog_7_method_15_code 4 (some .int)) 1 0 0 lo G [.ref (g 0), .int (nI p)] (mW G g th np nl ld ll mn sp T S C F LT LS VE BA wd mo lt op pl pt ks ++ rs) (fun (r : Int32) (_ : Unit) => r = nI (ko c)) (fun (_ : Unit) => mW G g th np nl ld ll mn sp T S C F LT LS VE BA wd mo lt op pl pt ks ++ rs) := by
  refine Mi_of (lc := [(0, .ref (g 0)), (1, .int (nI p))]) (by decide +kernel) (Nat.le_of_ble_eq_true rfl) rfl ?_
  intro X cx hXR hXl hr hin
  subst hXl
  have hX := RmX.of hXR
  refine V_bipush (v := nI 10) cx 2 rfl dX5_costNow_0 (by decide) ?_
  refine V_istore_n (lc1 := [(2, .int (nI 10)), (0, .ref (g 0)), (1, .int (nI p))]) cx 3 rfl dX5_costNow_2 (by decide) rfl ?_
  refine V_iconst (v := nI 2) cx 4 rfl dX5_costNow_3 (by decide) ?_
  refine V_aload_n cx 5 rfl dX5_costNow_4 1 rfl ?_
  refine GX5_16 cx 0 rfl rfl 8 rfl dX5_costNow_5 ?_
  refine V_iload_n cx 9 rfl dX5_costNow_8 2 rfl ?_
  refine V_ialdN cx p (rfl) (by omega) (by decide) 3 rfl 10 rfl dX5_costNow_9 ?_
  refine V_toi (nI c) (hc) ?_
  refine V_imul cx 11 rfl dX5_costNow_10 ?_
  refine V_toi (nI (2 * c)) (nI_mulN _ _) ?_
  refine V_istore_n (lc1 := [(3, .int (nI (2 * c))), (2, .int (nI 10)), (0, .ref (g 0)), (1, .int (nI p))]) cx 12 rfl dX5_costNow_11 (by decide) rfl ?_
  have loop_12 : ∀ (fuel : Nat) (i : Nat) (v : Nat) (k : Nat), (v = 2 ^ (i + 1) * c) → (v ≤ 20000) → (i ≤ 13) → (k + 10 * dbl (13 - i) v = ko c) → 14 - i < fuel → V X lo 4 G (Qi X lo G (fun (r : Int32) (_ : Unit) => r = nI (ko c)) (fun (_ : Unit) => mW G g th np nl ld ll mn sp T S C F LT LS VE BA wd mo lt op pl pt ks ++ rs) 0 0) 0 0 (mW G g th np nl ld ll mn sp T S C F LT LS VE BA wd mo lt op pl pt ks ++ rs) [(3, .int (nI v)), (2, .int (nI k)), (0, .ref (g 0)), (1, .int (nI p))] [] 12 := by
    intro fuel
    induction fuel with
    | zero => intro i v k hv hb hi hk hmz; exact absurd hmz (Nat.not_lt_zero _)
    | succ fuel ih_12 =>
      intro i v k hv hb hi hk hmz_12
      refine V_iload_n cx 13 rfl dX5_costNow_12 0 rfl ?_
      refine V_sipush (v := nI 10000) cx 16 rfl dX5_costNow_13 (by decide) ?_
      refine V_icmp_gt cx 19 29 rfl dX5_costNow_16 (by decide) (fun c_16 => ?_) (fun c_16 => ?_)
      · skip
        have n_16 : v > 10000 := N_gt_t (by omega) (by omega) c_16
        refine V_iload_n cx 30 rfl dX5_costNow_29 1 rfl ?_
        exact V_ireturn cx hr () (by rw [dbl_hi _ (by omega)] at hk; rw [show k = ko c by omega]) rfl (by omega) (by omega) dX5_costNow_30
      · skip
        have n_16 : v ≤ 10000 := N_gt_f (by omega) (by omega) c_16
        refine V_iinc (v := nI (k + 10)) (lc1 := [(2, .int (nI (k + 10))), (3, .int (nI v)), (0, .ref (g 0)), (1, .int (nI p))]) cx 22 rfl dX5_costNow_19 1 rfl (nI_inc k 10) (by decide) rfl ?_
        refine V_iload_n cx 23 rfl dX5_costNow_22 1 rfl ?_
        refine V_iconst (v := nI 2) cx 24 rfl dX5_costNow_23 (by decide) ?_
        refine V_imul cx 25 rfl dX5_costNow_24 ?_
        refine V_toi (nI (v * 2)) (nI_mulN _ _) ?_
        refine V_istore_n (lc1 := [(3, .int (nI (v * 2))), (2, .int (nI (k + 10))), (0, .ref (g 0)), (1, .int (nI p))]) cx 26 rfl dX5_costNow_25 (by decide) rfl ?_
        refine V_goto cx 12 dX5_costNow_26 (by decide) ?_
        refine V.locs [0, 1, 2, 3] rfl ?_
        have h13 : i < 13 := by
            rcases Nat.lt_or_ge i 13 with h | h
            · exact h
            · exfalso
              have h2 : 2 ^ 14 ≤ 2 ^ (i + 1) := Nat.pow_le_pow_right (by decide) (by omega)
              have h3 : 2 ^ (i + 1) * 1 ≤ 2 ^ (i + 1) * c := Nat.mul_le_mul_left _ hc1.1
              omega
        exact ih_12 (i + 1) (v * 2) (k + 10) (by rw [hv, Nat.pow_succ 2 (i + 1)]; ac_rfl) (by omega) (by omega) (by rw [show 13 - i = (13 - (i + 1)) + 1 by omega] at hk; unfold dbl at hk; rw [if_pos n_16] at hk; omega) (by omega)
  refine V.locs [0, 1, 2, 3] rfl ?_
  exact loop_12 _ 0 (2 * c) 10 (by rfl) (by omega) (by omega) (by rfl) (Nat.lt_succ_self _)
set_option maxHeartbeats 4000000 in
set_option maxRecDepth 100000 in
theorem kX5_costOf (l : Launch) (lo : Nat) (G : vG) (rs : va_W) (g : Nat → Nat) (th : Nat) (np : Nat) (nl : Nat) (ld : Nat) (ll : Nat) (mn : Int32) (sp : Nat) (T : Nat → Int32) (S : Nat → Int32) (C : Nat → Int32) (F : Nat → Int32) (LT : Nat → Int32) (LS : Nat → Int32) (VE : Nat → Int32) (BA : Nat → Int32) (wd : Nat → Int32) (mo : Nat → Int32) (lt : Nat → Int32) (op : Nat → Int32) (pl : Nat → Int32) (pt : Nat → Int32) (ks : Nat → Int64) (part : Int32) (cn : Nat → Nat) (hnp : np ≤ 16) (hC : ∀ i, i < np → C i = nI (cn i) ∧ 1 ≤ cn i ∧ cn i ≤ 9999) : Mi l yX5_costOf (.code yX5_costOf prog_7_method_16_code 2 (some .int)) 3 0 0 lo G [.ref (g 0), .int part] (mW G g th np nl ld ll mn sp T S C F LT LS VE BA wd mo lt op pl pt ks ++ rs) (fun (r : Int32) (th1 : (Nat)) => (isP np part = false ∧ th1 = 1) ∨ ∃ p, p < np ∧ part = nI p ∧ th1 = 0 ∧ r = nI (ko (cn p))) (fun (th1 : (Nat)) => mW G g th1 np nl ld ll mn sp T S C F LT LS VE BA wd mo lt op pl pt ks ++ rs) := by
  refine Mi_of (lc := [(0, .ref (g 0)), (1, .int part)]) (by decide +kernel) (Nat.le_of_ble_eq_true rfl) rfl ?_
  intro X cx hXR hXl hr hin
  subst hXl
  have hX := RmX.of hXR
  refine V_aload_n cx 1 rfl dX5_costOf_0 0 rfl ?_
  refine V_aload_n cx 2 rfl dX5_costOf_1 0 rfl ?_
  refine V_iload_n cx 3 rfl dX5_costOf_2 1 rfl ?_
  refine KX5_78 (As := [.int part]) (rest := [.ref (g 0)]) cx (kX5_isPart (xl X) lo G _ g th np nl ld ll mn sp T S C F LT LS VE BA wd mo lt op pl pt ks part) hX (by omega) 0 rfl rfl rfl (Nat.le_of_ble_eq_true rfl) 6 0 0 rfl rfl rfl (by omega) (by omega) dX5_costOf_3 (fun r_1 u_2 hw_3 => ?_)
  try dsimp only at hw_3
  subst hw_3
  refine V_if_eq cx 9 13 rfl dX5_costOf_6 (by decide) (fun c_6 => ?_) (fun c_6 => ?_)
  · skip
    have n_6 := B_eq_t c_6
    refine V_iconst (v := nI 1) cx 14 rfl dX5_costOf_13 (by decide) ?_
    refine PX5_56 cx 0 rfl (Nat.le_of_ble_eq_true rfl) (mW G g 1 np nl ld ll mn sp T S C F LT LS VE BA wd mo lt op pl pt ks ++ rs) rfl 17 rfl dX5_costOf_14 ?_
    refine V_aload_n cx 18 rfl dX5_costOf_17 0 rfl ?_
    refine GX5_56 cx 0 rfl rfl 21 rfl dX5_costOf_18 ?_
    refine V_if_le cx 24 28 rfl dX5_costOf_21 (by decide) (fun c_21 => ?_) (fun c_21 => ?_)
    · skip
      exact absurd c_21 (by decide)
    · skip
      refine V_iconst (v := nI 0) cx 25 rfl dX5_costOf_24 (by decide) ?_
      refine V_goto cx 33 dX5_costOf_25 (by decide) ?_
      exact V_ireturn cx hr 1 (Or.inl ⟨n_6, rfl⟩) rfl (by omega) (by omega) dX5_costOf_33
  · skip
    have n_6 := B_eq_f c_6
    obtain ⟨p, hp, ep⟩ := isP_t hnp n_6
    refine V_iconst (v := nI 0) cx 10 rfl dX5_costOf_9 (by decide) ?_
    refine V_goto cx 14 dX5_costOf_10 (by decide) ?_
    refine PX5_56 cx 0 rfl (Nat.le_of_ble_eq_true rfl) (mW G g 0 np nl ld ll mn sp T S C F LT LS VE BA wd mo lt op pl pt ks ++ rs) rfl 17 rfl dX5_costOf_14 ?_
    refine V_aload_n cx 18 rfl dX5_costOf_17 0 rfl ?_
    refine GX5_56 cx 0 rfl rfl 21 rfl dX5_costOf_18 ?_
    refine V_if_le cx 24 28 rfl dX5_costOf_21 (by decide) (fun c_21 => ?_) (fun c_21 => ?_)
    · skip
      subst ep
      refine V_aload_n cx 29 rfl dX5_costOf_28 0 rfl ?_
      refine V_iload_n cx 30 rfl dX5_costOf_29 1 rfl ?_
      refine KX5_85 (As := [.int (nI p)]) (rest := []) cx (kX5_costNow (xl X) lo G _ g 0 np nl ld ll mn sp T S C F LT LS VE BA wd mo lt op pl pt ks p (cn p) (by omega) (hC p hp).1 (hC p hp).2) hX (by omega) 0 rfl rfl rfl (Nat.le_of_ble_eq_true rfl) 33 0 0 rfl rfl rfl (by omega) (by omega) dX5_costOf_30 (fun r_4 u_5 hw_6 => ?_)
      try dsimp only at hw_6
      subst hw_6
      exact V_ireturn cx hr 0 (Or.inr ⟨p, hp, rfl, rfl, rfl⟩) rfl (by omega) (by omega) dX5_costOf_33
    · skip
      exact absurd c_21 (by decide)
set_option maxHeartbeats 4000000 in
set_option maxRecDepth 100000 in
theorem kX5_find (l : Launch) (lo : Nat) (G : vG) (rs : va_W) (g : Nat → Nat) (th : Nat) (np : Nat) (nl : Nat) (ld : Nat) (ll : Nat) (mn : Int32) (sp : Nat) (T : Nat → Int32) (S : Nat → Int32) (C : Nat → Int32) (F : Nat → Int32) (LT : Nat → Int32) (LS : Nat → Int32) (VE : Nat → Int32) (BA : Nat → Int32) (wd : Nat → Int32) (mo : Nat → Int32) (lt : Nat → Int32) (op : Nat → Int32) (pl : Nat → Int32) (pt : Nat → Int32) (ks : Nat → Int64) (text : Int32) (hnp : np ≤ 16) : Mi l yX5_find (.code yX5_find prog_7_method_17_code 2 (some .int)) 3 0 0 lo G [.ref (g 0), .int text] (mW G g th np nl ld ll mn sp T S C F LT LS VE BA wd mo lt op pl pt ks ++ rs) (fun (r : Int32) (th1 : (Nat)) => (SZ text 8 = 0 ∧ th1 = 1) ∨ (0 < SZ text 8 ∧ th1 = 0 ∧ r = lastW T text np)) (fun (th1 : (Nat)) => mW G g th1 np nl ld ll mn sp T S C F LT LS VE BA wd mo lt op pl pt ks ++ rs) := by
  refine Mi_of (lc := [(0, .ref (g 0)), (1, .int text)]) (by decide +kernel) (Nat.le_of_ble_eq_true rfl) rfl ?_
  intro X cx hXR hXl hr hin
  subst hXl
  have hX := RmX.of hXR
  refine V_aload_n cx 1 rfl dX5_find_0 0 rfl ?_
  refine V_iload_n cx 2 rfl dX5_find_1 1 rfl ?_
  refine V_bipush (v := nI 8) cx 4 rfl dX5_find_2 (by decide) ?_
  refine KX5_71 (As := [.int text, .int (nI 8)]) (rest := [.ref (g 0)]) cx (kX5_sizeOf (xl X) lo G _ text 8 (by omega)) hX (by omega) rfl rfl (Nat.le_of_ble_eq_true rfl) 7 0 0 rfl rfl rfl (by omega) (by omega) dX5_find_4 (fun r_1 u_2 hw_3 => ?_)
  try dsimp only at hw_3
  subst hw_3
  have fk_4 := SZ_le text 8
  refine V_if_le cx 10 14 rfl dX5_find_7 (by decide) (fun c_7 => ?_) (fun c_7 => ?_)
  · skip
    have n_7 : SZ text 8 ≤ 0 := Z_le_t (by omega) c_7
    refine V_iconst (v := nI 1) cx 15 rfl dX5_find_14 (by decide) ?_
    refine PX5_56 cx 0 rfl (Nat.le_of_ble_eq_true rfl) (mW G g 1 np nl ld ll mn sp T S C F LT LS VE BA wd mo lt op pl pt ks ++ rs) rfl 18 rfl dX5_find_15 ?_
    refine V_aload_n cx 19 rfl dX5_find_18 0 rfl ?_
    refine GX5_56 cx 0 rfl rfl 22 rfl dX5_find_19 ?_
    refine V_if_le cx 25 29 rfl dX5_find_22 (by decide) (fun c_22 => ?_) (fun c_22 => ?_)
    · skip
      exact absurd c_22 (by decide)
    · skip
      refine V_iconst (v := nI 0) cx 26 rfl dX5_find_25 (by decide) ?_
      refine V_goto cx 34 dX5_find_26 (by decide) ?_
      exact V_ireturn cx hr 1 (Or.inl ⟨by omega, rfl⟩) rfl (by omega) (by omega) dX5_find_34
  · skip
    have n_7 : SZ text 8 > 0 := Z_le_f (by omega) c_7
    refine V_iconst (v := nI 0) cx 11 rfl dX5_find_10 (by decide) ?_
    refine V_goto cx 15 dX5_find_11 (by decide) ?_
    refine PX5_56 cx 0 rfl (Nat.le_of_ble_eq_true rfl) (mW G g 0 np nl ld ll mn sp T S C F LT LS VE BA wd mo lt op pl pt ks ++ rs) rfl 18 rfl dX5_find_15 ?_
    refine V_aload_n cx 19 rfl dX5_find_18 0 rfl ?_
    refine GX5_56 cx 0 rfl rfl 22 rfl dX5_find_19 ?_
    refine V_if_le cx 25 29 rfl dX5_find_22 (by decide) (fun c_22 => ?_) (fun c_22 => ?_)
    · skip
      refine V_aload_n cx 30 rfl dX5_find_29 0 rfl ?_
      refine V_iload_n cx 31 rfl dX5_find_30 1 rfl ?_
      refine KX5_75 (As := [.int text]) (rest := []) cx (kX5_partWith (xl X) lo G _ g 0 np nl ld ll mn sp T S C F LT LS VE BA wd mo lt op pl pt ks text (by omega)) hX (by omega) 0 rfl rfl rfl (Nat.le_of_ble_eq_true rfl) 34 0 0 rfl rfl rfl (by omega) (by omega) dX5_find_31 (fun r_5 u_6 hw_7 => ?_)
      try dsimp only at hw_7
      subst hw_7
      exact V_ireturn cx hr 0 (Or.inr ⟨n_7, rfl, rfl⟩) rfl (by omega) (by omega) dX5_find_34
    · skip
      exact absurd c_22 (by decide)
