/-- the class's cells hold a lexicon -/
def cOK (x : LX) (np nl : Nat) (T C F LT VV BB : Nat → Int32) : Prop := np = lNp x ∧ nl = lNl x ∧ (∀ i, i < np → T i = nI (lT x i)) ∧ (∀ i, i < np → C i = nI (lC x i)) ∧ (∀ i, i < np → F i = nI (lF x i)) ∧ (∀ i, i < nl → LT i = nI (lU x i)) ∧ (∀ i j, i < np → j < np → VV (i * 16 + j) = bI (lV x i j)) ∧ (∀ i j, i < np → j < nl → BB (i * 6 + j) = bI (lB x i j))
theorem pwI_pw {T : Nat → Int32} {t : Nat → Nat} {y n : Nat} (hy : y < 2147483648) (hT : ∀ i, i < n → T i = nI (t i) ∧ t i < 2147483648) : pwI T (nI y) n = pw t y n := by
  induction n with
  | zero => rfl
  | succ n ih =>
    have h := hT n (by omega)
    show (match pwI T (nI y) n with | some p => some p | none => if T n = nI y then some n else none) = (match pw t y n with | some p => some p | none => if t n = y then some n else none)
    rw [ih (fun i hi => hT i (by omega))]
    cases pw t y n with
    | some p => rfl
    | none =>
      dsimp only
      by_cases e : t n = y
      · rw [if_pos e, if_pos (by rw [h.1, e])]
      · rw [if_neg e, if_neg (fun e2 => e (nI_inj h.2 hy (h.1.symm.trans e2)))]
def lwAt (x : LX) (d : Nat → Nat) (a s : Nat) : Option Nat := pw (lU x) (TA d a s) (lNl x)
/-- the row of what stands where in the word -/
def phOK (x : LX) (L : Nat) (d : Nat → Nat) (ph lh : Nat → Int32) (a : Nat) : Prop := (∀ s, 1 ≤ s → s ≤ 4 → a + s ≤ L → ph (a * 4 + s - 1) = oI (wAt x L d a s)) ∧ (∀ s, 1 ≤ s → s ≤ 2 → a + s ≤ L → lh (a * 2 + s - 1) = oI (lwAt x d a s))
def cdg (o : Nat) : Nat := o / 7 * 8 + o % 7
def kC (o : Nat → Nat) : Nat → Nat
  | 0 => 0
  | k + 1 => kC o k + cdg (o k) * 32 ^ (7 - k)
def cKey (kc o : Nat → Nat) (m : Nat) : Nat := ((kS kc o m - 15) * 16 + m) * 1099511627776 + kC o m
def ckl (x : LX) (l : SP) : Nat := cKey (fun k => ko (lC x (spP l k))) (spO l) l.length
set_option maxHeartbeats 4000000 in
set_option maxRecDepth 100000 in
theorem kX2_shiftOf (l : Launch) (lo : Nat) (G : vG) (rs : va_W) (i : Nat) (hi : i ≤ 7) : Mi l yX2_shiftOf (.code yX2_shiftOf prog_4_method_16_code 1 (some .int)) 1 0 0 lo G [.int (nI i)] (rs) (fun (r : Int32) (_ : Unit) => r = nI (5 * (7 - i))) (fun (_ : Unit) => rs) := by
  refine Mi_of (lc := [(0, .int (nI i))]) (by decide +kernel) (Nat.le_of_ble_eq_true rfl) rfl ?_
  intro X cx hXR hXl hr hin
  subst hXl
  have hX := RmX.of hXR
  refine V_iconst (v := nI 5) cx 1 rfl dX2_shiftOf_0 (by decide) ?_
  refine V_bipush (v := nI 7) cx 3 rfl dX2_shiftOf_1 (by decide) ?_
  refine V_iload_n cx 4 rfl dX2_shiftOf_3 0 rfl ?_
  refine V_isub cx 5 rfl dX2_shiftOf_4 ?_
  refine V_toi (nI (7 - i)) (nI_subN (by omega)) ?_
  refine V_imul cx 6 rfl dX2_shiftOf_5 ?_
  refine V_toi (nI (5 * (7 - i))) (nI_mulN _ _) ?_
  exact V_ireturn cx hr () (by first | rfl | trivial) rfl (by omega) (by omega) dX2_shiftOf_6
set_option maxHeartbeats 4000000 in
set_option maxRecDepth 100000 in
theorem kX2_costIn (l : Launch) (lo : Nat) (G : vG) (rs : va_W) (K : Nat) (hK : K < 9223372036854775808) : Mi l yX2_costIn (.code yX2_costIn prog_4_method_11_code 2 (some .int)) 1 0 0 lo G [.long (lN K)] (rs) (fun (r : Int32) (_ : Unit) => r = nI (K / 17592186044416)) (fun (_ : Unit) => rs) := by
  refine Mi_of (lc := [(0, .long (lN K))]) (by decide +kernel) (Nat.le_of_ble_eq_true rfl) rfl ?_
  intro X cx hXR hXl hr hin
  subst hXl
  have hX := RmX.of hXR
  refine V_lload_n cx 1 rfl dX2_costIn_0 0 rfl ?_
  refine V_bipush (v := nI 44) cx 3 rfl dX2_costIn_1 (by decide) ?_
  refine V_lushr cx 4 rfl dX2_costIn_3 ?_
  refine V_tol (lN (K / 17592186044416)) (wb_shr (k := 44) (by omega) (by decide)) ?_
  refine V_l2i cx 5 rfl dX2_costIn_4 ?_
  refine V_toi (nI (K / 17592186044416)) (lN_i _) ?_
  exact V_ireturn cx hr () (by first | rfl | trivial) rfl (by omega) (by omega) dX2_costIn_5
set_option maxHeartbeats 4000000 in
set_option maxRecDepth 100000 in
theorem kX2_placesIn (l : Launch) (lo : Nat) (G : vG) (rs : va_W) (K : Nat) (hK : K < 9223372036854775808) : Mi l yX2_placesIn (.code yX2_placesIn prog_4_method_12_code 2 (some .int)) 1 0 0 lo G [.long (lN K)] (rs) (fun (r : Int32) (_ : Unit) => r = nI (K / 1099511627776 % 16)) (fun (_ : Unit) => rs) := by
  refine Mi_of (lc := [(0, .long (lN K))]) (by decide +kernel) (Nat.le_of_ble_eq_true rfl) rfl ?_
  intro X cx hXR hXl hr hin
  subst hXl
  have hX := RmX.of hXR
  refine V_lload_n cx 1 rfl dX2_placesIn_0 0 rfl ?_
  refine V_bipush (v := nI 40) cx 3 rfl dX2_placesIn_1 (by decide) ?_
  refine V_lushr cx 4 rfl dX2_placesIn_3 ?_
  refine V_tol (lN (K / 1099511627776)) (wb_shr (k := 40) (by omega) (by decide)) ?_
  refine V_l2i cx 5 rfl dX2_placesIn_4 ?_
  refine V_toi (nI (K / 1099511627776)) (lN_i _) ?_
  refine V_bipush (v := nI 15) cx 7 rfl dX2_placesIn_5 (by decide) ?_
  refine V_iand cx 8 rfl dX2_placesIn_7 ?_
  refine V_toi (nI ((K / 1099511627776) &&& 15)) (nI_andN _ _) ?_
  refine V_toi (nI (K / 1099511627776 % 16)) (congrArg nI (Nat.and_two_pow_sub_one_eq_mod _ 4)) ?_
  exact V_ireturn cx hr () (by first | rfl | trivial) rfl (by omega) (by omega) dX2_placesIn_8
set_option maxHeartbeats 4000000 in
set_option maxRecDepth 100000 in
theorem kX2_linkIn (l : Launch) (lo : Nat) (G : vG) (rs : va_W) (K : Nat) (i : Nat) (hK : K < 9223372036854775808) (hi : i ≤ 7) : Mi l yX2_linkIn (.code yX2_linkIn prog_4_method_14_code 3 (some .int)) 2 0 0 lo G [.long (lN K), .int (nI i)] (rs) (fun (r : Int32) (_ : Unit) => r = nI (K / 2 ^ (5 * (7 - i)) % 8) - nI 1) (fun (_ : Unit) => rs) := by
  refine Mi_of (lc := [(0, .long (lN K)), (2, .int (nI i))]) (by decide +kernel) (Nat.le_of_ble_eq_true rfl) rfl ?_
  intro X cx hXR hXl hr hin
  subst hXl
  have hX := RmX.of hXR
  refine V_lload_n cx 1 rfl dX2_linkIn_0 0 rfl ?_
  refine V_iload_n cx 2 rfl dX2_linkIn_1 1 rfl ?_
  refine KX2_69 (As := [.int (nI i)]) (rest := [.long (lN K)]) cx (kX2_shiftOf (xl X) lo G _ i (by omega)) hX (by omega) rfl rfl (Nat.le_of_ble_eq_true rfl) 5 0 0 rfl rfl rfl (by omega) (by omega) dX2_linkIn_2 (fun r_1 u_2 hw_3 => ?_)
  try dsimp only at hw_3
  subst hw_3
  have fk_4 := show 5 * (7 - i) ≤ 35 by omega
  refine V_lushr cx 6 rfl dX2_linkIn_5 ?_
  refine V_tol (lN (K / 2 ^ (5 * (7 - i)))) (wb_shr (by omega) (by omega)) ?_
  refine V_l2i cx 7 rfl dX2_linkIn_6 ?_
  refine V_toi (nI (K / 2 ^ (5 * (7 - i)))) (lN_i _) ?_
  refine V_bipush (v := nI 7) cx 9 rfl dX2_linkIn_7 (by decide) ?_
  refine V_iand cx 10 rfl dX2_linkIn_9 ?_
  refine V_toi (nI ((K / 2 ^ (5 * (7 - i))) &&& 7)) (nI_andN _ _) ?_
  refine V_toi (nI (K / 2 ^ (5 * (7 - i)) % 8)) (congrArg nI (Nat.and_two_pow_sub_one_eq_mod _ 3)) ?_
  refine V_iconst (v := nI 1) cx 11 rfl dX2_linkIn_10 (by decide) ?_
  refine V_isub cx 12 rfl dX2_linkIn_11 ?_
  exact V_ireturn cx hr () (by first | rfl | trivial) rfl (by omega) (by omega) dX2_linkIn_12
set_option maxHeartbeats 4000000 in
set_option maxRecDepth 100000 in
theorem kX2_lettersAt (l : Launch) (lo : Nat) (G : vG) (rs : va_W) (K : Nat) (i : Nat) (hK : K < 9223372036854775808) (hi : i ≤ 7) : Mi l yX2_lettersAt (.code yX2_lettersAt prog_4_method_15_code 3 (some .int)) 2 0 0 lo G [.long (lN K), .int (nI i)] (rs) (fun (r : Int32) (_ : Unit) => r = nI (4 - K / 2 ^ (5 * (7 - i) + 3) % 4)) (fun (_ : Unit) => rs) := by
  refine Mi_of (lc := [(0, .long (lN K)), (2, .int (nI i))]) (by decide +kernel) (Nat.le_of_ble_eq_true rfl) rfl ?_
  intro X cx hXR hXl hr hin
  subst hXl
  have hX := RmX.of hXR
  refine V_iconst (v := nI 4) cx 1 rfl dX2_lettersAt_0 (by decide) ?_
  refine V_lload_n cx 2 rfl dX2_lettersAt_1 0 rfl ?_
  refine V_iload_n cx 3 rfl dX2_lettersAt_2 1 rfl ?_
  refine KX2_69 (As := [.int (nI i)]) (rest := [.long (lN K), .int (nI 4)]) cx (kX2_shiftOf (xl X) lo G _ i (by omega)) hX (by omega) rfl rfl (Nat.le_of_ble_eq_true rfl) 6 0 0 rfl rfl rfl (by omega) (by omega) dX2_lettersAt_3 (fun r_1 u_2 hw_3 => ?_)
  try dsimp only at hw_3
  subst hw_3
  have fk_4 := show 5 * (7 - i) ≤ 35 by omega
  refine V_iconst (v := nI 3) cx 7 rfl dX2_lettersAt_6 (by decide) ?_
  refine V_iadd cx 8 rfl dX2_lettersAt_7 ?_
  refine V_toi (nI ((5 * (7 - i)) + 3)) (nI_add _ _) ?_
  refine V_lushr cx 9 rfl dX2_lettersAt_8 ?_
  refine V_tol (lN (K / 2 ^ (5 * (7 - i) + 3))) (wb_shr (by omega) (by omega)) ?_
  refine V_l2i cx 10 rfl dX2_lettersAt_9 ?_
  refine V_toi (nI (K / 2 ^ (5 * (7 - i) + 3))) (lN_i _) ?_
  refine V_iconst (v := nI 3) cx 11 rfl dX2_lettersAt_10 (by decide) ?_
  refine V_iand cx 12 rfl dX2_lettersAt_11 ?_
  refine V_toi (nI ((K / 2 ^ (5 * (7 - i) + 3)) &&& 3)) (nI_andN _ _) ?_
  refine V_toi (nI (K / 2 ^ (5 * (7 - i) + 3) % 4)) (congrArg nI (Nat.and_two_pow_sub_one_eq_mod _ 2)) ?_
  refine V_isub cx 13 rfl dX2_lettersAt_12 ?_
  refine V_toi (nI (4 - (K / 2 ^ (5 * (7 - i) + 3) % 4))) (nI_subN (by omega)) ?_
  exact V_ireturn cx hr () (by first | rfl | trivial) rfl (by omega) (by omega) dX2_lettersAt_13
set_option maxHeartbeats 4000000 in
set_option maxRecDepth 100000 in
theorem kX2_keep (l : Launch) (lo : Nat) (G : vG) (rs : va_W) (h : Nat → Nat) (np : Nat) (nl : Nat) (len : Nat) (fd : Nat) (lu : Nat) (tu : Nat) (T : Nat → Int32) (C : Nat → Int32) (F : Nat → Int32) (LT : Nat → Int32) (VV : Nat → Int32) (BB : Nat → Int32) (lt : Nat → Int32) (ph : Nat → Int32) (lh : Nat → Int32) (ks : Nat → Int64) (wd : Nat → Int32) (gr : Nat → Int32) (gs : Nat → Int32) (bl : Nat → Int32) (ie : Nat → Int32) (tw : Nat → Int32) (co : Nat) (pc : Nat) (K : Nat) (hfd : fd < 513) (hco : co < 2000) (hpc : pc < 16) (hK : K < 1099511627776) : Mv l yX2_keep (.code yX2_keep prog_4_method_8_code 5 none) 1 0 0 lo G [.ref (h 2), .int (nI co), .int (nI pc), .long (lN K)] (cW G h np nl len fd lu tu T C F LT VV BB lt ph lh ks wd gr gs bl ie tw ++ rs) (fun (_ : Unit) => True) (fun (_ : Unit) => cW G h np nl len (fd + 1) lu tu T C F LT VV BB lt ph lh (vp_updL ks fd (lN ((co * 16 + pc) * 1099511627776 + K))) wd gr gs bl ie tw ++ rs) := by
  refine Mv_of (lc := [(0, .ref (h 2)), (1, .int (nI co)), (2, .int (nI pc)), (3, .long (lN K))]) (by decide +kernel) (Nat.le_of_ble_eq_true rfl) rfl ?_
  intro X cx hXR hXl hr hin
  subst hXl
  have hX := RmX.of hXR
  refine V_aload_n cx 1 rfl dX2_keep_0 0 rfl ?_
  refine GX2_40 cx 2 rfl rfl 4 rfl dX2_keep_1 ?_
  refine V_aload_n cx 5 rfl dX2_keep_4 0 rfl ?_
  refine GX2_21 cx 2 rfl rfl 8 rfl dX2_keep_5 ?_
  refine V_alenJ cx 14 rfl 9 rfl dX2_keep_8 ?_
  refine V_icmp_ge cx 12 43 rfl dX2_keep_9 (by decide) (fun c_9 => ?_) (fun c_9 => ?_)
  · skip
    have n_9 : fd ≥ 513 := N_ge_t (by omega) (by omega) c_9
    omega
  · skip
    have n_9 : fd < 513 := N_ge_f (by omega) (by omega) c_9
    refine V_aload_n cx 13 rfl dX2_keep_12 0 rfl ?_
    refine GX2_21 cx 2 rfl rfl 16 rfl dX2_keep_13 ?_
    refine V_aload_n cx 17 rfl dX2_keep_16 0 rfl ?_
    refine GX2_40 cx 2 rfl rfl 20 rfl dX2_keep_17 ?_
    refine V_iload_n cx 21 rfl dX2_keep_20 1 rfl ?_
    refine V_i2l cx 22 rfl dX2_keep_21 ?_
    refine V_tol (lN co) (nI_l (by omega)) ?_
    refine V_iconst (v := nI 4) cx 23 rfl dX2_keep_22 (by decide) ?_
    refine V_lshl cx 24 rfl dX2_keep_23 ?_
    refine V_tol (lN (co * 16)) (wb_shl co (k := 4) (by decide)) ?_
    refine V_iload_n cx 25 rfl dX2_keep_24 2 rfl ?_
    refine V_i2l cx 26 rfl dX2_keep_25 ?_
    refine V_tol (lN pc) (nI_l (by omega)) ?_
    refine V_lor cx 27 rfl dX2_keep_26 ?_
    refine V_tol (lN (co * 16 + pc)) (g_or (k := 4) (by decide) (by omega) (by omega)) ?_
    refine V_bipush (v := nI 40) cx 29 rfl dX2_keep_27 (by decide) ?_
    refine V_lshl cx 30 rfl dX2_keep_29 ?_
    refine V_tol (lN ((co * 16 + pc) * 1099511627776)) (wb_shl (co * 16 + pc) (k := 40) (by decide)) ?_
    refine V_lload_n cx 31 rfl dX2_keep_30 3 rfl ?_
    refine V_lor cx 32 rfl dX2_keep_31 ?_
    refine V_tol (lN ((co * 16 + pc) * 1099511627776 + K)) (g_or (k := 40) (by decide) (by omega) (by omega)) ?_
    refine V_lastN cx fd (rfl) (by omega) (by decide) 14 rfl (cW G h np nl len fd lu tu T C F LT VV BB lt ph lh (vp_updL ks fd (lN ((co * 16 + pc) * 1099511627776 + K))) wd gr gs bl ie tw ++ rs) rfl 33 rfl dX2_keep_32 ?_
    refine V_aload_n cx 34 rfl dX2_keep_33 0 rfl ?_
    refine V_dup cx 35 rfl dX2_keep_34 rfl ?_
    refine GX2_40 cx 2 rfl rfl 38 rfl dX2_keep_35 ?_
    refine V_iconst (v := nI 1) cx 39 rfl dX2_keep_38 (by decide) ?_
    refine V_iadd cx 40 rfl dX2_keep_39 ?_
    refine V_toi (nI (fd + 1)) (nI_add _ _) ?_
    refine PX2_40 cx 2 rfl (Nat.le_of_ble_eq_true rfl) (cW G h np nl len (fd + 1) lu tu T C F LT VV BB lt ph lh (vp_updL ks fd (lN ((co * 16 + pc) * 1099511627776 + K))) wd gr gs bl ie tw ++ rs) rfl 43 rfl dX2_keep_40 ?_
    exact V_vreturn cx hr () (trivial) rfl (by omega) (by omega) dX2_keep_43
set_option maxHeartbeats 4000000 in
set_option maxRecDepth 100000 in
theorem kX2_mayFollow (l : Launch) (lo : Nat) (G : vG) (rs : va_W) (h : Nat → Nat) (np : Nat) (nl : Nat) (len : Nat) (fd : Nat) (lu : Nat) (tu : Nat) (T : Nat → Int32) (C : Nat → Int32) (F : Nat → Int32) (LT : Nat → Int32) (VV : Nat → Int32) (BB : Nat → Int32) (lt : Nat → Int32) (ph : Nat → Int32) (lh : Nat → Int32) (ks : Nat → Int64) (wd : Nat → Int32) (gr : Nat → Int32) (gs : Nat → Int32) (bl : Nat → Int32) (ie : Nat → Int32) (tw : Nat → Int32) (bf : Int32) (p : Nat) (e : Nat) (x : LX) (pv : Option Nat) (hok : lxOK x) (hck : cOK x np nl T C F LT VV BB) (hp : p < np) (he : e ≤ 8) (hlen : len ≤ 8) (hbf : bf = oI pv) (hpv : ∀ q, pv = some q → q < np) : Mi l yX2_mayFollow (.code yX2_mayFollow prog_4_method_6_code 4 (some .boolean)) 2 0 0 lo G [.ref (h 2), .int bf, .int (nI p), .int (nI e)] (cW G h np nl len fd lu tu T C F LT VV BB lt ph lh ks wd gr gs bl ie tw ++ rs) (fun (r : Int32) (_ : Unit) => r = bI (okF (lF x p) pv.isNone (decide (e = len)) && !(vetoed x pv p))) (fun (_ : Unit) => cW G h np nl len fd lu tu T C F LT VV BB lt ph lh ks wd gr gs bl ie tw ++ rs) := by
  refine Mi_of (lc := [(0, .ref (h 2)), (1, .int bf), (2, .int (nI p)), (3, .int (nI e))]) (by decide +kernel) (Nat.le_of_ble_eq_true rfl) rfl ?_
  intro X cx hXR hXl hr hin
  subst hXl
  have hX := RmX.of hXR
  obtain ⟨hnp, hnl, hT, hC, hF, hLT, hVV, hBB⟩ := id hck
  have hnp16 : np ≤ 16 := by rw [hnp]; exact hok.1
  have hnl6 : nl ≤ 6 := by rw [hnl]; exact hok.2.1
  refine V_aload_n cx 1 rfl dX2_mayFollow_0 0 rfl ?_
  refine GX2_25 cx 2 rfl rfl 4 rfl dX2_mayFollow_1 ?_
  refine V_iload_n cx 5 rfl dX2_mayFollow_4 2 rfl ?_
  refine V_iload_n cx 6 rfl dX2_mayFollow_5 1 rfl ?_
  refine V_iconst (v := (-1)) cx 7 rfl dX2_mayFollow_6 (by decide) ?_
  refine V_icmp_ne cx 10 14 rfl dX2_mayFollow_7 (by decide) (fun c_7 => ?_) (fun c_7 => ?_)
  · skip
    rw [hbf] at c_7
    obtain ⟨q, hq⟩ := oI_nm1 c_7
    refine V_iconst (v := nI 0) cx 15 rfl dX2_mayFollow_14 (by decide) ?_
    refine V_iload_n cx 16 rfl dX2_mayFollow_15 3 rfl ?_
    refine V_aload_n cx 17 rfl dX2_mayFollow_16 0 rfl ?_
    refine GX2_33 cx 2 rfl rfl 20 rfl dX2_mayFollow_17 ?_
    refine V_icmp_ne cx 23 27 rfl dX2_mayFollow_20 (by decide) (fun c_20 => ?_) (fun c_20 => ?_)
    · skip
      have n_20 : e ≠ len := N_ne_t (by omega) (by omega) c_20
      refine V_iconst (v := nI 0) cx 28 rfl dX2_mayFollow_27 (by decide) ?_
      show V X lo 4 G (Qi X lo G (fun (r : Int32) (_ : Unit) => r = bI (okF (lF x p) pv.isNone (decide (e = len)) && !(vetoed x pv p))) (fun (_ : Unit) => cW G h np nl len fd lu tu T C F LT VV BB lt ph lh ks wd gr gs bl ie tw ++ rs) 0 0) 0 0 (cW G h np nl len fd lu tu T C F LT VV BB lt ph lh ks wd gr gs bl ie tw ++ rs) [(0, .ref (h 2)), (1, .int bf), (2, .int (nI p)), (3, .int (nI e))] [.int (bI false), .int (bI false), .int (nI p), .ref (h 1)] 28
      refine KX2_79 (As := [.int (nI p), .int (bI false), .int (bI false)]) (rest := []) cx (kX1_mayStand (xl X) lo G _ h np nl len fd lu tu T C F LT VV BB lt ph lh ks wd gr gs bl ie tw p false false (lF x p) (by omega) (hF p hp)) hX (by omega) 1 rfl rfl rfl (Nat.le_of_ble_eq_true rfl) 31 0 0 rfl rfl rfl (by omega) (by omega) dX2_mayFollow_28 (fun r_1 u_2 hw_3 => ?_)
      try dsimp only at hw_3
      subst hw_3
      refine V_if_ne cx 34 36 rfl dX2_mayFollow_31 (by decide) (fun c_31 => ?_) (fun c_31 => ?_)
      · skip
        have n_31 := B_ne_t c_31
        refine V_iload_n cx 37 rfl dX2_mayFollow_36 1 rfl ?_
        refine V_iconst (v := (-1)) cx 38 rfl dX2_mayFollow_37 (by decide) ?_
        refine V_icmp_eq cx 41 58 rfl dX2_mayFollow_38 (by decide) (fun c_38 => ?_) (fun c_38 => ?_)
        · skip
          rw [hbf] at c_38
          rw [hq] at c_38; have := hpv q hq; exact absurd c_38 (nI_nem1 (by omega))
        · skip
          rw [hbf] at c_38
          have hq16 := hpv q hq
          rw [hbf, hq]
          rw [show oI (some q) = nI q from rfl]
          refine V_aload_n cx 42 rfl dX2_mayFollow_41 0 rfl ?_
          refine GX2_25 cx 2 rfl rfl 45 rfl dX2_mayFollow_42 ?_
          refine GX2_83 cx 1 rfl rfl 48 rfl dX2_mayFollow_45 ?_
          refine V_iload_n cx 49 rfl dX2_mayFollow_48 1 rfl ?_
          refine V_bipush (v := nI 16) cx 51 rfl dX2_mayFollow_49 (by decide) ?_
          refine V_imul cx 52 rfl dX2_mayFollow_51 ?_
          refine V_toi (nI (q * 16)) (nI_mulN _ _) ?_
          refine V_iload_n cx 53 rfl dX2_mayFollow_52 2 rfl ?_
          refine V_iadd cx 54 rfl dX2_mayFollow_53 ?_
          refine V_toi (nI ((q * 16) + p)) (nI_add _ _) ?_
          refine V_zaldN cx ((q * 16) + p) (rfl) (by omega) (by decide) 9 rfl 55 rfl dX2_mayFollow_54 ?_
          refine V_toi (bI (lV x q p)) (hVV q p hq16 hp) ?_
          refine V_if_ne cx 58 62 rfl dX2_mayFollow_55 (by decide) (fun c_55 => ?_) (fun c_55 => ?_)
          · skip
            have n_55 := B_ne_t c_55
            try simp only [decide_eq_true_eq, decide_eq_false_iff_not] at n_55
            refine V_iconst (v := nI 0) cx 63 rfl dX2_mayFollow_62 (by decide) ?_
            exact V_zreturn cx hr (by first | rfl | exact bI_z _) () (by subst hq; show _ = bI (okF (lF x p) false (decide (e = len)) && !(vetoed x (some q) p)); (first | rw [decide_eq_true n_20, n_31] | rw [decide_eq_false n_20, n_31]); first | rfl | (rw [vetoed, n_55]; rfl)) rfl (by omega) (by omega) dX2_mayFollow_63
          · skip
            have n_55 := B_ne_f c_55
            try simp only [decide_eq_true_eq, decide_eq_false_iff_not] at n_55
            refine V_iconst (v := nI 1) cx 59 rfl dX2_mayFollow_58 (by decide) ?_
            refine V_goto cx 63 dX2_mayFollow_59 (by decide) ?_
            exact V_zreturn cx hr (by first | rfl | exact bI_z _) () (by subst hq; show _ = bI (okF (lF x p) false (decide (e = len)) && !(vetoed x (some q) p)); (first | rw [decide_eq_true n_20, n_31] | rw [decide_eq_false n_20, n_31]); first | rfl | (rw [vetoed, n_55]; rfl)) rfl (by omega) (by omega) dX2_mayFollow_63
      · skip
        have n_31 := B_ne_f c_31
        refine V_iconst (v := nI 0) cx 35 rfl dX2_mayFollow_34 (by decide) ?_
        exact V_zreturn cx hr (by first | rfl | exact bI_z _) () (by subst hq; show _ = bI (okF (lF x p) false (decide (e = len)) && !(vetoed x (some q) p)); (first | rw [decide_eq_true n_20, n_31] | rw [decide_eq_false n_20, n_31]); first | rfl | (rw [vetoed, n_55]; rfl)) rfl (by omega) (by omega) dX2_mayFollow_35
    · skip
      have n_20 : e = len := N_ne_f (by omega) (by omega) c_20
      refine V_iconst (v := nI 1) cx 24 rfl dX2_mayFollow_23 (by decide) ?_
      refine V_goto cx 28 dX2_mayFollow_24 (by decide) ?_
      show V X lo 4 G (Qi X lo G (fun (r : Int32) (_ : Unit) => r = bI (okF (lF x p) pv.isNone (decide (e = len)) && !(vetoed x pv p))) (fun (_ : Unit) => cW G h np nl len fd lu tu T C F LT VV BB lt ph lh ks wd gr gs bl ie tw ++ rs) 0 0) 0 0 (cW G h np nl len fd lu tu T C F LT VV BB lt ph lh ks wd gr gs bl ie tw ++ rs) [(0, .ref (h 2)), (1, .int bf), (2, .int (nI p)), (3, .int (nI e))] [.int (bI true), .int (bI false), .int (nI p), .ref (h 1)] 28
      refine KX2_79 (As := [.int (nI p), .int (bI false), .int (bI true)]) (rest := []) cx (kX1_mayStand (xl X) lo G _ h np nl len fd lu tu T C F LT VV BB lt ph lh ks wd gr gs bl ie tw p false true (lF x p) (by omega) (hF p hp)) hX (by omega) 1 rfl rfl rfl (Nat.le_of_ble_eq_true rfl) 31 0 0 rfl rfl rfl (by omega) (by omega) dX2_mayFollow_28 (fun r_4 u_5 hw_6 => ?_)
      try dsimp only at hw_6
      subst hw_6
      refine V_if_ne cx 34 36 rfl dX2_mayFollow_31 (by decide) (fun c_31 => ?_) (fun c_31 => ?_)
      · skip
        have n_31 := B_ne_t c_31
        refine V_iload_n cx 37 rfl dX2_mayFollow_36 1 rfl ?_
        refine V_iconst (v := (-1)) cx 38 rfl dX2_mayFollow_37 (by decide) ?_
        refine V_icmp_eq cx 41 58 rfl dX2_mayFollow_38 (by decide) (fun c_38 => ?_) (fun c_38 => ?_)
        · skip
          rw [hbf] at c_38
          rw [hq] at c_38; have := hpv q hq; exact absurd c_38 (nI_nem1 (by omega))
        · skip
          rw [hbf] at c_38
          have hq16 := hpv q hq
          rw [hbf, hq]
          rw [show oI (some q) = nI q from rfl]
          refine V_aload_n cx 42 rfl dX2_mayFollow_41 0 rfl ?_
          refine GX2_25 cx 2 rfl rfl 45 rfl dX2_mayFollow_42 ?_
          refine GX2_83 cx 1 rfl rfl 48 rfl dX2_mayFollow_45 ?_
          refine V_iload_n cx 49 rfl dX2_mayFollow_48 1 rfl ?_
          refine V_bipush (v := nI 16) cx 51 rfl dX2_mayFollow_49 (by decide) ?_
          refine V_imul cx 52 rfl dX2_mayFollow_51 ?_
          refine V_toi (nI (q * 16)) (nI_mulN _ _) ?_
          refine V_iload_n cx 53 rfl dX2_mayFollow_52 2 rfl ?_
          refine V_iadd cx 54 rfl dX2_mayFollow_53 ?_
          refine V_toi (nI ((q * 16) + p)) (nI_add _ _) ?_
          refine V_zaldN cx ((q * 16) + p) (rfl) (by omega) (by decide) 9 rfl 55 rfl dX2_mayFollow_54 ?_
          refine V_toi (bI (lV x q p)) (hVV q p hq16 hp) ?_
          refine V_if_ne cx 58 62 rfl dX2_mayFollow_55 (by decide) (fun c_55 => ?_) (fun c_55 => ?_)
          · skip
            have n_55 := B_ne_t c_55
            try simp only [decide_eq_true_eq, decide_eq_false_iff_not] at n_55
            refine V_iconst (v := nI 0) cx 63 rfl dX2_mayFollow_62 (by decide) ?_
            exact V_zreturn cx hr (by first | rfl | exact bI_z _) () (by subst hq; show _ = bI (okF (lF x p) false (decide (e = len)) && !(vetoed x (some q) p)); (first | rw [decide_eq_true n_20, n_31] | rw [decide_eq_false n_20, n_31]); first | rfl | (rw [vetoed, n_55]; rfl)) rfl (by omega) (by omega) dX2_mayFollow_63
          · skip
            have n_55 := B_ne_f c_55
            try simp only [decide_eq_true_eq, decide_eq_false_iff_not] at n_55
            refine V_iconst (v := nI 1) cx 59 rfl dX2_mayFollow_58 (by decide) ?_
            refine V_goto cx 63 dX2_mayFollow_59 (by decide) ?_
            exact V_zreturn cx hr (by first | rfl | exact bI_z _) () (by subst hq; show _ = bI (okF (lF x p) false (decide (e = len)) && !(vetoed x (some q) p)); (first | rw [decide_eq_true n_20, n_31] | rw [decide_eq_false n_20, n_31]); first | rfl | (rw [vetoed, n_55]; rfl)) rfl (by omega) (by omega) dX2_mayFollow_63
      · skip
        have n_31 := B_ne_f c_31
        refine V_iconst (v := nI 0) cx 35 rfl dX2_mayFollow_34 (by decide) ?_
        exact V_zreturn cx hr (by first | rfl | exact bI_z _) () (by subst hq; show _ = bI (okF (lF x p) false (decide (e = len)) && !(vetoed x (some q) p)); (first | rw [decide_eq_true n_20, n_31] | rw [decide_eq_false n_20, n_31]); first | rfl | (rw [vetoed, n_55]; rfl)) rfl (by omega) (by omega) dX2_mayFollow_35
  · skip
    rw [hbf] at c_7
    have hq : pv = none := oI_m1 (fun q h => by have := hpv q h; omega) c_7
    refine V_iconst (v := nI 1) cx 11 rfl dX2_mayFollow_10 (by decide) ?_
    refine V_goto cx 15 dX2_mayFollow_11 (by decide) ?_
    refine V_iload_n cx 16 rfl dX2_mayFollow_15 3 rfl ?_
    refine V_aload_n cx 17 rfl dX2_mayFollow_16 0 rfl ?_
    refine GX2_33 cx 2 rfl rfl 20 rfl dX2_mayFollow_17 ?_
    refine V_icmp_ne cx 23 27 rfl dX2_mayFollow_20 (by decide) (fun c_20 => ?_) (fun c_20 => ?_)
    · skip
      have n_20 : e ≠ len := N_ne_t (by omega) (by omega) c_20
      refine V_iconst (v := nI 0) cx 28 rfl dX2_mayFollow_27 (by decide) ?_
      show V X lo 4 G (Qi X lo G (fun (r : Int32) (_ : Unit) => r = bI (okF (lF x p) pv.isNone (decide (e = len)) && !(vetoed x pv p))) (fun (_ : Unit) => cW G h np nl len fd lu tu T C F LT VV BB lt ph lh ks wd gr gs bl ie tw ++ rs) 0 0) 0 0 (cW G h np nl len fd lu tu T C F LT VV BB lt ph lh ks wd gr gs bl ie tw ++ rs) [(0, .ref (h 2)), (1, .int bf), (2, .int (nI p)), (3, .int (nI e))] [.int (bI false), .int (bI true), .int (nI p), .ref (h 1)] 28
      refine KX2_79 (As := [.int (nI p), .int (bI true), .int (bI false)]) (rest := []) cx (kX1_mayStand (xl X) lo G _ h np nl len fd lu tu T C F LT VV BB lt ph lh ks wd gr gs bl ie tw p true false (lF x p) (by omega) (hF p hp)) hX (by omega) 1 rfl rfl rfl (Nat.le_of_ble_eq_true rfl) 31 0 0 rfl rfl rfl (by omega) (by omega) dX2_mayFollow_28 (fun r_7 u_8 hw_9 => ?_)
      try dsimp only at hw_9
      subst hw_9
      refine V_if_ne cx 34 36 rfl dX2_mayFollow_31 (by decide) (fun c_31 => ?_) (fun c_31 => ?_)
      · skip
        have n_31 := B_ne_t c_31
        refine V_iload_n cx 37 rfl dX2_mayFollow_36 1 rfl ?_
        refine V_iconst (v := (-1)) cx 38 rfl dX2_mayFollow_37 (by decide) ?_
        refine V_icmp_eq cx 41 58 rfl dX2_mayFollow_38 (by decide) (fun c_38 => ?_) (fun c_38 => ?_)
        · skip
          rw [hbf] at c_38
          refine V_iconst (v := nI 1) cx 59 rfl dX2_mayFollow_58 (by decide) ?_
          refine V_goto cx 63 dX2_mayFollow_59 (by decide) ?_
          exact V_zreturn cx hr (by first | rfl | exact bI_z _) () (by subst hq; show _ = bI (okF (lF x p) true (decide (e = len)) && !(vetoed x none p)); (first | rw [decide_eq_true n_20, n_31] | rw [decide_eq_false n_20, n_31]); first | rfl | (rw [vetoed, n_55]; rfl)) rfl (by omega) (by omega) dX2_mayFollow_63
        · skip
          rw [hbf] at c_38
          rw [hq] at c_38; exact absurd rfl c_38
      · skip
        have n_31 := B_ne_f c_31
        refine V_iconst (v := nI 0) cx 35 rfl dX2_mayFollow_34 (by decide) ?_
        exact V_zreturn cx hr (by first | rfl | exact bI_z _) () (by subst hq; show _ = bI (okF (lF x p) true (decide (e = len)) && !(vetoed x none p)); (first | rw [decide_eq_true n_20, n_31] | rw [decide_eq_false n_20, n_31]); first | rfl | (rw [vetoed, n_55]; rfl)) rfl (by omega) (by omega) dX2_mayFollow_35
    · skip
      have n_20 : e = len := N_ne_f (by omega) (by omega) c_20
      refine V_iconst (v := nI 1) cx 24 rfl dX2_mayFollow_23 (by decide) ?_
      refine V_goto cx 28 dX2_mayFollow_24 (by decide) ?_
      show V X lo 4 G (Qi X lo G (fun (r : Int32) (_ : Unit) => r = bI (okF (lF x p) pv.isNone (decide (e = len)) && !(vetoed x pv p))) (fun (_ : Unit) => cW G h np nl len fd lu tu T C F LT VV BB lt ph lh ks wd gr gs bl ie tw ++ rs) 0 0) 0 0 (cW G h np nl len fd lu tu T C F LT VV BB lt ph lh ks wd gr gs bl ie tw ++ rs) [(0, .ref (h 2)), (1, .int bf), (2, .int (nI p)), (3, .int (nI e))] [.int (bI true), .int (bI true), .int (nI p), .ref (h 1)] 28
      refine KX2_79 (As := [.int (nI p), .int (bI true), .int (bI true)]) (rest := []) cx (kX1_mayStand (xl X) lo G _ h np nl len fd lu tu T C F LT VV BB lt ph lh ks wd gr gs bl ie tw p true true (lF x p) (by omega) (hF p hp)) hX (by omega) 1 rfl rfl rfl (Nat.le_of_ble_eq_true rfl) 31 0 0 rfl rfl rfl (by omega) (by omega) dX2_mayFollow_28 (fun r_10 u_11 hw_12 => ?_)
      try dsimp only at hw_12
      subst hw_12
      refine V_if_ne cx 34 36 rfl dX2_mayFollow_31 (by decide) (fun c_31 => ?_) (fun c_31 => ?_)
      · skip
        have n_31 := B_ne_t c_31
        refine V_iload_n cx 37 rfl dX2_mayFollow_36 1 rfl ?_
        refine V_iconst (v := (-1)) cx 38 rfl dX2_mayFollow_37 (by decide) ?_
        refine V_icmp_eq cx 41 58 rfl dX2_mayFollow_38 (by decide) (fun c_38 => ?_) (fun c_38 => ?_)
        · skip
          rw [hbf] at c_38
          refine V_iconst (v := nI 1) cx 59 rfl dX2_mayFollow_58 (by decide) ?_
          refine V_goto cx 63 dX2_mayFollow_59 (by decide) ?_
          exact V_zreturn cx hr (by first | rfl | exact bI_z _) () (by subst hq; show _ = bI (okF (lF x p) true (decide (e = len)) && !(vetoed x none p)); (first | rw [decide_eq_true n_20, n_31] | rw [decide_eq_false n_20, n_31]); first | rfl | (rw [vetoed, n_55]; rfl)) rfl (by omega) (by omega) dX2_mayFollow_63
        · skip
          rw [hbf] at c_38
          rw [hq] at c_38; exact absurd rfl c_38
      · skip
        have n_31 := B_ne_f c_31
        refine V_iconst (v := nI 0) cx 35 rfl dX2_mayFollow_34 (by decide) ?_
        exact V_zreturn cx hr (by first | rfl | exact bI_z _) () (by subst hq; show _ = bI (okF (lF x p) true (decide (e = len)) && !(vetoed x none p)); (first | rw [decide_eq_true n_20, n_31] | rw [decide_eq_false n_20, n_31]); first | rfl | (rw [vetoed, n_55]; rfl)) rfl (by omega) (by omega) dX2_mayFollow_35
set_option maxHeartbeats 4000000 in
set_option maxRecDepth 100000 in
theorem kX2_readLetters (l : Launch) (lo : Nat) (G : vG) (rs : va_W) (h : Nat → Nat) (np : Nat) (nl : Nat) (len : Nat) (fd : Nat) (lu : Nat) (tu : Nat) (T : Nat → Int32) (C : Nat → Int32) (F : Nat → Int32) (LT : Nat → Int32) (VV : Nat → Int32) (BB : Nat → Int32) (lt : Nat → Int32) (ph : Nat → Int32) (lh : Nat → Int32) (ks : Nat → Int64) (wd : Nat → Int32) (gr : Nat → Int32) (gs : Nat → Int32) (bl : Nat → Int32) (ie : Nat → Int32) (tw : Nat → Int32) (x : Int32) (w : Nat) (hw : 0 < SZ x 8 → x = nI w ∧ w < 2147483648) : Mv l yX2_readLetters (.code yX2_readLetters prog_4_method_3_code 4 none) 3 0 0 lo G [.ref (h 2), .int x] (cW G h np nl len fd lu tu T C F LT VV BB lt ph lh ks wd gr gs bl ie tw ++ rs) (fun (lt1 : (Nat → Int32)) => ∀ k, k < SZ x 8 → lt1 k = nI (dgt w (SZ x 8) k)) (fun (lt1 : (Nat → Int32)) => cW G h np nl (SZ x 8) fd lu tu T C F LT VV BB lt1 ph lh ks wd gr gs bl ie tw ++ rs) := by
  refine Mv_of (lc := [(0, .ref (h 2)), (1, .int x)]) (by decide +kernel) (Nat.le_of_ble_eq_true rfl) rfl ?_
  intro X cx hXR hXl hr hin
  subst hXl
  have hX := RmX.of hXR
  have hL := SZ_le x 8
  refine V_aload_n cx 1 rfl dX2_readLetters_0 0 rfl ?_
  refine V_iload_n cx 2 rfl dX2_readLetters_1 1 rfl ?_
  refine KX2_47 (As := [.int x]) (rest := [.ref (h 2)]) cx (kX4_lettersIn (xl X) lo G _ x) hX (by omega) rfl rfl (Nat.le_of_ble_eq_true rfl) 5 0 0 rfl rfl rfl (by omega) (by omega) dX2_readLetters_2 (fun r_1 u_2 hw_3 => ?_)
  try dsimp only at hw_3
  subst hw_3
  have fk_4 := SZ_le x 8
  refine PX2_33 cx 2 rfl (Nat.le_of_ble_eq_true rfl) (cW G h np nl (SZ x 8) fd lu tu T C F LT VV BB lt ph lh ks wd gr gs bl ie tw ++ rs) rfl 8 rfl dX2_readLetters_5 ?_
  refine V_iload_n cx 9 rfl dX2_readLetters_8 1 rfl ?_
  refine V_istore_n (lc1 := [(2, .int x), (0, .ref (h 2)), (1, .int x)]) cx 10 rfl dX2_readLetters_9 (by decide) rfl ?_
  refine V_aload_n cx 11 rfl dX2_readLetters_10 1 rfl ?_
  refine GX2_33 cx 2 rfl rfl 14 rfl dX2_readLetters_11 ?_
  refine V_iconst (v := nI 1) cx 15 rfl dX2_readLetters_14 (by decide) ?_
  refine V_isub cx 16 rfl dX2_readLetters_15 ?_
  refine V_istore_n (lc1 := [(3, .int ((nI (SZ x 8)) - (nI 1))), (2, .int x), (0, .ref (h 2)), (1, .int x)]) cx 17 rfl dX2_readLetters_16 (by decide) rfl ?_
  have loop_17 : ∀ (fuel : Nat) (j : Nat) (z : Int32) (lt2 : Nat → Int32), (j ≤ SZ x 8) → (0 < j → z = nI (w / 10 ^ (SZ x 8 - j))) → (∀ k, j ≤ k → k < SZ x 8 → lt2 k = nI (dgt w (SZ x 8) k)) → j < fuel → V X lo 4 G (Qv X lo G (fun (lt1 : (Nat → Int32)) => ∀ k, k < SZ x 8 → lt1 k = nI (dgt w (SZ x 8) k)) (fun (lt1 : (Nat → Int32)) => cW G h np nl (SZ x 8) fd lu tu T C F LT VV BB lt1 ph lh ks wd gr gs bl ie tw ++ rs) 0 0) 0 0 (cW G h np nl (SZ x 8) fd lu tu T C F LT VV BB lt2 ph lh ks wd gr gs bl ie tw ++ rs) [(3, .int (nI j - nI 1)), (2, .int z), (0, .ref (h 2)), (1, .int x)] [] 17 := by
    intro fuel
    induction fuel with
    | zero => intro j z lt2 hj hz hl hmz; exact absurd hmz (Nat.not_lt_zero _)
    | succ fuel ih_17 =>
      intro j z lt2 hj hz hl hmz_17
      refine V_iload_n cx 18 rfl dX2_readLetters_17 0 rfl ?_
      refine V_if_lt cx 21 42 rfl dX2_readLetters_18 (by decide) (fun c_18 => ?_) (fun c_18 => ?_)
      · skip
        have ej : j = 0 := nI_subz (by omega) c_18
        exact V_vreturn cx hr lt2 (fun k hk => hl k (by omega) hk) rfl (by omega) (by omega) dX2_readLetters_42
      · skip
        have ej : 0 < j := nI_subnz c_18
        have ez := hz ej
        have hwz := (hw (by omega)).2
        have hdl := Nat.div_le_self w (10 ^ (SZ x 8 - j))
        rw [nI_subN ej, ez]
        refine V_aload_n cx 22 rfl dX2_readLetters_21 2 rfl ?_
        refine GX2_11 cx 2 rfl rfl 25 rfl dX2_readLetters_22 ?_
        refine V_iload_n cx 26 rfl dX2_readLetters_25 0 rfl ?_
        refine V_iload_n cx 27 rfl dX2_readLetters_26 1 rfl ?_
        refine V_bipush (v := nI 10) cx 29 rfl dX2_readLetters_27 (by decide) ?_
        refine V_irem cx 30 rfl dX2_readLetters_29 (by decide) ?_
        refine V_toi (nI ((w / 10 ^ (SZ x 8 - j)) % 10)) (nI_mod (by omega) (by omega)) ?_
        refine V_iastN cx (j - 1) (rfl) (by omega) (by decide) 11 rfl (cW G h np nl (SZ x 8) fd lu tu T C F LT VV BB (upd lt2 (j - 1) (nI ((w / 10 ^ (SZ x 8 - j)) % 10))) ph lh ks wd gr gs bl ie tw ++ rs) rfl 31 rfl dX2_readLetters_30 ?_
        refine V_iload_n cx 32 rfl dX2_readLetters_31 1 rfl ?_
        refine V_bipush (v := nI 10) cx 34 rfl dX2_readLetters_32 (by decide) ?_
        refine V_idiv cx 35 rfl dX2_readLetters_34 (by decide) ?_
        refine V_toi (nI ((w / 10 ^ (SZ x 8 - j)) / 10)) (nI_div (by omega) (by omega)) ?_
        refine V_istore_n (lc1 := [(2, .int (nI ((w / 10 ^ (SZ x 8 - j)) / 10))), (3, .int (nI (j - 1))), (0, .ref (h 2)), (1, .int x)]) cx 36 rfl dX2_readLetters_35 (by decide) rfl ?_
        refine V_iinc (v := nI (j - 1) - nI 1) (lc1 := [(3, .int (nI (j - 1) - nI 1)), (2, .int (nI ((w / 10 ^ (SZ x 8 - j)) / 10))), (0, .ref (h 2)), (1, .int x)]) cx 39 rfl dX2_readLetters_36 1 rfl (nI_decR (j - 1)) (by decide) rfl ?_
        refine V_goto cx 17 dX2_readLetters_39 (by decide) ?_
        refine V.locs [0, 1, 2, 3] rfl ?_
        exact ih_17 (j - 1) (nI ((w / 10 ^ (SZ x 8 - j)) / 10)) (upd lt2 (j - 1) (nI ((w / 10 ^ (SZ x 8 - j)) % 10))) (by omega) (by intro h; rw [Nat.div_div_eq_div_mul, ← Nat.pow_succ, show (SZ x 8 - j).succ = SZ x 8 - (j - 1) by omega]) (by intro k h1 h2; unfold upd; split; (rename_i hk; subst hk; rw [dgt, show SZ x 8 - 1 - (j - 1) = SZ x 8 - j by omega]); exact hl k (by omega) h2) (by omega)
  refine V.locs [0, 1, 2, 3] rfl ?_
  exact loop_17 _ (SZ x 8) x lt (by omega) (by intro h; rw [Nat.sub_self]; have := (hw h).1; simpa using this) (by intro k h1 h2; omega) (Nat.lt_succ_self _)
set_option maxHeartbeats 4000000 in
set_option maxRecDepth 100000 in
theorem kX2_findFrom (l : Launch) (lo : Nat) (G : vG) (rs : va_W) (h : Nat → Nat) (np : Nat) (nl : Nat) (len : Nat) (fd : Nat) (lu : Nat) (tu : Nat) (T : Nat → Int32) (C : Nat → Int32) (F : Nat → Int32) (LT : Nat → Int32) (VV : Nat → Int32) (BB : Nat → Int32) (lt : Nat → Int32) (ph : Nat → Int32) (lh : Nat → Int32) (ks : Nat → Int64) (wd : Nat → Int32) (gr : Nat → Int32) (gs : Nat → Int32) (bl : Nat → Int32) (ie : Nat → Int32) (tw : Nat → Int32) (a : Nat) (x : LX) (d : Nat → Nat) (hok : lxOK x) (hck : cOK x np nl T C F LT VV BB) (hll : len ≤ 8) (hlt : ∀ k, k < len → lt k = nI (d k)) (hd : ∀ k, d k ≤ 9) (ha : a < len) : Mv l yX2_findFrom (.code yX2_findFrom prog_4_method_4_code 4 none) 3 0 0 lo G [.ref (h 2), .int (nI a)] (cW G h np nl len fd lu tu T C F LT VV BB lt ph lh ks wd gr gs bl ie tw ++ rs) (fun ((ph1, lh1) : (Nat → Int32) × (Nat → Int32)) => phOK x len d ph1 lh1 a ∧ (∀ j, j < a * 4 ∨ a * 4 + 4 ≤ j → ph1 j = ph j) ∧ (∀ j, j < a * 2 ∨ a * 2 + 2 ≤ j → lh1 j = lh j)) (fun ((ph1, lh1) : (Nat → Int32) × (Nat → Int32)) => cW G h np nl len fd lu tu T C F LT VV BB lt ph1 lh1 ks wd gr gs bl ie tw ++ rs) := by
  refine Mv_of (lc := [(0, .ref (h 2)), (1, .int (nI a))]) (by decide +kernel) (Nat.le_of_ble_eq_true rfl) rfl ?_
  intro X cx hXR hXl hr hin
  subst hXl
  have hX := RmX.of hXR
  obtain ⟨hnp, hnl, hT, hC, hF, hLT, hVV, hBB⟩ := id hck
  have hnp16 : np ≤ 16 := by rw [hnp]; exact hok.1
  have hnl6 : nl ≤ 6 := by rw [hnl]; exact hok.2.1
  have hTb : ∀ i, i < np → T i = nI (lT x i) ∧ lT x i < 2147483648 := fun i hi => ⟨hT i hi, by have := hok.t (i := i) (by omega); omega⟩
  have hLb : ∀ i, i < nl → LT i = nI (lU x i) ∧ lU x i < 2147483648 := fun i hi => ⟨hLT i hi, by have := hok.u (i := i) (by omega); omega⟩
  refine V_iconst (v := nI 1) cx 1 rfl dX2_findFrom_0 (by decide) ?_
  refine V_istore_n (lc1 := [(2, .int (nI 1)), (0, .ref (h 2)), (1, .int (nI a))]) cx 2 rfl dX2_findFrom_1 (by decide) rfl ?_
  refine V_iconst (v := nI 1) cx 3 rfl dX2_findFrom_2 (by decide) ?_
  refine V_istore_n (lc1 := [(3, .int (nI 1)), (2, .int (nI 1)), (0, .ref (h 2)), (1, .int (nI a))]) cx 4 rfl dX2_findFrom_3 (by decide) rfl ?_
  have loop_4 : ∀ (fuel : Nat) (s : Nat) (t : Nat) (ph2 : Nat → Int32) (lh2 : Nat → Int32), (1 ≤ s ∧ s ≤ 5) → (t = TA d a (s - 1)) → (t < 200000000) → (∀ q, 1 ≤ q → q < s → a + q ≤ len → ph2 (a * 4 + q - 1) = oI (wAt x len d a q)) → (∀ q, 1 ≤ q → q < s → q ≤ 2 → a + q ≤ len → lh2 (a * 2 + q - 1) = oI (lwAt x d a q)) → (∀ j, j < a * 4 ∨ a * 4 + 4 ≤ j → ph2 j = ph j) → (∀ j, j < a * 2 ∨ a * 2 + 2 ≤ j → lh2 j = lh j) → 5 - s < fuel → V X lo 4 G (Qv X lo G (fun ((ph1, lh1) : (Nat → Int32) × (Nat → Int32)) => phOK x len d ph1 lh1 a ∧ (∀ j, j < a * 4 ∨ a * 4 + 4 ≤ j → ph1 j = ph j) ∧ (∀ j, j < a * 2 ∨ a * 2 + 2 ≤ j → lh1 j = lh j)) (fun ((ph1, lh1) : (Nat → Int32) × (Nat → Int32)) => cW G h np nl len fd lu tu T C F LT VV BB lt ph1 lh1 ks wd gr gs bl ie tw ++ rs) 0 0) 0 0 (cW G h np nl len fd lu tu T C F LT VV BB lt ph2 lh2 ks wd gr gs bl ie tw ++ rs) [(3, .int (nI s)), (2, .int (nI t)), (0, .ref (h 2)), (1, .int (nI a))] [] 4 := by
    intro fuel
    induction fuel with
    | zero => intro s t ph2 lh2 hs ht htb h1 h2 h3 h4 hmz; exact absurd hmz (Nat.not_lt_zero _)
    | succ fuel ih_4 =>
      intro s t ph2 lh2 hs ht htb h1 h2 h3 h4 hmz_4
      refine V_iload_n cx 5 rfl dX2_findFrom_4 0 rfl ?_
      refine V_iconst (v := nI 4) cx 6 rfl dX2_findFrom_5 (by decide) ?_
      refine V_icmp_gt cx 9 86 rfl dX2_findFrom_6 (by decide) (fun c_6 => ?_) (fun c_6 => ?_)
      · skip
        have n_6 : s > 4 := N_gt_t (by omega) (by omega) c_6
        exact V_vreturn cx hr (ph2, lh2) (⟨⟨fun q g1 g2 g3 => h1 q g1 (by omega) g3, fun q g1 g2 g3 => h2 q g1 (by omega) g2 g3⟩, h3, h4⟩) rfl (by omega) (by omega) dX2_findFrom_86
      · skip
        have n_6 : s ≤ 4 := N_gt_f (by omega) (by omega) c_6
        refine V_iload_n cx 10 rfl dX2_findFrom_9 3 rfl ?_
        refine V_iload_n cx 11 rfl dX2_findFrom_10 0 rfl ?_
        refine V_iadd cx 12 rfl dX2_findFrom_11 ?_
        refine V_toi (nI (a + s)) (nI_add _ _) ?_
        refine V_aload_n cx 13 rfl dX2_findFrom_12 2 rfl ?_
        refine GX2_33 cx 2 rfl rfl 16 rfl dX2_findFrom_13 ?_
        refine V_icmp_gt cx 19 86 rfl dX2_findFrom_16 (by decide) (fun c_16 => ?_) (fun c_16 => ?_)
        · skip
          have n_16 : a + s > len := N_gt_t (by omega) (by omega) c_16
          exact V_vreturn cx hr (ph2, lh2) (⟨⟨fun q g1 g2 g3 => h1 q g1 (by omega) g3, fun q g1 g2 g3 => h2 q g1 (by omega) g2 g3⟩, h3, h4⟩) rfl (by omega) (by omega) dX2_findFrom_86
        · skip
          have n_16 : a + s ≤ len := N_gt_f (by omega) (by omega) c_16
          refine V_bipush (v := nI 10) cx 21 rfl dX2_findFrom_19 (by decide) ?_
          refine V_iload_n cx 22 rfl dX2_findFrom_21 1 rfl ?_
          refine V_imul cx 23 rfl dX2_findFrom_22 ?_
          refine V_toi (nI (10 * t)) (nI_mulN _ _) ?_
          refine V_aload_n cx 24 rfl dX2_findFrom_23 2 rfl ?_
          refine GX2_11 cx 2 rfl rfl 27 rfl dX2_findFrom_24 ?_
          refine V_iload_n cx 28 rfl dX2_findFrom_27 3 rfl ?_
          refine V_iload_n cx 29 rfl dX2_findFrom_28 0 rfl ?_
          refine V_iadd cx 30 rfl dX2_findFrom_29 ?_
          refine V_toi (nI (a + s)) (nI_add _ _) ?_
          refine V_iconst (v := nI 1) cx 31 rfl dX2_findFrom_30 (by decide) ?_
          refine V_isub cx 32 rfl dX2_findFrom_31 ?_
          refine V_toi (nI (a + s - 1)) (nI_subN (by omega)) ?_
          refine V_ialdN cx (a + s - 1) (rfl) (by omega) (by decide) 11 rfl 33 rfl dX2_findFrom_32 ?_
          refine V_toi (nI (d (a + s - 1))) (hlt _ (by omega)) ?_
          refine V_iadd cx 34 rfl dX2_findFrom_33 ?_
          refine V_toi (nI ((10 * t) + (d (a + s - 1)))) (nI_add _ _) ?_
          have hdd := hd (a + s - 1)
          have ht2 : 10 * t + d (a + s - 1) = TA d a (s + 1 - 1) := by rw [show s + 1 - 1 = (s - 1) + 1 by omega, TA, ← ht, show a + (s - 1) = a + s - 1 by omega]
          refine V_istore_n (lc1 := [(2, .int (nI ((10 * t) + (d (a + s - 1))))), (3, .int (nI s)), (0, .ref (h 2)), (1, .int (nI a))]) cx 35 rfl dX2_findFrom_34 (by decide) rfl ?_
          refine V_aload_n cx 36 rfl dX2_findFrom_35 2 rfl ?_
          refine GX2_15 cx 2 rfl rfl 39 rfl dX2_findFrom_36 ?_
          refine V_iload_n cx 40 rfl dX2_findFrom_39 3 rfl ?_
          refine V_iconst (v := nI 4) cx 41 rfl dX2_findFrom_40 (by decide) ?_
          refine V_imul cx 42 rfl dX2_findFrom_41 ?_
          refine V_toi (nI (a * 4)) (nI_mulN _ _) ?_
          refine V_iload_n cx 43 rfl dX2_findFrom_42 1 rfl ?_
          refine V_iadd cx 44 rfl dX2_findFrom_43 ?_
          refine V_toi (nI ((a * 4) + s)) (nI_add _ _) ?_
          refine V_iconst (v := nI 1) cx 45 rfl dX2_findFrom_44 (by decide) ?_
          refine V_isub cx 46 rfl dX2_findFrom_45 ?_
          refine V_toi (nI (((a * 4) + s) - 1)) (nI_subN (by omega)) ?_
          refine V_aload_n cx 47 rfl dX2_findFrom_46 2 rfl ?_
          refine GX2_25 cx 2 rfl rfl 50 rfl dX2_findFrom_47 ?_
          refine V_iload_n cx 51 rfl dX2_findFrom_50 0 rfl ?_
          refine KX2_51 (As := [.int (nI ((10 * t) + (d (a + s - 1))))]) (rest := [.int (nI (((a * 4) + s) - 1)), .ref (h 12)]) cx (kX1_partWith (xl X) lo G _ h np nl len fd lu tu T C F LT VV BB lt ph2 lh2 ks wd gr gs bl ie tw (nI ((10 * t) + (d (a + s - 1)))) (by omega)) hX (by omega) 1 rfl rfl rfl (Nat.le_of_ble_eq_true rfl) 54 0 0 rfl rfl rfl (by omega) (by omega) dX2_findFrom_51 (fun r_1 u_2 hw_3 => ?_)
          try dsimp only at hw_3
          subst hw_3
          refine V_toi (oI (wAt x len d a s)) (by rw [pwI_pw (by omega) hTb, wAt, if_pos n_16, hnp, ht2]; rfl) ?_
          refine V_iastN cx (((a * 4) + s) - 1) (rfl) (by omega) (by decide) 12 rfl (cW G h np nl len fd lu tu T C F LT VV BB lt (upd ph2 (((a * 4) + s) - 1) (oI (wAt x len d a s))) lh2 ks wd gr gs bl ie tw ++ rs) rfl 55 rfl dX2_findFrom_54 ?_
          refine V_iload_n cx 56 rfl dX2_findFrom_55 1 rfl ?_
          refine V_iconst (v := nI 2) cx 57 rfl dX2_findFrom_56 (by decide) ?_
          refine V_icmp_gt cx 60 80 rfl dX2_findFrom_57 (by decide) (fun c_57 => ?_) (fun c_57 => ?_)
          · skip
            have n_57 : s > 2 := N_gt_t (by omega) (by omega) c_57
            refine V_iinc (v := nI (s + 1)) (lc1 := [(3, .int (nI (s + 1))), (2, .int (nI ((10 * t) + (d (a + s - 1))))), (0, .ref (h 2)), (1, .int (nI a))]) cx 83 rfl dX2_findFrom_80 1 rfl (nI_inc s 1) (by decide) rfl ?_
            refine V_goto cx 4 dX2_findFrom_83 (by decide) ?_
            refine V.locs [0, 1, 2, 3] rfl ?_
            exact ih_4 (s + 1) ((10 * t) + (d (a + s - 1))) (upd ph2 (((a * 4) + s) - 1) (oI (wAt x len d a s))) lh2 (by omega) (by exact ht2) (by rw [ht2]; exact TA_bd d hd a (by omega)) (by intro q g1 g2 g3; rcases Nat.lt_or_ge q s with g4 | g4; (rw [upd_n _ _ (by omega)]; exact h1 q g1 g4 g3); (rw [show q = s by omega]; exact upd_s _ _ _)) (by intro q g1 g2 g3 g5; rcases Nat.lt_or_ge q s with g4 | g4; (first | (rw [upd_n _ _ (by omega)]; exact h2 q g1 g4 g3 g5) | exact h2 q g1 g4 g3 g5); (rw [show q = s by omega]; first | exact upd_s _ _ _ | (exfalso; omega))) (by intro j g; rw [upd_n _ _ (by omega)]; exact h3 j g) (by intro j g; first | exact h4 j g | (rw [upd_n _ _ (by omega)]; exact h4 j g)) (by omega)
          · skip
            have n_57 : s ≤ 2 := N_gt_f (by omega) (by omega) c_57
            refine V_aload_n cx 61 rfl dX2_findFrom_60 2 rfl ?_
            refine GX2_18 cx 2 rfl rfl 64 rfl dX2_findFrom_61 ?_
            refine V_iload_n cx 65 rfl dX2_findFrom_64 3 rfl ?_
            refine V_iconst (v := nI 2) cx 66 rfl dX2_findFrom_65 (by decide) ?_
            refine V_imul cx 67 rfl dX2_findFrom_66 ?_
            refine V_toi (nI (a * 2)) (nI_mulN _ _) ?_
            refine V_iload_n cx 68 rfl dX2_findFrom_67 1 rfl ?_
            refine V_iadd cx 69 rfl dX2_findFrom_68 ?_
            refine V_toi (nI ((a * 2) + s)) (nI_add _ _) ?_
            refine V_iconst (v := nI 1) cx 70 rfl dX2_findFrom_69 (by decide) ?_
            refine V_isub cx 71 rfl dX2_findFrom_70 ?_
            refine V_toi (nI (((a * 2) + s) - 1)) (nI_subN (by omega)) ?_
            refine V_aload_n cx 72 rfl dX2_findFrom_71 2 rfl ?_
            refine GX2_25 cx 2 rfl rfl 75 rfl dX2_findFrom_72 ?_
            refine V_iload_n cx 76 rfl dX2_findFrom_75 0 rfl ?_
            refine KX2_56 (As := [.int (nI ((10 * t) + (d (a + s - 1))))]) (rest := [.int (nI (((a * 2) + s) - 1)), .ref (h 13)]) cx (kX1_linkWith (xl X) lo G _ h np nl len fd lu tu T C F LT VV BB lt (upd ph2 (((a * 4) + s) - 1) (oI (wAt x len d a s))) lh2 ks wd gr gs bl ie tw (nI ((10 * t) + (d (a + s - 1)))) (by omega)) hX (by omega) 1 rfl rfl rfl (Nat.le_of_ble_eq_true rfl) 79 0 0 rfl rfl rfl (by omega) (by omega) dX2_findFrom_76 (fun r_4 u_5 hw_6 => ?_)
            try dsimp only at hw_6
            subst hw_6
            refine V_toi (oI (lwAt x d a s)) (by rw [pwI_pw (by omega) hLb, lwAt, hnl, ht2]; rfl) ?_
            refine V_iastN cx (((a * 2) + s) - 1) (rfl) (by omega) (by decide) 13 rfl (cW G h np nl len fd lu tu T C F LT VV BB lt (upd ph2 (((a * 4) + s) - 1) (oI (wAt x len d a s))) (upd lh2 (((a * 2) + s) - 1) (oI (lwAt x d a s))) ks wd gr gs bl ie tw ++ rs) rfl 80 rfl dX2_findFrom_79 ?_
            refine V_iinc (v := nI (s + 1)) (lc1 := [(3, .int (nI (s + 1))), (2, .int (nI ((10 * t) + (d (a + s - 1))))), (0, .ref (h 2)), (1, .int (nI a))]) cx 83 rfl dX2_findFrom_80 1 rfl (nI_inc s 1) (by decide) rfl ?_
            refine V_goto cx 4 dX2_findFrom_83 (by decide) ?_
            refine V.locs [0, 1, 2, 3] rfl ?_
            exact ih_4 (s + 1) ((10 * t) + (d (a + s - 1))) (upd ph2 (((a * 4) + s) - 1) (oI (wAt x len d a s))) (upd lh2 (((a * 2) + s) - 1) (oI (lwAt x d a s))) (by omega) (by exact ht2) (by rw [ht2]; exact TA_bd d hd a (by omega)) (by intro q g1 g2 g3; rcases Nat.lt_or_ge q s with g4 | g4; (rw [upd_n _ _ (by omega)]; exact h1 q g1 g4 g3); (rw [show q = s by omega]; exact upd_s _ _ _)) (by intro q g1 g2 g3 g5; rcases Nat.lt_or_ge q s with g4 | g4; (first | (rw [upd_n _ _ (by omega)]; exact h2 q g1 g4 g3 g5) | exact h2 q g1 g4 g3 g5); (rw [show q = s by omega]; first | exact upd_s _ _ _ | (exfalso; omega))) (by intro j g; rw [upd_n _ _ (by omega)]; exact h3 j g) (by intro j g; first | exact h4 j g | (rw [upd_n _ _ (by omega)]; exact h4 j g)) (by omega)
  refine V.locs [0, 1, 2, 3] rfl ?_
  exact loop_4 _ 1 1 ph lh (by omega) (by rfl) (by omega) (by intro q h1 h2; omega) (by intro q h1 h2; omega) (by intro j _; rfl) (by intro j _; rfl) (Nat.lt_succ_self _)
