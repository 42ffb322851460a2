theorem SZ_one {x : Int32} {l : Nat} (hl : 1 ≤ l ∧ l ≤ 8) (h1 : nI (10 ^ l) ≤ x) (h2 : x < nI (2 * 10 ^ l)) : SZ x 8 = l := by
  have hb : 10 ^ l ≤ 10 ^ 8 := p10_le hl.2
  have h0 : ¬ x < 0 := fun h => absurd (Int32.lt_of_le_of_lt h1 h) (nI_pos (show 10 ^ l < 2 ^ 31 by omega))
  obtain ⟨w, hw, rfl⟩ := nI_of h0
  exact SZ_eq hl.1 hl.2 (Nat.le_refl 8) ((nI_leI (show 10 ^ l < 2 ^ 31 by omega) hw).mp h1) ((nI_ltI hw (show 2 * 10 ^ l < 2 ^ 31 by omega)).mp h2)
theorem SZ_zero {x : Int32} (h : ∀ j, 1 ≤ j → j ≤ 8 → ¬ (nI (10 ^ j) ≤ x ∧ x < nI (2 * 10 ^ j))) : SZ x 8 = 0 := by
  rcases Nat.eq_zero_or_pos (SZ x 8) with h0 | h0
  · exact h0
  · exfalso
    have hl := SZ_le x 8
    obtain ⟨w, hx, h1, h2⟩ := SZ_nat x 8 (Nat.le_refl 8) h0
    have hb : 10 ^ SZ x 8 ≤ 10 ^ 8 := p10_le hl
    refine h (SZ x 8) h0 hl ?_
    generalize SZ x 8 = l at *
    rw [hx]
    exact ⟨nI_le h1 (by omega), nI_lt h2 (by omega)⟩
def pwI (T : Nat → Int32) (x : Int32) : Nat → Option Nat
  | 0 => none
  | n + 1 => match pwI T x n with
    | some p => some p
    | none => if T n = x then some n else none
theorem pwI_mono {T : Nat → Int32} {x : Int32} {i n p : Nat} (hin : i ≤ n) (h : pwI T x i = some p) : pwI T x n = some p := by
  induction n with
  | zero => rw [show 0 = i by omega]; exact h
  | succ n ih =>
    rcases Nat.lt_or_ge i (n + 1) with h1 | h1
    · show (match pwI T x n with | some p => some p | none => if T n = x then some n else none) = some p
      rw [ih (by omega)]
    · rw [show n + 1 = i by omega]; exact h
theorem pwI_hit {T : Nat → Int32} {x : Int32} {i : Nat} (h : pwI T x i = none) (hx : T i = x) : pwI T x (i + 1) = some i := by
  show (match pwI T x i with | some p => some p | none => if T i = x then some i else none) = some i
  rw [h]
  exact if_pos hx
theorem pwI_miss {T : Nat → Int32} {x : Int32} {i : Nat} (h : pwI T x i = none) (hx : ¬ T i = x) : pwI T x (i + 1) = none := by
  show (match pwI T x i with | some p => some p | none => if T i = x then some i else none) = none
  rw [h]
  exact if_neg hx
theorem fN_val (a b : Bool) : fNeed a b = if (if a then 1 else 0) ||| (if b then 4 else 0) = 0 then 2 else (if a then 1 else 0) ||| (if b then 4 else 0) := by cases a <;> cases b <;> rfl
set_option maxHeartbeats 4000000 in
set_option maxRecDepth 100000 in
theorem kX4_lettersIn (l : Launch) (lo : Nat) (G : vG) (rs : va_W) (x : Int32) : Mi l yX4_lettersIn (.code yX4_lettersIn prog_1_method_25_code 3 (some .int)) 1 0 0 lo G [.int x] (rs) (fun (r : Int32) (_ : Unit) => r = nI (SZ x 8)) (fun (_ : Unit) => rs) := by
  refine Mi_of (lc := [(0, .int x)]) (by decide +kernel) (Nat.le_of_ble_eq_true rfl) rfl ?_
  intro X cx hXR hXl hr hin
  subst hXl
  have hX := RmX.of hXR
  refine V_bipush (v := nI 10) cx 2 rfl dX4_lettersIn_0 (by decide) ?_
  refine V_istore_n (lc1 := [(1, .int (nI 10)), (0, .int x)]) cx 3 rfl dX4_lettersIn_2 (by decide) rfl ?_
  refine V_iconst (v := nI 1) cx 4 rfl dX4_lettersIn_3 (by decide) ?_
  refine V_istore_n (lc1 := [(2, .int (nI 1)), (1, .int (nI 10)), (0, .int x)]) cx 5 rfl dX4_lettersIn_4 (by decide) rfl ?_
  have loop_5 : ∀ (fuel : Nat) (l : Nat), (1 ≤ l ∧ l ≤ 9) → (∀ j, 1 ≤ j → j < l → ¬ (nI (10 ^ j) ≤ x ∧ x < nI (2 * 10 ^ j))) → 9 - l < fuel → V X lo 3 G (Qi X lo G (fun (r : Int32) (_ : Unit) => r = nI (SZ x 8)) (fun (_ : Unit) => rs) 0 0) 0 0 (rs) [(2, .int (nI l)), (1, .int (nI (10 ^ l))), (0, .int x)] [] 5 := by
    intro fuel
    induction fuel with
    | zero => intro l hl hno hmz; exact absurd hmz (Nat.not_lt_zero _)
    | succ fuel ih_5 =>
      intro l hl hno hmz_5
      refine V_iload_n cx 6 rfl dX4_lettersIn_5 0 rfl ?_
      refine V_bipush (v := nI 8) cx 8 rfl dX4_lettersIn_6 (by decide) ?_
      refine V_icmp_gt cx 11 36 rfl dX4_lettersIn_8 (by decide) (fun c_8 => ?_) (fun c_8 => ?_)
      · skip
        have n_8 : l > 8 := N_gt_t (by omega) (by omega) c_8
        refine V_iconst (v := nI 0) cx 37 rfl dX4_lettersIn_36 (by decide) ?_
        exact V_ireturn cx hr () (by rw [SZ_zero (fun j h1 h2 => hno j h1 (by omega))]) rfl (by omega) (by omega) dX4_lettersIn_37
      · skip
        have n_8 : l ≤ 8 := N_gt_f (by omega) (by omega) c_8
        refine V_iload_n cx 12 rfl dX4_lettersIn_11 2 rfl ?_
        refine V_iload_n cx 13 rfl dX4_lettersIn_12 1 rfl ?_
        refine V_icmp_lt cx 16 25 rfl dX4_lettersIn_13 (by decide) (fun c_13 => ?_) (fun c_13 => ?_)
        · skip
          refine V_iload_n cx 26 rfl dX4_lettersIn_25 1 rfl ?_
          refine V_bipush (v := nI 10) cx 28 rfl dX4_lettersIn_26 (by decide) ?_
          refine V_imul cx 29 rfl dX4_lettersIn_28 ?_
          refine V_toi (nI ((10 ^ l) * 10)) (nI_mulN _ _) ?_
          refine V_istore_n (lc1 := [(1, .int (nI ((10 ^ l) * 10))), (2, .int (nI l)), (0, .int x)]) cx 30 rfl dX4_lettersIn_29 (by decide) rfl ?_
          refine V_iinc (v := nI (l + 1)) (lc1 := [(2, .int (nI (l + 1))), (1, .int (nI ((10 ^ l) * 10))), (0, .int x)]) cx 33 rfl dX4_lettersIn_30 1 rfl (nI_inc l 1) (by decide) rfl ?_
          refine V_goto cx 5 dX4_lettersIn_33 (by decide) ?_
          refine V.locs [0, 1, 2] rfl ?_
          have e10 : 10 ^ l * 10 = 10 ^ (l + 1) := (Nat.pow_succ ..).symm
          exact ih_5 (l + 1) (by omega) (by intro j h1 h2 h3; rcases Nat.lt_or_ge j l with h4 | h4; (exact hno j h1 h4 h3); (have e : j = l := (by omega); subst e; first | exact absurd h3.2 (Int32.not_lt.mpr c_20) | exact absurd c_13 (Int32.not_lt.mpr h3.1))) (by omega)
        · skip
          refine V_iload_n cx 17 rfl dX4_lettersIn_16 2 rfl ?_
          refine V_iconst (v := nI 2) cx 18 rfl dX4_lettersIn_17 (by decide) ?_
          refine V_iload_n cx 19 rfl dX4_lettersIn_18 1 rfl ?_
          refine V_imul cx 20 rfl dX4_lettersIn_19 ?_
          refine V_toi (nI (2 * (10 ^ l))) (nI_mulN _ _) ?_
          refine V_icmp_ge cx 23 25 rfl dX4_lettersIn_20 (by decide) (fun c_20 => ?_) (fun c_20 => ?_)
          · skip
            refine V_iload_n cx 26 rfl dX4_lettersIn_25 1 rfl ?_
            refine V_bipush (v := nI 10) cx 28 rfl dX4_lettersIn_26 (by decide) ?_
            refine V_imul cx 29 rfl dX4_lettersIn_28 ?_
            refine V_toi (nI ((10 ^ l) * 10)) (nI_mulN _ _) ?_
            refine V_istore_n (lc1 := [(1, .int (nI ((10 ^ l) * 10))), (2, .int (nI l)), (0, .int x)]) cx 30 rfl dX4_lettersIn_29 (by decide) rfl ?_
            refine V_iinc (v := nI (l + 1)) (lc1 := [(2, .int (nI (l + 1))), (1, .int (nI ((10 ^ l) * 10))), (0, .int x)]) cx 33 rfl dX4_lettersIn_30 1 rfl (nI_inc l 1) (by decide) rfl ?_
            refine V_goto cx 5 dX4_lettersIn_33 (by decide) ?_
            refine V.locs [0, 1, 2] rfl ?_
            have e10 : 10 ^ l * 10 = 10 ^ (l + 1) := (Nat.pow_succ ..).symm
            exact ih_5 (l + 1) (by omega) (by intro j h1 h2 h3; rcases Nat.lt_or_ge j l with h4 | h4; (exact hno j h1 h4 h3); (have e : j = l := (by omega); subst e; first | exact absurd h3.2 (Int32.not_lt.mpr c_20) | exact absurd c_13 (Int32.not_lt.mpr h3.1))) (by omega)
          · skip
            refine V_iload_n cx 24 rfl dX4_lettersIn_23 0 rfl ?_
            exact V_ireturn cx hr () (by rw [SZ_one ⟨hl.1, by omega⟩ (Int32.not_lt.mp c_13) (Int32.not_le.mp c_20)]) rfl (by omega) (by omega) dX4_lettersIn_24
  refine V.locs [0, 1, 2] rfl ?_
  exact loop_5 _ 1 (by omega) (by intro j h1 h2; omega) (Nat.lt_succ_self _)
set_option maxHeartbeats 4000000 in
set_option maxRecDepth 100000 in
theorem kX4_needText (l : Launch) (lo : Nat) (G : vG) (rs : va_W) (x : Int32) (m : Nat) (hst : l.stackTraces = false) (hm : m ≤ 8) : Xv l yX4_needText (.code yX4_needText prog_1_method_21_code 3 none) 8 1 6 lo G [.int x, .int (nI m)] (rs) (fun E => E = EIAE ∧ ¬ (1 ≤ SZ x 8 ∧ SZ x 8 ≤ m)) (fun (_ : Unit) => 1 ≤ SZ x 8 ∧ SZ x 8 ≤ m) (fun (_ : Unit) => rs) := by
  refine Xv_of (lc := [(0, .int x), (1, .int (nI m))]) (by decide +kernel) (Nat.le_of_ble_eq_true rfl) rfl ?_
  intro X cx hXR hXl hr hout
  subst hXl
  have hX := RmX.of hXR
  refine V_iload_n cx 1 rfl dX4_needText_0 0 rfl ?_
  refine KX4_174 (As := [.int x]) (rest := []) cx (kX4_lettersIn (xl X) lo G _ x) hX (by omega) rfl rfl (Nat.le_of_ble_eq_true rfl) 4 0 0 rfl rfl rfl (by omega) (by omega) dX4_needText_1 (fun r_1 u_2 hw_3 => ?_)
  try dsimp only at hw_3
  subst hw_3
  have fk_4 := SZ_le x 8
  refine V_istore_n (lc1 := [(2, .int (nI (SZ x 8))), (0, .int x), (1, .int (nI m))]) cx 5 rfl dX4_needText_4 (by decide) rfl ?_
  refine V_iload_n cx 6 rfl dX4_needText_5 0 rfl ?_
  refine V_iconst (v := nI 1) cx 7 rfl dX4_needText_6 (by decide) ?_
  refine V_icmp_lt cx 10 15 rfl dX4_needText_7 (by decide) (fun c_7 => ?_) (fun c_7 => ?_)
  · skip
    have n_7 : SZ x 8 < 1 := N_lt_t (by omega) (by omega) c_7
    exact V_throwS (text := "no text of so many letters") cx hst kl_X4_36 ini_IAE (by decide +kernel) (by decide +kernel) hat2_IAE hatN_IAE hgd_IAE hout hX (by decide) (by omega) (by omega) (⟨rfl, by omega⟩) rfl dX4_needText_15 dX4_needText_18 dX4_needText_19 dX4_needText_21 dX4_needText_24
  · skip
    have n_7 : SZ x 8 ≥ 1 := N_lt_f (by omega) (by omega) c_7
    refine V_iload_n cx 11 rfl dX4_needText_10 0 rfl ?_
    refine V_iload_n cx 12 rfl dX4_needText_11 2 rfl ?_
    refine V_icmp_le cx 15 25 rfl dX4_needText_12 (by decide) (fun c_12 => ?_) (fun c_12 => ?_)
    · skip
      have n_12 : SZ x 8 ≤ m := N_le_t (by omega) (by omega) c_12
      exact V_vreturnX cx hr () (⟨n_7, n_12⟩) rfl (by omega) (by omega) dX4_needText_25
    · skip
      have n_12 : SZ x 8 > m := N_le_f (by omega) (by omega) c_12
      exact V_throwS (text := "no text of so many letters") cx hst kl_X4_36 ini_IAE (by decide +kernel) (by decide +kernel) hat2_IAE hatN_IAE hgd_IAE hout hX (by decide) (by omega) (by omega) (⟨rfl, by omega⟩) rfl dX4_needText_15 dX4_needText_18 dX4_needText_19 dX4_needText_21 dX4_needText_24
set_option maxHeartbeats 4000000 in
set_option maxRecDepth 100000 in
theorem kX4_needPart (l : Launch) (lo : Nat) (G : vG) (rs : va_W) (h : Nat → Nat) (np : Nat) (nl : Nat) (len : Nat) (fd : Nat) (lu : Nat) (tu : Nat) (T : Nat → Int32) (C : Nat → Int32) (F : Nat → Int32) (LT : Nat → Int32) (VV : Nat → Int32) (BB : Nat → Int32) (lt : Nat → Int32) (ph : Nat → Int32) (lh : Nat → Int32) (ks : Nat → Int64) (wd : Nat → Int32) (gr : Nat → Int32) (gs : Nat → Int32) (bl : Nat → Int32) (ie : Nat → Int32) (tw : Nat → Int32) (p : Int32) (hst : l.stackTraces = false) (hnp : np ≤ 16) : Xv l yX4_needPart (.code yX4_needPart prog_1_method_22_code 2 none) 8 1 6 lo G [.ref (h 0), .int p] (cW G h np nl len fd lu tu T C F LT VV BB lt ph lh ks wd gr gs bl ie tw ++ rs) (fun E => E = EIOB ∧ ¬ ∃ q, q < np ∧ p = nI q) (fun (_ : Unit) => ∃ q, q < np ∧ p = nI q) (fun (_ : Unit) => cW G h np nl len fd lu tu T C F LT VV BB lt ph lh ks wd gr gs bl ie tw ++ rs) := by
  refine Xv_of (lc := [(0, .ref (h 0)), (1, .int p)]) (by decide +kernel) (Nat.le_of_ble_eq_true rfl) rfl ?_
  intro X cx hXR hXl hr hout
  subst hXl
  have hX := RmX.of hXR
  refine V_iload_n cx 1 rfl dX4_needPart_0 1 rfl ?_
  refine V_if_lt cx 4 15 rfl dX4_needPart_1 (by decide) (fun c_1 => ?_) (fun c_1 => ?_)
  · skip
    exact V_throwS (text := "no such part") cx hst kl_X4_91 ini_IOB (by decide +kernel) (by decide +kernel) hat2_IOB hatN_IOB hgd_IOB hout hX (by decide) (by omega) (by omega) (⟨rfl, fun h => by obtain ⟨q, h1, h2⟩ := h; rw [h2] at c_1; exact nI_pos (show q < 2 ^ 31 by omega) c_1⟩) rfl dX4_needPart_15 dX4_needPart_18 dX4_needPart_19 dX4_needPart_21 dX4_needPart_24
  · skip
    obtain ⟨q, hq, eq⟩ := nI_of c_1
    refine V_iload_n cx 5 rfl dX4_needPart_4 1 rfl ?_
    refine V_aload_n cx 6 rfl dX4_needPart_5 0 rfl ?_
    refine GX4_12 cx 0 rfl rfl 9 rfl dX4_needPart_6 ?_
    refine GX4_45 cx 1 rfl rfl 12 rfl dX4_needPart_9 ?_
    refine V_icmp_lt cx 15 25 rfl dX4_needPart_12 (by decide) (fun c_12 => ?_) (fun c_12 => ?_)
    · skip
      rw [eq] at c_12
      have n_12 : q < np := N_lt_t (by omega) (by omega) c_12
      exact V_vreturnX cx hr () (⟨q, n_12, eq⟩) rfl (by omega) (by omega) dX4_needPart_25
    · skip
      rw [eq] at c_12
      have n_12 : q ≥ np := N_lt_f (by omega) (by omega) c_12
      exact V_throwS (text := "no such part") cx hst kl_X4_91 ini_IOB (by decide +kernel) (by decide +kernel) hat2_IOB hatN_IOB hgd_IOB hout hX (by decide) (by omega) (by omega) (⟨rfl, fun h => by obtain ⟨q2, h1, h2⟩ := h; have := nI_inj (by omega) (by omega) (eq.symm.trans h2); omega⟩) rfl dX4_needPart_15 dX4_needPart_18 dX4_needPart_19 dX4_needPart_21 dX4_needPart_24
set_option maxHeartbeats 4000000 in
set_option maxRecDepth 100000 in
theorem kX1_placeOf_T (l : Launch) (lo : Nat) (G : vG) (rs : va_W) (h : Nat → Nat) (np : Nat) (nl : Nat) (len : Nat) (fd : Nat) (lu : Nat) (tu : Nat) (T : Nat → Int32) (C : Nat → Int32) (F : Nat → Int32) (LT : Nat → Int32) (VV : Nat → Int32) (BB : Nat → Int32) (lt : Nat → Int32) (ph : Nat → Int32) (lh : Nat → Int32) (ks : Nat → Int64) (wd : Nat → Int32) (gr : Nat → Int32) (gs : Nat → Int32) (bl : Nat → Int32) (ie : Nat → Int32) (tw : Nat → Int32) (x : Int32) (n : Nat) (hn : n ≤ 16) : Mi l yX1_placeOf (.code yX1_placeOf prog_3_method_6_code 4 (some .int)) 1 0 0 lo G [.int x, .ref (h 5), .int (nI n)] (cW G h np nl len fd lu tu T C F LT VV BB lt ph lh ks wd gr gs bl ie tw ++ rs) (fun (r : Int32) (_ : Unit) => r = oI (pwI T x n)) (fun (_ : Unit) => cW G h np nl len fd lu tu T C F LT VV BB lt ph lh ks wd gr gs bl ie tw ++ rs) := by
  refine Mi_of (lc := [(0, .int x), (1, .ref (h 5)), (2, .int (nI n))]) (by decide +kernel) (Nat.le_of_ble_eq_true rfl) rfl ?_
  intro X cx hXR hXl hr hin
  subst hXl
  have hX := RmX.of hXR
  refine V_iconst (v := nI 0) cx 1 rfl dX1_placeOf_0 (by decide) ?_
  refine V_istore_n (lc1 := [(3, .int (nI 0)), (0, .int x), (1, .ref (h 5)), (2, .int (nI n))]) cx 2 rfl dX1_placeOf_1 (by decide) rfl ?_
  have loop_2 : ∀ (fuel : Nat) (i : Nat), (i ≤ n) → (pwI T x i = none) → n - i < fuel → V X lo 4 G (Qi X lo G (fun (r : Int32) (_ : Unit) => r = oI (pwI T x n)) (fun (_ : Unit) => cW G h np nl len fd lu tu T C F LT VV BB lt ph lh ks wd gr gs bl ie tw ++ rs) 0 0) 0 0 (cW G h np nl len fd lu tu T C F LT VV BB lt ph lh ks wd gr gs bl ie tw ++ rs) [(3, .int (nI i)), (0, .int x), (1, .ref (h 5)), (2, .int (nI n))] [] 2 := by
    intro fuel
    induction fuel with
    | zero => intro i hi hp hmz; exact absurd hmz (Nat.not_lt_zero _)
    | succ fuel ih_2 =>
      intro i hi hp hmz_2
      refine V_iload_n cx 3 rfl dX1_placeOf_2 0 rfl ?_
      refine V_iload_n cx 4 rfl dX1_placeOf_3 3 rfl ?_
      refine V_icmp_ge cx 7 28 rfl dX1_placeOf_4 (by decide) (fun c_4 => ?_) (fun c_4 => ?_)
      · skip
        have n_4 : i ≥ n := N_ge_t (by omega) (by omega) c_4
        refine V_iconst (v := (-1)) cx 29 rfl dX1_placeOf_28 (by decide) ?_
        exact V_ireturn cx hr () (by rw [show n = i by omega, hp]; rfl) rfl (by omega) (by omega) dX1_placeOf_29
      · skip
        have n_4 : i < n := N_ge_f (by omega) (by omega) c_4
        refine V_iload_n cx 8 rfl dX1_placeOf_7 0 rfl ?_
        refine V_aload_n cx 9 rfl dX1_placeOf_8 2 rfl ?_
        refine V_alenI cx 5 rfl 10 rfl dX1_placeOf_9 ?_
        refine V_icmp_ge cx 13 28 rfl dX1_placeOf_10 (by decide) (fun c_10 => ?_) (fun c_10 => ?_)
        · skip
          have n_10 : i ≥ 16 := N_ge_t (by omega) (by omega) c_10
          refine V_iconst (v := (-1)) cx 29 rfl dX1_placeOf_28 (by decide) ?_
          exact V_ireturn cx hr () (by rw [show n = i by omega, hp]; rfl) rfl (by omega) (by omega) dX1_placeOf_29
        · skip
          have n_10 : i < 16 := N_ge_f (by omega) (by omega) c_10
          refine V_aload_n cx 14 rfl dX1_placeOf_13 2 rfl ?_
          refine V_iload_n cx 15 rfl dX1_placeOf_14 0 rfl ?_
          refine V_ialdN cx i (rfl) (by omega) (by decide) 5 rfl 16 rfl dX1_placeOf_15 ?_
          refine V_iload_n cx 17 rfl dX1_placeOf_16 1 rfl ?_
          refine V_icmp_ne cx 20 22 rfl dX1_placeOf_17 (by decide) (fun c_17 => ?_) (fun c_17 => ?_)
          · skip
            refine V_iinc (v := nI (i + 1)) (lc1 := [(3, .int (nI (i + 1))), (0, .int x), (1, .ref (h 5)), (2, .int (nI n))]) cx 25 rfl dX1_placeOf_22 0 rfl (nI_inc i 1) (by decide) rfl ?_
            refine V_goto cx 2 dX1_placeOf_25 (by decide) ?_
            refine V.locs [0, 1, 2, 3] rfl ?_
            exact ih_2 (i + 1) (by omega) (by exact pwI_miss hp c_17) (by omega)
          · skip
            refine V_iload_n cx 21 rfl dX1_placeOf_20 0 rfl ?_
            exact V_ireturn cx hr () (by rw [pwI_mono (show i + 1 ≤ n by omega) (pwI_hit hp c_17)]; rfl) rfl (by omega) (by omega) dX1_placeOf_21
  refine V.locs [0, 1, 2, 3] rfl ?_
  exact loop_2 _ 0 (by omega) (by rfl) (Nat.lt_succ_self _)
set_option maxHeartbeats 4000000 in
set_option maxRecDepth 100000 in
theorem kX1_placeOf_L (l : Launch) (lo : Nat) (G : vG) (rs : va_W) (h : Nat → Nat) (np : Nat) (nl : Nat) (len : Nat) (fd : Nat) (lu : Nat) (tu : Nat) (T : Nat → Int32) (C : Nat → Int32) (F : Nat → Int32) (LT : Nat → Int32) (VV : Nat → Int32) (BB : Nat → Int32) (lt : Nat → Int32) (ph : Nat → Int32) (lh : Nat → Int32) (ks : Nat → Int64) (wd : Nat → Int32) (gr : Nat → Int32) (gs : Nat → Int32) (bl : Nat → Int32) (ie : Nat → Int32) (tw : Nat → Int32) (x : Int32) (n : Nat) (hn : n ≤ 6) : Mi l yX1_placeOf (.code yX1_placeOf prog_3_method_6_code 4 (some .int)) 1 0 0 lo G [.int x, .ref (h 8), .int (nI n)] (cW G h np nl len fd lu tu T C F LT VV BB lt ph lh ks wd gr gs bl ie tw ++ rs) (fun (r : Int32) (_ : Unit) => r = oI (pwI LT x n)) (fun (_ : Unit) => cW G h np nl len fd lu tu T C F LT VV BB lt ph lh ks wd gr gs bl ie tw ++ rs) := by
  refine Mi_of (lc := [(0, .int x), (1, .ref (h 8)), (2, .int (nI n))]) (by decide +kernel) (Nat.le_of_ble_eq_true rfl) rfl ?_
  intro X cx hXR hXl hr hin
  subst hXl
  have hX := RmX.of hXR
  refine V_iconst (v := nI 0) cx 1 rfl dX1_placeOf_0 (by decide) ?_
  refine V_istore_n (lc1 := [(3, .int (nI 0)), (0, .int x), (1, .ref (h 8)), (2, .int (nI n))]) cx 2 rfl dX1_placeOf_1 (by decide) rfl ?_
  have loop_2 : ∀ (fuel : Nat) (i : Nat), (i ≤ n) → (pwI LT x i = none) → n - i < fuel → V X lo 4 G (Qi X lo G (fun (r : Int32) (_ : Unit) => r = oI (pwI LT x n)) (fun (_ : Unit) => cW G h np nl len fd lu tu T C F LT VV BB lt ph lh ks wd gr gs bl ie tw ++ rs) 0 0) 0 0 (cW G h np nl len fd lu tu T C F LT VV BB lt ph lh ks wd gr gs bl ie tw ++ rs) [(3, .int (nI i)), (0, .int x), (1, .ref (h 8)), (2, .int (nI n))] [] 2 := by
    intro fuel
    induction fuel with
    | zero => intro i hi hp hmz; exact absurd hmz (Nat.not_lt_zero _)
    | succ fuel ih_2 =>
      intro i hi hp hmz_2
      refine V_iload_n cx 3 rfl dX1_placeOf_2 0 rfl ?_
      refine V_iload_n cx 4 rfl dX1_placeOf_3 3 rfl ?_
      refine V_icmp_ge cx 7 28 rfl dX1_placeOf_4 (by decide) (fun c_4 => ?_) (fun c_4 => ?_)
      · skip
        have n_4 : i ≥ n := N_ge_t (by omega) (by omega) c_4
        refine V_iconst (v := (-1)) cx 29 rfl dX1_placeOf_28 (by decide) ?_
        exact V_ireturn cx hr () (by rw [show n = i by omega, hp]; rfl) rfl (by omega) (by omega) dX1_placeOf_29
      · skip
        have n_4 : i < n := N_ge_f (by omega) (by omega) c_4
        refine V_iload_n cx 8 rfl dX1_placeOf_7 0 rfl ?_
        refine V_aload_n cx 9 rfl dX1_placeOf_8 2 rfl ?_
        refine V_alenI cx 8 rfl 10 rfl dX1_placeOf_9 ?_
        refine V_icmp_ge cx 13 28 rfl dX1_placeOf_10 (by decide) (fun c_10 => ?_) (fun c_10 => ?_)
        · skip
          have n_10 : i ≥ 6 := N_ge_t (by omega) (by omega) c_10
          refine V_iconst (v := (-1)) cx 29 rfl dX1_placeOf_28 (by decide) ?_
          exact V_ireturn cx hr () (by rw [show n = i by omega, hp]; rfl) rfl (by omega) (by omega) dX1_placeOf_29
        · skip
          have n_10 : i < 6 := N_ge_f (by omega) (by omega) c_10
          refine V_aload_n cx 14 rfl dX1_placeOf_13 2 rfl ?_
          refine V_iload_n cx 15 rfl dX1_placeOf_14 0 rfl ?_
          refine V_ialdN cx i (rfl) (by omega) (by decide) 8 rfl 16 rfl dX1_placeOf_15 ?_
          refine V_iload_n cx 17 rfl dX1_placeOf_16 1 rfl ?_
          refine V_icmp_ne cx 20 22 rfl dX1_placeOf_17 (by decide) (fun c_17 => ?_) (fun c_17 => ?_)
          · skip
            refine V_iinc (v := nI (i + 1)) (lc1 := [(3, .int (nI (i + 1))), (0, .int x), (1, .ref (h 8)), (2, .int (nI n))]) cx 25 rfl dX1_placeOf_22 0 rfl (nI_inc i 1) (by decide) rfl ?_
            refine V_goto cx 2 dX1_placeOf_25 (by decide) ?_
            refine V.locs [0, 1, 2, 3] rfl ?_
            exact ih_2 (i + 1) (by omega) (by exact pwI_miss hp c_17) (by omega)
          · skip
            refine V_iload_n cx 21 rfl dX1_placeOf_20 0 rfl ?_
            exact V_ireturn cx hr () (by rw [pwI_mono (show i + 1 ≤ n by omega) (pwI_hit hp c_17)]; rfl) rfl (by omega) (by omega) dX1_placeOf_21
  refine V.locs [0, 1, 2, 3] rfl ?_
  exact loop_2 _ 0 (by omega) (by rfl) (Nat.lt_succ_self _)
set_option maxHeartbeats 4000000 in
set_option maxRecDepth 100000 in
theorem kX1_partWith (l : Launch) (lo : Nat) (G : vG) (rs : va_W) (h : Nat → Nat) (np : Nat) (nl : Nat) (len : Nat) (fd : Nat) (lu : Nat) (tu : Nat) (T : Nat → Int32) (C : Nat → Int32) (F : Nat → Int32) (LT : Nat → Int32) (VV : Nat → Int32) (BB : Nat → Int32) (lt : Nat → Int32) (ph : Nat → Int32) (lh : Nat → Int32) (ks : Nat → Int64) (wd : Nat → Int32) (gr : Nat → Int32) (gs : Nat → Int32) (bl : Nat → Int32) (ie : Nat → Int32) (tw : Nat → Int32) (x : Int32) (hnp : np ≤ 16) : Mi l yX1_partWith (.code yX1_partWith prog_3_method_4_code 2 (some .int)) 2 0 0 lo G [.ref (h 1), .int x] (cW G h np nl len fd lu tu T C F LT VV BB lt ph lh ks wd gr gs bl ie tw ++ rs) (fun (r : Int32) (_ : Unit) => r = oI (pwI T x np)) (fun (_ : Unit) => cW G h np nl len fd lu tu T C F LT VV BB lt ph lh ks wd gr gs bl ie tw ++ rs) := by
  refine Mi_of (lc := [(0, .ref (h 1)), (1, .int x)]) (by decide +kernel) (Nat.le_of_ble_eq_true rfl) rfl ?_
  intro X cx hXR hXl hr hin
  subst hXl
  have hX := RmX.of hXR
  refine V_iload_n cx 1 rfl dX1_partWith_0 1 rfl ?_
  refine V_aload_n cx 2 rfl dX1_partWith_1 0 rfl ?_
  refine GX1_9 cx 1 rfl rfl 5 rfl dX1_partWith_2 ?_
  refine V_aload_n cx 6 rfl dX1_partWith_5 0 rfl ?_
  refine GX1_38 cx 1 rfl rfl 9 rfl dX1_partWith_6 ?_
  refine KX1_49 (As := [.int x, .ref (h 5), .int (nI np)]) (rest := []) cx (kX1_placeOf_T (xl X) lo G _ h np nl len fd lu tu T C F LT VV BB lt ph lh ks wd gr gs bl ie tw x np (by omega)) hX (by omega) rfl rfl (Nat.le_of_ble_eq_true rfl) 12 0 0 rfl rfl rfl (by omega) (by omega) dX1_partWith_9 (fun r_1 u_2 hw_3 => ?_)
  try dsimp only at hw_3
  subst hw_3
  exact V_ireturn cx hr () (by first | rfl | trivial) rfl (by omega) (by omega) dX1_partWith_12
set_option maxHeartbeats 4000000 in
set_option maxRecDepth 100000 in
theorem kX1_linkWith (l : Launch) (lo : Nat) (G : vG) (rs : va_W) (h : Nat → Nat) (np : Nat) (nl : Nat) (len : Nat) (fd : Nat) (lu : Nat) (tu : Nat) (T : Nat → Int32) (C : Nat → Int32) (F : Nat → Int32) (LT : Nat → Int32) (VV : Nat → Int32) (BB : Nat → Int32) (lt : Nat → Int32) (ph : Nat → Int32) (lh : Nat → Int32) (ks : Nat → Int64) (wd : Nat → Int32) (gr : Nat → Int32) (gs : Nat → Int32) (bl : Nat → Int32) (ie : Nat → Int32) (tw : Nat → Int32) (x : Int32) (hnl : nl ≤ 6) : Mi l yX1_linkWith (.code yX1_linkWith prog_3_method_5_code 2 (some .int)) 2 0 0 lo G [.ref (h 1), .int x] (cW G h np nl len fd lu tu T C F LT VV BB lt ph lh ks wd gr gs bl ie tw ++ rs) (fun (r : Int32) (_ : Unit) => r = oI (pwI LT x nl)) (fun (_ : Unit) => cW G h np nl len fd lu tu T C F LT VV BB lt ph lh ks wd gr gs bl ie tw ++ rs) := by
  refine Mi_of (lc := [(0, .ref (h 1)), (1, .int x)]) (by decide +kernel) (Nat.le_of_ble_eq_true rfl) rfl ?_
  intro X cx hXR hXl hr hin
  subst hXl
  have hX := RmX.of hXR
  refine V_iload_n cx 1 rfl dX1_linkWith_0 1 rfl ?_
  refine V_aload_n cx 2 rfl dX1_linkWith_1 0 rfl ?_
  refine GX1_21 cx 1 rfl rfl 5 rfl dX1_linkWith_2 ?_
  refine V_aload_n cx 6 rfl dX1_linkWith_5 0 rfl ?_
  refine GX1_46 cx 1 rfl rfl 9 rfl dX1_linkWith_6 ?_
  refine KX1_49 (As := [.int x, .ref (h 8), .int (nI nl)]) (rest := []) cx (kX1_placeOf_L (xl X) lo G _ h np nl len fd lu tu T C F LT VV BB lt ph lh ks wd gr gs bl ie tw x nl (by omega)) hX (by omega) rfl rfl (Nat.le_of_ble_eq_true rfl) 12 0 0 rfl rfl rfl (by omega) (by omega) dX1_linkWith_9 (fun r_1 u_2 hw_3 => ?_)
  try dsimp only at hw_3
  subst hw_3
  exact V_ireturn cx hr () (by first | rfl | trivial) rfl (by omega) (by omega) dX1_linkWith_12
set_option maxHeartbeats 4000000 in
set_option maxRecDepth 100000 in
theorem kX1_costOfCount (l : Launch) (lo : Nat) (G : vG) (rs : va_W) (c : Nat) (hc : 1 ≤ c ∧ c ≤ 9999) : Mi l yX1_costOfCount (.code yX1_costOfCount prog_3_method_7_code 4 (some .int)) 1 0 0 lo G [.int (nI c)] (rs) (fun (r : Int32) (_ : Unit) => r = nI (ko c)) (fun (_ : Unit) => rs) := by
  refine Mi_of (lc := [(0, .int (nI c))]) (by decide +kernel) (Nat.le_of_ble_eq_true rfl) rfl ?_
  intro X cx hXR hXl hr hin
  subst hXl
  have hX := RmX.of hXR
  refine V_bipush (v := nI 10) cx 2 rfl dX1_costOfCount_0 (by decide) ?_
  refine V_istore_n (lc1 := [(1, .int (nI 10)), (0, .int (nI c))]) cx 3 rfl dX1_costOfCount_2 (by decide) rfl ?_
  refine V_iconst (v := nI 2) cx 4 rfl dX1_costOfCount_3 (by decide) ?_
  refine V_iload_n cx 5 rfl dX1_costOfCount_4 1 rfl ?_
  refine V_imul cx 6 rfl dX1_costOfCount_5 ?_
  refine V_toi (nI (2 * c)) (nI_mulN _ _) ?_
  refine V_istore_n (lc1 := [(2, .int (nI (2 * c))), (1, .int (nI 10)), (0, .int (nI c))]) cx 7 rfl dX1_costOfCount_6 (by decide) rfl ?_
  refine V_iconst (v := nI 0) cx 8 rfl dX1_costOfCount_7 (by decide) ?_
  refine V_istore_n (lc1 := [(3, .int (nI 0)), (2, .int (nI (2 * c))), (1, .int (nI 10)), (0, .int (nI c))]) cx 9 rfl dX1_costOfCount_8 (by decide) rfl ?_
  have loop_9 : ∀ (fuel : Nat) (i : Nat) (v : Nat) (k : Nat), (v ≤ 20000) → (i ≤ 13) → (k + 10 * dbl (13 - i) v = ko c) → 13 - i < fuel → V X lo 4 G (Qi X lo G (fun (r : Int32) (_ : Unit) => r = nI (ko c)) (fun (_ : Unit) => rs) 0 0) 0 0 (rs) [(3, .int (nI i)), (2, .int (nI v)), (1, .int (nI k)), (0, .int (nI c))] [] 9 := by
    intro fuel
    induction fuel with
    | zero => intro i v k hb hi hk hmz; exact absurd hmz (Nat.not_lt_zero _)
    | succ fuel ih_9 =>
      intro i v k hb hi hk hmz_9
      refine V_iload_n cx 10 rfl dX1_costOfCount_9 0 rfl ?_
      refine V_bipush (v := nI 13) cx 12 rfl dX1_costOfCount_10 (by decide) ?_
      refine V_icmp_ge cx 15 35 rfl dX1_costOfCount_12 (by decide) (fun c_12 => ?_) (fun c_12 => ?_)
      · skip
        have n_12 : i ≥ 13 := N_ge_t (by omega) (by omega) c_12
        refine V_iload_n cx 36 rfl dX1_costOfCount_35 2 rfl ?_
        exact V_ireturn cx hr () (by first | (rw [dbl_hi _ (by omega)] at hk; rw [show k = ko c by omega]; done) | (rw [show 13 - i = 0 by omega] at hk; have h0 : dbl 0 v = 0 := rfl; rw [show k = ko c by omega])) rfl (by omega) (by omega) dX1_costOfCount_36
      · skip
        have n_12 : i < 13 := N_ge_f (by omega) (by omega) c_12
        refine V_iload_n cx 16 rfl dX1_costOfCount_15 1 rfl ?_
        refine V_sipush (v := nI 10000) cx 19 rfl dX1_costOfCount_16 (by decide) ?_
        refine V_icmp_gt cx 22 35 rfl dX1_costOfCount_19 (by decide) (fun c_19 => ?_) (fun c_19 => ?_)
        · skip
          have n_19 : v > 10000 := N_gt_t (by omega) (by omega) c_19
          refine V_iload_n cx 36 rfl dX1_costOfCount_35 2 rfl ?_
          exact V_ireturn cx hr () (by first | (rw [dbl_hi _ (by omega)] at hk; rw [show k = ko c by omega]; done) | (rw [show 13 - i = 0 by omega] at hk; have h0 : dbl 0 v = 0 := rfl; rw [show k = ko c by omega])) rfl (by omega) (by omega) dX1_costOfCount_36
        · skip
          have n_19 : v ≤ 10000 := N_gt_f (by omega) (by omega) c_19
          refine V_iinc (v := nI (k + 10)) (lc1 := [(1, .int (nI (k + 10))), (3, .int (nI i)), (2, .int (nI v)), (0, .int (nI c))]) cx 25 rfl dX1_costOfCount_22 2 rfl (nI_inc k 10) (by decide) rfl ?_
          refine V_iload_n cx 26 rfl dX1_costOfCount_25 2 rfl ?_
          refine V_iconst (v := nI 2) cx 27 rfl dX1_costOfCount_26 (by decide) ?_
          refine V_imul cx 28 rfl dX1_costOfCount_27 ?_
          refine V_toi (nI (v * 2)) (nI_mulN _ _) ?_
          refine V_istore_n (lc1 := [(2, .int (nI (v * 2))), (1, .int (nI (k + 10))), (3, .int (nI i)), (0, .int (nI c))]) cx 29 rfl dX1_costOfCount_28 (by decide) rfl ?_
          refine V_iinc (v := nI (i + 1)) (lc1 := [(3, .int (nI (i + 1))), (2, .int (nI (v * 2))), (1, .int (nI (k + 10))), (0, .int (nI c))]) cx 32 rfl dX1_costOfCount_29 2 rfl (nI_inc i 1) (by decide) rfl ?_
          refine V_goto cx 9 dX1_costOfCount_32 (by decide) ?_
          refine V.locs [0, 1, 2, 3] rfl ?_
          exact ih_9 (i + 1) (v * 2) (k + 10) (by omega) (by omega) (by rw [show 13 - i = (13 - (i + 1)) + 1 by omega] at hk; unfold dbl at hk; rw [if_pos n_19] at hk; omega) (by omega)
  refine V.locs [0, 1, 2, 3] rfl ?_
  exact loop_9 _ 0 (2 * c) 10 (by omega) (by omega) (by rfl) (Nat.lt_succ_self _)
set_option maxHeartbeats 4000000 in
set_option maxRecDepth 100000 in
theorem kX1_lettersOfLink (l : Launch) (lo : Nat) (G : vG) (rs : va_W) (h : Nat → Nat) (np : Nat) (nl : Nat) (len : Nat) (fd : Nat) (lu : Nat) (tu : Nat) (T : Nat → Int32) (C : Nat → Int32) (F : Nat → Int32) (LT : Nat → Int32) (VV : Nat → Int32) (BB : Nat → Int32) (lt : Nat → Int32) (ph : Nat → Int32) (lh : Nat → Int32) (ks : Nat → Int64) (wd : Nat → Int32) (gr : Nat → Int32) (gs : Nat → Int32) (bl : Nat → Int32) (ie : Nat → Int32) (tw : Nat → Int32) (lk : Int32) (c : Nat) (hnl : nl ≤ 6) (hl : lk = nI c - nI 1) (hc : c ≤ 7) : Mi l yX1_lettersOfLink (.code yX1_lettersOfLink prog_3_method_8_code 2 (some .int)) 2 0 0 lo G [.ref (h 1), .int lk] (cW G h np nl len fd lu tu T C F LT VV BB lt ph lh ks wd gr gs bl ie tw ++ rs) (fun (r : Int32) (_ : Unit) => r = nI (if c = 0 then 0 else if c - 1 < nl then SZ (LT (c - 1)) 8 else 0)) (fun (_ : Unit) => cW G h np nl len fd lu tu T C F LT VV BB lt ph lh ks wd gr gs bl ie tw ++ rs) := by
  refine Mi_of (lc := [(0, .ref (h 1)), (1, .int lk)]) (by decide +kernel) (Nat.le_of_ble_eq_true rfl) rfl ?_
  intro X cx hXR hXl hr hin
  subst hXl
  have hX := RmX.of hXR
  refine V_iload_n cx 1 rfl dX1_lettersOfLink_0 1 rfl ?_
  refine V_if_lt cx 4 12 rfl dX1_lettersOfLink_1 (by decide) (fun c_1 => ?_) (fun c_1 => ?_)
  · skip
    rw [hl] at c_1
    have hc0 : c = 0 := nI_subz (by omega) c_1
    refine V_iconst (v := nI 0) cx 13 rfl dX1_lettersOfLink_12 (by decide) ?_
    refine V_goto cx 25 dX1_lettersOfLink_13 (by decide) ?_
    exact V_ireturn cx hr () (by first | (rw [if_pos hc0]; done) | (rw [if_neg (by omega), if_neg (by omega)]; done) | rw [if_neg (by omega), if_pos n_9]) rfl (by omega) (by omega) dX1_lettersOfLink_25
  · skip
    rw [hl] at c_1
    have hc0 : 0 < c := nI_subnz c_1
    rw [hl, nI_subN hc0]
    refine V_iload_n cx 5 rfl dX1_lettersOfLink_4 1 rfl ?_
    refine V_aload_n cx 6 rfl dX1_lettersOfLink_5 0 rfl ?_
    refine GX1_46 cx 1 rfl rfl 9 rfl dX1_lettersOfLink_6 ?_
    refine V_icmp_lt cx 12 16 rfl dX1_lettersOfLink_9 (by decide) (fun c_9 => ?_) (fun c_9 => ?_)
    · skip
      have n_9 : c - 1 < nl := N_lt_t (by omega) (by omega) c_9
      refine V_aload_n cx 17 rfl dX1_lettersOfLink_16 0 rfl ?_
      refine GX1_21 cx 1 rfl rfl 20 rfl dX1_lettersOfLink_17 ?_
      refine V_iload_n cx 21 rfl dX1_lettersOfLink_20 1 rfl ?_
      refine V_ialdN cx (c - 1) (rfl) (by omega) (by decide) 8 rfl 22 rfl dX1_lettersOfLink_21 ?_
      refine KX1_53 (As := [.int (LT (c - 1))]) (rest := []) cx (kX4_lettersIn (xl X) lo G _ (LT (c - 1))) hX (by omega) rfl rfl (Nat.le_of_ble_eq_true rfl) 25 0 0 rfl rfl rfl (by omega) (by omega) dX1_lettersOfLink_22 (fun r_1 u_2 hw_3 => ?_)
      try dsimp only at hw_3
      subst hw_3
      have fk_4 := SZ_le (LT (c - 1)) 8
      exact V_ireturn cx hr () (by first | (rw [if_pos hc0]; done) | (rw [if_neg (by omega), if_neg (by omega)]; done) | rw [if_neg (by omega), if_pos n_9]) rfl (by omega) (by omega) dX1_lettersOfLink_25
    · skip
      have n_9 : c - 1 ≥ nl := N_lt_f (by omega) (by omega) c_9
      refine V_iconst (v := nI 0) cx 13 rfl dX1_lettersOfLink_12 (by decide) ?_
      refine V_goto cx 25 dX1_lettersOfLink_13 (by decide) ?_
      exact V_ireturn cx hr () (by first | (rw [if_pos hc0]; done) | (rw [if_neg (by omega), if_neg (by omega)]; done) | rw [if_neg (by omega), if_pos n_9]) rfl (by omega) (by omega) dX1_lettersOfLink_25
set_option maxHeartbeats 4000000 in
set_option maxRecDepth 100000 in
theorem kX1_mayStand (l : Launch) (lo : Nat) (G : vG) (rs : va_W) (h : Nat → Nat) (np : Nat) (nl : Nat) (len : Nat) (fd : Nat) (lu : Nat) (tu : Nat) (T : Nat → Int32) (C : Nat → Int32) (F : Nat → Int32) (LT : Nat → Int32) (VV : Nat → Int32) (BB : Nat → Int32) (lt : Nat → Int32) (ph : Nat → Int32) (lh : Nat → Int32) (ks : Nat → Int64) (wd : Nat → Int32) (gr : Nat → Int32) (gs : Nat → Int32) (bl : Nat → Int32) (ie : Nat → Int32) (tw : Nat → Int32) (p : Nat) (a : Bool) (b : Bool) (f : Nat) (hp : p < 16) (hf : F p = nI f) : Mi l yX1_mayStand (.code yX1_mayStand prog_3_method_9_code 5 (some .boolean)) 1 0 0 lo G [.ref (h 1), .int (nI p), .int (bI a), .int (bI b)] (cW G h np nl len fd lu tu T C F LT VV BB lt ph lh ks wd gr gs bl ie tw ++ rs) (fun (r : Int32) (_ : Unit) => r = bI (okF f a b)) (fun (_ : Unit) => cW G h np nl len fd lu tu T C F LT VV BB lt ph lh ks wd gr gs bl ie tw ++ rs) := by
  refine Mi_of (lc := [(0, .ref (h 1)), (1, .int (nI p)), (2, .int (bI a)), (3, .int (bI b))]) (by decide +kernel) (Nat.le_of_ble_eq_true rfl) rfl ?_
  intro X cx hXR hXl hr hin
  subst hXl
  have hX := RmX.of hXR
  refine V_iload_n cx 1 rfl dX1_mayStand_0 2 rfl ?_
  refine V_if_eq cx 4 8 rfl dX1_mayStand_1 (by decide) (fun c_1 => ?_) (fun c_1 => ?_)
  · skip
    have n_1 := B_eq_t c_1
    try simp only [decide_eq_true_eq, decide_eq_false_iff_not] at n_1
    refine V_iconst (v := nI 0) cx 9 rfl dX1_mayStand_8 (by decide) ?_
    refine V_iload_n cx 10 rfl dX1_mayStand_9 3 rfl ?_
    refine V_if_eq cx 13 17 rfl dX1_mayStand_10 (by decide) (fun c_10 => ?_) (fun c_10 => ?_)
    · skip
      have n_10 := B_eq_t c_10
      try simp only [decide_eq_true_eq, decide_eq_false_iff_not] at n_10
      refine V_iconst (v := nI 0) cx 18 rfl dX1_mayStand_17 (by decide) ?_
      refine V_ior cx 19 rfl dX1_mayStand_18 ?_
      refine V_toi (nI 0) (nI_orN _ _) ?_
      refine V_istore (lc1 := [(4, .int (nI 0)), (0, .ref (h 1)), (1, .int (nI p)), (2, .int (bI a)), (3, .int (bI b))]) cx 21 rfl dX1_mayStand_19 (by decide) rfl ?_
      refine V_iload cx 23 rfl dX1_mayStand_21 0 rfl ?_
      refine V_if_ne cx 26 29 rfl dX1_mayStand_23 (by decide) (fun c_23 => ?_) (fun c_23 => ?_)
      · skip
        exact absurd c_23 (by decide)
      · skip
        refine V_iconst (v := nI 2) cx 27 rfl dX1_mayStand_26 (by decide) ?_
        refine V_istore (lc1 := [(4, .int (nI 2)), (0, .ref (h 1)), (1, .int (nI p)), (2, .int (bI a)), (3, .int (bI b))]) cx 29 rfl dX1_mayStand_27 (by decide) rfl ?_
        refine V_aload_n cx 30 rfl dX1_mayStand_29 1 rfl ?_
        refine GX1_18 cx 1 rfl rfl 33 rfl dX1_mayStand_30 ?_
        refine V_iload_n cx 34 rfl dX1_mayStand_33 2 rfl ?_
        refine V_ialdN cx p (rfl) (by omega) (by decide) 7 rfl 35 rfl dX1_mayStand_34 ?_
        refine V_toi (nI f) (hf) ?_
        refine V_iload cx 37 rfl dX1_mayStand_35 0 rfl ?_
        refine V_iand cx 38 rfl dX1_mayStand_37 ?_
        refine V_toi (nI (f &&& 2)) (nI_andN _ _) ?_
        refine V_iload cx 40 rfl dX1_mayStand_38 0 rfl ?_
        refine V_icmp_ne cx 43 47 rfl dX1_mayStand_40 (by decide) (fun c_40 => ?_) (fun c_40 => ?_)
        · skip
          have n_40 : f &&& 2 ≠ 2 := N_ne_t (by exact Nat.lt_of_le_of_lt Nat.and_le_right (by decide)) (by omega) c_40
          refine V_iconst (v := nI 0) cx 48 rfl dX1_mayStand_47 (by decide) ?_
          exact V_zreturn cx hr (by first | rfl | exact bI_z _) () (by rw [n_1, n_10]; first | exact congrArg bI (decide_eq_true n_40).symm | exact congrArg bI (decide_eq_false n_40).symm) rfl (by omega) (by omega) dX1_mayStand_48
        · skip
          have n_40 : f &&& 2 = 2 := N_ne_f (by exact Nat.lt_of_le_of_lt Nat.and_le_right (by decide)) (by omega) c_40
          refine V_iconst (v := nI 1) cx 44 rfl dX1_mayStand_43 (by decide) ?_
          refine V_goto cx 48 dX1_mayStand_44 (by decide) ?_
          exact V_zreturn cx hr (by first | rfl | exact bI_z _) () (by rw [n_1, n_10]; first | exact congrArg bI (decide_eq_true n_40).symm | exact congrArg bI (decide_eq_false n_40).symm) rfl (by omega) (by omega) dX1_mayStand_48
    · skip
      have n_10 := B_eq_f c_10
      try simp only [decide_eq_true_eq, decide_eq_false_iff_not] at n_10
      refine V_iconst (v := nI 4) cx 14 rfl dX1_mayStand_13 (by decide) ?_
      refine V_goto cx 18 dX1_mayStand_14 (by decide) ?_
      refine V_ior cx 19 rfl dX1_mayStand_18 ?_
      refine V_toi (nI 4) (nI_orN _ _) ?_
      refine V_istore (lc1 := [(4, .int (nI 4)), (0, .ref (h 1)), (1, .int (nI p)), (2, .int (bI a)), (3, .int (bI b))]) cx 21 rfl dX1_mayStand_19 (by decide) rfl ?_
      refine V_iload cx 23 rfl dX1_mayStand_21 0 rfl ?_
      refine V_if_ne cx 26 29 rfl dX1_mayStand_23 (by decide) (fun c_23 => ?_) (fun c_23 => ?_)
      · skip
        refine V_aload_n cx 30 rfl dX1_mayStand_29 1 rfl ?_
        refine GX1_18 cx 1 rfl rfl 33 rfl dX1_mayStand_30 ?_
        refine V_iload_n cx 34 rfl dX1_mayStand_33 2 rfl ?_
        refine V_ialdN cx p (rfl) (by omega) (by decide) 7 rfl 35 rfl dX1_mayStand_34 ?_
        refine V_toi (nI f) (hf) ?_
        refine V_iload cx 37 rfl dX1_mayStand_35 0 rfl ?_
        refine V_iand cx 38 rfl dX1_mayStand_37 ?_
        refine V_toi (nI (f &&& 4)) (nI_andN _ _) ?_
        refine V_iload cx 40 rfl dX1_mayStand_38 0 rfl ?_
        refine V_icmp_ne cx 43 47 rfl dX1_mayStand_40 (by decide) (fun c_40 => ?_) (fun c_40 => ?_)
        · skip
          have n_40 : f &&& 4 ≠ 4 := N_ne_t (by exact Nat.lt_of_le_of_lt Nat.and_le_right (by decide)) (by omega) c_40
          refine V_iconst (v := nI 0) cx 48 rfl dX1_mayStand_47 (by decide) ?_
          exact V_zreturn cx hr (by first | rfl | exact bI_z _) () (by rw [n_1, n_10]; first | exact congrArg bI (decide_eq_true n_40).symm | exact congrArg bI (decide_eq_false n_40).symm) rfl (by omega) (by omega) dX1_mayStand_48
        · skip
          have n_40 : f &&& 4 = 4 := N_ne_f (by exact Nat.lt_of_le_of_lt Nat.and_le_right (by decide)) (by omega) c_40
          refine V_iconst (v := nI 1) cx 44 rfl dX1_mayStand_43 (by decide) ?_
          refine V_goto cx 48 dX1_mayStand_44 (by decide) ?_
          exact V_zreturn cx hr (by first | rfl | exact bI_z _) () (by rw [n_1, n_10]; first | exact congrArg bI (decide_eq_true n_40).symm | exact congrArg bI (decide_eq_false n_40).symm) rfl (by omega) (by omega) dX1_mayStand_48
      · skip
        exact absurd c_23 (by decide)
  · skip
    have n_1 := B_eq_f c_1
    try simp only [decide_eq_true_eq, decide_eq_false_iff_not] at n_1
    refine V_iconst (v := nI 1) cx 5 rfl dX1_mayStand_4 (by decide) ?_
    refine V_goto cx 9 dX1_mayStand_5 (by decide) ?_
    refine V_iload_n cx 10 rfl dX1_mayStand_9 3 rfl ?_
    refine V_if_eq cx 13 17 rfl dX1_mayStand_10 (by decide) (fun c_10 => ?_) (fun c_10 => ?_)
    · skip
      have n_10 := B_eq_t c_10
      try simp only [decide_eq_true_eq, decide_eq_false_iff_not] at n_10
      refine V_iconst (v := nI 0) cx 18 rfl dX1_mayStand_17 (by decide) ?_
      refine V_ior cx 19 rfl dX1_mayStand_18 ?_
      refine V_toi (nI 1) (nI_orN _ _) ?_
      refine V_istore (lc1 := [(4, .int (nI 1)), (0, .ref (h 1)), (1, .int (nI p)), (2, .int (bI a)), (3, .int (bI b))]) cx 21 rfl dX1_mayStand_19 (by decide) rfl ?_
      refine V_iload cx 23 rfl dX1_mayStand_21 0 rfl ?_
      refine V_if_ne cx 26 29 rfl dX1_mayStand_23 (by decide) (fun c_23 => ?_) (fun c_23 => ?_)
      · skip
        refine V_aload_n cx 30 rfl dX1_mayStand_29 1 rfl ?_
        refine GX1_18 cx 1 rfl rfl 33 rfl dX1_mayStand_30 ?_
        refine V_iload_n cx 34 rfl dX1_mayStand_33 2 rfl ?_
        refine V_ialdN cx p (rfl) (by omega) (by decide) 7 rfl 35 rfl dX1_mayStand_34 ?_
        refine V_toi (nI f) (hf) ?_
        refine V_iload cx 37 rfl dX1_mayStand_35 0 rfl ?_
        refine V_iand cx 38 rfl dX1_mayStand_37 ?_
        refine V_toi (nI (f &&& 1)) (nI_andN _ _) ?_
        refine V_iload cx 40 rfl dX1_mayStand_38 0 rfl ?_
        refine V_icmp_ne cx 43 47 rfl dX1_mayStand_40 (by decide) (fun c_40 => ?_) (fun c_40 => ?_)
        · skip
          have n_40 : f &&& 1 ≠ 1 := N_ne_t (by exact Nat.lt_of_le_of_lt Nat.and_le_right (by decide)) (by omega) c_40
          refine V_iconst (v := nI 0) cx 48 rfl dX1_mayStand_47 (by decide) ?_
          exact V_zreturn cx hr (by first | rfl | exact bI_z _) () (by rw [n_1, n_10]; first | exact congrArg bI (decide_eq_true n_40).symm | exact congrArg bI (decide_eq_false n_40).symm) rfl (by omega) (by omega) dX1_mayStand_48
        · skip
          have n_40 : f &&& 1 = 1 := N_ne_f (by exact Nat.lt_of_le_of_lt Nat.and_le_right (by decide)) (by omega) c_40
          refine V_iconst (v := nI 1) cx 44 rfl dX1_mayStand_43 (by decide) ?_
          refine V_goto cx 48 dX1_mayStand_44 (by decide) ?_
          exact V_zreturn cx hr (by first | rfl | exact bI_z _) () (by rw [n_1, n_10]; first | exact congrArg bI (decide_eq_true n_40).symm | exact congrArg bI (decide_eq_false n_40).symm) rfl (by omega) (by omega) dX1_mayStand_48
      · skip
        exact absurd c_23 (by decide)
    · skip
      have n_10 := B_eq_f c_10
      try simp only [decide_eq_true_eq, decide_eq_false_iff_not] at n_10
      refine V_iconst (v := nI 4) cx 14 rfl dX1_mayStand_13 (by decide) ?_
      refine V_goto cx 18 dX1_mayStand_14 (by decide) ?_
      refine V_ior cx 19 rfl dX1_mayStand_18 ?_
      refine V_toi (nI 5) (nI_orN _ _) ?_
      refine V_istore (lc1 := [(4, .int (nI 5)), (0, .ref (h 1)), (1, .int (nI p)), (2, .int (bI a)), (3, .int (bI b))]) cx 21 rfl dX1_mayStand_19 (by decide) rfl ?_
      refine V_iload cx 23 rfl dX1_mayStand_21 0 rfl ?_
      refine V_if_ne cx 26 29 rfl dX1_mayStand_23 (by decide) (fun c_23 => ?_) (fun c_23 => ?_)
      · skip
        refine V_aload_n cx 30 rfl dX1_mayStand_29 1 rfl ?_
        refine GX1_18 cx 1 rfl rfl 33 rfl dX1_mayStand_30 ?_
        refine V_iload_n cx 34 rfl dX1_mayStand_33 2 rfl ?_
        refine V_ialdN cx p (rfl) (by omega) (by decide) 7 rfl 35 rfl dX1_mayStand_34 ?_
        refine V_toi (nI f) (hf) ?_
        refine V_iload cx 37 rfl dX1_mayStand_35 0 rfl ?_
        refine V_iand cx 38 rfl dX1_mayStand_37 ?_
        refine V_toi (nI (f &&& 5)) (nI_andN _ _) ?_
        refine V_iload cx 40 rfl dX1_mayStand_38 0 rfl ?_
        refine V_icmp_ne cx 43 47 rfl dX1_mayStand_40 (by decide) (fun c_40 => ?_) (fun c_40 => ?_)
        · skip
          have n_40 : f &&& 5 ≠ 5 := N_ne_t (by exact Nat.lt_of_le_of_lt Nat.and_le_right (by decide)) (by omega) c_40
          refine V_iconst (v := nI 0) cx 48 rfl dX1_mayStand_47 (by decide) ?_
          exact V_zreturn cx hr (by first | rfl | exact bI_z _) () (by rw [n_1, n_10]; first | exact congrArg bI (decide_eq_true n_40).symm | exact congrArg bI (decide_eq_false n_40).symm) rfl (by omega) (by omega) dX1_mayStand_48
        · skip
          have n_40 : f &&& 5 = 5 := N_ne_f (by exact Nat.lt_of_le_of_lt Nat.and_le_right (by decide)) (by omega) c_40
          refine V_iconst (v := nI 1) cx 44 rfl dX1_mayStand_43 (by decide) ?_
          refine V_goto cx 48 dX1_mayStand_44 (by decide) ?_
          exact V_zreturn cx hr (by first | rfl | exact bI_z _) () (by rw [n_1, n_10]; first | exact congrArg bI (decide_eq_true n_40).symm | exact congrArg bI (decide_eq_false n_40).symm) rfl (by omega) (by omega) dX1_mayStand_48
      · skip
        exact absurd c_23 (by decide)
set_option maxHeartbeats 4000000 in
set_option maxRecDepth 100000 in
theorem kX1_enterLink (l : Launch) (lo : Nat) (G : vG) (rs : va_W) (h : Nat → Nat) (np : Nat) (nl : Nat) (len : Nat) (fd : Nat) (lu : Nat) (tu : Nat) (T : Nat → Int32) (C : Nat → Int32) (F : Nat → Int32) (LT : Nat → Int32) (VV : Nat → Int32) (BB : Nat → Int32) (lt : Nat → Int32) (ph : Nat → Int32) (lh : Nat → Int32) (ks : Nat → Int64) (wd : Nat → Int32) (gr : Nat → Int32) (gs : Nat → Int32) (bl : Nat → Int32) (ie : Nat → Int32) (tw : Nat → Int32) (x : Int32) (hnl : nl < 6) : Mi l yX1_enterLink (.code yX1_enterLink prog_3_method_3_code 3 (some .int)) 1 0 0 lo G [.ref (h 1), .int x] (cW G h np nl len fd lu tu T C F LT VV BB lt ph lh ks wd gr gs bl ie tw ++ rs) (fun (r : Int32) (_ : Unit) => r = nI nl) (fun (_ : Unit) => cW G h np (nl + 1) len fd lu tu T C F (upd LT nl x) VV BB lt ph lh ks wd gr gs bl ie tw ++ rs) := by
  refine Mi_of (lc := [(0, .ref (h 1)), (1, .int x)]) (by decide +kernel) (Nat.le_of_ble_eq_true rfl) rfl ?_
  intro X cx hXR hXl hr hin
  subst hXl
  have hX := RmX.of hXR
  refine V_aload_n cx 1 rfl dX1_enterLink_0 0 rfl ?_
  refine GX1_46 cx 1 rfl rfl 4 rfl dX1_enterLink_1 ?_
  refine V_bipush (v := nI 6) cx 6 rfl dX1_enterLink_4 (by decide) ?_
  refine V_icmp_lt cx 9 11 rfl dX1_enterLink_6 (by decide) (fun c_6 => ?_) (fun c_6 => ?_)
  · skip
    have n_6 : nl < 6 := N_lt_t (by omega) (by omega) c_6
    refine V_aload_n cx 12 rfl dX1_enterLink_11 0 rfl ?_
    refine GX1_46 cx 1 rfl rfl 15 rfl dX1_enterLink_12 ?_
    refine V_istore_n (lc1 := [(2, .int (nI nl)), (0, .ref (h 1)), (1, .int x)]) cx 16 rfl dX1_enterLink_15 (by decide) rfl ?_
    refine V_aload_n cx 17 rfl dX1_enterLink_16 1 rfl ?_
    refine GX1_21 cx 1 rfl rfl 20 rfl dX1_enterLink_17 ?_
    refine V_iload_n cx 21 rfl dX1_enterLink_20 0 rfl ?_
    refine V_iload_n cx 22 rfl dX1_enterLink_21 2 rfl ?_
    refine V_iastN cx nl (rfl) (by omega) (by decide) 8 rfl (cW G h np nl len fd lu tu T C F (upd LT nl x) VV BB lt ph lh ks wd gr gs bl ie tw ++ rs) rfl 23 rfl dX1_enterLink_22 ?_
    refine V_aload_n cx 24 rfl dX1_enterLink_23 1 rfl ?_
    refine V_dup cx 25 rfl dX1_enterLink_24 rfl ?_
    refine GX1_46 cx 1 rfl rfl 28 rfl dX1_enterLink_25 ?_
    refine V_iconst (v := nI 1) cx 29 rfl dX1_enterLink_28 (by decide) ?_
    refine V_iadd cx 30 rfl dX1_enterLink_29 ?_
    refine V_toi (nI (nl + 1)) (nI_add _ _) ?_
    refine PX1_46 cx 1 rfl (Nat.le_of_ble_eq_true rfl) (cW G h np (nl + 1) len fd lu tu T C F (upd LT nl x) VV BB lt ph lh ks wd gr gs bl ie tw ++ rs) rfl 33 rfl dX1_enterLink_30 ?_
    refine V_iload_n cx 34 rfl dX1_enterLink_33 0 rfl ?_
    exact V_ireturn cx hr () (by first | rfl | trivial) rfl (by omega) (by omega) dX1_enterLink_34
  · skip
    have n_6 : nl ≥ 6 := N_lt_f (by omega) (by omega) c_6
    omega
