def tbI (ch : Nat → Nat → Nat) (tw : Nat → Int32) (a c : Nat) : Int32 := if ch a c = 0 then nI 0 else tw (ch a c)
def alkN (ch : Nat → Nat → Nat) (tw : Nat → Int32) (a b : Nat) : Nat → Bool
  | 0 => true
  | c + 1 => alkN ch tw a b c && decide (tbI ch tw a c = tbI ch tw b c)
def alk (ch : Nat → Nat → Nat) (ie tw : Nat → Int32) (a b : Nat) : Bool := decide (ie a = ie b) && alkN ch tw a b 10
theorem alkN_false {ch : Nat → Nat → Nat} {tw : Nat → Int32} {a b c n : Nat} (hc : c < n) (h : ¬ tbI ch tw a c = tbI ch tw b c) : alkN ch tw a b n = false := by
  induction n with
  | zero => omega
  | succ n ih =>
    unfold alkN
    rcases Nat.lt_or_ge c n with h1 | h1
    · rw [ih h1]; rfl
    · rw [show n = c by omega, decide_eq_false h, Bool.and_false]
theorem alkN_iff {ch : Nat → Nat → Nat} {tw : Nat → Int32} {a b n : Nat} : alkN ch tw a b n = true ↔ ∀ c, c < n → tbI ch tw a c = tbI ch tw b c := by
  induction n with
  | zero => exact ⟨fun _ c hc => absurd hc (Nat.not_lt_zero c), fun _ => rfl⟩
  | succ n ih =>
    unfold alkN
    rw [Bool.and_eq_true, ih, decide_eq_true_eq]
    constructor
    · rintro ⟨h1, h2⟩ c hc
      rcases Nat.lt_or_ge c n with h3 | h3
      · exact h1 c h3
      · rw [show c = n by omega]; exact h2
    · intro h
      exact ⟨fun c hc => h c (by omega), h n (by omega)⟩
/-- node i has its twin -/
def twP (ch : Nat → Nat → Nat) (ie tw : Nat → Int32) (tu i : Nat) : Prop := (∃ o, i < o ∧ o < tu ∧ tw o = nI o ∧ alk ch ie tw i o = true ∧ tw i = nI o) ∨ (tw i = nI i ∧ ∀ o, i < o → o < tu → tw o = nI o → alk ch ie tw i o = false)
def cntT (tw : Nat → Int32) (j : Nat) : Nat → Nat
  | 0 => 0
  | n + 1 => cntT tw j n + (if tw (j + n) = nI (j + n) then 1 else 0)
def chOK (ch : Nat → Nat → Nat) (bl : Nat → Int32) (tu : Nat) : Prop := ∀ i, i < tu → ∀ c, c < 10 → bl (i * 10 + c) = nI (ch i c) ∧ (ch i c = 0 ∨ (i < ch i c ∧ ch i c < tu))
theorem alk_upd {ch : Nat → Nat → Nat} {bl ie tw : Nat → Int32} {tu a b j : Nat} {v : Int32} (hch : chOK ch bl tu) (ha : a < tu) (hb : b < tu) (hja : j ≤ a) (hjb : j ≤ b) : alk ch ie (upd tw j v) a b = alk ch ie tw a b := by
  have key : ∀ a, a < tu → j ≤ a → ∀ c, c < 10 → tbI ch (upd tw j v) a c = tbI ch tw a c := by
    intro a ha hj c hc
    have h := (hch a ha c hc).2
    unfold tbI
    split
    · rfl
    · exact upd_n _ _ (by omega)
  unfold alk
  congr 1
  rw [Bool.eq_iff_iff, alkN_iff, alkN_iff]
  exact ⟨fun h c hc => by have := h c hc; rwa [key a ha hja c hc, key b hb hjb c hc] at this, fun h c hc => by rw [key a ha hja c hc, key b hb hjb c hc]; exact h c hc⟩
theorem twP_upd {ch : Nat → Nat → Nat} {bl ie tw : Nat → Int32} {tu i j : Nat} {v : Int32} (hch : chOK ch bl tu) (hi : i < tu) (hj : j < i) (h : twP ch ie tw tu i) : twP ch ie (upd tw j v) tu i := by
  rcases h with ⟨o, h1, h2, h3, h4, h5⟩ | ⟨h1, h2⟩
  · exact Or.inl ⟨o, h1, h2, (upd_n _ _ (by omega)).trans h3, (alk_upd hch hi h2 (by omega) (by omega)).trans h4, (upd_n _ _ (by omega)).trans h5⟩
  · exact Or.inr ⟨(upd_n _ _ (by omega)).trans h1, fun o h3 h4 h5 => (alk_upd hch hi h4 (by omega) (by omega)).trans (h2 o h3 h4 ((upd_n _ _ (by omega)).symm.trans h5))⟩
theorem cntT_upd {tw : Nat → Int32} {j k : Nat} {v : Int32} (hk : k < j) : ∀ n, cntT (upd tw k v) j n = cntT tw j n := by
  intro n
  induction n with
  | zero => rfl
  | succ n ih => unfold cntT; rw [ih, upd_n _ _ (by omega)]
theorem cntT_front {tw : Nat → Int32} {j : Nat} : ∀ n, cntT tw j (n + 1) = cntT tw (j + 1) n + (if tw j = nI j then 1 else 0) := by
  intro n
  induction n with
  | zero => rfl
  | succ n ih =>
    rw [cntT, ih]
    conv => rhs; rw [cntT]
    rw [show j + 1 + n = j + (n + 1) by omega]
    omega
theorem cntT_le (tw : Nat → Int32) (j : Nat) : ∀ n, cntT tw j n ≤ n := by
  intro n
  induction n with
  | zero => exact Nat.le_refl _
  | succ n ih => unfold cntT; split <;> omega
set_option maxHeartbeats 4000000 in
set_option maxRecDepth 100000 in
theorem kX3_twinBelow (l : Launch) (lo : Nat) (G : vG) (rs : va_W) (h : Nat → Nat) (np : Nat) (nl : Nat) (len : Nat) (fd : Nat) (lu : Nat) (tu : Nat) (T : Nat → Int32) (C : Nat → Int32) (F : Nat → Int32) (LT : Nat → Int32) (VV : Nat → Int32) (BB : Nat → Int32) (lt : Nat → Int32) (ph : Nat → Int32) (lh : Nat → Int32) (ks : Nat → Int64) (wd : Nat → Int32) (gr : Nat → Int32) (gs : Nat → Int32) (bl : Nat → Int32) (ie : Nat → Int32) (tw : Nat → Int32) (a : Nat) (c : Nat) (ch : Nat → Nat → Nat) (htu : tu ≤ 65) (hch : chOK ch bl tu) (ha : a < tu) (hc : c < 10) : Mi l yX3_twinBelow (.code yX3_twinBelow prog_5_method_7_code 4 (some .int)) 1 0 0 lo G [.ref (h 4), .int (nI a), .int (nI c)] (cW G h np nl len fd lu tu T C F LT VV BB lt ph lh ks wd gr gs bl ie tw ++ rs) (fun (r : Int32) (_ : Unit) => r = tbI ch tw a c) (fun (_ : Unit) => cW G h np nl len fd lu tu T C F LT VV BB lt ph lh ks wd gr gs bl ie tw ++ rs) := by
  refine Mi_of (lc := [(0, .ref (h 4)), (1, .int (nI a)), (2, .int (nI c))]) (by decide +kernel) (Nat.le_of_ble_eq_true rfl) rfl ?_
  intro X cx hXR hXl hr hin
  subst hXl
  have hX := RmX.of hXR
  obtain ⟨hb1, hb2⟩ := hch a ha c hc
  refine V_aload_n cx 1 rfl dX3_twinBelow_0 0 rfl ?_
  refine GX3_11 cx 4 rfl rfl 4 rfl dX3_twinBelow_1 ?_
  refine V_iload_n cx 5 rfl dX3_twinBelow_4 1 rfl ?_
  refine V_bipush (v := nI 10) cx 7 rfl dX3_twinBelow_5 (by decide) ?_
  refine V_imul cx 8 rfl dX3_twinBelow_7 ?_
  refine V_toi (nI (a * 10)) (nI_mulN _ _) ?_
  refine V_iload_n cx 9 rfl dX3_twinBelow_8 2 rfl ?_
  refine V_iadd cx 10 rfl dX3_twinBelow_9 ?_
  refine V_toi (nI ((a * 10) + c)) (nI_add _ _) ?_
  refine V_ialdN cx ((a * 10) + c) (rfl) (by omega) (by decide) 18 rfl 11 rfl dX3_twinBelow_10 ?_
  refine V_toi (nI (ch a c)) (hb1) ?_
  refine V_istore_n (lc1 := [(3, .int (nI (ch a c))), (0, .ref (h 4)), (1, .int (nI a)), (2, .int (nI c))]) cx 12 rfl dX3_twinBelow_11 (by decide) rfl ?_
  refine V_iload_n cx 13 rfl dX3_twinBelow_12 0 rfl ?_
  refine V_if_ne cx 16 20 rfl dX3_twinBelow_13 (by decide) (fun c_13 => ?_) (fun c_13 => ?_)
  · skip
    have n_13 : ch a c ≠ 0 := Z_ne_t (by omega) c_13
    refine V_aload_n cx 21 rfl dX3_twinBelow_20 1 rfl ?_
    refine GX3_19 cx 4 rfl rfl 24 rfl dX3_twinBelow_21 ?_
    refine V_iload_n cx 25 rfl dX3_twinBelow_24 0 rfl ?_
    refine V_ialdN cx (ch a c) (rfl) (by omega) (by decide) 20 rfl 26 rfl dX3_twinBelow_25 ?_
    exact V_ireturn cx hr () (by rw [tbI]; first | (rw [if_pos n_13]; done) | rw [if_neg n_13]) rfl (by omega) (by omega) dX3_twinBelow_26
  · skip
    have n_13 : ch a c = 0 := Z_ne_f (by omega) c_13
    refine V_iconst (v := nI 0) cx 17 rfl dX3_twinBelow_16 (by decide) ?_
    refine V_goto cx 26 dX3_twinBelow_17 (by decide) ?_
    exact V_ireturn cx hr () (by rw [tbI]; first | (rw [if_pos n_13]; done) | rw [if_neg n_13]) rfl (by omega) (by omega) dX3_twinBelow_26
set_option maxHeartbeats 4000000 in
set_option maxRecDepth 100000 in
theorem kX3_isFollowedAlike (l : Launch) (lo : Nat) (G : vG) (rs : va_W) (h : Nat → Nat) (np : Nat) (nl : Nat) (len : Nat) (fd : Nat) (lu : Nat) (tu : Nat) (T : Nat → Int32) (C : Nat → Int32) (F : Nat → Int32) (LT : Nat → Int32) (VV : Nat → Int32) (BB : Nat → Int32) (lt : Nat → Int32) (ph : Nat → Int32) (lh : Nat → Int32) (ks : Nat → Int64) (wd : Nat → Int32) (gr : Nat → Int32) (gs : Nat → Int32) (bl : Nat → Int32) (ie : Nat → Int32) (tw : Nat → Int32) (a : Nat) (b : Nat) (ch : Nat → Nat → Nat) (htu : tu ≤ 65) (hch : chOK ch bl tu) (ha : a < tu) (hb : b < tu) : Mi l yX3_isFollowedAlike (.code yX3_isFollowedAlike prog_5_method_6_code 4 (some .boolean)) 2 0 0 lo G [.ref (h 4), .int (nI a), .int (nI b)] (cW G h np nl len fd lu tu T C F LT VV BB lt ph lh ks wd gr gs bl ie tw ++ rs) (fun (r : Int32) (_ : Unit) => r = bI (alk ch ie tw a b)) (fun (_ : Unit) => cW G h np nl len fd lu tu T C F LT VV BB lt ph lh ks wd gr gs bl ie tw ++ rs) := by
  refine Mi_of (lc := [(0, .ref (h 4)), (1, .int (nI a)), (2, .int (nI b))]) (by decide +kernel) (Nat.le_of_ble_eq_true rfl) rfl ?_
  intro X cx hXR hXl hr hin
  subst hXl
  have hX := RmX.of hXR
  refine V_aload_n cx 1 rfl dX3_isFollowedAlike_0 0 rfl ?_
  refine GX3_15 cx 4 rfl rfl 4 rfl dX3_isFollowedAlike_1 ?_
  refine V_iload_n cx 5 rfl dX3_isFollowedAlike_4 1 rfl ?_
  refine V_zaldN cx a (rfl) (by omega) (by decide) 19 rfl 6 rfl dX3_isFollowedAlike_5 ?_
  refine V_aload_n cx 7 rfl dX3_isFollowedAlike_6 0 rfl ?_
  refine GX3_15 cx 4 rfl rfl 10 rfl dX3_isFollowedAlike_7 ?_
  refine V_iload_n cx 11 rfl dX3_isFollowedAlike_10 2 rfl ?_
  refine V_zaldN cx b (rfl) (by omega) (by decide) 19 rfl 12 rfl dX3_isFollowedAlike_11 ?_
  refine V_icmp_eq cx 15 17 rfl dX3_isFollowedAlike_12 (by decide) (fun c_12 => ?_) (fun c_12 => ?_)
  · skip
    refine V_iconst (v := nI 0) cx 18 rfl dX3_isFollowedAlike_17 (by decide) ?_
    refine V_istore_n (lc1 := [(3, .int (nI 0)), (0, .ref (h 4)), (1, .int (nI a)), (2, .int (nI b))]) cx 19 rfl dX3_isFollowedAlike_18 (by decide) rfl ?_
    have loop_19 : ∀ (fuel : Nat) (c : Nat), (c ≤ 10) → (alkN ch tw a b c = true) → 10 - c < fuel → V X lo 4 G (Qi X lo G (fun (r : Int32) (_ : Unit) => r = bI (alk ch ie tw a b)) (fun (_ : Unit) => cW G h np nl len fd lu tu T C F LT VV BB lt ph lh ks wd gr gs bl ie tw ++ rs) 0 0) 0 0 (cW G h np nl len fd lu tu T C F LT VV BB lt ph lh ks wd gr gs bl ie tw ++ rs) [(3, .int (nI c)), (0, .ref (h 4)), (1, .int (nI a)), (2, .int (nI b))] [] 19 := by
      intro fuel
      induction fuel with
      | zero => intro c hc hk hmz; exact absurd hmz (Nat.not_lt_zero _)
      | succ fuel ih_19 =>
        intro c hc hk hmz_19
        refine V_iload_n cx 20 rfl dX3_isFollowedAlike_19 0 rfl ?_
        refine V_bipush (v := nI 10) cx 22 rfl dX3_isFollowedAlike_20 (by decide) ?_
        refine V_icmp_ge cx 25 48 rfl dX3_isFollowedAlike_22 (by decide) (fun c_22 => ?_) (fun c_22 => ?_)
        · skip
          have n_22 : c ≥ 10 := N_ge_t (by omega) (by omega) c_22
          refine V_iconst (v := nI 1) cx 49 rfl dX3_isFollowedAlike_48 (by decide) ?_
          exact V_zreturn cx hr (by first | rfl | exact bI_z _) () (by rw [show c = 10 by omega] at hk; rw [alk, decide_eq_true c_12, hk]; rfl) rfl (by omega) (by omega) dX3_isFollowedAlike_49
        · skip
          have n_22 : c < 10 := N_ge_f (by omega) (by omega) c_22
          refine V_aload_n cx 26 rfl dX3_isFollowedAlike_25 1 rfl ?_
          refine V_iload_n cx 27 rfl dX3_isFollowedAlike_26 2 rfl ?_
          refine V_iload_n cx 28 rfl dX3_isFollowedAlike_27 0 rfl ?_
          refine KX3_41 (As := [.int (nI a), .int (nI c)]) (rest := []) cx (kX3_twinBelow (xl X) lo G _ h np nl len fd lu tu T C F LT VV BB lt ph lh ks wd gr gs bl ie tw a c ch (by omega) hch (by omega) (by omega)) hX (by omega) 4 rfl rfl rfl (Nat.le_of_ble_eq_true rfl) 31 0 0 rfl rfl rfl (by omega) (by omega) dX3_isFollowedAlike_28 (fun r_1 u_2 hw_3 => ?_)
          try dsimp only at hw_3
          subst hw_3
          refine V_aload_n cx 32 rfl dX3_isFollowedAlike_31 1 rfl ?_
          refine V_iload_n cx 33 rfl dX3_isFollowedAlike_32 3 rfl ?_
          refine V_iload_n cx 34 rfl dX3_isFollowedAlike_33 0 rfl ?_
          refine KX3_41 (As := [.int (nI b), .int (nI c)]) (rest := [.int (tbI ch tw a c)]) cx (kX3_twinBelow (xl X) lo G _ h np nl len fd lu tu T C F LT VV BB lt ph lh ks wd gr gs bl ie tw b c ch (by omega) hch (by omega) (by omega)) hX (by omega) 4 rfl rfl rfl (Nat.le_of_ble_eq_true rfl) 37 0 0 rfl rfl rfl (by omega) (by omega) dX3_isFollowedAlike_34 (fun r_4 u_5 hw_6 => ?_)
          try dsimp only at hw_6
          subst hw_6
          refine V_icmp_eq cx 40 42 rfl dX3_isFollowedAlike_37 (by decide) (fun c_37 => ?_) (fun c_37 => ?_)
          · skip
            refine V_iinc (v := nI (c + 1)) (lc1 := [(3, .int (nI (c + 1))), (0, .ref (h 4)), (1, .int (nI a)), (2, .int (nI b))]) cx 45 rfl dX3_isFollowedAlike_42 0 rfl (nI_inc c 1) (by decide) rfl ?_
            refine V_goto cx 19 dX3_isFollowedAlike_45 (by decide) ?_
            refine V.locs [0, 1, 2, 3] rfl ?_
            exact ih_19 (c + 1) (by omega) (by rw [alkN, hk, decide_eq_true c_37]; rfl) (by omega)
          · skip
            refine V_iconst (v := nI 0) cx 41 rfl dX3_isFollowedAlike_40 (by decide) ?_
            exact V_zreturn cx hr (by first | rfl | exact bI_z _) () (by rw [alk, alkN_false (by omega) c_37, Bool.and_false]; rfl) rfl (by omega) (by omega) dX3_isFollowedAlike_41
    refine V.locs [0, 1, 2, 3] rfl ?_
    exact loop_19 _ 0 (by omega) (by rfl) (Nat.lt_succ_self _)
  · skip
    refine V_iconst (v := nI 0) cx 16 rfl dX3_isFollowedAlike_15 (by decide) ?_
    exact V_zreturn cx hr (by first | rfl | exact bI_z _) () (by rw [alk, decide_eq_false c_12]; rfl) rfl (by omega) (by omega) dX3_isFollowedAlike_16
set_option maxHeartbeats 4000000 in
set_option maxRecDepth 100000 in
theorem kX3_twinOf (l : Launch) (lo : Nat) (G : vG) (rs : va_W) (h : Nat → Nat) (np : Nat) (nl : Nat) (len : Nat) (fd : Nat) (lu : Nat) (tu : Nat) (T : Nat → Int32) (C : Nat → Int32) (F : Nat → Int32) (LT : Nat → Int32) (VV : Nat → Int32) (BB : Nat → Int32) (lt : Nat → Int32) (ph : Nat → Int32) (lh : Nat → Int32) (ks : Nat → Int64) (wd : Nat → Int32) (gr : Nat → Int32) (gs : Nat → Int32) (bl : Nat → Int32) (ie : Nat → Int32) (tw : Nat → Int32) (i : Nat) (ch : Nat → Nat → Nat) (htu : tu ≤ 65) (hch : chOK ch bl tu) (hi : i < tu) : Mi l yX3_twinOf (.code yX3_twinOf prog_5_method_5_code 3 (some .int)) 3 0 0 lo G [.ref (h 4), .int (nI i)] (cW G h np nl len fd lu tu T C F LT VV BB lt ph lh ks wd gr gs bl ie tw ++ rs) (fun (r : Int32) (_ : Unit) => (∃ o, i < o ∧ o < tu ∧ tw o = nI o ∧ alk ch ie tw i o = true ∧ r = nI o) ∨ (r = nI i ∧ ∀ o, i < o → o < tu → tw o = nI o → alk ch ie tw i o = false)) (fun (_ : Unit) => cW G h np nl len fd lu tu T C F LT VV BB lt ph lh ks wd gr gs bl ie tw ++ rs) := by
  refine Mi_of (lc := [(0, .ref (h 4)), (1, .int (nI i))]) (by decide +kernel) (Nat.le_of_ble_eq_true rfl) rfl ?_
  intro X cx hXR hXl hr hin
  subst hXl
  have hX := RmX.of hXR
  refine V_aload_n cx 1 rfl dX3_twinOf_0 0 rfl ?_
  refine GX3_22 cx 4 rfl rfl 4 rfl dX3_twinOf_1 ?_
  refine V_iconst (v := nI 1) cx 5 rfl dX3_twinOf_4 (by decide) ?_
  refine V_isub cx 6 rfl dX3_twinOf_5 ?_
  refine V_toi (nI (tu - 1)) (nI_subN (by omega)) ?_
  refine V_istore_n (lc1 := [(2, .int (nI (tu - 1))), (0, .ref (h 4)), (1, .int (nI i))]) cx 7 rfl dX3_twinOf_6 (by decide) rfl ?_
  have loop_7 : ∀ (fuel : Nat) (o : Nat), (i ≤ o ∧ o < tu) → (∀ q, o < q → q < tu → tw q = nI q → alk ch ie tw i q = false) → o < fuel → V X lo 3 G (Qi X lo G (fun (r : Int32) (_ : Unit) => (∃ o, i < o ∧ o < tu ∧ tw o = nI o ∧ alk ch ie tw i o = true ∧ r = nI o) ∨ (r = nI i ∧ ∀ o, i < o → o < tu → tw o = nI o → alk ch ie tw i o = false)) (fun (_ : Unit) => cW G h np nl len fd lu tu T C F LT VV BB lt ph lh ks wd gr gs bl ie tw ++ rs) 0 0) 0 0 (cW G h np nl len fd lu tu T C F LT VV BB lt ph lh ks wd gr gs bl ie tw ++ rs) [(2, .int (nI o)), (0, .ref (h 4)), (1, .int (nI i))] [] 7 := by
    intro fuel
    induction fuel with
    | zero => intro o ho hno hmz; exact absurd hmz (Nat.not_lt_zero _)
    | succ fuel ih_7 =>
      intro o ho hno hmz_7
      refine V_iload_n cx 8 rfl dX3_twinOf_7 0 rfl ?_
      refine V_iload_n cx 9 rfl dX3_twinOf_8 2 rfl ?_
      refine V_icmp_le cx 12 39 rfl dX3_twinOf_9 (by decide) (fun c_9 => ?_) (fun c_9 => ?_)
      · skip
        have n_9 : o ≤ i := N_le_t (by omega) (by omega) c_9
        refine V_iload_n cx 40 rfl dX3_twinOf_39 2 rfl ?_
        exact V_ireturn cx hr () (Or.inr ⟨rfl, fun q h1 h2 h3 => hno q (by omega) h2 h3⟩) rfl (by omega) (by omega) dX3_twinOf_40
      · skip
        have n_9 : o > i := N_le_f (by omega) (by omega) c_9
        refine V_aload_n cx 13 rfl dX3_twinOf_12 1 rfl ?_
        refine GX3_19 cx 4 rfl rfl 16 rfl dX3_twinOf_13 ?_
        refine V_iload_n cx 17 rfl dX3_twinOf_16 0 rfl ?_
        refine V_ialdN cx o (rfl) (by omega) (by decide) 20 rfl 18 rfl dX3_twinOf_17 ?_
        refine V_iload_n cx 19 rfl dX3_twinOf_18 0 rfl ?_
        refine V_icmp_ne cx 22 33 rfl dX3_twinOf_19 (by decide) (fun c_19 => ?_) (fun c_19 => ?_)
        · skip
          refine V_iinc (v := nI (o - 1)) (lc1 := [(2, .int (nI (o - 1))), (0, .ref (h 4)), (1, .int (nI i))]) cx 36 rfl dX3_twinOf_33 0 rfl (nI_dec o 1 (by omega)) (by decide) rfl ?_
          refine V_goto cx 7 dX3_twinOf_36 (by decide) ?_
          refine V.locs [0, 1, 2] rfl ?_
          exact ih_7 (o - 1) (by omega) (by intro q h1 h2 h3; rcases Nat.lt_or_ge o q with h4 | h4; (exact hno q h4 h2 h3); (rw [show q = o by omega] at h3 ⊢; first | exact absurd h3 c_19 | exact n_28)) (by omega)
        · skip
          refine V_aload_n cx 23 rfl dX3_twinOf_22 1 rfl ?_
          refine V_iload_n cx 24 rfl dX3_twinOf_23 2 rfl ?_
          refine V_iload_n cx 25 rfl dX3_twinOf_24 0 rfl ?_
          refine KX3_37 (As := [.int (nI i), .int (nI o)]) (rest := []) cx (kX3_isFollowedAlike (xl X) lo G _ h np nl len fd lu tu T C F LT VV BB lt ph lh ks wd gr gs bl ie tw i o ch (by omega) hch (by omega) (by omega)) hX (by omega) 4 rfl rfl rfl (Nat.le_of_ble_eq_true rfl) 28 0 0 rfl rfl rfl (by omega) (by omega) dX3_twinOf_25 (fun r_1 u_2 hw_3 => ?_)
          try dsimp only at hw_3
          subst hw_3
          refine V_if_eq cx 31 33 rfl dX3_twinOf_28 (by decide) (fun c_28 => ?_) (fun c_28 => ?_)
          · skip
            have n_28 := B_eq_t c_28
            try simp only [decide_eq_true_eq, decide_eq_false_iff_not] at n_28
            refine V_iinc (v := nI (o - 1)) (lc1 := [(2, .int (nI (o - 1))), (0, .ref (h 4)), (1, .int (nI i))]) cx 36 rfl dX3_twinOf_33 0 rfl (nI_dec o 1 (by omega)) (by decide) rfl ?_
            refine V_goto cx 7 dX3_twinOf_36 (by decide) ?_
            refine V.locs [0, 1, 2] rfl ?_
            exact ih_7 (o - 1) (by omega) (by intro q h1 h2 h3; rcases Nat.lt_or_ge o q with h4 | h4; (exact hno q h4 h2 h3); (rw [show q = o by omega] at h3 ⊢; first | exact absurd h3 c_19 | exact n_28)) (by omega)
          · skip
            have n_28 := B_eq_f c_28
            try simp only [decide_eq_true_eq, decide_eq_false_iff_not] at n_28
            refine V_iload_n cx 32 rfl dX3_twinOf_31 0 rfl ?_
            exact V_ireturn cx hr () (Or.inl ⟨o, by omega, ho.2, c_19, n_28, rfl⟩) rfl (by omega) (by omega) dX3_twinOf_32
  refine V.locs [0, 1, 2] rfl ?_
  exact loop_7 _ (tu - 1) (by omega) (by intro q h1 h2; omega) (Nat.lt_succ_self _)
set_option maxHeartbeats 4000000 in
set_option maxRecDepth 100000 in
theorem kX3_differentNodes (l : Launch) (lo : Nat) (G : vG) (rs : va_W) (h : Nat → Nat) (np : Nat) (nl : Nat) (len : Nat) (fd : Nat) (lu : Nat) (tu : Nat) (T : Nat → Int32) (C : Nat → Int32) (F : Nat → Int32) (LT : Nat → Int32) (VV : Nat → Int32) (BB : Nat → Int32) (lt : Nat → Int32) (ph : Nat → Int32) (lh : Nat → Int32) (ks : Nat → Int64) (wd : Nat → Int32) (gr : Nat → Int32) (gs : Nat → Int32) (bl : Nat → Int32) (ie : Nat → Int32) (tw : Nat → Int32) (ch : Nat → Nat → Nat) (htu : tu ≤ 65) (hch : chOK ch bl tu) (htu1 : 1 ≤ tu) : Mi l yX3_differentNodes (.code yX3_differentNodes prog_5_method_4_code 3 (some .int)) 4 0 0 lo G [.ref (h 4)] (cW G h np nl len fd lu tu T C F LT VV BB lt ph lh ks wd gr gs bl ie tw ++ rs) (fun (r : Int32) (tw1 : (Nat → Int32)) => (∀ i, i < tu → twP ch ie tw1 tu i) ∧ r = nI (cntT tw1 0 tu)) (fun (tw1 : (Nat → Int32)) => cW G h np nl len fd lu tu T C F LT VV BB lt ph lh ks wd gr gs bl ie tw1 ++ rs) := by
  refine Mi_of (lc := [(0, .ref (h 4))]) (by decide +kernel) (Nat.le_of_ble_eq_true rfl) rfl ?_
  intro X cx hXR hXl hr hin
  subst hXl
  have hX := RmX.of hXR
  refine V_iconst (v := nI 0) cx 1 rfl dX3_differentNodes_0 (by decide) ?_
  refine V_istore_n (lc1 := [(1, .int (nI 0)), (0, .ref (h 4))]) cx 2 rfl dX3_differentNodes_1 (by decide) rfl ?_
  refine V_aload_n cx 3 rfl dX3_differentNodes_2 1 rfl ?_
  refine GX3_22 cx 4 rfl rfl 6 rfl dX3_differentNodes_3 ?_
  refine V_iconst (v := nI 1) cx 7 rfl dX3_differentNodes_6 (by decide) ?_
  refine V_isub cx 8 rfl dX3_differentNodes_7 ?_
  refine V_istore_n (lc1 := [(2, .int ((nI tu) - (nI 1))), (1, .int (nI 0)), (0, .ref (h 4))]) cx 9 rfl dX3_differentNodes_8 (by decide) rfl ?_
  have loop_9 : ∀ (fuel : Nat) (j : Nat) (k : Nat) (tw2 : Nat → Int32), (j ≤ tu) → (k = cntT tw2 j (tu - j)) → (∀ i, j ≤ i → i < tu → twP ch ie tw2 tu i) → j < fuel → V X lo 3 G (Qi X lo G (fun (r : Int32) (tw1 : (Nat → Int32)) => (∀ i, i < tu → twP ch ie tw1 tu i) ∧ r = nI (cntT tw1 0 tu)) (fun (tw1 : (Nat → Int32)) => cW G h np nl len fd lu tu T C F LT VV BB lt ph lh ks wd gr gs bl ie tw1 ++ rs) 0 0) 0 0 (cW G h np nl len fd lu tu T C F LT VV BB lt ph lh ks wd gr gs bl ie tw2 ++ rs) [(2, .int (nI j - nI 1)), (1, .int (nI k)), (0, .ref (h 4))] [] 9 := by
    intro fuel
    induction fuel with
    | zero => intro j k tw2 hj hk hP hmz; exact absurd hmz (Nat.not_lt_zero _)
    | succ fuel ih_9 =>
      intro j k tw2 hj hk hP hmz_9
      refine V_iload_n cx 10 rfl dX3_differentNodes_9 0 rfl ?_
      refine V_if_lt cx 13 43 rfl dX3_differentNodes_10 (by decide) (fun c_10 => ?_) (fun c_10 => ?_)
      · skip
        have ej : j = 0 := nI_subz (by omega) c_10
        refine V_iload_n cx 44 rfl dX3_differentNodes_43 1 rfl ?_
        exact V_ireturn cx hr tw2 (⟨fun i h => hP i (by omega) h, by rw [hk, show j = 0 by omega, Nat.sub_zero]⟩) rfl (by omega) (by omega) dX3_differentNodes_44
      · skip
        have ej : 0 < j := nI_subnz c_10
        rw [nI_subN ej]
        refine V_aload_n cx 14 rfl dX3_differentNodes_13 2 rfl ?_
        refine GX3_19 cx 4 rfl rfl 17 rfl dX3_differentNodes_14 ?_
        refine V_iload_n cx 18 rfl dX3_differentNodes_17 0 rfl ?_
        refine V_aload_n cx 19 rfl dX3_differentNodes_18 2 rfl ?_
        refine V_iload_n cx 20 rfl dX3_differentNodes_19 0 rfl ?_
        refine KX3_34 (As := [.int (nI (j - 1))]) (rest := [.int (nI (j - 1)), .ref (h 20)]) cx (kX3_twinOf (xl X) lo G _ h np nl len fd lu tu T C F LT VV BB lt ph lh ks wd gr gs bl ie tw2 (j - 1) ch (by omega) hch (by omega)) hX (by omega) 4 rfl rfl rfl (Nat.le_of_ble_eq_true rfl) 23 0 0 rfl rfl rfl (by omega) (by omega) dX3_differentNodes_20 (fun r_1 u_2 hw_3 => ?_)
        try dsimp only at hw_3
        have hP2 : ∀ i, j - 1 ≤ i → i < tu → twP ch ie (upd tw2 (j - 1) r_1) tu i := by
          intro i h1 h2
          rcases Nat.lt_or_ge (j - 1) i with h3 | h3
          · exact twP_upd hch h2 h3 (hP i (by omega) h2)
          · rw [show i = j - 1 by omega]
            rcases hw_3 with ⟨o, g1, g2, g3, g4, g5⟩ | ⟨g1, g2⟩
            · exact Or.inl ⟨o, g1, g2, (upd_n _ _ (by omega)).trans g3, (alk_upd hch (by omega) g2 (Nat.le_refl _) (by omega)).trans g4, (upd_s _ _ _).trans g5⟩
            · exact Or.inr ⟨(upd_s _ _ _).trans g1, fun o h4 h5 h6 => (alk_upd hch (by omega) h5 (Nat.le_refl _) (by omega)).trans (g2 o h4 h5 ((upd_n _ _ (by omega)).symm.trans h6))⟩
        refine V_iastN cx (j - 1) (rfl) (by omega) (by decide) 20 rfl (cW G h np nl len fd lu tu T C F LT VV BB lt ph lh ks wd gr gs bl ie (upd tw2 (j - 1) r_1) ++ rs) rfl 24 rfl dX3_differentNodes_23 ?_
        refine V_aload_n cx 25 rfl dX3_differentNodes_24 2 rfl ?_
        refine GX3_19 cx 4 rfl rfl 28 rfl dX3_differentNodes_25 ?_
        refine V_iload_n cx 29 rfl dX3_differentNodes_28 0 rfl ?_
        refine V_ialdN cx (j - 1) (rfl) (by omega) (by decide) 20 rfl 30 rfl dX3_differentNodes_29 ?_
        refine V_iload_n cx 31 rfl dX3_differentNodes_30 0 rfl ?_
        refine V_icmp_ne cx 34 37 rfl dX3_differentNodes_31 (by decide) (fun c_31 => ?_) (fun c_31 => ?_)
        · skip
          refine V_iinc (v := nI (j - 1) - nI 1) (lc1 := [(2, .int (nI (j - 1) - nI 1)), (1, .int (nI k)), (0, .ref (h 4))]) cx 40 rfl dX3_differentNodes_37 0 rfl (nI_decR (j - 1)) (by decide) rfl ?_
          refine V_goto cx 9 dX3_differentNodes_40 (by decide) ?_
          refine V.locs [0, 1, 2] rfl ?_
          exact ih_9 (j - 1) k (upd tw2 (j - 1) r_1) (by omega) (by rw [show tu - (j - 1) = (tu - j) + 1 by omega, cntT_front, show j - 1 + 1 = j by omega, cntT_upd (by omega), ← hk]; first | rw [if_pos c_31] | rw [if_neg c_31, Nat.add_zero]) (by exact hP2) (by omega)
        · skip
          refine V_iinc (v := nI (k + 1)) (lc1 := [(1, .int (nI (k + 1))), (2, .int (nI (j - 1))), (0, .ref (h 4))]) cx 37 rfl dX3_differentNodes_34 1 rfl (nI_inc k 1) (by decide) rfl ?_
          refine V_iinc (v := nI (j - 1) - nI 1) (lc1 := [(2, .int (nI (j - 1) - nI 1)), (1, .int (nI (k + 1))), (0, .ref (h 4))]) cx 40 rfl dX3_differentNodes_37 1 rfl (nI_decR (j - 1)) (by decide) rfl ?_
          refine V_goto cx 9 dX3_differentNodes_40 (by decide) ?_
          refine V.locs [0, 1, 2] rfl ?_
          exact ih_9 (j - 1) (k + 1) (upd tw2 (j - 1) r_1) (by omega) (by rw [show tu - (j - 1) = (tu - j) + 1 by omega, cntT_front, show j - 1 + 1 = j by omega, cntT_upd (by omega), ← hk]; first | rw [if_pos c_31] | rw [if_neg c_31, Nat.add_zero]) (by exact hP2) (by omega)
  refine V.locs [0, 1, 2] rfl ?_
  exact loop_9 _ tu 0 tw (by omega) (by rw [Nat.sub_self]; rfl) (by intro i h1 h2; omega) (Nat.lt_succ_self _)
set_option maxHeartbeats 4000000 in
set_option maxRecDepth 100000 in
theorem kX3_madeBelow (l : Launch) (lo : Nat) (G : vG) (rs : va_W) (h : Nat → Nat) (np : Nat) (nl : Nat) (len : Nat) (fd : Nat) (lu : Nat) (tu : Nat) (T : Nat → Int32) (C : Nat → Int32) (F : Nat → Int32) (LT : Nat → Int32) (VV : Nat → Int32) (BB : Nat → Int32) (lt : Nat → Int32) (ph : Nat → Int32) (lh : Nat → Int32) (ks : Nat → Int64) (wd : Nat → Int32) (gr : Nat → Int32) (gs : Nat → Int32) (bl : Nat → Int32) (ie : Nat → Int32) (tw : Nat → Int32) (a : Nat) (c : Nat) (ch : Nat → Nat → Nat) (htu : tu < 65) (hch : chOK ch bl tu) (ha : a < tu) (hc : c < 10) : Mi l yX3_madeBelow (.code yX3_madeBelow prog_5_method_3_code 4 (some .int)) 1 0 0 lo G [.ref (h 4), .int (nI a), .int (nI c)] (cW G h np nl len fd lu tu T C F LT VV BB lt ph lh ks wd gr gs bl ie tw ++ rs) (fun (r : Int32) ((tu1, bl1) : (Nat) × (Nat → Int32)) => (ch a c ≠ 0 ∧ tu1 = tu ∧ bl1 = bl ∧ r = nI (ch a c)) ∨ (ch a c = 0 ∧ tu1 = tu + 1 ∧ bl1 = upd bl (a * 10 + c) (nI tu) ∧ r = nI tu)) (fun ((tu1, bl1) : (Nat) × (Nat → Int32)) => cW G h np nl len fd lu tu1 T C F LT VV BB lt ph lh ks wd gr gs bl1 ie tw ++ rs) := by
  refine Mi_of (lc := [(0, .ref (h 4)), (1, .int (nI a)), (2, .int (nI c))]) (by decide +kernel) (Nat.le_of_ble_eq_true rfl) rfl ?_
  intro X cx hXR hXl hr hin
  subst hXl
  have hX := RmX.of hXR
  obtain ⟨hb1, hb2⟩ := hch a ha c hc
  refine V_iload_n cx 1 rfl dX3_madeBelow_0 1 rfl ?_
  refine V_bipush (v := nI 10) cx 3 rfl dX3_madeBelow_1 (by decide) ?_
  refine V_imul cx 4 rfl dX3_madeBelow_3 ?_
  refine V_toi (nI (a * 10)) (nI_mulN _ _) ?_
  refine V_iload_n cx 5 rfl dX3_madeBelow_4 2 rfl ?_
  refine V_iadd cx 6 rfl dX3_madeBelow_5 ?_
  refine V_toi (nI ((a * 10) + c)) (nI_add _ _) ?_
  refine V_istore_n (lc1 := [(3, .int (nI ((a * 10) + c))), (0, .ref (h 4)), (1, .int (nI a)), (2, .int (nI c))]) cx 7 rfl dX3_madeBelow_6 (by decide) rfl ?_
  refine V_aload_n cx 8 rfl dX3_madeBelow_7 1 rfl ?_
  refine GX3_11 cx 4 rfl rfl 11 rfl dX3_madeBelow_8 ?_
  refine V_iload_n cx 12 rfl dX3_madeBelow_11 0 rfl ?_
  refine V_ialdN cx ((a * 10) + c) (rfl) (by omega) (by decide) 18 rfl 13 rfl dX3_madeBelow_12 ?_
  refine V_toi (nI (ch a c)) (hb1) ?_
  refine V_if_ne cx 16 45 rfl dX3_madeBelow_13 (by decide) (fun c_13 => ?_) (fun c_13 => ?_)
  · skip
    have n_13 : ch a c ≠ 0 := Z_ne_t (by omega) c_13
    refine V_aload_n cx 46 rfl dX3_madeBelow_45 1 rfl ?_
    refine GX3_11 cx 4 rfl rfl 49 rfl dX3_madeBelow_46 ?_
    refine V_iload_n cx 50 rfl dX3_madeBelow_49 0 rfl ?_
    refine V_ialdN cx ((a * 10) + c) (rfl) (by omega) (by decide) 18 rfl 51 rfl dX3_madeBelow_50 ?_
    refine V_toi (nI (ch a c)) (hb1) ?_
    exact V_ireturn cx hr (tu, bl) (Or.inl ⟨n_13, rfl, rfl, rfl⟩) rfl (by omega) (by omega) dX3_madeBelow_51
  · skip
    have n_13 : ch a c = 0 := Z_ne_f (by omega) c_13
    refine V_aload_n cx 17 rfl dX3_madeBelow_16 1 rfl ?_
    refine GX3_22 cx 4 rfl rfl 20 rfl dX3_madeBelow_17 ?_
    refine V_bipush (v := nI 65) cx 22 rfl dX3_madeBelow_20 (by decide) ?_
    refine V_icmp_ge cx 25 45 rfl dX3_madeBelow_22 (by decide) (fun c_22 => ?_) (fun c_22 => ?_)
    · skip
      have n_22 : tu ≥ 65 := N_ge_t (by omega) (by omega) c_22
      omega
    · skip
      have n_22 : tu < 65 := N_ge_f (by omega) (by omega) c_22
      refine V_aload_n cx 26 rfl dX3_madeBelow_25 1 rfl ?_
      refine GX3_11 cx 4 rfl rfl 29 rfl dX3_madeBelow_26 ?_
      refine V_iload_n cx 30 rfl dX3_madeBelow_29 0 rfl ?_
      refine V_aload_n cx 31 rfl dX3_madeBelow_30 1 rfl ?_
      refine GX3_22 cx 4 rfl rfl 34 rfl dX3_madeBelow_31 ?_
      refine V_iastN cx ((a * 10) + c) (rfl) (by omega) (by decide) 18 rfl (cW G h np nl len fd lu tu T C F LT VV BB lt ph lh ks wd gr gs (upd bl ((a * 10) + c) (nI tu)) ie tw ++ rs) rfl 35 rfl dX3_madeBelow_34 ?_
      refine V_aload_n cx 36 rfl dX3_madeBelow_35 1 rfl ?_
      refine V_dup cx 37 rfl dX3_madeBelow_36 rfl ?_
      refine GX3_22 cx 4 rfl rfl 40 rfl dX3_madeBelow_37 ?_
      refine V_iconst (v := nI 1) cx 41 rfl dX3_madeBelow_40 (by decide) ?_
      refine V_iadd cx 42 rfl dX3_madeBelow_41 ?_
      refine V_toi (nI (tu + 1)) (nI_add _ _) ?_
      refine PX3_22 cx 4 rfl (Nat.le_of_ble_eq_true rfl) (cW G h np nl len fd lu (tu + 1) T C F LT VV BB lt ph lh ks wd gr gs (upd bl ((a * 10) + c) (nI tu)) ie tw ++ rs) rfl 45 rfl dX3_madeBelow_42 ?_
      refine V_aload_n cx 46 rfl dX3_madeBelow_45 1 rfl ?_
      refine GX3_11 cx 4 rfl rfl 49 rfl dX3_madeBelow_46 ?_
      refine V_iload_n cx 50 rfl dX3_madeBelow_49 0 rfl ?_
      refine V_ialdN cx ((a * 10) + c) (rfl) (by omega) (by decide) 18 rfl 51 rfl dX3_madeBelow_50 ?_
      refine V_toi (nI tu) (upd_s _ _ _) ?_
      exact V_ireturn cx hr (tu + 1, upd bl ((a * 10) + c) (nI tu)) (Or.inr ⟨n_13, rfl, rfl, rfl⟩) rfl (by omega) (by omega) dX3_madeBelow_51
