/-- the tree of letters: each node's number is a 1 and its letters; W are the words, U what the nodes begin -/
def TR (ch : Nat → Nat → Nat) (nd : Nat → Nat) (bl ie : Nat → Int32) (tu : Nat) (W U : Nat → Prop) : Prop :=
  (1 ≤ tu ∧ chOK ch bl tu) ∧ nd 0 = 1 ∧ (∀ i c, i < tu → c < 10 → ch i c ≠ 0 → nd (ch i c) = 10 * nd i + c) ∧ (∀ j, 0 < j → j < tu → ∃ i c, i < j ∧ c < 10 ∧ ch i c = j) ∧
  (∀ i j, i < tu → j < tu → nd i = nd j → i = j) ∧ (∀ i, i < tu → (W (nd i) ∧ ie i = nI 1) ∨ (¬ W (nd i) ∧ ie i = nI 0)) ∧ (∀ t, W t → ∃ i, i < tu ∧ nd i = t) ∧
  (∀ i, tu ≤ i → i < 65 → ie i = nI 0 ∧ ∀ c, c < 10 → bl (i * 10 + c) = nI 0) ∧ (∀ i, i < tu → 1 ≤ nd i ∧ (i = 0 ∨ ∃ t n, U t ∧ t / 10 ^ n = nd i))
def wAdd (W : Nat → Prop) (t : Nat) : Nat → Prop := fun s => W s ∨ s = t
theorem TR_mono {ch : Nat → Nat → Nat} {nd : Nat → Nat} {bl ie : Nat → Int32} {tu : Nat} {W U V : Nat → Prop} (h : TR ch nd bl ie tu W U) (hUV : ∀ t, U t → V t) : TR ch nd bl ie tu W V := by
  obtain ⟨h1, h2, h3, h4, h5, h6, h7, h8, h9⟩ := h
  refine ⟨h1, h2, h3, h4, h5, h6, h7, h8, fun i hi => ⟨(h9 i hi).1, ?_⟩⟩
  rcases (h9 i hi).2 with h | ⟨t, n, ht, hn⟩
  · exact Or.inl h
  · exact Or.inr ⟨t, n, hUV t ht, hn⟩
theorem TR_step {ch : Nat → Nat → Nat} {nd : Nat → Nat} {bl ie bl1 : Nat → Int32} {tu tu1 a c m t : Nat} {r : Int32} {W U : Nat → Prop} (h : TR ch nd bl ie tu W U) (htu : tu < 65) (ha : a < tu) (hU : U t) (hc : c = t / 10 ^ m % 10) (hnd : nd a = t / 10 ^ (m + 1)) (hp : (ch a c ≠ 0 ∧ tu1 = tu ∧ bl1 = bl ∧ r = nI (ch a c)) ∨ (ch a c = 0 ∧ tu1 = tu + 1 ∧ bl1 = upd bl (a * 10 + c) (nI tu) ∧ r = nI tu)) : ∃ b, r = nI b ∧ b < tu1 ∧ tu1 ≤ tu + 1 ∧ ∃ ch1 nd1, TR ch1 nd1 bl1 ie tu1 W U ∧ nd1 b = t / 10 ^ m := by
  have hc9 : c < 10 := by omega
  have hv : t / 10 ^ m = 10 * nd a + c := by
    rw [hnd, hc, Nat.pow_succ, ← Nat.div_div_eq_div_mul]
    omega
  obtain ⟨⟨h1, hch⟩, h2, h3, h4, h5, h6, h7, h8, h9⟩ := id h
  rcases hp with ⟨p1, rfl, rfl, rfl⟩ | ⟨p1, rfl, rfl, rfl⟩
  · have hb := (hch a ha c hc9).2
    exact ⟨ch a c, rfl, by omega, by omega, ch, nd, h, by rw [h3 a c ha hc9 p1, hv]⟩
  · have hfresh : ∀ i, i < tu → nd i ≠ 10 * nd a + c := by
      intro i hi e
      have ha1 := (h9 a ha).1
      rcases Nat.eq_zero_or_pos i with h0 | h0
      · rw [h0, h2] at e; omega
      · obtain ⟨j, c2, hj, hc2, hjc⟩ := h4 i h0 hi
        have e2 := h3 j c2 (by omega) hc2 (by omega)
        rw [hjc, e] at e2
        have hja := h5 j a (by omega) ha (by omega)
        rw [hja, show c2 = c by omega] at hjc
        omega
    refine ⟨tu, rfl, by omega, by omega, fun i c' => if i = a ∧ c' = c then tu else if i = tu then 0 else ch i c', fun i => if i = tu then 10 * nd a + c else nd i, ⟨⟨by omega, ?_⟩, ?_, ?_, ?_, ?_, ?_, ?_, ?_, ?_⟩, ?_⟩
    · intro i hi c' hc'
      dsimp only
      by_cases e1 : i = a ∧ c' = c
      · rw [if_pos e1, e1.1, e1.2]
        exact ⟨upd_s _ _ _, Or.inr ⟨ha, by omega⟩⟩
      · rw [if_neg e1, upd_n _ _ (by omega)]
        by_cases e2 : i = tu
        · rw [if_pos e2]
          exact ⟨(h8 i (by omega) (by omega)).2 c' hc', Or.inl rfl⟩
        · rw [if_neg e2]
          have := hch i (by omega) c' hc'
          exact ⟨this.1, by omega⟩
    · dsimp only; rw [if_neg (by omega)]; exact h2
    · intro i c' hi hc' hne
      dsimp only at hne ⊢
      by_cases e1 : i = a ∧ c' = c
      · rw [if_pos e1, if_pos rfl, if_neg (by omega), e1.1, e1.2]
      · rw [if_neg e1] at hne ⊢
        by_cases e2 : i = tu
        · rw [if_pos e2] at hne; exact absurd rfl hne
        · rw [if_neg e2] at hne ⊢
          have := hch i (by omega) c' hc'
          rw [if_neg (by omega), if_neg e2]
          exact h3 i c' (by omega) hc' hne
    · intro j hj hj2
      dsimp only
      rcases Nat.lt_or_ge j tu with h | h
      · obtain ⟨i, c', k1, k2, k3⟩ := h4 j hj h
        refine ⟨i, c', k1, k2, ?_⟩
        rw [if_neg (fun e => by rw [e.1, e.2] at k3; omega), if_neg (by omega)]
        exact k3
      · exact ⟨a, c, by omega, hc9, by rw [if_pos ⟨rfl, rfl⟩]; omega⟩
    · intro i j hi hj e
      dsimp only at e
      by_cases e1 : i = tu
      · by_cases e2 : j = tu
        · omega
        · rw [if_pos e1, if_neg e2] at e
          exact absurd e.symm (hfresh j (by omega))
      · by_cases e2 : j = tu
        · rw [if_neg e1, if_pos e2] at e
          exact absurd e (hfresh i (by omega))
        · rw [if_neg e1, if_neg e2] at e
          exact h5 i j (by omega) (by omega) e
    · intro i hi
      dsimp only
      by_cases e1 : i = tu
      · rw [if_pos e1]
        refine Or.inr ⟨fun hw => ?_, (h8 i (by omega) (by omega)).1⟩
        obtain ⟨j, hj, e⟩ := h7 _ hw
        exact hfresh j hj e
      · rw [if_neg e1]; exact h6 i (by omega)
    · intro s hs
      obtain ⟨j, hj, e⟩ := h7 s hs
      exact ⟨j, by omega, by dsimp only; rw [if_neg (by omega)]; exact e⟩
    · intro i hi hi2
      refine ⟨(h8 i (by omega) hi2).1, fun c' hc' => ?_⟩
      rw [upd_n _ _ (by omega)]
      exact (h8 i (by omega) hi2).2 c' hc'
    · intro i hi
      dsimp only
      by_cases e1 : i = tu
      · rw [if_pos e1]
        have := (h9 a ha).1
        exact ⟨by omega, Or.inr ⟨t, m, hU, hv⟩⟩
      · rw [if_neg e1]; exact h9 i (by omega)
    · dsimp only; rw [if_pos rfl]; exact hv.symm
theorem TR_end {ch : Nat → Nat → Nat} {nd : Nat → Nat} {bl ie : Nat → Int32} {tu b t : Nat} {W U : Nat → Prop} (h : TR ch nd bl ie tu W U) (hb : b < tu) (hn : nd b = t) : TR ch nd bl (upd ie b (nI 1)) tu (wAdd W t) U := by
  obtain ⟨h1, h2, h3, h4, h5, h6, h7, h8, h9⟩ := h
  refine ⟨h1, h2, h3, h4, h5, ?_, ?_, ?_, h9⟩
  · intro i hi
    by_cases e : i = b
    · rw [e]; exact Or.inl ⟨Or.inr hn, upd_s _ _ _⟩
    · rw [upd_n _ _ e]
      rcases h6 i hi with ⟨k1, k2⟩ | ⟨k1, k2⟩
      · exact Or.inl ⟨Or.inl k1, k2⟩
      · refine Or.inr ⟨fun k => ?_, k2⟩
        rcases k with k | k
        · exact k1 k
        · exact e (h5 i b hi hb (k.trans hn.symm))
  · intro s hs
    rcases hs with hs | hs
    · exact h7 s hs
    · exact ⟨b, hb, hn.trans hs.symm⟩
  · intro i hi hi2
    rw [upd_n _ _ (by omega)]
    exact h8 i hi hi2
/-- what is left when the parts of a lesson lose one each -/
def tkb (C : Nat → Int32) (gv : Nat → Nat) : Nat → Nat → Int32
  | 0 => C
  | k + 1 => upd (tkb C gv k) (gv k) (tkb C gv k (gv k) - nI 1)
set_option maxHeartbeats 4000000 in
set_option maxRecDepth 100000 in
theorem kX3_enter (l : Launch) (lo : Nat) (G : vG) (rs : va_W) (h : Nat → Nat) (np : Nat) (nl : Nat) (len : Nat) (fd : Nat) (lu : Nat) (tu : Nat) (T : Nat → Int32) (C : Nat → Int32) (F : Nat → Int32) (LT : Nat → Int32) (VV : Nat → Int32) (BB : Nat → Int32) (lt : Nat → Int32) (ph : Nat → Int32) (lh : Nat → Int32) (ks : Nat → Int64) (wd : Nat → Int32) (gr : Nat → Int32) (gs : Nat → Int32) (bl : Nat → Int32) (ie : Nat → Int32) (tw : Nat → Int32) (t : Nat) (W : Nat → Prop) (hs : 1 ≤ szN t ∧ szN t ≤ 4) (ht1 : 10 ^ szN t ≤ t) (ht2 : t < 2 * 10 ^ szN t) (htu : tu ≤ 61) (hT : ∃ ch nd, TR ch nd bl ie tu W W) : Mv l yX3_enter (.code yX3_enter prog_5_method_2_code 4 none) 3 0 0 lo G [.ref (h 4), .int (nI t)] (cW G h np nl len fd lu tu T C F LT VV BB lt ph lh ks wd gr gs bl ie tw ++ rs) (fun ((tu1, bl1, ie1) : (Nat) × (Nat → Int32) × (Nat → Int32)) => (∃ ch nd, TR ch nd bl1 ie1 tu1 (wAdd W t) (wAdd W t)) ∧ tu1 ≤ tu + 4) (fun ((tu1, bl1, ie1) : (Nat) × (Nat → Int32) × (Nat → Int32)) => cW G h np nl len fd lu tu1 T C F LT VV BB lt ph lh ks wd gr gs bl1 ie1 tw ++ rs) := by
  refine Mv_of (lc := [(0, .ref (h 4)), (1, .int (nI t))]) (by decide +kernel) (Nat.le_of_ble_eq_true rfl) rfl ?_
  intro X cx hXR hXl hr hin
  subst hXl
  have hX := RmX.of hXR
  have h104 : 10 ^ szN t ≤ 10 ^ 4 := p10_le hs.2
  obtain ⟨ch0, nd0, hT0⟩ := hT
  have hT1 := TR_mono (V := wAdd W t) hT0 (fun s h => Or.inl h)
  refine V_iconst (v := nI 1) cx 1 rfl dX3_enter_0 (by decide) ?_
  refine V_istore_n (lc1 := [(2, .int (nI 1)), (0, .ref (h 4)), (1, .int (nI t))]) cx 2 rfl dX3_enter_1 (by decide) rfl ?_
  refine V_iload_n cx 3 rfl dX3_enter_2 2 rfl ?_
  refine KX3_26 (As := [.int (nI t)]) (rest := []) cx (kX4_lettersIn (xl X) lo G _ (nI t)) hX (by omega) rfl rfl (Nat.le_of_ble_eq_true rfl) 6 0 0 rfl rfl rfl (by omega) (by omega) dX3_enter_3 (fun r_1 u_2 hw_3 => ?_)
  try dsimp only at hw_3
  subst hw_3
  have fk_4 := SZ_le (nI t) 8
  refine V_toi (nI (szN t)) (rfl) ?_
  refine V_istore_n (lc1 := [(3, .int (nI (szN t))), (2, .int (nI 1)), (0, .ref (h 4)), (1, .int (nI t))]) cx 7 rfl dX3_enter_6 (by decide) rfl ?_
  have loop_7 : ∀ (fuel : Nat) (i : Nat), (1 ≤ i ∧ i ≤ szN t) → i < fuel → V X lo 4 G (Qv X lo G (fun ((tu1, bl1, ie1) : (Nat) × (Nat → Int32) × (Nat → Int32)) => (∃ ch nd, TR ch nd bl1 ie1 tu1 (wAdd W t) (wAdd W t)) ∧ tu1 ≤ tu + 4) (fun ((tu1, bl1, ie1) : (Nat) × (Nat → Int32) × (Nat → Int32)) => cW G h np nl len fd lu tu1 T C F LT VV BB lt ph lh ks wd gr gs bl1 ie1 tw ++ rs) 0 0) 0 0 (cW G h np nl len fd lu tu T C F LT VV BB lt ph lh ks wd gr gs bl ie tw ++ rs) [(3, .int (nI i)), (2, .int (nI (10 ^ (szN t - i)))), (0, .ref (h 4)), (1, .int (nI t))] [] 7 := by
    intro fuel
    induction fuel with
    | zero => intro i hi hmz; exact absurd hmz (Nat.not_lt_zero _)
    | succ fuel ih_7 =>
      intro i hi hmz_7
      refine V_iload_n cx 8 rfl dX3_enter_7 0 rfl ?_
      refine V_iconst (v := nI 1) cx 9 rfl dX3_enter_8 (by decide) ?_
      refine V_icmp_le cx 12 23 rfl dX3_enter_9 (by decide) (fun c_9 => ?_) (fun c_9 => ?_)
      · skip
        have n_9 : i ≤ 1 := N_le_t (by omega) (by omega) c_9
        refine V_iconst (v := nI 0) cx 24 rfl dX3_enter_23 (by decide) ?_
        refine V_istore_n (lc1 := [(3, .int (nI 0)), (2, .int (nI (10 ^ (szN t - i)))), (0, .ref (h 4)), (1, .int (nI t))]) cx 25 rfl dX3_enter_24 (by decide) rfl ?_
        have loop_25 : ∀ (fuel : Nat) (m : Nat) (b : Nat) (bl2 : Nat → Int32) (tu2 : Nat), (m ≤ szN t) → (b < tu2) → (tu2 + m ≤ tu + szN t) → (∃ ch nd, TR ch nd bl2 ie tu2 (W) (wAdd W t) ∧ nd b = t / 10 ^ m) → m < fuel → V X lo 4 G (Qv X lo G (fun ((tu1, bl1, ie1) : (Nat) × (Nat → Int32) × (Nat → Int32)) => (∃ ch nd, TR ch nd bl1 ie1 tu1 (wAdd W t) (wAdd W t)) ∧ tu1 ≤ tu + 4) (fun ((tu1, bl1, ie1) : (Nat) × (Nat → Int32) × (Nat → Int32)) => cW G h np nl len fd lu tu1 T C F LT VV BB lt ph lh ks wd gr gs bl1 ie1 tw ++ rs) 0 0) 0 0 (cW G h np nl len fd lu tu2 T C F LT VV BB lt ph lh ks wd gr gs bl2 ie tw ++ rs) [(3, .int (nI b)), (2, .int (nI (10 ^ m / 10))), (0, .ref (h 4)), (1, .int (nI t))] [] 25 := by
          intro fuel
          induction fuel with
          | zero => intro m b bl2 tu2 hm hb htu2 hTT hmz; exact absurd hmz (Nat.not_lt_zero _)
          | succ fuel ih_25 =>
            intro m b bl2 tu2 hm hb htu2 hTT hmz_25
            refine V_iload_n cx 26 rfl dX3_enter_25 1 rfl ?_
            refine V_if_le cx 29 49 rfl dX3_enter_26 (by decide) (fun c_26 => ?_) (fun c_26 => ?_)
            · skip
              have hm0 : m = 0 := by
                rcases Nat.eq_zero_or_pos m with h | h
                · exact h
                · exfalso
                  obtain ⟨q, rfl⟩ : ∃ q, m = q + 1 := ⟨m - 1, by omega⟩
                  have h1 := p10_pos q; have h2 : 10 ^ q ≤ 10 ^ 8 := p10_le (by omega)
                  rw [Nat.pow_succ, Nat.mul_div_cancel _ (by decide)] at c_26
                  have := Z_le_t (by omega) c_26; omega
              refine V_aload_n cx 50 rfl dX3_enter_49 2 rfl ?_
              refine GX3_15 cx 4 rfl rfl 53 rfl dX3_enter_50 ?_
              refine V_iload_n cx 54 rfl dX3_enter_53 0 rfl ?_
              refine V_iconst (v := nI 1) cx 55 rfl dX3_enter_54 (by decide) ?_
              refine V_zastN cx b (rfl) (by first | rfl | assumption) (by omega) (by decide) 19 rfl (cW G h np nl len fd lu tu2 T C F LT VV BB lt ph lh ks wd gr gs bl2 (upd ie b (nI 1)) tw ++ rs) rfl 56 rfl dX3_enter_55 ?_
              exact V_vreturn cx hr (tu2, bl2, upd ie b (nI 1)) (⟨by subst hm0; obtain ⟨ch, nd, g1, g2⟩ := hTT; exact ⟨ch, nd, TR_end g1 hb (by rw [g2, Nat.pow_zero, Nat.div_one])⟩, by omega⟩) rfl (by omega) (by omega) dX3_enter_56
            · skip
              obtain ⟨q, rfl⟩ : ∃ q, m = q + 1 := ⟨m - 1, by rcases Nat.eq_zero_or_pos m with h | h; (rw [h] at c_26; exact absurd (show nI (10 ^ 0 / 10) ≤ 0 by decide) c_26); omega⟩
              have hq1 := p10_pos q
              have hq2 : 10 ^ q ≤ 10 ^ 8 := p10_le (by omega)
              rw [show 10 ^ (q + 1) / 10 = 10 ^ q by rw [Nat.pow_succ, Nat.mul_div_cancel _ (by decide)]]
              have hqd := Nat.div_le_self t (10 ^ q)
              obtain ⟨ch, nd, hTa, hna⟩ := hTT
              refine V_aload_n cx 30 rfl dX3_enter_29 2 rfl ?_
              refine V_iload_n cx 31 rfl dX3_enter_30 0 rfl ?_
              refine V_iload_n cx 32 rfl dX3_enter_31 3 rfl ?_
              refine V_iload_n cx 33 rfl dX3_enter_32 1 rfl ?_
              refine V_idiv cx 34 rfl dX3_enter_33 (by exact nI_ne0 (by omega) (by omega)) ?_
              refine V_toi (nI (t / (10 ^ q))) (nI_div (by omega) (by omega)) ?_
              refine V_bipush (v := nI 10) cx 36 rfl dX3_enter_34 (by decide) ?_
              refine V_irem cx 37 rfl dX3_enter_36 (by decide) ?_
              refine V_toi (nI ((t / (10 ^ q)) % 10)) (nI_mod (by omega) (by omega)) ?_
              refine KX3_30 (As := [.int (nI b), .int (nI ((t / (10 ^ q)) % 10))]) (rest := []) cx (kX3_madeBelow (xl X) lo G _ h np nl len fd lu tu2 T C F LT VV BB lt ph lh ks wd gr gs bl2 ie tw b ((t / (10 ^ q)) % 10) ch (by omega) hTa.1.2 (by omega) (by omega)) hX (by omega) 4 rfl rfl rfl (Nat.le_of_ble_eq_true rfl) 40 0 0 rfl rfl rfl (by omega) (by omega) dX3_enter_37 (fun r_5 u_6 hw_7 => ?_)
              obtain ⟨tu1_8, bl1_9⟩ := u_6
              try dsimp only at hw_7
              obtain ⟨b2, rfl, hb2, htu3, ch1, nd1, hT2, hn2⟩ := TR_step hTa (by omega) hb (Or.inr rfl : wAdd W t t) rfl hna hw_7
              refine V_istore_n (lc1 := [(3, .int (nI b2)), (2, .int (nI (10 ^ q))), (0, .ref (h 4)), (1, .int (nI t))]) cx 41 rfl dX3_enter_40 (by decide) rfl ?_
              refine V_iload_n cx 42 rfl dX3_enter_41 1 rfl ?_
              refine V_bipush (v := nI 10) cx 44 rfl dX3_enter_42 (by decide) ?_
              refine V_idiv cx 45 rfl dX3_enter_44 (by decide) ?_
              refine V_toi (nI ((10 ^ q) / 10)) (nI_div (by omega) (by omega)) ?_
              refine V_istore_n (lc1 := [(2, .int (nI ((10 ^ q) / 10))), (3, .int (nI b2)), (0, .ref (h 4)), (1, .int (nI t))]) cx 46 rfl dX3_enter_45 (by decide) rfl ?_
              refine V_goto cx 25 dX3_enter_46 (by decide) ?_
              refine V.locs [1, 0, 2, 3] rfl ?_
              exact ih_25 q b2 bl1_9 tu1_8 (by omega) (by exact hb2) (by omega) (by exact ⟨ch1, nd1, hT2, hn2⟩) (by omega)
        refine V.locs [0, 1, 2, 3] rfl ?_
        have hi1 : i = 1 := by omega
        rw [show 10 ^ (szN t - i) = 10 ^ szN t / 10 by rw [hi1, show 10 ^ szN t = 10 ^ (szN t - 1) * 10 by rw [← Nat.pow_succ]; congr 1; omega]; omega]
        exact loop_25 _ (szN t) 0 bl tu (by omega) (by exact hT1.1.1) (by omega) (by exact ⟨ch0, nd0, hT1, by rw [hT1.2.1]; exact (Nat.div_eq_of_lt_le (k := 1) (by omega) (by omega)).symm⟩) (Nat.lt_succ_self _)
      · skip
        have n_9 : i > 1 := N_le_f (by omega) (by omega) c_9
        refine V_iload_n cx 13 rfl dX3_enter_12 1 rfl ?_
        refine V_bipush (v := nI 10) cx 15 rfl dX3_enter_13 (by decide) ?_
        refine V_imul cx 16 rfl dX3_enter_15 ?_
        refine V_toi (nI ((10 ^ (szN t - i)) * 10)) (nI_mulN _ _) ?_
        refine V_istore_n (lc1 := [(2, .int (nI ((10 ^ (szN t - i)) * 10))), (3, .int (nI i)), (0, .ref (h 4)), (1, .int (nI t))]) cx 17 rfl dX3_enter_16 (by decide) rfl ?_
        refine V_iinc (v := nI (i - 1)) (lc1 := [(3, .int (nI (i - 1))), (2, .int (nI ((10 ^ (szN t - i)) * 10))), (0, .ref (h 4)), (1, .int (nI t))]) cx 20 rfl dX3_enter_17 1 rfl (nI_dec i 1 (by omega)) (by decide) rfl ?_
        refine V_goto cx 7 dX3_enter_20 (by decide) ?_
        refine V.locs [0, 1, 2, 3] rfl ?_
        rw [show 10 ^ (szN t - i) * 10 = 10 ^ (szN t - (i - 1)) by rw [show szN t - (i - 1) = szN t - i + 1 by omega, Nat.pow_succ]]
        exact ih_7 (i - 1) (by omega) (by omega)
  refine V.locs [0, 1, 2, 3] rfl ?_
  rw [show nI 1 = nI (10 ^ (szN t - szN t)) by rw [Nat.sub_self]]
  exact loop_7 _ (szN t) (by omega) (Nat.lt_succ_self _)
set_option maxHeartbeats 4000000 in
set_option maxRecDepth 100000 in
theorem kX1_enterPart (l : Launch) (lo : Nat) (G : vG) (rs : va_W) (h : Nat → Nat) (np : Nat) (nl : Nat) (len : Nat) (fd : Nat) (lu : Nat) (tu : Nat) (T : Nat → Int32) (C : Nat → Int32) (F : Nat → Int32) (LT : Nat → Int32) (VV : Nat → Int32) (BB : Nat → Int32) (lt : Nat → Int32) (ph : Nat → Int32) (lh : Nat → Int32) (ks : Nat → Int64) (wd : Nat → Int32) (gr : Nat → Int32) (gs : Nat → Int32) (bl : Nat → Int32) (ie : Nat → Int32) (tw : Nat → Int32) (t : Nat) (cn : Int32) (fl : Int32) (W : Nat → Prop) (hnp : np < 16) (hs : 1 ≤ szN t ∧ szN t ≤ 4) (ht1 : 10 ^ szN t ≤ t) (ht2 : t < 2 * 10 ^ szN t) (htu : tu ≤ 61) (hT : ∃ ch nd, TR ch nd bl ie tu W W) : Mi l yX1_enterPart (.code yX1_enterPart prog_3_method_2_code 5 (some .int)) 4 0 0 lo G [.ref (h 1), .int (nI t), .int cn, .int fl] (cW G h np nl len fd lu tu T C F LT VV BB lt ph lh ks wd gr gs bl ie tw ++ rs) (fun (r : Int32) ((tu1, bl1, ie1) : (Nat) × (Nat → Int32) × (Nat → Int32)) => r = nI np ∧ (∃ ch nd, TR ch nd bl1 ie1 tu1 (wAdd W t) (wAdd W t)) ∧ tu1 ≤ tu + 4) (fun ((tu1, bl1, ie1) : (Nat) × (Nat → Int32) × (Nat → Int32)) => cW G h (np + 1) nl len fd lu tu1 (upd T np (nI t)) (upd C np cn) (upd F np fl) LT VV BB lt ph lh ks wd gr gs bl1 ie1 tw ++ rs) := by
  refine Mi_of (lc := [(0, .ref (h 1)), (1, .int (nI t)), (2, .int cn), (3, .int fl)]) (by decide +kernel) (Nat.le_of_ble_eq_true rfl) rfl ?_
  intro X cx hXR hXl hr hin
  subst hXl
  have hX := RmX.of hXR
  refine V_aload_n cx 1 rfl dX1_enterPart_0 0 rfl ?_
  refine GX1_38 cx 1 rfl rfl 4 rfl dX1_enterPart_1 ?_
  refine V_bipush (v := nI 16) cx 6 rfl dX1_enterPart_4 (by decide) ?_
  refine V_icmp_lt cx 9 11 rfl dX1_enterPart_6 (by decide) (fun c_6 => ?_) (fun c_6 => ?_)
  · skip
    have n_6 : np < 16 := N_lt_t (by omega) (by omega) c_6
    refine V_aload_n cx 12 rfl dX1_enterPart_11 0 rfl ?_
    refine GX1_38 cx 1 rfl rfl 15 rfl dX1_enterPart_12 ?_
    refine V_istore (lc1 := [(4, .int (nI np)), (0, .ref (h 1)), (1, .int (nI t)), (2, .int cn), (3, .int fl)]) cx 17 rfl dX1_enterPart_15 (by decide) rfl ?_
    refine V_aload_n cx 18 rfl dX1_enterPart_17 1 rfl ?_
    refine GX1_9 cx 1 rfl rfl 21 rfl dX1_enterPart_18 ?_
    refine V_iload cx 23 rfl dX1_enterPart_21 0 rfl ?_
    refine V_iload_n cx 24 rfl dX1_enterPart_23 2 rfl ?_
    refine V_iastN cx np (rfl) (by omega) (by decide) 5 rfl (cW G h np nl len fd lu tu (upd T np (nI t)) C F LT VV BB lt ph lh ks wd gr gs bl ie tw ++ rs) rfl 25 rfl dX1_enterPart_24 ?_
    refine V_aload_n cx 26 rfl dX1_enterPart_25 1 rfl ?_
    refine GX1_15 cx 1 rfl rfl 29 rfl dX1_enterPart_26 ?_
    refine V_iload cx 31 rfl dX1_enterPart_29 0 rfl ?_
    refine V_iload_n cx 32 rfl dX1_enterPart_31 3 rfl ?_
    refine V_iastN cx np (rfl) (by omega) (by decide) 6 rfl (cW G h np nl len fd lu tu (upd T np (nI t)) (upd C np cn) F LT VV BB lt ph lh ks wd gr gs bl ie tw ++ rs) rfl 33 rfl dX1_enterPart_32 ?_
    refine V_aload_n cx 34 rfl dX1_enterPart_33 1 rfl ?_
    refine GX1_18 cx 1 rfl rfl 37 rfl dX1_enterPart_34 ?_
    refine V_iload cx 39 rfl dX1_enterPart_37 0 rfl ?_
    refine V_iload_n cx 40 rfl dX1_enterPart_39 4 rfl ?_
    refine V_iastN cx np (rfl) (by omega) (by decide) 7 rfl (cW G h np nl len fd lu tu (upd T np (nI t)) (upd C np cn) (upd F np fl) LT VV BB lt ph lh ks wd gr gs bl ie tw ++ rs) rfl 41 rfl dX1_enterPart_40 ?_
    refine V_aload_n cx 42 rfl dX1_enterPart_41 1 rfl ?_
    refine GX1_34 cx 1 rfl rfl 45 rfl dX1_enterPart_42 ?_
    refine V_iload_n cx 46 rfl dX1_enterPart_45 2 rfl ?_
    refine KX1_42 (As := [.int (nI t)]) (rest := []) cx (kX3_enter (xl X) lo G _ h np nl len fd lu tu (upd T np (nI t)) (upd C np cn) (upd F np fl) LT VV BB lt ph lh ks wd gr gs bl ie tw t W hs ht1 ht2 (by omega) hT) hX (by omega) 4 rfl rfl rfl (Nat.le_of_ble_eq_true rfl) 49 0 0 rfl rfl rfl (by omega) (by omega) dX1_enterPart_46 (fun u_2 hw_3 => ?_)
    obtain ⟨tu1_4, bl1_5, ie1_6⟩ := u_2
    try dsimp only at hw_3
    refine V_aload_n cx 50 rfl dX1_enterPart_49 1 rfl ?_
    refine V_dup cx 51 rfl dX1_enterPart_50 rfl ?_
    refine GX1_38 cx 1 rfl rfl 54 rfl dX1_enterPart_51 ?_
    refine V_iconst (v := nI 1) cx 55 rfl dX1_enterPart_54 (by decide) ?_
    refine V_iadd cx 56 rfl dX1_enterPart_55 ?_
    refine V_toi (nI (np + 1)) (nI_add _ _) ?_
    refine PX1_38 cx 1 rfl (Nat.le_of_ble_eq_true rfl) (cW G h (np + 1) nl len fd lu tu1_4 (upd T np (nI t)) (upd C np cn) (upd F np fl) LT VV BB lt ph lh ks wd gr gs bl1_5 ie1_6 tw ++ rs) rfl 59 rfl dX1_enterPart_56 ?_
    refine V_iload cx 61 rfl dX1_enterPart_59 0 rfl ?_
    exact V_ireturn cx hr (tu1_4, bl1_5, ie1_6) (⟨rfl, hw_3⟩) rfl (by omega) (by omega) dX1_enterPart_61
  · skip
    have n_6 : np ≥ 16 := N_lt_f (by omega) (by omega) c_6
    omega
set_option maxHeartbeats 4000000 in
set_option maxRecDepth 100000 in
theorem kX0_begin (l : Launch) (lo : Nat) (G : vG) (rs : va_W) (h : Nat → Nat) (np : Nat) (nl : Nat) (len : Nat) (fd : Nat) (lu : Nat) (tu : Nat) (T : Nat → Int32) (C : Nat → Int32) (F : Nat → Int32) (LT : Nat → Int32) (VV : Nat → Int32) (BB : Nat → Int32) (lt : Nat → Int32) (ph : Nat → Int32) (lh : Nat → Int32) (ks : Nat → Int64) (wd : Nat → Int32) (gr : Nat → Int32) (gs : Nat → Int32) (bl : Nat → Int32) (ie : Nat → Int32) (tw : Nat → Int32) (u : Int32) (hlu : lu < 50) : Mv l yX0_begin (.code yX0_begin prog_2_method_2_code 2 none) 2 0 0 lo G [.ref (h 3), .int u] (cW G h np nl len fd lu tu T C F LT VV BB lt ph lh ks wd gr gs bl ie tw ++ rs) (fun (_ : Unit) => True) (fun (_ : Unit) => cW G h np nl len fd (lu + 1) tu T C F LT VV BB lt ph lh ks (upd wd lu u) gr (upd gs lu (nI 0)) bl ie tw ++ rs) := by
  refine Mv_of (lc := [(0, .ref (h 3)), (1, .int u)]) (by decide +kernel) (Nat.le_of_ble_eq_true rfl) rfl ?_
  intro X cx hXR hXl hr hin
  subst hXl
  have hX := RmX.of hXR
  refine V_aload_n cx 1 rfl dX0_begin_0 0 rfl ?_
  refine GX0_25 cx 3 rfl rfl 4 rfl dX0_begin_1 ?_
  refine V_bipush (v := nI 50) cx 6 rfl dX0_begin_4 (by decide) ?_
  refine V_icmp_ge cx 9 39 rfl dX0_begin_6 (by decide) (fun c_6 => ?_) (fun c_6 => ?_)
  · skip
    have n_6 : lu ≥ 50 := N_ge_t (by omega) (by omega) c_6
    omega
  · skip
    have n_6 : lu < 50 := N_ge_f (by omega) (by omega) c_6
    refine V_aload_n cx 10 rfl dX0_begin_9 0 rfl ?_
    refine GX0_9 cx 3 rfl rfl 13 rfl dX0_begin_10 ?_
    refine V_aload_n cx 14 rfl dX0_begin_13 0 rfl ?_
    refine GX0_25 cx 3 rfl rfl 17 rfl dX0_begin_14 ?_
    refine V_iload_n cx 18 rfl dX0_begin_17 1 rfl ?_
    refine V_iastN cx lu (rfl) (by omega) (by decide) 15 rfl (cW G h np nl len fd lu tu T C F LT VV BB lt ph lh ks (upd wd lu u) gr gs bl ie tw ++ rs) rfl 19 rfl dX0_begin_18 ?_
    refine V_aload_n cx 20 rfl dX0_begin_19 0 rfl ?_
    refine GX0_18 cx 3 rfl rfl 23 rfl dX0_begin_20 ?_
    refine V_aload_n cx 24 rfl dX0_begin_23 0 rfl ?_
    refine GX0_25 cx 3 rfl rfl 27 rfl dX0_begin_24 ?_
    refine V_iconst (v := nI 0) cx 28 rfl dX0_begin_27 (by decide) ?_
    refine V_iastN cx lu (rfl) (by omega) (by decide) 17 rfl (cW G h np nl len fd lu tu T C F LT VV BB lt ph lh ks (upd wd lu u) gr (upd gs lu (nI 0)) bl ie tw ++ rs) rfl 29 rfl dX0_begin_28 ?_
    refine V_aload_n cx 30 rfl dX0_begin_29 0 rfl ?_
    refine V_dup cx 31 rfl dX0_begin_30 rfl ?_
    refine GX0_25 cx 3 rfl rfl 34 rfl dX0_begin_31 ?_
    refine V_iconst (v := nI 1) cx 35 rfl dX0_begin_34 (by decide) ?_
    refine V_iadd cx 36 rfl dX0_begin_35 ?_
    refine V_toi (nI (lu + 1)) (nI_add _ _) ?_
    refine PX0_25 cx 3 rfl (Nat.le_of_ble_eq_true rfl) (cW G h np nl len fd (lu + 1) tu T C F LT VV BB lt ph lh ks (upd wd lu u) gr (upd gs lu (nI 0)) bl ie tw ++ rs) rfl 39 rfl dX0_begin_36 ?_
    exact V_vreturn cx hr () (by first | rfl | trivial) rfl (by omega) (by omega) dX0_begin_39
set_option maxHeartbeats 4000000 in
set_option maxRecDepth 100000 in
theorem kX0_grow (l : Launch) (lo : Nat) (G : vG) (rs : va_W) (h : Nat → Nat) (np : Nat) (nl : Nat) (len : Nat) (fd : Nat) (lu : Nat) (tu : Nat) (T : Nat → Int32) (C : Nat → Int32) (F : Nat → Int32) (LT : Nat → Int32) (VV : Nat → Int32) (BB : Nat → Int32) (lt : Nat → Int32) (ph : Nat → Int32) (lh : Nat → Int32) (ks : Nat → Int64) (wd : Nat → Int32) (gr : Nat → Int32) (gs : Nat → Int32) (bl : Nat → Int32) (ie : Nat → Int32) (tw : Nat → Int32) (p : Nat) (cc : Nat) (m : Nat) (hlu : 0 < lu ∧ lu ≤ 50) (hp : p < 16) (hc : C p = nI cc ∧ cc ≤ 9999) (hg : gs (lu - 1) = nI m ∧ m < 8) : Mv l yX0_grow (.code yX0_grow prog_2_method_3_code 4 none) 2 0 0 lo G [.ref (h 3), .int (nI p)] (cW G h np nl len fd lu tu T C F LT VV BB lt ph lh ks wd gr gs bl ie tw ++ rs) (fun ((C1, gr1, gs1) : (Nat → Int32) × (Nat → Int32) × (Nat → Int32)) => (cc < 9999 ∧ C1 = upd C p (nI (cc + 1)) ∧ gr1 = upd gr ((lu - 1) * 8 + m) (nI p) ∧ gs1 = upd gs (lu - 1) (nI (m + 1))) ∨ (cc = 9999 ∧ C1 = C ∧ gr1 = gr ∧ gs1 = gs)) (fun ((C1, gr1, gs1) : (Nat → Int32) × (Nat → Int32) × (Nat → Int32)) => cW G h np nl len fd lu tu T C1 F LT VV BB lt ph lh ks wd gr1 gs1 bl ie tw ++ rs) := by
  refine Mv_of (lc := [(0, .ref (h 3)), (1, .int (nI p))]) (by decide +kernel) (Nat.le_of_ble_eq_true rfl) rfl ?_
  intro X cx hXR hXl hr hin
  subst hXl
  have hX := RmX.of hXR
  refine V_aload_n cx 1 rfl dX0_grow_0 0 rfl ?_
  refine GX0_25 cx 3 rfl rfl 4 rfl dX0_grow_1 ?_
  refine V_iconst (v := nI 1) cx 5 rfl dX0_grow_4 (by decide) ?_
  refine V_isub cx 6 rfl dX0_grow_5 ?_
  refine V_toi (nI (lu - 1)) (nI_subN (by omega)) ?_
  refine V_istore_n (lc1 := [(2, .int (nI (lu - 1))), (0, .ref (h 3)), (1, .int (nI p))]) cx 7 rfl dX0_grow_6 (by decide) rfl ?_
  refine V_iload_n cx 8 rfl dX0_grow_7 0 rfl ?_
  refine V_if_lt cx 11 36 rfl dX0_grow_8 (by decide) (fun c_8 => ?_) (fun c_8 => ?_)
  · skip
    have n_8 : lu - 1 < 0 := Z_lt_t (by omega) c_8
    exact V_vreturn cx hr (C, gr, gs) (Or.inr ⟨by omega, rfl, rfl, rfl⟩) rfl (by omega) (by omega) dX0_grow_36
  · skip
    have n_8 : lu - 1 ≥ 0 := Z_lt_f (by omega) c_8
    refine V_iload_n cx 12 rfl dX0_grow_11 2 rfl ?_
    refine V_if_lt cx 15 36 rfl dX0_grow_12 (by decide) (fun c_12 => ?_) (fun c_12 => ?_)
    · skip
      have n_12 : p < 0 := Z_lt_t (by omega) c_12
      exact V_vreturn cx hr (C, gr, gs) (Or.inr ⟨by omega, rfl, rfl, rfl⟩) rfl (by omega) (by omega) dX0_grow_36
    · skip
      have n_12 : p ≥ 0 := Z_lt_f (by omega) c_12
      refine V_iload_n cx 16 rfl dX0_grow_15 2 rfl ?_
      refine V_bipush (v := nI 16) cx 18 rfl dX0_grow_16 (by decide) ?_
      refine V_icmp_ge cx 21 36 rfl dX0_grow_18 (by decide) (fun c_18 => ?_) (fun c_18 => ?_)
      · skip
        have n_18 : p ≥ 16 := N_ge_t (by omega) (by omega) c_18
        exact V_vreturn cx hr (C, gr, gs) (Or.inr ⟨by omega, rfl, rfl, rfl⟩) rfl (by omega) (by omega) dX0_grow_36
      · skip
        have n_18 : p < 16 := N_ge_f (by omega) (by omega) c_18
        refine V_aload_n cx 22 rfl dX0_grow_21 1 rfl ?_
        refine GX0_21 cx 3 rfl rfl 25 rfl dX0_grow_22 ?_
        refine GX0_29 cx 1 rfl rfl 28 rfl dX0_grow_25 ?_
        refine V_iload_n cx 29 rfl dX0_grow_28 2 rfl ?_
        refine V_ialdN cx p (rfl) (by omega) (by decide) 6 rfl 30 rfl dX0_grow_29 ?_
        refine V_toi (nI cc) (hc.1) ?_
        refine V_sipush (v := nI 9999) cx 33 rfl dX0_grow_30 (by decide) ?_
        refine V_icmp_lt cx 36 37 rfl dX0_grow_33 (by decide) (fun c_33 => ?_) (fun c_33 => ?_)
        · skip
          have n_33 : cc < 9999 := N_lt_t (by omega) (by omega) c_33
          refine V_aload_n cx 38 rfl dX0_grow_37 1 rfl ?_
          refine GX0_18 cx 3 rfl rfl 41 rfl dX0_grow_38 ?_
          refine V_iload_n cx 42 rfl dX0_grow_41 0 rfl ?_
          refine V_ialdN cx (lu - 1) (rfl) (by omega) (by decide) 17 rfl 43 rfl dX0_grow_42 ?_
          refine V_toi (nI m) (hg.1) ?_
          refine V_istore_n (lc1 := [(3, .int (nI m)), (2, .int (nI (lu - 1))), (0, .ref (h 3)), (1, .int (nI p))]) cx 44 rfl dX0_grow_43 (by decide) rfl ?_
          refine V_iload_n cx 45 rfl dX0_grow_44 0 rfl ?_
          refine V_bipush (v := nI 8) cx 47 rfl dX0_grow_45 (by decide) ?_
          refine V_icmp_ge cx 50 85 rfl dX0_grow_47 (by decide) (fun c_47 => ?_) (fun c_47 => ?_)
          · skip
            have n_47 : m ≥ 8 := N_ge_t (by omega) (by omega) c_47
            omega
          · skip
            have n_47 : m < 8 := N_ge_f (by omega) (by omega) c_47
            refine V_aload_n cx 51 rfl dX0_grow_50 2 rfl ?_
            refine GX0_21 cx 3 rfl rfl 54 rfl dX0_grow_51 ?_
            refine GX0_29 cx 1 rfl rfl 57 rfl dX0_grow_54 ?_
            refine V_iload_n cx 58 rfl dX0_grow_57 3 rfl ?_
            refine V_dup2 cx 59 rfl dX0_grow_58 rfl rfl ?_
            refine V_ialdN cx p (rfl) (by omega) (by decide) 6 rfl 60 rfl dX0_grow_59 ?_
            refine V_toi (nI cc) (hc.1) ?_
            refine V_iconst (v := nI 1) cx 61 rfl dX0_grow_60 (by decide) ?_
            refine V_iadd cx 62 rfl dX0_grow_61 ?_
            refine V_toi (nI (cc + 1)) (nI_add _ _) ?_
            refine V_iastN cx p (rfl) (by omega) (by decide) 6 rfl (cW G h np nl len fd lu tu T (upd C p (nI (cc + 1))) F LT VV BB lt ph lh ks wd gr gs bl ie tw ++ rs) rfl 63 rfl dX0_grow_62 ?_
            refine V_aload_n cx 64 rfl dX0_grow_63 2 rfl ?_
            refine GX0_15 cx 3 rfl rfl 67 rfl dX0_grow_64 ?_
            refine V_iload_n cx 68 rfl dX0_grow_67 1 rfl ?_
            refine V_bipush (v := nI 8) cx 70 rfl dX0_grow_68 (by decide) ?_
            refine V_imul cx 71 rfl dX0_grow_70 ?_
            refine V_toi (nI ((lu - 1) * 8)) (nI_mulN _ _) ?_
            refine V_iload_n cx 72 rfl dX0_grow_71 0 rfl ?_
            refine V_iadd cx 73 rfl dX0_grow_72 ?_
            refine V_toi (nI (((lu - 1) * 8) + m)) (nI_add _ _) ?_
            refine V_iload_n cx 74 rfl dX0_grow_73 3 rfl ?_
            refine V_iastN cx (((lu - 1) * 8) + m) (rfl) (by omega) (by decide) 16 rfl (cW G h np nl len fd lu tu T (upd C p (nI (cc + 1))) F LT VV BB lt ph lh ks wd (upd gr (((lu - 1) * 8) + m) (nI p)) gs bl ie tw ++ rs) rfl 75 rfl dX0_grow_74 ?_
            refine V_aload_n cx 76 rfl dX0_grow_75 2 rfl ?_
            refine GX0_18 cx 3 rfl rfl 79 rfl dX0_grow_76 ?_
            refine V_iload_n cx 80 rfl dX0_grow_79 1 rfl ?_
            refine V_dup2 cx 81 rfl dX0_grow_80 rfl rfl ?_
            refine V_ialdN cx (lu - 1) (rfl) (by omega) (by decide) 17 rfl 82 rfl dX0_grow_81 ?_
            refine V_toi (nI m) (hg.1) ?_
            refine V_iconst (v := nI 1) cx 83 rfl dX0_grow_82 (by decide) ?_
            refine V_iadd cx 84 rfl dX0_grow_83 ?_
            refine V_toi (nI (m + 1)) (nI_add _ _) ?_
            refine V_iastN cx (lu - 1) (rfl) (by omega) (by decide) 17 rfl (cW G h np nl len fd lu tu T (upd C p (nI (cc + 1))) F LT VV BB lt ph lh ks wd (upd gr (((lu - 1) * 8) + m) (nI p)) (upd gs (lu - 1) (nI (m + 1))) bl ie tw ++ rs) rfl 85 rfl dX0_grow_84 ?_
            exact V_vreturn cx hr (upd C p (nI (cc + 1)), upd gr (((lu - 1) * 8) + m) (nI p), upd gs (lu - 1) (nI (m + 1))) (Or.inl ⟨n_33, rfl, rfl, rfl⟩) rfl (by omega) (by omega) dX0_grow_85
        · skip
          have n_33 : cc ≥ 9999 := N_lt_f (by omega) (by omega) c_33
          exact V_vreturn cx hr (C, gr, gs) (Or.inr ⟨by omega, rfl, rfl, rfl⟩) rfl (by omega) (by omega) dX0_grow_36
set_option maxHeartbeats 4000000 in
set_option maxRecDepth 100000 in
theorem kX0_takeBack (l : Launch) (lo : Nat) (G : vG) (rs : va_W) (h : Nat → Nat) (np : Nat) (nl : Nat) (len : Nat) (fd : Nat) (lu : Nat) (tu : Nat) (T : Nat → Int32) (C : Nat → Int32) (F : Nat → Int32) (LT : Nat → Int32) (VV : Nat → Int32) (BB : Nat → Int32) (lt : Nat → Int32) (ph : Nat → Int32) (lh : Nat → Int32) (ks : Nat → Int64) (wd : Nat → Int32) (gr : Nat → Int32) (gs : Nat → Int32) (bl : Nat → Int32) (ie : Nat → Int32) (tw : Nat → Int32) (n : Nat) (gv : Nat → Nat) (hlu : 0 < lu ∧ lu ≤ 50) (hg : gs (lu - 1) = nI n ∧ n ≤ 8) (hgr : ∀ i, i < n → gr ((lu - 1) * 8 + i) = nI (gv i) ∧ gv i < 16) : Mi l yX0_takeBack (.code yX0_takeBack prog_2_method_4_code 2 (some .int)) 2 0 0 lo G [.ref (h 3)] (cW G h np nl len fd lu tu T C F LT VV BB lt ph lh ks wd gr gs bl ie tw ++ rs) (fun (r : Int32) (_ : Unit) => r = wd (lu - 1)) (fun (_ : Unit) => cW G h np nl len fd (lu - 1) tu T (tkb C gv n) F LT VV BB lt ph lh ks wd gr gs bl ie tw ++ rs) := by
  refine Mi_of (lc := [(0, .ref (h 3))]) (by decide +kernel) (Nat.le_of_ble_eq_true rfl) rfl ?_
  intro X cx hXR hXl hr hin
  subst hXl
  have hX := RmX.of hXR
  refine V_aload_n cx 1 rfl dX0_takeBack_0 0 rfl ?_
  refine GX0_25 cx 3 rfl rfl 4 rfl dX0_takeBack_1 ?_
  refine V_if_gt cx 7 9 rfl dX0_takeBack_4 (by decide) (fun c_4 => ?_) (fun c_4 => ?_)
  · skip
    have n_4 : lu > 0 := Z_gt_t (by omega) c_4
    refine V_aload_n cx 10 rfl dX0_takeBack_9 0 rfl ?_
    refine V_dup cx 11 rfl dX0_takeBack_10 rfl ?_
    refine GX0_25 cx 3 rfl rfl 14 rfl dX0_takeBack_11 ?_
    refine V_iconst (v := nI 1) cx 15 rfl dX0_takeBack_14 (by decide) ?_
    refine V_isub cx 16 rfl dX0_takeBack_15 ?_
    refine V_toi (nI (lu - 1)) (nI_subN (by omega)) ?_
    refine PX0_25 cx 3 rfl (Nat.le_of_ble_eq_true rfl) (cW G h np nl len fd (lu - 1) tu T C F LT VV BB lt ph lh ks wd gr gs bl ie tw ++ rs) rfl 19 rfl dX0_takeBack_16 ?_
    refine V_iconst (v := nI 0) cx 20 rfl dX0_takeBack_19 (by decide) ?_
    refine V_istore_n (lc1 := [(1, .int (nI 0)), (0, .ref (h 3))]) cx 21 rfl dX0_takeBack_20 (by decide) rfl ?_
    have loop_21 : ∀ (fuel : Nat) (i : Nat), (i ≤ n) → n - i < fuel → V X lo 2 G (Qi X lo G (fun (r : Int32) (_ : Unit) => r = wd (lu - 1)) (fun (_ : Unit) => cW G h np nl len fd (lu - 1) tu T (tkb C gv n) F LT VV BB lt ph lh ks wd gr gs bl ie tw ++ rs) 0 0) 0 0 (cW G h np nl len fd (lu - 1) tu T (tkb C gv i) F LT VV BB lt ph lh ks wd gr gs bl ie tw ++ rs) [(1, .int (nI i)), (0, .ref (h 3))] [] 21 := by
      intro fuel
      induction fuel with
      | zero => intro i hi hmz; exact absurd hmz (Nat.not_lt_zero _)
      | succ fuel ih_21 =>
        intro i hi hmz_21
        refine V_iload_n cx 22 rfl dX0_takeBack_21 0 rfl ?_
        refine V_aload_n cx 23 rfl dX0_takeBack_22 1 rfl ?_
        refine GX0_18 cx 3 rfl rfl 26 rfl dX0_takeBack_23 ?_
        refine V_aload_n cx 27 rfl dX0_takeBack_26 1 rfl ?_
        refine GX0_25 cx 3 rfl rfl 30 rfl dX0_takeBack_27 ?_
        refine V_ialdN cx (lu - 1) (rfl) (by omega) (by decide) 17 rfl 31 rfl dX0_takeBack_30 ?_
        refine V_toi (nI n) (hg.1) ?_
        refine V_icmp_ge cx 34 66 rfl dX0_takeBack_31 (by decide) (fun c_31 => ?_) (fun c_31 => ?_)
        · skip
          have n_31 : i ≥ n := N_ge_t (by omega) (by omega) c_31
          have hin : i = n := by omega
          subst hin
          refine V_aload_n cx 67 rfl dX0_takeBack_66 1 rfl ?_
          refine GX0_9 cx 3 rfl rfl 70 rfl dX0_takeBack_67 ?_
          refine V_aload_n cx 71 rfl dX0_takeBack_70 1 rfl ?_
          refine GX0_25 cx 3 rfl rfl 74 rfl dX0_takeBack_71 ?_
          refine V_ialdN cx (lu - 1) (rfl) (by omega) (by decide) 15 rfl 75 rfl dX0_takeBack_74 ?_
          exact V_ireturn cx hr () (by rfl) rfl (by omega) (by omega) dX0_takeBack_75
        · skip
          have n_31 : i < n := N_ge_f (by omega) (by omega) c_31
          refine V_aload_n cx 35 rfl dX0_takeBack_34 1 rfl ?_
          refine GX0_21 cx 3 rfl rfl 38 rfl dX0_takeBack_35 ?_
          refine GX0_29 cx 1 rfl rfl 41 rfl dX0_takeBack_38 ?_
          refine V_aload_n cx 42 rfl dX0_takeBack_41 1 rfl ?_
          refine GX0_15 cx 3 rfl rfl 45 rfl dX0_takeBack_42 ?_
          refine V_aload_n cx 46 rfl dX0_takeBack_45 1 rfl ?_
          refine GX0_25 cx 3 rfl rfl 49 rfl dX0_takeBack_46 ?_
          refine V_bipush (v := nI 8) cx 51 rfl dX0_takeBack_49 (by decide) ?_
          refine V_imul cx 52 rfl dX0_takeBack_51 ?_
          refine V_toi (nI ((lu - 1) * 8)) (nI_mulN _ _) ?_
          refine V_iload_n cx 53 rfl dX0_takeBack_52 0 rfl ?_
          refine V_iadd cx 54 rfl dX0_takeBack_53 ?_
          refine V_toi (nI (((lu - 1) * 8) + i)) (nI_add _ _) ?_
          refine V_ialdN cx (((lu - 1) * 8) + i) (rfl) (by omega) (by decide) 16 rfl 55 rfl dX0_takeBack_54 ?_
          refine V_toi (nI (gv i)) ((hgr i n_31).1) ?_
          have hgb := (hgr i n_31).2
          refine V_dup2 cx 56 rfl dX0_takeBack_55 rfl rfl ?_
          refine V_ialdN cx (gv i) (rfl) (by omega) (by decide) 6 rfl 57 rfl dX0_takeBack_56 ?_
          refine V_iconst (v := nI 1) cx 58 rfl dX0_takeBack_57 (by decide) ?_
          refine V_isub cx 59 rfl dX0_takeBack_58 ?_
          refine V_iastN cx (gv i) (rfl) (by omega) (by decide) 6 rfl (cW G h np nl len fd (lu - 1) tu T (upd (tkb C gv i) (gv i) (((tkb C gv i) (gv i)) - (nI 1))) F LT VV BB lt ph lh ks wd gr gs bl ie tw ++ rs) rfl 60 rfl dX0_takeBack_59 ?_
          refine V_iinc (v := nI (i + 1)) (lc1 := [(1, .int (nI (i + 1))), (0, .ref (h 3))]) cx 63 rfl dX0_takeBack_60 0 rfl (nI_inc i 1) (by decide) rfl ?_
          refine V_goto cx 21 dX0_takeBack_63 (by decide) ?_
          refine V.locs [0, 1] rfl ?_
          exact ih_21 (i + 1) (by omega) (by omega)
    refine V.locs [0, 1] rfl ?_
    exact loop_21 _ 0 (by omega) (Nat.lt_succ_self _)
  · skip
    have n_4 : lu ≤ 0 := Z_gt_f (by omega) c_4
    omega
