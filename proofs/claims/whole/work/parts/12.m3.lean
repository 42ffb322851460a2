def isB (t s : Nat → Nat) (B n k : Nat) : Bool := decide (n ≤ s k ∧ t k / 10 ^ (s k - n) = B)
def rsN (t s : Nat → Nat) (n k : Nat) : Nat := t k % 10 ^ (s k - n) + 10 ^ (s k - n)
def bgN (t s : Nat → Nat) (n k : Nat) : Nat := t k / 10 ^ (s k - n)
def hasR (t s : Nat → Nat) (B n rr : Nat) : Nat → Bool
  | 0 => false
  | k + 1 => hasR t s B n rr k || (isB t s B n k && decide (rsN t s n k = rr))
def areR (t s : Nat → Nat) (np B n B' m : Nat) : Nat → Bool
  | 0 => true
  | k + 1 => areR t s np B n B' m k && (!(isB t s B n k) || hasR t s B' m (rsN t s n k) np)
def eqR (t s : Nat → Nat) (np p n q m : Nat) : Bool := areR t s np (bgN t s n p) n (bgN t s m q) m np && areR t s np (bgN t s m q) m (bgN t s n p) n np
def nwM (e : Nat → Bool) (acc : Bool) : Nat → Bool
  | 0 => acc
  | m + 1 => nwM e acc m && !(e m)
def nwQ (E : Nat → Nat → Bool) (lim : Nat → Nat) : Nat → Bool
  | 0 => true
  | q + 1 => nwM (E q) (nwQ E lim q) (lim q)
def cntB (b : Nat → Bool) : Nat → Nat
  | 0 => 0
  | n + 1 => cntB b n + (if b n = true then 1 else 0)
def totN (c : Nat → Nat) : Nat → Nat
  | 0 => 0
  | p + 1 => totN c p + c p
def nwPN (t s : Nat → Nat) (np p n : Nat) : Nat → Bool := nwQ (fun q m => eqR t s np p n q m) (fun q => if q < p then s q + 1 else n)
def cntP (t s : Nat → Nat) (np p : Nat) : Nat → Nat := cntB (fun n => nwPN t s np p n (p + 1))
def nodesM (t s : Nat → Nat) (np : Nat) : Nat → Nat := totN (fun p => cntP t s np p (s p + 1))
theorem cntB_le (b : Nat → Bool) (n : Nat) : cntB b n ≤ n := by
  induction n with
  | zero => exact Nat.le_refl _
  | succ n ih => unfold cntB; split <;> omega
theorem rsN_le (t s : Nat → Nat) (n k : Nat) (h : s k ≤ 4) : rsN t s n k ≤ 20000 := by
  have h1 := Nat.mod_lt (t k) (show 10 ^ (s k - n) > 0 from p10_pos _)
  have h2 : 10 ^ (s k - n) ≤ 10 ^ 4 := p10_le (by omega)
  unfold rsN
  omega
set_option maxHeartbeats 4000000 in
set_option maxRecDepth 100000 in
theorem kX5_beginning (l : Launch) (lo : Nat) (G : vG) (rs : va_W) (g : Nat → Nat) (th : Nat) (np : Nat) (nl : Nat) (ld : Nat) (ll : Nat) (mn : Int32) (sp : Nat) (T : Nat → Int32) (S : Nat → Int32) (C : Nat → Int32) (F : Nat → Int32) (LT : Nat → Int32) (LS : Nat → Int32) (VE : Nat → Int32) (BA : Nat → Int32) (wd : Nat → Int32) (mo : Nat → Int32) (lt : Nat → Int32) (op : Nat → Int32) (pl : Nat → Int32) (pt : Nat → Int32) (ks : Nat → Int64) (p : Nat) (n : Nat) (t : Nat → Nat) (s : Nat → Nat) (hnp : np ≤ 16) (hts : ∀ i, i < np → T i = nI (t i) ∧ S i = nI (s i) ∧ 1 ≤ s i ∧ s i ≤ 4 ∧ t i < 20000) (hp : p < np) (hn : n ≤ s p) : Mi l yX5_beginning (.code yX5_beginning prog_7_method_18_code 3 (some .int)) 3 0 0 lo G [.ref (g 0), .int (nI p), .int (nI n)] (mW G g th np nl ld ll mn sp T S C F LT LS VE BA wd mo lt op pl pt ks ++ rs) (fun (r : Int32) (_ : Unit) => r = nI (bgN t s n p)) (fun (_ : Unit) => mW G g th np nl ld ll mn sp T S C F LT LS VE BA wd mo lt op pl pt ks ++ rs) := by
  refine Mi_of (lc := [(0, .ref (g 0)), (1, .int (nI p)), (2, .int (nI n))]) (by decide +kernel) (Nat.le_of_ble_eq_true rfl) rfl ?_
  intro X cx hXR hXl hr hin
  subst hXl
  have hX := RmX.of hXR
  obtain ⟨eT, eS, s1, s4, t2⟩ := hts p hp
  refine V_aload_n cx 1 rfl dX5_beginning_0 0 rfl ?_
  refine GX5_7 cx 0 rfl rfl 4 rfl dX5_beginning_1 ?_
  refine V_iload_n cx 5 rfl dX5_beginning_4 1 rfl ?_
  refine V_ialdN cx p (rfl) (by omega) (by decide) 1 rfl 6 rfl dX5_beginning_5 ?_
  refine V_toi (nI (t p)) (eT) ?_
  refine V_aload_n cx 7 rfl dX5_beginning_6 0 rfl ?_
  refine GX5_13 cx 0 rfl rfl 10 rfl dX5_beginning_7 ?_
  refine V_iload_n cx 11 rfl dX5_beginning_10 1 rfl ?_
  refine V_ialdN cx p (rfl) (by omega) (by decide) 2 rfl 12 rfl dX5_beginning_11 ?_
  refine V_toi (nI (s p)) (eS) ?_
  refine V_iload_n cx 13 rfl dX5_beginning_12 2 rfl ?_
  refine V_isub cx 14 rfl dX5_beginning_13 ?_
  refine V_toi (nI ((s p) - n)) (nI_subN (by omega)) ?_
  refine KX5_60 (As := [.int (nI ((s p) - n))]) (rest := [.int (nI (t p))]) cx (kX5_power (xl X) lo G _ ((s p) - n) (by omega)) hX (by omega) rfl rfl (Nat.le_of_ble_eq_true rfl) 17 0 0 rfl rfl rfl (by omega) (by omega) dX5_beginning_14 (fun r_1 u_2 hw_3 => ?_)
  try dsimp only at hw_3
  subst hw_3
  have fk_4 := p10_pos ((s p) - n)
  have fk_5 := p10_bd (show ((s p) - n) ≤ 9 by omega)
  refine V_idiv cx 18 rfl dX5_beginning_17 (by exact nI_ne0 (by omega) (by omega)) ?_
  refine V_toi (nI ((t p) / (10 ^ ((s p) - n)))) (nI_div (by omega) (by omega)) ?_
  exact V_ireturn cx hr () (by first | rfl | trivial) rfl (by omega) (by omega) dX5_beginning_18
set_option maxHeartbeats 4000000 in
set_option maxRecDepth 100000 in
theorem kX5_rest (l : Launch) (lo : Nat) (G : vG) (rs : va_W) (g : Nat → Nat) (th : Nat) (np : Nat) (nl : Nat) (ld : Nat) (ll : Nat) (mn : Int32) (sp : Nat) (T : Nat → Int32) (S : Nat → Int32) (C : Nat → Int32) (F : Nat → Int32) (LT : Nat → Int32) (LS : Nat → Int32) (VE : Nat → Int32) (BA : Nat → Int32) (wd : Nat → Int32) (mo : Nat → Int32) (lt : Nat → Int32) (op : Nat → Int32) (pl : Nat → Int32) (pt : Nat → Int32) (ks : Nat → Int64) (p : Nat) (n : Nat) (t : Nat → Nat) (s : Nat → Nat) (hnp : np ≤ 16) (hts : ∀ i, i < np → T i = nI (t i) ∧ S i = nI (s i) ∧ 1 ≤ s i ∧ s i ≤ 4 ∧ t i < 20000) (hp : p < np) (hn : n ≤ s p) : Mi l yX5_rest (.code yX5_rest prog_7_method_19_code 3 (some .int)) 3 0 0 lo G [.ref (g 0), .int (nI p), .int (nI n)] (mW G g th np nl ld ll mn sp T S C F LT LS VE BA wd mo lt op pl pt ks ++ rs) (fun (r : Int32) (_ : Unit) => r = nI (rsN t s n p)) (fun (_ : Unit) => mW G g th np nl ld ll mn sp T S C F LT LS VE BA wd mo lt op pl pt ks ++ rs) := by
  refine Mi_of (lc := [(0, .ref (g 0)), (1, .int (nI p)), (2, .int (nI n))]) (by decide +kernel) (Nat.le_of_ble_eq_true rfl) rfl ?_
  intro X cx hXR hXl hr hin
  subst hXl
  have hX := RmX.of hXR
  obtain ⟨eT, eS, s1, s4, t2⟩ := hts p hp
  refine V_aload_n cx 1 rfl dX5_rest_0 0 rfl ?_
  refine GX5_7 cx 0 rfl rfl 4 rfl dX5_rest_1 ?_
  refine V_iload_n cx 5 rfl dX5_rest_4 1 rfl ?_
  refine V_ialdN cx p (rfl) (by omega) (by decide) 1 rfl 6 rfl dX5_rest_5 ?_
  refine V_toi (nI (t p)) (eT) ?_
  refine V_aload_n cx 7 rfl dX5_rest_6 0 rfl ?_
  refine GX5_13 cx 0 rfl rfl 10 rfl dX5_rest_7 ?_
  refine V_iload_n cx 11 rfl dX5_rest_10 1 rfl ?_
  refine V_ialdN cx p (rfl) (by omega) (by decide) 2 rfl 12 rfl dX5_rest_11 ?_
  refine V_toi (nI (s p)) (eS) ?_
  refine V_iload_n cx 13 rfl dX5_rest_12 2 rfl ?_
  refine V_isub cx 14 rfl dX5_rest_13 ?_
  refine V_toi (nI ((s p) - n)) (nI_subN (by omega)) ?_
  refine KX5_60 (As := [.int (nI ((s p) - n))]) (rest := [.int (nI (t p))]) cx (kX5_power (xl X) lo G _ ((s p) - n) (by omega)) hX (by omega) rfl rfl (Nat.le_of_ble_eq_true rfl) 17 0 0 rfl rfl rfl (by omega) (by omega) dX5_rest_14 (fun r_1 u_2 hw_3 => ?_)
  try dsimp only at hw_3
  subst hw_3
  have fk_4 := p10_pos ((s p) - n)
  have fk_5 := p10_bd (show ((s p) - n) ≤ 9 by omega)
  refine V_irem cx 18 rfl dX5_rest_17 (by exact nI_ne0 (by omega) (by omega)) ?_
  refine V_toi (nI ((t p) % (10 ^ ((s p) - n)))) (nI_mod (by omega) (by omega)) ?_
  refine V_aload_n cx 19 rfl dX5_rest_18 0 rfl ?_
  refine GX5_13 cx 0 rfl rfl 22 rfl dX5_rest_19 ?_
  refine V_iload_n cx 23 rfl dX5_rest_22 1 rfl ?_
  refine V_ialdN cx p (rfl) (by omega) (by decide) 2 rfl 24 rfl dX5_rest_23 ?_
  refine V_toi (nI (s p)) (eS) ?_
  refine V_iload_n cx 25 rfl dX5_rest_24 2 rfl ?_
  refine V_isub cx 26 rfl dX5_rest_25 ?_
  refine V_toi (nI ((s p) - n)) (nI_subN (by omega)) ?_
  refine KX5_60 (As := [.int (nI ((s p) - n))]) (rest := [.int (nI ((t p) % (10 ^ ((s p) - n))))]) cx (kX5_power (xl X) lo G _ ((s p) - n) (by omega)) hX (by omega) rfl rfl (Nat.le_of_ble_eq_true rfl) 29 0 0 rfl rfl rfl (by omega) (by omega) dX5_rest_26 (fun r_6 u_7 hw_8 => ?_)
  try dsimp only at hw_8
  subst hw_8
  have fk_9 := p10_pos ((s p) - n)
  have fk_10 := p10_bd (show ((s p) - n) ≤ 9 by omega)
  refine V_iadd cx 30 rfl dX5_rest_29 ?_
  refine V_toi (nI (((t p) % (10 ^ ((s p) - n))) + (10 ^ ((s p) - n)))) (nI_add _ _) ?_
  exact V_ireturn cx hr () (by first | rfl | trivial) rfl (by omega) (by omega) dX5_rest_30
set_option maxHeartbeats 4000000 in
set_option maxRecDepth 100000 in
theorem kX5_hasRest (l : Launch) (lo : Nat) (G : vG) (rs : va_W) (g : Nat → Nat) (th : Nat) (np : Nat) (nl : Nat) (ld : Nat) (ll : Nat) (mn : Int32) (sp : Nat) (T : Nat → Int32) (S : Nat → Int32) (C : Nat → Int32) (F : Nat → Int32) (LT : Nat → Int32) (LS : Nat → Int32) (VE : Nat → Int32) (BA : Nat → Int32) (wd : Nat → Int32) (mo : Nat → Int32) (lt : Nat → Int32) (op : Nat → Int32) (pl : Nat → Int32) (pt : Nat → Int32) (ks : Nat → Int64) (p : Nat) (n : Nat) (rr : Nat) (t : Nat → Nat) (s : Nat → Nat) (hnp : np ≤ 16) (hts : ∀ i, i < np → T i = nI (t i) ∧ S i = nI (s i) ∧ 1 ≤ s i ∧ s i ≤ 4 ∧ t i < 20000) (hp : p < np) (hn : n ≤ s p) (hrr : rr ≤ 20000) : Mi l yX5_hasRest (.code yX5_hasRest prog_7_method_20_code 7 (some .boolean)) 4 0 0 lo G [.ref (g 0), .int (nI p), .int (nI n), .int (nI rr)] (mW G g th np nl ld ll mn sp T S C F LT LS VE BA wd mo lt op pl pt ks ++ rs) (fun (r : Int32) (_ : Unit) => r = bI (hasR t s (bgN t s n p) n rr np)) (fun (_ : Unit) => mW G g th np nl ld ll mn sp T S C F LT LS VE BA wd mo lt op pl pt ks ++ rs) := by
  refine Mi_of (lc := [(0, .ref (g 0)), (1, .int (nI p)), (2, .int (nI n)), (3, .int (nI rr))]) (by decide +kernel) (Nat.le_of_ble_eq_true rfl) rfl ?_
  intro X cx hXR hXl hr hin
  subst hXl
  have hX := RmX.of hXR
  obtain ⟨eTp, eSp, s1p, s4p, t2p⟩ := hts p hp
  refine V_iconst (v := nI 0) cx 1 rfl dX5_hasRest_0 (by decide) ?_
  refine V_istore (lc1 := [(4, .int (nI 0)), (0, .ref (g 0)), (1, .int (nI p)), (2, .int (nI n)), (3, .int (nI rr))]) cx 3 rfl dX5_hasRest_1 (by decide) rfl ?_
  refine V_iconst (v := nI 0) cx 4 rfl dX5_hasRest_3 (by decide) ?_
  refine V_istore (lc1 := [(5, .int (nI 0)), (4, .int (nI 0)), (0, .ref (g 0)), (1, .int (nI p)), (2, .int (nI n)), (3, .int (nI rr))]) cx 6 rfl dX5_hasRest_4 (by decide) rfl ?_
  have loop_6 : ∀ (fuel : Nat) (i : Nat) (b : Bool), (i ≤ np) → (b = hasR t s (bgN t s n p) n rr i) → np - i < fuel → V X lo 7 G (Qi X lo G (fun (r : Int32) (_ : Unit) => r = bI (hasR t s (bgN t s n p) n rr np)) (fun (_ : Unit) => mW G g th np nl ld ll mn sp T S C F LT LS VE BA wd mo lt op pl pt ks ++ rs) 0 0) 0 0 (mW G g th np nl ld ll mn sp T S C F LT LS VE BA wd mo lt op pl pt ks ++ rs) [(5, .int (nI i)), (4, .int (bI b)), (0, .ref (g 0)), (1, .int (nI p)), (2, .int (nI n)), (3, .int (nI rr))] [] 6 := by
    intro fuel
    induction fuel with
    | zero => intro i b hi hb hmz; exact absurd hmz (Nat.not_lt_zero _)
    | succ fuel ih_6 =>
      intro i b hi hb hmz_6
      refine V_iload cx 8 rfl dX5_hasRest_6 0 rfl ?_
      refine V_aload_n cx 9 rfl dX5_hasRest_8 2 rfl ?_
      refine GX5_68 cx 0 rfl rfl 12 rfl dX5_hasRest_9 ?_
      refine V_icmp_ge cx 15 83 rfl dX5_hasRest_12 (by decide) (fun c_12 => ?_) (fun c_12 => ?_)
      · skip
        have n_12 : i ≥ np := N_ge_t (by omega) (by omega) c_12
        refine V_iload cx 85 rfl dX5_hasRest_83 1 rfl ?_
        exact V_zreturn cx hr (by first | rfl | exact bI_z _) () (by rw [hb, show i = np by omega]) rfl (by omega) (by omega) dX5_hasRest_85
      · skip
        have n_12 : i < np := N_ge_f (by omega) (by omega) c_12
        obtain ⟨eT, eS, s1, s4, t2⟩ := hts i (by omega)
        refine V_aload_n cx 16 rfl dX5_hasRest_15 2 rfl ?_
        refine GX5_13 cx 0 rfl rfl 19 rfl dX5_hasRest_16 ?_
        refine V_iload cx 21 rfl dX5_hasRest_19 0 rfl ?_
        refine V_ialdN cx i (rfl) (by omega) (by decide) 2 rfl 22 rfl dX5_hasRest_21 ?_
        refine V_toi (nI (s i)) (eS) ?_
        refine V_iload_n cx 23 rfl dX5_hasRest_22 4 rfl ?_
        refine V_icmp_lt cx 26 46 rfl dX5_hasRest_23 (by decide) (fun c_23 => ?_) (fun c_23 => ?_)
        · skip
          have n_23 : s i < n := N_lt_t (by omega) (by omega) c_23
          refine V_iconst (v := nI 0) cx 47 rfl dX5_hasRest_46 (by decide) ?_
          have e1 : isB t s (bgN t s n p) n i = false := decide_eq_false (fun h => by first | omega | exact n_39 h.2)
          refine V_istore (lc1 := [(6, .int (nI 0)), (5, .int (nI i)), (4, .int (bI b)), (0, .ref (g 0)), (1, .int (nI p)), (2, .int (nI n)), (3, .int (nI rr))]) cx 49 rfl dX5_hasRest_47 (by decide) rfl ?_
          refine V_iload cx 51 rfl dX5_hasRest_49 2 rfl ?_
          refine V_if_ne cx 54 70 rfl dX5_hasRest_51 (by decide) (fun c_51 => ?_) (fun c_51 => ?_)
          · skip
            have n_51 := B_ne_t c_51
            try simp only [decide_eq_true_eq, decide_eq_false_iff_not] at n_51
            refine V_iconst (v := nI 1) cx 71 rfl dX5_hasRest_70 (by decide) ?_
            refine V_goto cx 75 dX5_hasRest_71 (by decide) ?_
            refine V_istore (lc1 := [(4, .int (nI 1)), (6, .int (nI 0)), (5, .int (nI i)), (0, .ref (g 0)), (1, .int (nI p)), (2, .int (nI n)), (3, .int (nI rr))]) cx 77 rfl dX5_hasRest_75 (by decide) rfl ?_
            refine V_iinc (v := nI (i + 1)) (lc1 := [(5, .int (nI (i + 1))), (4, .int (nI 1)), (6, .int (nI 0)), (0, .ref (g 0)), (1, .int (nI p)), (2, .int (nI n)), (3, .int (nI rr))]) cx 80 rfl dX5_hasRest_77 2 rfl (nI_inc i 1) (by decide) rfl ?_
            refine V_goto cx 6 dX5_hasRest_80 (by decide) ?_
            refine V.locs [0, 1, 3, 4, 5, 6] rfl ?_
            exact ih_6 (i + 1) true (by omega) (by first | (rw [hasR, ← hb, n_51, Bool.true_or]; done) | (rw [hasR, e1, decide_eq_true n_67, Bool.and_self, Bool.or_true]; done) | (rw [hasR, ← hb, n_51, e1, Bool.false_and, Bool.or_false]; done) | (rw [hasR, ← hb, n_51, e1, decide_eq_false n_67]; rfl)) (by omega)
          · skip
            have n_51 := B_ne_f c_51
            try simp only [decide_eq_true_eq, decide_eq_false_iff_not] at n_51
            refine V_iload cx 56 rfl dX5_hasRest_54 0 rfl ?_
            refine V_if_eq cx 59 74 rfl dX5_hasRest_56 (by decide) (fun c_56 => ?_) (fun c_56 => ?_)
            · skip
              refine V_iconst (v := nI 0) cx 75 rfl dX5_hasRest_74 (by decide) ?_
              refine V_istore (lc1 := [(4, .int (nI 0)), (6, .int (nI 0)), (5, .int (nI i)), (0, .ref (g 0)), (1, .int (nI p)), (2, .int (nI n)), (3, .int (nI rr))]) cx 77 rfl dX5_hasRest_75 (by decide) rfl ?_
              refine V_iinc (v := nI (i + 1)) (lc1 := [(5, .int (nI (i + 1))), (4, .int (nI 0)), (6, .int (nI 0)), (0, .ref (g 0)), (1, .int (nI p)), (2, .int (nI n)), (3, .int (nI rr))]) cx 80 rfl dX5_hasRest_77 2 rfl (nI_inc i 1) (by decide) rfl ?_
              refine V_goto cx 6 dX5_hasRest_80 (by decide) ?_
              refine V.locs [0, 1, 3, 4, 5, 6] rfl ?_
              exact ih_6 (i + 1) false (by omega) (by first | (rw [hasR, ← hb, n_51, Bool.true_or]; done) | (rw [hasR, e1, decide_eq_true n_67, Bool.and_self, Bool.or_true]; done) | (rw [hasR, ← hb, n_51, e1, Bool.false_and, Bool.or_false]; done) | (rw [hasR, ← hb, n_51, e1, decide_eq_false n_67]; rfl)) (by omega)
            · skip
              exact absurd c_56 (by decide)
        · skip
          have n_23 : s i ≥ n := N_lt_f (by omega) (by omega) c_23
          refine V_aload_n cx 27 rfl dX5_hasRest_26 2 rfl ?_
          refine V_iload cx 29 rfl dX5_hasRest_27 0 rfl ?_
          refine V_iload_n cx 30 rfl dX5_hasRest_29 4 rfl ?_
          refine KX5_88 (As := [.int (nI i), .int (nI n)]) (rest := []) cx (kX5_beginning (xl X) lo G _ g th np nl ld ll mn sp T S C F LT LS VE BA wd mo lt op pl pt ks i n t s (by omega) hts (by omega) (by omega)) hX (by omega) 0 rfl rfl rfl (Nat.le_of_ble_eq_true rfl) 33 0 0 rfl rfl rfl (by omega) (by omega) dX5_hasRest_30 (fun r_1 u_2 hw_3 => ?_)
          try dsimp only at hw_3
          subst hw_3
          have fk_4 := show bgN t s n i ≤ t i from Nat.div_le_self _ _
          refine V_aload_n cx 34 rfl dX5_hasRest_33 2 rfl ?_
          refine V_iload_n cx 35 rfl dX5_hasRest_34 3 rfl ?_
          refine V_iload_n cx 36 rfl dX5_hasRest_35 4 rfl ?_
          refine KX5_88 (As := [.int (nI p), .int (nI n)]) (rest := [.int (nI (bgN t s n i))]) cx (kX5_beginning (xl X) lo G _ g th np nl ld ll mn sp T S C F LT LS VE BA wd mo lt op pl pt ks p n t s (by omega) hts (by omega) (by omega)) hX (by omega) 0 rfl rfl rfl (Nat.le_of_ble_eq_true rfl) 39 0 0 rfl rfl rfl (by omega) (by omega) dX5_hasRest_36 (fun r_5 u_6 hw_7 => ?_)
          try dsimp only at hw_7
          subst hw_7
          have fk_8 := show bgN t s n p ≤ t p from Nat.div_le_self _ _
          refine V_icmp_ne cx 42 46 rfl dX5_hasRest_39 (by decide) (fun c_39 => ?_) (fun c_39 => ?_)
          · skip
            have n_39 : bgN t s n i ≠ bgN t s n p := N_ne_t (by omega) (by omega) c_39
            refine V_iconst (v := nI 0) cx 47 rfl dX5_hasRest_46 (by decide) ?_
            have e1 : isB t s (bgN t s n p) n i = false := decide_eq_false (fun h => by first | omega | exact n_39 h.2)
            refine V_istore (lc1 := [(6, .int (nI 0)), (5, .int (nI i)), (4, .int (bI b)), (0, .ref (g 0)), (1, .int (nI p)), (2, .int (nI n)), (3, .int (nI rr))]) cx 49 rfl dX5_hasRest_47 (by decide) rfl ?_
            refine V_iload cx 51 rfl dX5_hasRest_49 2 rfl ?_
            refine V_if_ne cx 54 70 rfl dX5_hasRest_51 (by decide) (fun c_51 => ?_) (fun c_51 => ?_)
            · skip
              have n_51 := B_ne_t c_51
              try simp only [decide_eq_true_eq, decide_eq_false_iff_not] at n_51
              refine V_iconst (v := nI 1) cx 71 rfl dX5_hasRest_70 (by decide) ?_
              refine V_goto cx 75 dX5_hasRest_71 (by decide) ?_
              refine V_istore (lc1 := [(4, .int (nI 1)), (6, .int (nI 0)), (5, .int (nI i)), (0, .ref (g 0)), (1, .int (nI p)), (2, .int (nI n)), (3, .int (nI rr))]) cx 77 rfl dX5_hasRest_75 (by decide) rfl ?_
              refine V_iinc (v := nI (i + 1)) (lc1 := [(5, .int (nI (i + 1))), (4, .int (nI 1)), (6, .int (nI 0)), (0, .ref (g 0)), (1, .int (nI p)), (2, .int (nI n)), (3, .int (nI rr))]) cx 80 rfl dX5_hasRest_77 2 rfl (nI_inc i 1) (by decide) rfl ?_
              refine V_goto cx 6 dX5_hasRest_80 (by decide) ?_
              refine V.locs [0, 1, 3, 4, 5, 6] rfl ?_
              exact ih_6 (i + 1) true (by omega) (by first | (rw [hasR, ← hb, n_51, Bool.true_or]; done) | (rw [hasR, e1, decide_eq_true n_67, Bool.and_self, Bool.or_true]; done) | (rw [hasR, ← hb, n_51, e1, Bool.false_and, Bool.or_false]; done) | (rw [hasR, ← hb, n_51, e1, decide_eq_false n_67]; rfl)) (by omega)
            · skip
              have n_51 := B_ne_f c_51
              try simp only [decide_eq_true_eq, decide_eq_false_iff_not] at n_51
              refine V_iload cx 56 rfl dX5_hasRest_54 0 rfl ?_
              refine V_if_eq cx 59 74 rfl dX5_hasRest_56 (by decide) (fun c_56 => ?_) (fun c_56 => ?_)
              · skip
                refine V_iconst (v := nI 0) cx 75 rfl dX5_hasRest_74 (by decide) ?_
                refine V_istore (lc1 := [(4, .int (nI 0)), (6, .int (nI 0)), (5, .int (nI i)), (0, .ref (g 0)), (1, .int (nI p)), (2, .int (nI n)), (3, .int (nI rr))]) cx 77 rfl dX5_hasRest_75 (by decide) rfl ?_
                refine V_iinc (v := nI (i + 1)) (lc1 := [(5, .int (nI (i + 1))), (4, .int (nI 0)), (6, .int (nI 0)), (0, .ref (g 0)), (1, .int (nI p)), (2, .int (nI n)), (3, .int (nI rr))]) cx 80 rfl dX5_hasRest_77 2 rfl (nI_inc i 1) (by decide) rfl ?_
                refine V_goto cx 6 dX5_hasRest_80 (by decide) ?_
                refine V.locs [0, 1, 3, 4, 5, 6] rfl ?_
                exact ih_6 (i + 1) false (by omega) (by first | (rw [hasR, ← hb, n_51, Bool.true_or]; done) | (rw [hasR, e1, decide_eq_true n_67, Bool.and_self, Bool.or_true]; done) | (rw [hasR, ← hb, n_51, e1, Bool.false_and, Bool.or_false]; done) | (rw [hasR, ← hb, n_51, e1, decide_eq_false n_67]; rfl)) (by omega)
              · skip
                exact absurd c_56 (by decide)
          · skip
            have n_39 : bgN t s n i = bgN t s n p := N_ne_f (by omega) (by omega) c_39
            refine V_iconst (v := nI 1) cx 43 rfl dX5_hasRest_42 (by decide) ?_
            refine V_goto cx 47 dX5_hasRest_43 (by decide) ?_
            have e1 : isB t s (bgN t s n p) n i = true := decide_eq_true ⟨n_23, n_39⟩
            refine V_istore (lc1 := [(6, .int (nI 1)), (5, .int (nI i)), (4, .int (bI b)), (0, .ref (g 0)), (1, .int (nI p)), (2, .int (nI n)), (3, .int (nI rr))]) cx 49 rfl dX5_hasRest_47 (by decide) rfl ?_
            refine V_iload cx 51 rfl dX5_hasRest_49 2 rfl ?_
            refine V_if_ne cx 54 70 rfl dX5_hasRest_51 (by decide) (fun c_51 => ?_) (fun c_51 => ?_)
            · skip
              have n_51 := B_ne_t c_51
              try simp only [decide_eq_true_eq, decide_eq_false_iff_not] at n_51
              refine V_iconst (v := nI 1) cx 71 rfl dX5_hasRest_70 (by decide) ?_
              refine V_goto cx 75 dX5_hasRest_71 (by decide) ?_
              refine V_istore (lc1 := [(4, .int (nI 1)), (6, .int (nI 1)), (5, .int (nI i)), (0, .ref (g 0)), (1, .int (nI p)), (2, .int (nI n)), (3, .int (nI rr))]) cx 77 rfl dX5_hasRest_75 (by decide) rfl ?_
              refine V_iinc (v := nI (i + 1)) (lc1 := [(5, .int (nI (i + 1))), (4, .int (nI 1)), (6, .int (nI 1)), (0, .ref (g 0)), (1, .int (nI p)), (2, .int (nI n)), (3, .int (nI rr))]) cx 80 rfl dX5_hasRest_77 2 rfl (nI_inc i 1) (by decide) rfl ?_
              refine V_goto cx 6 dX5_hasRest_80 (by decide) ?_
              refine V.locs [0, 1, 3, 4, 5, 6] rfl ?_
              exact ih_6 (i + 1) true (by omega) (by first | (rw [hasR, ← hb, n_51, Bool.true_or]; done) | (rw [hasR, e1, decide_eq_true n_67, Bool.and_self, Bool.or_true]; done) | (rw [hasR, ← hb, n_51, e1, Bool.false_and, Bool.or_false]; done) | (rw [hasR, ← hb, n_51, e1, decide_eq_false n_67]; rfl)) (by omega)
            · skip
              have n_51 := B_ne_f c_51
              try simp only [decide_eq_true_eq, decide_eq_false_iff_not] at n_51
              refine V_iload cx 56 rfl dX5_hasRest_54 0 rfl ?_
              refine V_if_eq cx 59 74 rfl dX5_hasRest_56 (by decide) (fun c_56 => ?_) (fun c_56 => ?_)
              · skip
                exact absurd c_56 (by decide)
              · skip
                refine V_aload_n cx 60 rfl dX5_hasRest_59 3 rfl ?_
                refine V_iload cx 62 rfl dX5_hasRest_60 1 rfl ?_
                refine V_iload_n cx 63 rfl dX5_hasRest_62 5 rfl ?_
                refine KX5_91 (As := [.int (nI i), .int (nI n)]) (rest := []) cx (kX5_rest (xl X) lo G _ g th np nl ld ll mn sp T S C F LT LS VE BA wd mo lt op pl pt ks i n t s (by omega) hts (by omega) (by omega)) hX (by omega) 0 rfl rfl rfl (Nat.le_of_ble_eq_true rfl) 66 0 0 rfl rfl rfl (by omega) (by omega) dX5_hasRest_63 (fun r_9 u_10 hw_11 => ?_)
                try dsimp only at hw_11
                subst hw_11
                have fk_12 := rsN_le t s n i (by omega)
                refine V_iload_n cx 67 rfl dX5_hasRest_66 6 rfl ?_
                refine V_icmp_ne cx 70 74 rfl dX5_hasRest_67 (by decide) (fun c_67 => ?_) (fun c_67 => ?_)
                · skip
                  have n_67 : rsN t s n i ≠ rr := N_ne_t (by omega) (by omega) c_67
                  refine V_iconst (v := nI 0) cx 75 rfl dX5_hasRest_74 (by decide) ?_
                  refine V_istore (lc1 := [(4, .int (nI 0)), (6, .int (nI 1)), (5, .int (nI i)), (0, .ref (g 0)), (1, .int (nI p)), (2, .int (nI n)), (3, .int (nI rr))]) cx 77 rfl dX5_hasRest_75 (by decide) rfl ?_
                  refine V_iinc (v := nI (i + 1)) (lc1 := [(5, .int (nI (i + 1))), (4, .int (nI 0)), (6, .int (nI 1)), (0, .ref (g 0)), (1, .int (nI p)), (2, .int (nI n)), (3, .int (nI rr))]) cx 80 rfl dX5_hasRest_77 2 rfl (nI_inc i 1) (by decide) rfl ?_
                  refine V_goto cx 6 dX5_hasRest_80 (by decide) ?_
                  refine V.locs [0, 1, 3, 4, 5, 6] rfl ?_
                  exact ih_6 (i + 1) false (by omega) (by first | (rw [hasR, ← hb, n_51, Bool.true_or]; done) | (rw [hasR, e1, decide_eq_true n_67, Bool.and_self, Bool.or_true]; done) | (rw [hasR, ← hb, n_51, e1, Bool.false_and, Bool.or_false]; done) | (rw [hasR, ← hb, n_51, e1, decide_eq_false n_67]; rfl)) (by omega)
                · skip
                  have n_67 : rsN t s n i = rr := N_ne_f (by omega) (by omega) c_67
                  refine V_iconst (v := nI 1) cx 71 rfl dX5_hasRest_70 (by decide) ?_
                  refine V_goto cx 75 dX5_hasRest_71 (by decide) ?_
                  refine V_istore (lc1 := [(4, .int (nI 1)), (6, .int (nI 1)), (5, .int (nI i)), (0, .ref (g 0)), (1, .int (nI p)), (2, .int (nI n)), (3, .int (nI rr))]) cx 77 rfl dX5_hasRest_75 (by decide) rfl ?_
                  refine V_iinc (v := nI (i + 1)) (lc1 := [(5, .int (nI (i + 1))), (4, .int (nI 1)), (6, .int (nI 1)), (0, .ref (g 0)), (1, .int (nI p)), (2, .int (nI n)), (3, .int (nI rr))]) cx 80 rfl dX5_hasRest_77 2 rfl (nI_inc i 1) (by decide) rfl ?_
                  refine V_goto cx 6 dX5_hasRest_80 (by decide) ?_
                  refine V.locs [0, 1, 3, 4, 5, 6] rfl ?_
                  exact ih_6 (i + 1) true (by omega) (by first | (rw [hasR, ← hb, n_51, Bool.true_or]; done) | (rw [hasR, e1, decide_eq_true n_67, Bool.and_self, Bool.or_true]; done) | (rw [hasR, ← hb, n_51, e1, Bool.false_and, Bool.or_false]; done) | (rw [hasR, ← hb, n_51, e1, decide_eq_false n_67]; rfl)) (by omega)
  refine V.locs [0, 1, 2, 3, 4, 5] rfl ?_
  exact loop_6 _ 0 false (by omega) (by rfl) (Nat.lt_succ_self _)
set_option maxHeartbeats 4000000 in
set_option maxRecDepth 100000 in
theorem kX5_areRests (l : Launch) (lo : Nat) (G : vG) (rs : va_W) (g : Nat → Nat) (th : Nat) (np : Nat) (nl : Nat) (ld : Nat) (ll : Nat) (mn : Int32) (sp : Nat) (T : Nat → Int32) (S : Nat → Int32) (C : Nat → Int32) (F : Nat → Int32) (LT : Nat → Int32) (LS : Nat → Int32) (VE : Nat → Int32) (BA : Nat → Int32) (wd : Nat → Int32) (mo : Nat → Int32) (lt : Nat → Int32) (op : Nat → Int32) (pl : Nat → Int32) (pt : Nat → Int32) (ks : Nat → Int64) (p : Nat) (n : Nat) (q : Nat) (m : Nat) (t : Nat → Nat) (s : Nat → Nat) (hnp : np ≤ 16) (hts : ∀ i, i < np → T i = nI (t i) ∧ S i = nI (s i) ∧ 1 ≤ s i ∧ s i ≤ 4 ∧ t i < 20000) (hp : p < np) (hn : n ≤ s p) (hq : q < np) (hm : m ≤ s q) : Mi l yX5_areRests (.code yX5_areRests prog_7_method_21_code 8 (some .boolean)) 5 0 0 lo G [.ref (g 0), .int (nI p), .int (nI n), .int (nI q), .int (nI m)] (mW G g th np nl ld ll mn sp T S C F LT LS VE BA wd mo lt op pl pt ks ++ rs) (fun (r : Int32) (_ : Unit) => r = bI (areR t s np (bgN t s n p) n (bgN t s m q) m np)) (fun (_ : Unit) => mW G g th np nl ld ll mn sp T S C F LT LS VE BA wd mo lt op pl pt ks ++ rs) := by
  refine Mi_of (lc := [(0, .ref (g 0)), (1, .int (nI p)), (2, .int (nI n)), (3, .int (nI q)), (4, .int (nI m))]) (by decide +kernel) (Nat.le_of_ble_eq_true rfl) rfl ?_
  intro X cx hXR hXl hr hin
  subst hXl
  have hX := RmX.of hXR
  obtain ⟨eTp, eSp, s1p, s4p, t2p⟩ := hts p hp
  refine V_iconst (v := nI 1) cx 1 rfl dX5_areRests_0 (by decide) ?_
  refine V_istore (lc1 := [(5, .int (nI 1)), (0, .ref (g 0)), (1, .int (nI p)), (2, .int (nI n)), (3, .int (nI q)), (4, .int (nI m))]) cx 3 rfl dX5_areRests_1 (by decide) rfl ?_
  refine V_iconst (v := nI 0) cx 4 rfl dX5_areRests_3 (by decide) ?_
  refine V_istore (lc1 := [(6, .int (nI 0)), (5, .int (nI 1)), (0, .ref (g 0)), (1, .int (nI p)), (2, .int (nI n)), (3, .int (nI q)), (4, .int (nI m))]) cx 6 rfl dX5_areRests_4 (by decide) rfl ?_
  have loop_6 : ∀ (fuel : Nat) (i : Nat) (b : Bool), (i ≤ np) → (b = areR t s np (bgN t s n p) n (bgN t s m q) m i) → np - i < fuel → V X lo 8 G (Qi X lo G (fun (r : Int32) (_ : Unit) => r = bI (areR t s np (bgN t s n p) n (bgN t s m q) m np)) (fun (_ : Unit) => mW G g th np nl ld ll mn sp T S C F LT LS VE BA wd mo lt op pl pt ks ++ rs) 0 0) 0 0 (mW G g th np nl ld ll mn sp T S C F LT LS VE BA wd mo lt op pl pt ks ++ rs) [(6, .int (nI i)), (5, .int (bI b)), (0, .ref (g 0)), (1, .int (nI p)), (2, .int (nI n)), (3, .int (nI q)), (4, .int (nI m))] [] 6 := by
    intro fuel
    induction fuel with
    | zero => intro i b hi hb hmz; exact absurd hmz (Nat.not_lt_zero _)
    | succ fuel ih_6 =>
      intro i b hi hb hmz_6
      refine V_iload cx 8 rfl dX5_areRests_6 0 rfl ?_
      refine V_aload_n cx 9 rfl dX5_areRests_8 2 rfl ?_
      refine GX5_68 cx 0 rfl rfl 12 rfl dX5_areRests_9 ?_
      refine V_icmp_ge cx 15 89 rfl dX5_areRests_12 (by decide) (fun c_12 => ?_) (fun c_12 => ?_)
      · skip
        have n_12 : i ≥ np := N_ge_t (by omega) (by omega) c_12
        refine V_iload cx 91 rfl dX5_areRests_89 1 rfl ?_
        exact V_zreturn cx hr (by first | rfl | exact bI_z _) () (by rw [hb, show i = np by omega]) rfl (by omega) (by omega) dX5_areRests_91
      · skip
        have n_12 : i < np := N_ge_f (by omega) (by omega) c_12
        obtain ⟨eT, eS, s1, s4, t2⟩ := hts i (by omega)
        refine V_aload_n cx 16 rfl dX5_areRests_15 2 rfl ?_
        refine GX5_13 cx 0 rfl rfl 19 rfl dX5_areRests_16 ?_
        refine V_iload cx 21 rfl dX5_areRests_19 0 rfl ?_
        refine V_ialdN cx i (rfl) (by omega) (by decide) 2 rfl 22 rfl dX5_areRests_21 ?_
        refine V_toi (nI (s i)) (eS) ?_
        refine V_iload_n cx 23 rfl dX5_areRests_22 4 rfl ?_
        refine V_icmp_lt cx 26 46 rfl dX5_areRests_23 (by decide) (fun c_23 => ?_) (fun c_23 => ?_)
        · skip
          have n_23 : s i < n := N_lt_t (by omega) (by omega) c_23
          refine V_iconst (v := nI 0) cx 47 rfl dX5_areRests_46 (by decide) ?_
          have e1 : isB t s (bgN t s n p) n i = false := decide_eq_false (fun h => by first | omega | exact n_39 h.2)
          refine V_istore (lc1 := [(7, .int (nI 0)), (6, .int (nI i)), (5, .int (bI b)), (0, .ref (g 0)), (1, .int (nI p)), (2, .int (nI n)), (3, .int (nI q)), (4, .int (nI m))]) cx 49 rfl dX5_areRests_47 (by decide) rfl ?_
          refine V_iload cx 51 rfl dX5_areRests_49 2 rfl ?_
          refine V_if_eq cx 54 80 rfl dX5_areRests_51 (by decide) (fun c_51 => ?_) (fun c_51 => ?_)
          · skip
            have n_51 := B_eq_t c_51
            try simp only [decide_eq_true_eq, decide_eq_false_iff_not] at n_51
            refine V_iconst (v := nI 0) cx 81 rfl dX5_areRests_80 (by decide) ?_
            refine V_istore (lc1 := [(5, .int (nI 0)), (7, .int (nI 0)), (6, .int (nI i)), (0, .ref (g 0)), (1, .int (nI p)), (2, .int (nI n)), (3, .int (nI q)), (4, .int (nI m))]) cx 83 rfl dX5_areRests_81 (by decide) rfl ?_
            refine V_iinc (v := nI (i + 1)) (lc1 := [(6, .int (nI (i + 1))), (5, .int (nI 0)), (7, .int (nI 0)), (0, .ref (g 0)), (1, .int (nI p)), (2, .int (nI n)), (3, .int (nI q)), (4, .int (nI m))]) cx 86 rfl dX5_areRests_83 2 rfl (nI_inc i 1) (by decide) rfl ?_
            refine V_goto cx 6 dX5_areRests_86 (by decide) ?_
            refine V.locs [0, 1, 3, 4, 5, 6, 7] rfl ?_
            exact ih_6 (i + 1) false (by omega) (by first | (rw [areR, ← hb, n_51, Bool.false_and]; done) | (rw [areR, ← hb, n_51, e1]; rfl) | (rw [areR, ← hb, n_51, e1, n_73]; rfl)) (by omega)
          · skip
            have n_51 := B_eq_f c_51
            try simp only [decide_eq_true_eq, decide_eq_false_iff_not] at n_51
            refine V_iload cx 56 rfl dX5_areRests_54 0 rfl ?_
            refine V_if_eq cx 59 76 rfl dX5_areRests_56 (by decide) (fun c_56 => ?_) (fun c_56 => ?_)
            · skip
              refine V_iconst (v := nI 1) cx 77 rfl dX5_areRests_76 (by decide) ?_
              refine V_goto cx 81 dX5_areRests_77 (by decide) ?_
              refine V_istore (lc1 := [(5, .int (nI 1)), (7, .int (nI 0)), (6, .int (nI i)), (0, .ref (g 0)), (1, .int (nI p)), (2, .int (nI n)), (3, .int (nI q)), (4, .int (nI m))]) cx 83 rfl dX5_areRests_81 (by decide) rfl ?_
              refine V_iinc (v := nI (i + 1)) (lc1 := [(6, .int (nI (i + 1))), (5, .int (nI 1)), (7, .int (nI 0)), (0, .ref (g 0)), (1, .int (nI p)), (2, .int (nI n)), (3, .int (nI q)), (4, .int (nI m))]) cx 86 rfl dX5_areRests_83 2 rfl (nI_inc i 1) (by decide) rfl ?_
              refine V_goto cx 6 dX5_areRests_86 (by decide) ?_
              refine V.locs [0, 1, 3, 4, 5, 6, 7] rfl ?_
              exact ih_6 (i + 1) true (by omega) (by first | (rw [areR, ← hb, n_51, Bool.false_and]; done) | (rw [areR, ← hb, n_51, e1]; rfl) | (rw [areR, ← hb, n_51, e1, n_73]; rfl)) (by omega)
            · skip
              exact absurd c_56 (by decide)
        · skip
          have n_23 : s i ≥ n := N_lt_f (by omega) (by omega) c_23
          refine V_aload_n cx 27 rfl dX5_areRests_26 2 rfl ?_
          refine V_iload cx 29 rfl dX5_areRests_27 0 rfl ?_
          refine V_iload_n cx 30 rfl dX5_areRests_29 4 rfl ?_
          refine KX5_88 (As := [.int (nI i), .int (nI n)]) (rest := []) cx (kX5_beginning (xl X) lo G _ g th np nl ld ll mn sp T S C F LT LS VE BA wd mo lt op pl pt ks i n t s (by omega) hts (by omega) (by omega)) hX (by omega) 0 rfl rfl rfl (Nat.le_of_ble_eq_true rfl) 33 0 0 rfl rfl rfl (by omega) (by omega) dX5_areRests_30 (fun r_1 u_2 hw_3 => ?_)
          try dsimp only at hw_3
          subst hw_3
          have fk_4 := show bgN t s n i ≤ t i from Nat.div_le_self _ _
          refine V_aload_n cx 34 rfl dX5_areRests_33 2 rfl ?_
          refine V_iload_n cx 35 rfl dX5_areRests_34 3 rfl ?_
          refine V_iload_n cx 36 rfl dX5_areRests_35 4 rfl ?_
          refine KX5_88 (As := [.int (nI p), .int (nI n)]) (rest := [.int (nI (bgN t s n i))]) cx (kX5_beginning (xl X) lo G _ g th np nl ld ll mn sp T S C F LT LS VE BA wd mo lt op pl pt ks p n t s (by omega) hts (by omega) (by omega)) hX (by omega) 0 rfl rfl rfl (Nat.le_of_ble_eq_true rfl) 39 0 0 rfl rfl rfl (by omega) (by omega) dX5_areRests_36 (fun r_5 u_6 hw_7 => ?_)
          try dsimp only at hw_7
          subst hw_7
          have fk_8 := show bgN t s n p ≤ t p from Nat.div_le_self _ _
          refine V_icmp_ne cx 42 46 rfl dX5_areRests_39 (by decide) (fun c_39 => ?_) (fun c_39 => ?_)
          · skip
            have n_39 : bgN t s n i ≠ bgN t s n p := N_ne_t (by omega) (by omega) c_39
            refine V_iconst (v := nI 0) cx 47 rfl dX5_areRests_46 (by decide) ?_
            have e1 : isB t s (bgN t s n p) n i = false := decide_eq_false (fun h => by first | omega | exact n_39 h.2)
            refine V_istore (lc1 := [(7, .int (nI 0)), (6, .int (nI i)), (5, .int (bI b)), (0, .ref (g 0)), (1, .int (nI p)), (2, .int (nI n)), (3, .int (nI q)), (4, .int (nI m))]) cx 49 rfl dX5_areRests_47 (by decide) rfl ?_
            refine V_iload cx 51 rfl dX5_areRests_49 2 rfl ?_
            refine V_if_eq cx 54 80 rfl dX5_areRests_51 (by decide) (fun c_51 => ?_) (fun c_51 => ?_)
            · skip
              have n_51 := B_eq_t c_51
              try simp only [decide_eq_true_eq, decide_eq_false_iff_not] at n_51
              refine V_iconst (v := nI 0) cx 81 rfl dX5_areRests_80 (by decide) ?_
              refine V_istore (lc1 := [(5, .int (nI 0)), (7, .int (nI 0)), (6, .int (nI i)), (0, .ref (g 0)), (1, .int (nI p)), (2, .int (nI n)), (3, .int (nI q)), (4, .int (nI m))]) cx 83 rfl dX5_areRests_81 (by decide) rfl ?_
              refine V_iinc (v := nI (i + 1)) (lc1 := [(6, .int (nI (i + 1))), (5, .int (nI 0)), (7, .int (nI 0)), (0, .ref (g 0)), (1, .int (nI p)), (2, .int (nI n)), (3, .int (nI q)), (4, .int (nI m))]) cx 86 rfl dX5_areRests_83 2 rfl (nI_inc i 1) (by decide) rfl ?_
              refine V_goto cx 6 dX5_areRests_86 (by decide) ?_
              refine V.locs [0, 1, 3, 4, 5, 6, 7] rfl ?_
              exact ih_6 (i + 1) false (by omega) (by first | (rw [areR, ← hb, n_51, Bool.false_and]; done) | (rw [areR, ← hb, n_51, e1]; rfl) | (rw [areR, ← hb, n_51, e1, n_73]; rfl)) (by omega)
            · skip
              have n_51 := B_eq_f c_51
              try simp only [decide_eq_true_eq, decide_eq_false_iff_not] at n_51
              refine V_iload cx 56 rfl dX5_areRests_54 0 rfl ?_
              refine V_if_eq cx 59 76 rfl dX5_areRests_56 (by decide) (fun c_56 => ?_) (fun c_56 => ?_)
              · skip
                refine V_iconst (v := nI 1) cx 77 rfl dX5_areRests_76 (by decide) ?_
                refine V_goto cx 81 dX5_areRests_77 (by decide) ?_
                refine V_istore (lc1 := [(5, .int (nI 1)), (7, .int (nI 0)), (6, .int (nI i)), (0, .ref (g 0)), (1, .int (nI p)), (2, .int (nI n)), (3, .int (nI q)), (4, .int (nI m))]) cx 83 rfl dX5_areRests_81 (by decide) rfl ?_
                refine V_iinc (v := nI (i + 1)) (lc1 := [(6, .int (nI (i + 1))), (5, .int (nI 1)), (7, .int (nI 0)), (0, .ref (g 0)), (1, .int (nI p)), (2, .int (nI n)), (3, .int (nI q)), (4, .int (nI m))]) cx 86 rfl dX5_areRests_83 2 rfl (nI_inc i 1) (by decide) rfl ?_
                refine V_goto cx 6 dX5_areRests_86 (by decide) ?_
                refine V.locs [0, 1, 3, 4, 5, 6, 7] rfl ?_
                exact ih_6 (i + 1) true (by omega) (by first | (rw [areR, ← hb, n_51, Bool.false_and]; done) | (rw [areR, ← hb, n_51, e1]; rfl) | (rw [areR, ← hb, n_51, e1, n_73]; rfl)) (by omega)
              · skip
                exact absurd c_56 (by decide)
          · skip
            have n_39 : bgN t s n i = bgN t s n p := N_ne_f (by omega) (by omega) c_39
            refine V_iconst (v := nI 1) cx 43 rfl dX5_areRests_42 (by decide) ?_
            refine V_goto cx 47 dX5_areRests_43 (by decide) ?_
            have e1 : isB t s (bgN t s n p) n i = true := decide_eq_true ⟨n_23, n_39⟩
            refine V_istore (lc1 := [(7, .int (nI 1)), (6, .int (nI i)), (5, .int (bI b)), (0, .ref (g 0)), (1, .int (nI p)), (2, .int (nI n)), (3, .int (nI q)), (4, .int (nI m))]) cx 49 rfl dX5_areRests_47 (by decide) rfl ?_
            refine V_iload cx 51 rfl dX5_areRests_49 2 rfl ?_
            refine V_if_eq cx 54 80 rfl dX5_areRests_51 (by decide) (fun c_51 => ?_) (fun c_51 => ?_)
            · skip
              have n_51 := B_eq_t c_51
              try simp only [decide_eq_true_eq, decide_eq_false_iff_not] at n_51
              refine V_iconst (v := nI 0) cx 81 rfl dX5_areRests_80 (by decide) ?_
              refine V_istore (lc1 := [(5, .int (nI 0)), (7, .int (nI 1)), (6, .int (nI i)), (0, .ref (g 0)), (1, .int (nI p)), (2, .int (nI n)), (3, .int (nI q)), (4, .int (nI m))]) cx 83 rfl dX5_areRests_81 (by decide) rfl ?_
              refine V_iinc (v := nI (i + 1)) (lc1 := [(6, .int (nI (i + 1))), (5, .int (nI 0)), (7, .int (nI 1)), (0, .ref (g 0)), (1, .int (nI p)), (2, .int (nI n)), (3, .int (nI q)), (4, .int (nI m))]) cx 86 rfl dX5_areRests_83 2 rfl (nI_inc i 1) (by decide) rfl ?_
              refine V_goto cx 6 dX5_areRests_86 (by decide) ?_
              refine V.locs [0, 1, 3, 4, 5, 6, 7] rfl ?_
              exact ih_6 (i + 1) false (by omega) (by first | (rw [areR, ← hb, n_51, Bool.false_and]; done) | (rw [areR, ← hb, n_51, e1]; rfl) | (rw [areR, ← hb, n_51, e1, n_73]; rfl)) (by omega)
            · skip
              have n_51 := B_eq_f c_51
              try simp only [decide_eq_true_eq, decide_eq_false_iff_not] at n_51
              refine V_iload cx 56 rfl dX5_areRests_54 0 rfl ?_
              refine V_if_eq cx 59 76 rfl dX5_areRests_56 (by decide) (fun c_56 => ?_) (fun c_56 => ?_)
              · skip
                exact absurd c_56 (by decide)
              · skip
                refine V_aload_n cx 60 rfl dX5_areRests_59 3 rfl ?_
                refine V_iload_n cx 61 rfl dX5_areRests_60 6 rfl ?_
                refine V_iload cx 63 rfl dX5_areRests_61 7 rfl ?_
                refine V_aload_n cx 64 rfl dX5_areRests_63 3 rfl ?_
                refine V_iload cx 66 rfl dX5_areRests_64 1 rfl ?_
                refine V_iload_n cx 67 rfl dX5_areRests_66 5 rfl ?_
                refine KX5_91 (As := [.int (nI i), .int (nI n)]) (rest := [.int (nI m), .int (nI q), .ref (g 0)]) cx (kX5_rest (xl X) lo G _ g th np nl ld ll mn sp T S C F LT LS VE BA wd mo lt op pl pt ks i n t s (by omega) hts (by omega) (by omega)) hX (by omega) 0 rfl rfl rfl (Nat.le_of_ble_eq_true rfl) 70 0 0 rfl rfl rfl (by omega) (by omega) dX5_areRests_67 (fun r_9 u_10 hw_11 => ?_)
                try dsimp only at hw_11
                subst hw_11
                have fk_12 := rsN_le t s n i (by omega)
                refine KX5_94 (As := [.int (nI q), .int (nI m), .int (nI (rsN t s n i))]) (rest := []) cx (kX5_hasRest (xl X) lo G _ g th np nl ld ll mn sp T S C F LT LS VE BA wd mo lt op pl pt ks q m (rsN t s n i) t s (by omega) hts (by omega) (by omega) (by omega)) hX (by omega) 0 rfl rfl rfl (Nat.le_of_ble_eq_true rfl) 73 0 0 rfl rfl rfl (by omega) (by omega) dX5_areRests_70 (fun r_13 u_14 hw_15 => ?_)
                try dsimp only at hw_15
                subst hw_15
                refine V_if_eq cx 76 80 rfl dX5_areRests_73 (by decide) (fun c_73 => ?_) (fun c_73 => ?_)
                · skip
                  have n_73 := B_eq_t c_73
                  try simp only [decide_eq_true_eq, decide_eq_false_iff_not] at n_73
                  refine V_iconst (v := nI 0) cx 81 rfl dX5_areRests_80 (by decide) ?_
                  refine V_istore (lc1 := [(5, .int (nI 0)), (7, .int (nI 1)), (6, .int (nI i)), (0, .ref (g 0)), (1, .int (nI p)), (2, .int (nI n)), (3, .int (nI q)), (4, .int (nI m))]) cx 83 rfl dX5_areRests_81 (by decide) rfl ?_
                  refine V_iinc (v := nI (i + 1)) (lc1 := [(6, .int (nI (i + 1))), (5, .int (nI 0)), (7, .int (nI 1)), (0, .ref (g 0)), (1, .int (nI p)), (2, .int (nI n)), (3, .int (nI q)), (4, .int (nI m))]) cx 86 rfl dX5_areRests_83 2 rfl (nI_inc i 1) (by decide) rfl ?_
                  refine V_goto cx 6 dX5_areRests_86 (by decide) ?_
                  refine V.locs [0, 1, 3, 4, 5, 6, 7] rfl ?_
                  exact ih_6 (i + 1) false (by omega) (by first | (rw [areR, ← hb, n_51, Bool.false_and]; done) | (rw [areR, ← hb, n_51, e1]; rfl) | (rw [areR, ← hb, n_51, e1, n_73]; rfl)) (by omega)
                · skip
                  have n_73 := B_eq_f c_73
                  try simp only [decide_eq_true_eq, decide_eq_false_iff_not] at n_73
                  refine V_iconst (v := nI 1) cx 77 rfl dX5_areRests_76 (by decide) ?_
                  refine V_goto cx 81 dX5_areRests_77 (by decide) ?_
                  refine V_istore (lc1 := [(5, .int (nI 1)), (7, .int (nI 1)), (6, .int (nI i)), (0, .ref (g 0)), (1, .int (nI p)), (2, .int (nI n)), (3, .int (nI q)), (4, .int (nI m))]) cx 83 rfl dX5_areRests_81 (by decide) rfl ?_
                  refine V_iinc (v := nI (i + 1)) (lc1 := [(6, .int (nI (i + 1))), (5, .int (nI 1)), (7, .int (nI 1)), (0, .ref (g 0)), (1, .int (nI p)), (2, .int (nI n)), (3, .int (nI q)), (4, .int (nI m))]) cx 86 rfl dX5_areRests_83 2 rfl (nI_inc i 1) (by decide) rfl ?_
                  refine V_goto cx 6 dX5_areRests_86 (by decide) ?_
                  refine V.locs [0, 1, 3, 4, 5, 6, 7] rfl ?_
                  exact ih_6 (i + 1) true (by omega) (by first | (rw [areR, ← hb, n_51, Bool.false_and]; done) | (rw [areR, ← hb, n_51, e1]; rfl) | (rw [areR, ← hb, n_51, e1, n_73]; rfl)) (by omega)
  refine V.locs [0, 1, 2, 3, 4, 5, 6] rfl ?_
  exact loop_6 _ 0 true (by omega) (by rfl) (Nat.lt_succ_self _)
set_option maxHeartbeats 4000000 in
set_option maxRecDepth 100000 in
theorem kX5_nodes (l : Launch) (lo : Nat) (G : vG) (rs : va_W) (g : Nat → Nat) (th : Nat) (np : Nat) (nl : Nat) (ld : Nat) (ll : Nat) (mn : Int32) (sp : Nat) (T : Nat → Int32) (S : Nat → Int32) (C : Nat → Int32) (F : Nat → Int32) (LT : Nat → Int32) (LS : Nat → Int32) (VE : Nat → Int32) (BA : Nat → Int32) (wd : Nat → Int32) (mo : Nat → Int32) (lt : Nat → Int32) (op : Nat → Int32) (pl : Nat → Int32) (pt : Nat → Int32) (ks : Nat → Int64) (t : Nat → Nat) (s : Nat → Nat) (hnp : np ≤ 16) (hts : ∀ i, i < np → T i = nI (t i) ∧ S i = nI (s i) ∧ 1 ≤ s i ∧ s i ≤ 4 ∧ t i < 20000) : Mi l yX5_nodes (.code yX5_nodes prog_7_method_22_code 7 (some .int)) 6 0 0 lo G [.ref (g 0)] (mW G g th np nl ld ll mn sp T S C F LT LS VE BA wd mo lt op pl pt ks ++ rs) (fun (r : Int32) (_ : Unit) => r = nI (nodesM t s np np)) (fun (_ : Unit) => mW G g 0 np nl ld ll mn sp T S C F LT LS VE BA wd mo lt op pl pt ks ++ rs) := by
  refine Mi_of (lc := [(0, .ref (g 0))]) (by decide +kernel) (Nat.le_of_ble_eq_true rfl) rfl ?_
  intro X cx hXR hXl hr hin
  subst hXl
  have hX := RmX.of hXR
  refine V_aload_n cx 1 rfl dX5_nodes_0 0 rfl ?_
  refine V_iconst (v := nI 0) cx 2 rfl dX5_nodes_1 (by decide) ?_
  refine PX5_56 cx 0 rfl (Nat.le_of_ble_eq_true rfl) (mW G g 0 np nl ld ll mn sp T S C F LT LS VE BA wd mo lt op pl pt ks ++ rs) rfl 5 rfl dX5_nodes_2 ?_
  refine V_iconst (v := nI 0) cx 6 rfl dX5_nodes_5 (by decide) ?_
  refine V_istore_n (lc1 := [(1, .int (nI 0)), (0, .ref (g 0))]) cx 7 rfl dX5_nodes_6 (by decide) rfl ?_
  refine V_iconst (v := nI 0) cx 8 rfl dX5_nodes_7 (by decide) ?_
  refine V_istore_n (lc1 := [(2, .int (nI 0)), (1, .int (nI 0)), (0, .ref (g 0))]) cx 9 rfl dX5_nodes_8 (by decide) rfl ?_
  have loop_9 : ∀ (fuel : Nat) (p : Nat) (k : Nat), (p ≤ np) → (k = nodesM t s np p) → (k ≤ 5 * p) → np - p < fuel → V X lo 7 G (Qi X lo G (fun (r : Int32) (_ : Unit) => r = nI (nodesM t s np np)) (fun (_ : Unit) => mW G g 0 np nl ld ll mn sp T S C F LT LS VE BA wd mo lt op pl pt ks ++ rs) 0 0) 0 0 (mW G g 0 np nl ld ll mn sp T S C F LT LS VE BA wd mo lt op pl pt ks ++ rs) [(2, .int (nI p)), (1, .int (nI k)), (0, .ref (g 0))] [] 9 := by
    intro fuel
    induction fuel with
    | zero => intro p k hp hk hkb hmz; exact absurd hmz (Nat.not_lt_zero _)
    | succ fuel ih_9 =>
      intro p k hp hk hkb hmz_9
      refine V_iload_n cx 10 rfl dX5_nodes_9 0 rfl ?_
      refine V_aload_n cx 11 rfl dX5_nodes_10 2 rfl ?_
      refine GX5_68 cx 0 rfl rfl 14 rfl dX5_nodes_11 ?_
      refine V_icmp_ge cx 17 143 rfl dX5_nodes_14 (by decide) (fun c_14 => ?_) (fun c_14 => ?_)
      · skip
        have n_14 : p ≥ np := N_ge_t (by omega) (by omega) c_14
        refine V_iload_n cx 144 rfl dX5_nodes_143 1 rfl ?_
        exact V_ireturn cx hr () (by rw [hk, show p = np by omega]) rfl (by omega) (by omega) dX5_nodes_144
      · skip
        have n_14 : p < np := N_ge_f (by omega) (by omega) c_14
        obtain ⟨eTp, eSp, s1p, s4p, t2p⟩ := hts p (by omega)
        refine V_iconst (v := nI 0) cx 18 rfl dX5_nodes_17 (by decide) ?_
        refine V_istore_n (lc1 := [(3, .int (nI 0)), (2, .int (nI p)), (1, .int (nI k)), (0, .ref (g 0))]) cx 19 rfl dX5_nodes_18 (by decide) rfl ?_
        have loop_19 : ∀ (fuel : Nat) (n : Nat) (k2 : Nat), (n ≤ s p + 1) → (k2 = k + cntP t s np p n) → (k2 ≤ k + n) → s p + 1 - n < fuel → V X lo 7 G (Qi X lo G (fun (r : Int32) (_ : Unit) => r = nI (nodesM t s np np)) (fun (_ : Unit) => mW G g 0 np nl ld ll mn sp T S C F LT LS VE BA wd mo lt op pl pt ks ++ rs) 0 0) 0 0 (mW G g 0 np nl ld ll mn sp T S C F LT LS VE BA wd mo lt op pl pt ks ++ rs) [(3, .int (nI n)), (2, .int (nI p)), (1, .int (nI k2)), (0, .ref (g 0))] [] 19 := by
          intro fuel
          induction fuel with
          | zero => intro n k2 hn hk2 hkb2 hmz; exact absurd hmz (Nat.not_lt_zero _)
          | succ fuel ih_19 =>
            intro n k2 hn hk2 hkb2 hmz_19
            refine V_iload_n cx 20 rfl dX5_nodes_19 0 rfl ?_
            refine V_aload_n cx 21 rfl dX5_nodes_20 3 rfl ?_
            refine GX5_13 cx 0 rfl rfl 24 rfl dX5_nodes_21 ?_
            refine V_iload_n cx 25 rfl dX5_nodes_24 1 rfl ?_
            refine V_ialdN cx p (rfl) (by omega) (by decide) 2 rfl 26 rfl dX5_nodes_25 ?_
            refine V_toi (nI (s p)) (eSp) ?_
            refine V_icmp_gt cx 29 137 rfl dX5_nodes_26 (by decide) (fun c_26 => ?_) (fun c_26 => ?_)
            · skip
              have n_26 : n > s p := N_gt_t (by omega) (by omega) c_26
              refine V_iinc (v := nI (p + 1)) (lc1 := [(2, .int (nI (p + 1))), (3, .int (nI n)), (1, .int (nI k2)), (0, .ref (g 0))]) cx 140 rfl dX5_nodes_137 1 rfl (nI_inc p 1) (by decide) rfl ?_
              refine V_goto cx 9 dX5_nodes_140 (by decide) ?_
              refine V.locs [0, 2, 3] rfl ?_
              exact ih_9 (p + 1) k2 (by omega) (by rw [nodesM, totN]; rw [nodesM] at hk; rw [← hk, hk2, show n = s p + 1 by omega]) (by omega) (by omega)
            · skip
              have n_26 : n ≤ s p := N_gt_f (by omega) (by omega) c_26
              refine V_iconst (v := nI 1) cx 30 rfl dX5_nodes_29 (by decide) ?_
              refine V_istore (lc1 := [(4, .int (nI 1)), (3, .int (nI n)), (2, .int (nI p)), (1, .int (nI k2)), (0, .ref (g 0))]) cx 32 rfl dX5_nodes_30 (by decide) rfl ?_
              refine V_iconst (v := nI 0) cx 33 rfl dX5_nodes_32 (by decide) ?_
              refine V_istore (lc1 := [(5, .int (nI 0)), (4, .int (nI 1)), (3, .int (nI n)), (2, .int (nI p)), (1, .int (nI k2)), (0, .ref (g 0))]) cx 35 rfl dX5_nodes_33 (by decide) rfl ?_
              have loop_35 : ∀ (fuel : Nat) (q : Nat) (b : Bool), (q ≤ p + 1) → (b = nwQ (fun q m => eqR t s np p n q m) (fun q => if q < p then s q + 1 else n) q) → p + 1 - q < fuel → V X lo 7 G (Qi X lo G (fun (r : Int32) (_ : Unit) => r = nI (nodesM t s np np)) (fun (_ : Unit) => mW G g 0 np nl ld ll mn sp T S C F LT LS VE BA wd mo lt op pl pt ks ++ rs) 0 0) 0 0 (mW G g 0 np nl ld ll mn sp T S C F LT LS VE BA wd mo lt op pl pt ks ++ rs) [(5, .int (nI q)), (4, .int (bI b)), (3, .int (nI n)), (2, .int (nI p)), (1, .int (nI k2)), (0, .ref (g 0))] [] 35 := by
                intro fuel
                induction fuel with
                | zero => intro q b hq hb hmz; exact absurd hmz (Nat.not_lt_zero _)
                | succ fuel ih_35 =>
                  intro q b hq hb hmz_35
                  refine V_iload cx 37 rfl dX5_nodes_35 0 rfl ?_
                  refine V_iload_n cx 38 rfl dX5_nodes_37 3 rfl ?_
                  refine V_icmp_gt cx 41 118 rfl dX5_nodes_38 (by decide) (fun c_38 => ?_) (fun c_38 => ?_)
                  · skip
                    have n_38 : q > p := N_gt_t (by omega) (by omega) c_38
                    refine V_iload_n cx 119 rfl dX5_nodes_118 4 rfl ?_
                    refine V_iload cx 121 rfl dX5_nodes_119 1 rfl ?_
                    refine V_if_eq cx 124 128 rfl dX5_nodes_121 (by decide) (fun c_121 => ?_) (fun c_121 => ?_)
                    · skip
                      have n_121 := B_eq_t c_121
                      try simp only [decide_eq_true_eq, decide_eq_false_iff_not] at n_121
                      refine V_iconst (v := nI 0) cx 129 rfl dX5_nodes_128 (by decide) ?_
                      refine V_iadd cx 130 rfl dX5_nodes_129 ?_
                      refine V_toi (nI k2) (nI_add _ _) ?_
                      refine V_istore_n (lc1 := [(1, .int (nI k2)), (5, .int (nI q)), (4, .int (bI b)), (3, .int (nI n)), (2, .int (nI p)), (0, .ref (g 0))]) cx 131 rfl dX5_nodes_130 (by decide) rfl ?_
                      refine V_iinc (v := nI (n + 1)) (lc1 := [(3, .int (nI (n + 1))), (1, .int (nI k2)), (5, .int (nI q)), (4, .int (bI b)), (2, .int (nI p)), (0, .ref (g 0))]) cx 134 rfl dX5_nodes_131 3 rfl (nI_inc n 1) (by decide) rfl ?_
                      refine V_goto cx 19 dX5_nodes_134 (by decide) ?_
                      refine V.locs [0, 4, 1, 5] rfl ?_
                      exact ih_19 (n + 1) k2 (by omega) (by rw [cntP, cntB]; rw [cntP] at hk2; rw [hk2]; rw [nwPN, ← show q = p + 1 by omega, ← hb, n_121]; first | rfl | omega) (by omega) (by omega)
                    · skip
                      have n_121 := B_eq_f c_121
                      try simp only [decide_eq_true_eq, decide_eq_false_iff_not] at n_121
                      refine V_iconst (v := nI 1) cx 125 rfl dX5_nodes_124 (by decide) ?_
                      refine V_goto cx 129 dX5_nodes_125 (by decide) ?_
                      refine V_iadd cx 130 rfl dX5_nodes_129 ?_
                      refine V_toi (nI (k2 + 1)) (nI_add _ _) ?_
                      refine V_istore_n (lc1 := [(1, .int (nI (k2 + 1))), (5, .int (nI q)), (4, .int (bI b)), (3, .int (nI n)), (2, .int (nI p)), (0, .ref (g 0))]) cx 131 rfl dX5_nodes_130 (by decide) rfl ?_
                      refine V_iinc (v := nI (n + 1)) (lc1 := [(3, .int (nI (n + 1))), (1, .int (nI (k2 + 1))), (5, .int (nI q)), (4, .int (bI b)), (2, .int (nI p)), (0, .ref (g 0))]) cx 134 rfl dX5_nodes_131 3 rfl (nI_inc n 1) (by decide) rfl ?_
                      refine V_goto cx 19 dX5_nodes_134 (by decide) ?_
                      refine V.locs [0, 4, 1, 5] rfl ?_
                      exact ih_19 (n + 1) (k2 + 1) (by omega) (by rw [cntP, cntB]; rw [cntP] at hk2; rw [hk2]; rw [nwPN, ← show q = p + 1 by omega, ← hb, n_121]; first | rfl | omega) (by omega) (by omega)
                  · skip
                    have n_38 : q ≤ p := N_gt_f (by omega) (by omega) c_38
                    obtain ⟨eTq, eSq, s1q, s4q, t2q⟩ := hts q (by omega)
                    refine V_iconst (v := nI 0) cx 42 rfl dX5_nodes_41 (by decide) ?_
                    refine V_istore (lc1 := [(6, .int (nI 0)), (5, .int (nI q)), (4, .int (bI b)), (3, .int (nI n)), (2, .int (nI p)), (1, .int (nI k2)), (0, .ref (g 0))]) cx 44 rfl dX5_nodes_42 (by decide) rfl ?_
                    have loop_44 : ∀ (fuel : Nat) (m : Nat) (b2 : Bool), ((q < p → m ≤ s q + 1) ∧ (¬ q < p → m ≤ n)) → (b2 = nwM ((fun q m => eqR t s np p n q m) q) b m) → s q + 1 - m < fuel → V X lo 7 G (Qi X lo G (fun (r : Int32) (_ : Unit) => r = nI (nodesM t s np np)) (fun (_ : Unit) => mW G g 0 np nl ld ll mn sp T S C F LT LS VE BA wd mo lt op pl pt ks ++ rs) 0 0) 0 0 (mW G g 0 np nl ld ll mn sp T S C F LT LS VE BA wd mo lt op pl pt ks ++ rs) [(6, .int (nI m)), (5, .int (nI q)), (4, .int (bI b2)), (3, .int (nI n)), (2, .int (nI p)), (1, .int (nI k2)), (0, .ref (g 0))] [] 44 := by
                      intro fuel
                      induction fuel with
                      | zero => intro m b2 hm hb2 hmz; exact absurd hmz (Nat.not_lt_zero _)
                      | succ fuel ih_44 =>
                        intro m b2 hm hb2 hmz_44
                        refine V_iload cx 46 rfl dX5_nodes_44 0 rfl ?_
                        refine V_aload_n cx 47 rfl dX5_nodes_46 6 rfl ?_
                        refine GX5_13 cx 0 rfl rfl 50 rfl dX5_nodes_47 ?_
                        refine V_iload cx 52 rfl dX5_nodes_50 1 rfl ?_
                        refine V_ialdN cx q (rfl) (by omega) (by decide) 2 rfl 53 rfl dX5_nodes_52 ?_
                        refine V_toi (nI (s q)) (eSq) ?_
                        refine V_icmp_gt cx 56 112 rfl dX5_nodes_53 (by decide) (fun c_53 => ?_) (fun c_53 => ?_)
                        · skip
                          have n_53 : m > s q := N_gt_t (by omega) (by omega) c_53
                          refine V_iinc (v := nI (q + 1)) (lc1 := [(5, .int (nI (q + 1))), (6, .int (nI m)), (4, .int (bI b2)), (3, .int (nI n)), (2, .int (nI p)), (1, .int (nI k2)), (0, .ref (g 0))]) cx 115 rfl dX5_nodes_112 1 rfl (nI_inc q 1) (by decide) rfl ?_
                          refine V_goto cx 35 dX5_nodes_115 (by decide) ?_
                          refine V.locs [0, 2, 3, 4, 5, 6] rfl ?_
                          exact ih_35 (q + 1) b2 (by omega) (by rw [nwQ, ← hb, hb2]; congr 1; show m = if q < p then s q + 1 else n; rcases Nat.lt_or_ge q p with hqp | hqp; (rw [if_pos hqp]; omega); (rw [if_neg (by omega)]; have e : q = p := (by omega); rw [e] at n_53; omega)) (by omega)
                        · skip
                          have n_53 : m ≤ s q := N_gt_f (by omega) (by omega) c_53
                          refine V_iload cx 58 rfl dX5_nodes_56 1 rfl ?_
                          refine V_iload_n cx 59 rfl dX5_nodes_58 4 rfl ?_
                          refine V_icmp_lt cx 62 68 rfl dX5_nodes_59 (by decide) (fun c_59 => ?_) (fun c_59 => ?_)
                          · skip
                            have n_59 : q < p := N_lt_t (by omega) (by omega) c_59
                            refine V_iload cx 70 rfl dX5_nodes_68 2 rfl ?_
                            refine V_if_eq cx 73 103 rfl dX5_nodes_70 (by decide) (fun c_70 => ?_) (fun c_70 => ?_)
                            · skip
                              have n_70 := B_eq_t c_70
                              try simp only [decide_eq_true_eq, decide_eq_false_iff_not] at n_70
                              refine V_iconst (v := nI 0) cx 104 rfl dX5_nodes_103 (by decide) ?_
                              refine V_istore (lc1 := [(4, .int (nI 0)), (6, .int (nI m)), (5, .int (nI q)), (3, .int (nI n)), (2, .int (nI p)), (1, .int (nI k2)), (0, .ref (g 0))]) cx 106 rfl dX5_nodes_104 (by decide) rfl ?_
                              refine V_iinc (v := nI (m + 1)) (lc1 := [(6, .int (nI (m + 1))), (4, .int (nI 0)), (5, .int (nI q)), (3, .int (nI n)), (2, .int (nI p)), (1, .int (nI k2)), (0, .ref (g 0))]) cx 109 rfl dX5_nodes_106 1 rfl (nI_inc m 1) (by decide) rfl ?_
                              refine V_goto cx 44 dX5_nodes_109 (by decide) ?_
                              refine V.locs [0, 2, 1, 3, 4, 5, 6] rfl ?_
                              exact ih_44 (m + 1) false (by omega) (by first | (rw [nwM, ← hb2, n_70, Bool.false_and]; done) | (rw [nwM, ← hb2, n_70]; show _ = (true && !(eqR t s np p n q m)); rw [eqR, n_83]; rfl) | (rw [nwM, ← hb2, n_70]; show _ = (true && !(eqR t s np p n q m)); rw [eqR, n_83, n_96]; rfl)) (by omega)
                            · skip
                              have n_70 := B_eq_f c_70
                              try simp only [decide_eq_true_eq, decide_eq_false_iff_not] at n_70
                              refine V_aload_n cx 74 rfl dX5_nodes_73 6 rfl ?_
                              refine V_iload_n cx 75 rfl dX5_nodes_74 4 rfl ?_
                              refine V_iload_n cx 76 rfl dX5_nodes_75 3 rfl ?_
                              refine V_iload cx 78 rfl dX5_nodes_76 1 rfl ?_
                              refine V_iload cx 80 rfl dX5_nodes_78 0 rfl ?_
                              refine KX5_97 (As := [.int (nI p), .int (nI n), .int (nI q), .int (nI m)]) (rest := []) cx (kX5_areRests (xl X) lo G _ g 0 np nl ld ll mn sp T S C F LT LS VE BA wd mo lt op pl pt ks p n q m t s (by omega) hts (by omega) (by omega) (by omega) (by omega)) hX (by omega) 0 rfl rfl rfl (Nat.le_of_ble_eq_true rfl) 83 0 0 rfl rfl rfl (by omega) (by omega) dX5_nodes_80 (fun r_1 u_2 hw_3 => ?_)
                              try dsimp only at hw_3
                              subst hw_3
                              refine V_if_eq cx 86 99 rfl dX5_nodes_83 (by decide) (fun c_83 => ?_) (fun c_83 => ?_)
                              · skip
                                have n_83 := B_eq_t c_83
                                try simp only [decide_eq_true_eq, decide_eq_false_iff_not] at n_83
                                refine V_iconst (v := nI 1) cx 100 rfl dX5_nodes_99 (by decide) ?_
                                refine V_goto cx 104 dX5_nodes_100 (by decide) ?_
                                refine V_istore (lc1 := [(4, .int (nI 1)), (6, .int (nI m)), (5, .int (nI q)), (3, .int (nI n)), (2, .int (nI p)), (1, .int (nI k2)), (0, .ref (g 0))]) cx 106 rfl dX5_nodes_104 (by decide) rfl ?_
                                refine V_iinc (v := nI (m + 1)) (lc1 := [(6, .int (nI (m + 1))), (4, .int (nI 1)), (5, .int (nI q)), (3, .int (nI n)), (2, .int (nI p)), (1, .int (nI k2)), (0, .ref (g 0))]) cx 109 rfl dX5_nodes_106 1 rfl (nI_inc m 1) (by decide) rfl ?_
                                refine V_goto cx 44 dX5_nodes_109 (by decide) ?_
                                refine V.locs [0, 2, 1, 3, 4, 5, 6] rfl ?_
                                exact ih_44 (m + 1) true (by omega) (by first | (rw [nwM, ← hb2, n_70, Bool.false_and]; done) | (rw [nwM, ← hb2, n_70]; show _ = (true && !(eqR t s np p n q m)); rw [eqR, n_83]; rfl) | (rw [nwM, ← hb2, n_70]; show _ = (true && !(eqR t s np p n q m)); rw [eqR, n_83, n_96]; rfl)) (by omega)
                              · skip
                                have n_83 := B_eq_f c_83
                                try simp only [decide_eq_true_eq, decide_eq_false_iff_not] at n_83
                                refine V_aload_n cx 87 rfl dX5_nodes_86 6 rfl ?_
                                refine V_iload cx 89 rfl dX5_nodes_87 1 rfl ?_
                                refine V_iload cx 91 rfl dX5_nodes_89 0 rfl ?_
                                refine V_iload_n cx 92 rfl dX5_nodes_91 4 rfl ?_
                                refine V_iload_n cx 93 rfl dX5_nodes_92 3 rfl ?_
                                refine KX5_97 (As := [.int (nI q), .int (nI m), .int (nI p), .int (nI n)]) (rest := []) cx (kX5_areRests (xl X) lo G _ g 0 np nl ld ll mn sp T S C F LT LS VE BA wd mo lt op pl pt ks q m p n t s (by omega) hts (by omega) (by omega) (by omega) (by omega)) hX (by omega) 0 rfl rfl rfl (Nat.le_of_ble_eq_true rfl) 96 0 0 rfl rfl rfl (by omega) (by omega) dX5_nodes_93 (fun r_4 u_5 hw_6 => ?_)
                                try dsimp only at hw_6
                                subst hw_6
                                refine V_if_ne cx 99 103 rfl dX5_nodes_96 (by decide) (fun c_96 => ?_) (fun c_96 => ?_)
                                · skip
                                  have n_96 := B_ne_t c_96
                                  try simp only [decide_eq_true_eq, decide_eq_false_iff_not] at n_96
                                  refine V_iconst (v := nI 0) cx 104 rfl dX5_nodes_103 (by decide) ?_
                                  refine V_istore (lc1 := [(4, .int (nI 0)), (6, .int (nI m)), (5, .int (nI q)), (3, .int (nI n)), (2, .int (nI p)), (1, .int (nI k2)), (0, .ref (g 0))]) cx 106 rfl dX5_nodes_104 (by decide) rfl ?_
                                  refine V_iinc (v := nI (m + 1)) (lc1 := [(6, .int (nI (m + 1))), (4, .int (nI 0)), (5, .int (nI q)), (3, .int (nI n)), (2, .int (nI p)), (1, .int (nI k2)), (0, .ref (g 0))]) cx 109 rfl dX5_nodes_106 1 rfl (nI_inc m 1) (by decide) rfl ?_
                                  refine V_goto cx 44 dX5_nodes_109 (by decide) ?_
                                  refine V.locs [0, 2, 1, 3, 4, 5, 6] rfl ?_
                                  exact ih_44 (m + 1) false (by omega) (by first | (rw [nwM, ← hb2, n_70, Bool.false_and]; done) | (rw [nwM, ← hb2, n_70]; show _ = (true && !(eqR t s np p n q m)); rw [eqR, n_83]; rfl) | (rw [nwM, ← hb2, n_70]; show _ = (true && !(eqR t s np p n q m)); rw [eqR, n_83, n_96]; rfl)) (by omega)
                                · skip
                                  have n_96 := B_ne_f c_96
                                  try simp only [decide_eq_true_eq, decide_eq_false_iff_not] at n_96
                                  refine V_iconst (v := nI 1) cx 100 rfl dX5_nodes_99 (by decide) ?_
                                  refine V_goto cx 104 dX5_nodes_100 (by decide) ?_
                                  refine V_istore (lc1 := [(4, .int (nI 1)), (6, .int (nI m)), (5, .int (nI q)), (3, .int (nI n)), (2, .int (nI p)), (1, .int (nI k2)), (0, .ref (g 0))]) cx 106 rfl dX5_nodes_104 (by decide) rfl ?_
                                  refine V_iinc (v := nI (m + 1)) (lc1 := [(6, .int (nI (m + 1))), (4, .int (nI 1)), (5, .int (nI q)), (3, .int (nI n)), (2, .int (nI p)), (1, .int (nI k2)), (0, .ref (g 0))]) cx 109 rfl dX5_nodes_106 1 rfl (nI_inc m 1) (by decide) rfl ?_
                                  refine V_goto cx 44 dX5_nodes_109 (by decide) ?_
                                  refine V.locs [0, 2, 1, 3, 4, 5, 6] rfl ?_
                                  exact ih_44 (m + 1) true (by omega) (by first | (rw [nwM, ← hb2, n_70, Bool.false_and]; done) | (rw [nwM, ← hb2, n_70]; show _ = (true && !(eqR t s np p n q m)); rw [eqR, n_83]; rfl) | (rw [nwM, ← hb2, n_70]; show _ = (true && !(eqR t s np p n q m)); rw [eqR, n_83, n_96]; rfl)) (by omega)
                          · skip
                            have n_59 : q ≥ p := N_lt_f (by omega) (by omega) c_59
                            refine V_iload cx 64 rfl dX5_nodes_62 0 rfl ?_
                            refine V_iload_n cx 65 rfl dX5_nodes_64 3 rfl ?_
                            refine V_icmp_ge cx 68 112 rfl dX5_nodes_65 (by decide) (fun c_65 => ?_) (fun c_65 => ?_)
                            · skip
                              have n_65 : m ≥ n := N_ge_t (by omega) (by omega) c_65
                              refine V_iinc (v := nI (q + 1)) (lc1 := [(5, .int (nI (q + 1))), (6, .int (nI m)), (4, .int (bI b2)), (3, .int (nI n)), (2, .int (nI p)), (1, .int (nI k2)), (0, .ref (g 0))]) cx 115 rfl dX5_nodes_112 1 rfl (nI_inc q 1) (by decide) rfl ?_
                              refine V_goto cx 35 dX5_nodes_115 (by decide) ?_
                              refine V.locs [0, 2, 3, 4, 5, 6] rfl ?_
                              exact ih_35 (q + 1) b2 (by omega) (by rw [nwQ, ← hb, hb2]; congr 1; show m = if q < p then s q + 1 else n; rcases Nat.lt_or_ge q p with hqp | hqp; (rw [if_pos hqp]; omega); (rw [if_neg (by omega)]; have e : q = p := (by omega); rw [e] at n_53; omega)) (by omega)
                            · skip
                              have n_65 : m < n := N_ge_f (by omega) (by omega) c_65
                              refine V_iload cx 70 rfl dX5_nodes_68 2 rfl ?_
                              refine V_if_eq cx 73 103 rfl dX5_nodes_70 (by decide) (fun c_70 => ?_) (fun c_70 => ?_)
                              · skip
                                have n_70 := B_eq_t c_70
                                try simp only [decide_eq_true_eq, decide_eq_false_iff_not] at n_70
                                refine V_iconst (v := nI 0) cx 104 rfl dX5_nodes_103 (by decide) ?_
                                refine V_istore (lc1 := [(4, .int (nI 0)), (6, .int (nI m)), (5, .int (nI q)), (3, .int (nI n)), (2, .int (nI p)), (1, .int (nI k2)), (0, .ref (g 0))]) cx 106 rfl dX5_nodes_104 (by decide) rfl ?_
                                refine V_iinc (v := nI (m + 1)) (lc1 := [(6, .int (nI (m + 1))), (4, .int (nI 0)), (5, .int (nI q)), (3, .int (nI n)), (2, .int (nI p)), (1, .int (nI k2)), (0, .ref (g 0))]) cx 109 rfl dX5_nodes_106 1 rfl (nI_inc m 1) (by decide) rfl ?_
                                refine V_goto cx 44 dX5_nodes_109 (by decide) ?_
                                refine V.locs [0, 2, 1, 3, 4, 5, 6] rfl ?_
                                exact ih_44 (m + 1) false (by omega) (by first | (rw [nwM, ← hb2, n_70, Bool.false_and]; done) | (rw [nwM, ← hb2, n_70]; show _ = (true && !(eqR t s np p n q m)); rw [eqR, n_83]; rfl) | (rw [nwM, ← hb2, n_70]; show _ = (true && !(eqR t s np p n q m)); rw [eqR, n_83, n_96]; rfl)) (by omega)
                              · skip
                                have n_70 := B_eq_f c_70
                                try simp only [decide_eq_true_eq, decide_eq_false_iff_not] at n_70
                                refine V_aload_n cx 74 rfl dX5_nodes_73 6 rfl ?_
                                refine V_iload_n cx 75 rfl dX5_nodes_74 4 rfl ?_
                                refine V_iload_n cx 76 rfl dX5_nodes_75 3 rfl ?_
                                refine V_iload cx 78 rfl dX5_nodes_76 1 rfl ?_
                                refine V_iload cx 80 rfl dX5_nodes_78 0 rfl ?_
                                refine KX5_97 (As := [.int (nI p), .int (nI n), .int (nI q), .int (nI m)]) (rest := []) cx (kX5_areRests (xl X) lo G _ g 0 np nl ld ll mn sp T S C F LT LS VE BA wd mo lt op pl pt ks p n q m t s (by omega) hts (by omega) (by omega) (by omega) (by omega)) hX (by omega) 0 rfl rfl rfl (Nat.le_of_ble_eq_true rfl) 83 0 0 rfl rfl rfl (by omega) (by omega) dX5_nodes_80 (fun r_7 u_8 hw_9 => ?_)
                                try dsimp only at hw_9
                                subst hw_9
                                refine V_if_eq cx 86 99 rfl dX5_nodes_83 (by decide) (fun c_83 => ?_) (fun c_83 => ?_)
                                · skip
                                  have n_83 := B_eq_t c_83
                                  try simp only [decide_eq_true_eq, decide_eq_false_iff_not] at n_83
                                  refine V_iconst (v := nI 1) cx 100 rfl dX5_nodes_99 (by decide) ?_
                                  refine V_goto cx 104 dX5_nodes_100 (by decide) ?_
                                  refine V_istore (lc1 := [(4, .int (nI 1)), (6, .int (nI m)), (5, .int (nI q)), (3, .int (nI n)), (2, .int (nI p)), (1, .int (nI k2)), (0, .ref (g 0))]) cx 106 rfl dX5_nodes_104 (by decide) rfl ?_
                                  refine V_iinc (v := nI (m + 1)) (lc1 := [(6, .int (nI (m + 1))), (4, .int (nI 1)), (5, .int (nI q)), (3, .int (nI n)), (2, .int (nI p)), (1, .int (nI k2)), (0, .ref (g 0))]) cx 109 rfl dX5_nodes_106 1 rfl (nI_inc m 1) (by decide) rfl ?_
                                  refine V_goto cx 44 dX5_nodes_109 (by decide) ?_
                                  refine V.locs [0, 2, 1, 3, 4, 5, 6] rfl ?_
                                  exact ih_44 (m + 1) true (by omega) (by first | (rw [nwM, ← hb2, n_70, Bool.false_and]; done) | (rw [nwM, ← hb2, n_70]; show _ = (true && !(eqR t s np p n q m)); rw [eqR, n_83]; rfl) | (rw [nwM, ← hb2, n_70]; show _ = (true && !(eqR t s np p n q m)); rw [eqR, n_83, n_96]; rfl)) (by omega)
                                · skip
                                  have n_83 := B_eq_f c_83
                                  try simp only [decide_eq_true_eq, decide_eq_false_iff_not] at n_83
                                  refine V_aload_n cx 87 rfl dX5_nodes_86 6 rfl ?_
                                  refine V_iload cx 89 rfl dX5_nodes_87 1 rfl ?_
                                  refine V_iload cx 91 rfl dX5_nodes_89 0 rfl ?_
                                  refine V_iload_n cx 92 rfl dX5_nodes_91 4 rfl ?_
                                  refine V_iload_n cx 93 rfl dX5_nodes_92 3 rfl ?_
                                  refine KX5_97 (As := [.int (nI q), .int (nI m), .int (nI p), .int (nI n)]) (rest := []) cx (kX5_areRests (xl X) lo G _ g 0 np nl ld ll mn sp T S C F LT LS VE BA wd mo lt op pl pt ks q m p n t s (by omega) hts (by omega) (by omega) (by omega) (by omega)) hX (by omega) 0 rfl rfl rfl (Nat.le_of_ble_eq_true rfl) 96 0 0 rfl rfl rfl (by omega) (by omega) dX5_nodes_93 (fun r_10 u_11 hw_12 => ?_)
                                  try dsimp only at hw_12
                                  subst hw_12
                                  refine V_if_ne cx 99 103 rfl dX5_nodes_96 (by decide) (fun c_96 => ?_) (fun c_96 => ?_)
                                  · skip
                                    have n_96 := B_ne_t c_96
                                    try simp only [decide_eq_true_eq, decide_eq_false_iff_not] at n_96
                                    refine V_iconst (v := nI 0) cx 104 rfl dX5_nodes_103 (by decide) ?_
                                    refine V_istore (lc1 := [(4, .int (nI 0)), (6, .int (nI m)), (5, .int (nI q)), (3, .int (nI n)), (2, .int (nI p)), (1, .int (nI k2)), (0, .ref (g 0))]) cx 106 rfl dX5_nodes_104 (by decide) rfl ?_
                                    refine V_iinc (v := nI (m + 1)) (lc1 := [(6, .int (nI (m + 1))), (4, .int (nI 0)), (5, .int (nI q)), (3, .int (nI n)), (2, .int (nI p)), (1, .int (nI k2)), (0, .ref (g 0))]) cx 109 rfl dX5_nodes_106 1 rfl (nI_inc m 1) (by decide) rfl ?_
                                    refine V_goto cx 44 dX5_nodes_109 (by decide) ?_
                                    refine V.locs [0, 2, 1, 3, 4, 5, 6] rfl ?_
                                    exact ih_44 (m + 1) false (by omega) (by first | (rw [nwM, ← hb2, n_70, Bool.false_and]; done) | (rw [nwM, ← hb2, n_70]; show _ = (true && !(eqR t s np p n q m)); rw [eqR, n_83]; rfl) | (rw [nwM, ← hb2, n_70]; show _ = (true && !(eqR t s np p n q m)); rw [eqR, n_83, n_96]; rfl)) (by omega)
                                  · skip
                                    have n_96 := B_ne_f c_96
                                    try simp only [decide_eq_true_eq, decide_eq_false_iff_not] at n_96
                                    refine V_iconst (v := nI 1) cx 100 rfl dX5_nodes_99 (by decide) ?_
                                    refine V_goto cx 104 dX5_nodes_100 (by decide) ?_
                                    refine V_istore (lc1 := [(4, .int (nI 1)), (6, .int (nI m)), (5, .int (nI q)), (3, .int (nI n)), (2, .int (nI p)), (1, .int (nI k2)), (0, .ref (g 0))]) cx 106 rfl dX5_nodes_104 (by decide) rfl ?_
                                    refine V_iinc (v := nI (m + 1)) (lc1 := [(6, .int (nI (m + 1))), (4, .int (nI 1)), (5, .int (nI q)), (3, .int (nI n)), (2, .int (nI p)), (1, .int (nI k2)), (0, .ref (g 0))]) cx 109 rfl dX5_nodes_106 1 rfl (nI_inc m 1) (by decide) rfl ?_
                                    refine V_goto cx 44 dX5_nodes_109 (by decide) ?_
                                    refine V.locs [0, 2, 1, 3, 4, 5, 6] rfl ?_
                                    exact ih_44 (m + 1) true (by omega) (by first | (rw [nwM, ← hb2, n_70, Bool.false_and]; done) | (rw [nwM, ← hb2, n_70]; show _ = (true && !(eqR t s np p n q m)); rw [eqR, n_83]; rfl) | (rw [nwM, ← hb2, n_70]; show _ = (true && !(eqR t s np p n q m)); rw [eqR, n_83, n_96]; rfl)) (by omega)
                    refine V.locs [0, 1, 2, 3, 4, 5, 6] rfl ?_
                    exact loop_44 _ 0 b (by omega) (by rfl) (Nat.lt_succ_self _)
              refine V.locs [0, 1, 2, 3, 4, 5] rfl ?_
              exact loop_35 _ 0 true (by omega) (by rfl) (Nat.lt_succ_self _)
        refine V.locs [0, 1, 2, 3] rfl ?_
        exact loop_19 _ 0 k (by omega) (by rfl) (by omega) (Nat.lt_succ_self _)
  refine V.locs [0, 1, 2] rfl ?_
  exact loop_9 _ 0 0 (by omega) (by rfl) (by omega) (Nat.lt_succ_self _)
