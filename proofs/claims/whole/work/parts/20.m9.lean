/-- of a list of splits: not too many, and for each number one of that rank -/
def rkOK (x : LX) : Prop := ∀ (d : Nat → Nat) (L : Nat), L ≤ 8 → (mEn x d L).length ≤ 640 ∧ ∀ k, k < (mEn x d L).length → ∃ l, l ∈ mEn x d L ∧ (mEn x d L).countP (fun l' => decide (mkl x l' < mkl x l)) = k
theorem lg_eq0 {a b : Int64} (h : lg_cmp a b = 0) : a = b := by
  unfold lg_cmp at h
  split at h
  · exact absurd h (by decide)
  · split at h
    · assumption
    · exact absurd h (by decide)
theorem lN_nem1 {k : Nat} (h : k < 9223372036854775808) : lN k ≠ -1 := by
  intro e
  have h1 := congrArg Int64.toInt e
  rw [lN_toIntB h] at h1
  have h2 : (-1 : Int64).toInt = -1 := by decide
  omega
def askK (x : LX) (u k : Int32) (th1 : Nat) (P : Option SP → Prop) : Prop := ((SZ u 8 = 0 ∨ k < 0) ∧ th1 = 1) ∨ (∃ (w : Nat) (o : Option SP), u = nI w ∧ w < 200000000 ∧ 0 < SZ u 8 ∧ ¬ k < 0 ∧ th1 = 0 ∧ selR x (mEn x (dgt w (SZ u 8)) (SZ u 8)) k o ∧ P o)
def cosV (x : LX) (o : Option SP) : Int32 := match o with
  | none => -1
  | some l => nI (mkl x l / 377801998336 / 16)
def sizV (o : Option SP) : Int32 := match o with
  | none => -1
  | some l => nI l.length
def hedV (o : Option SP) : Int32 := match o with
  | none => -1
  | some l => nI (spP l (l.length - 1))
def patP (j r : Int32) (o : Option SP) : Prop := match o with
  | none => r = -1
  | some l => (nI l.length ≤ j ∧ r = -1) ∨ ∃ i, i < l.length ∧ j = nI i ∧ r = nI (10 * spP l i + spO l i % 7)
theorem mkl_size {x : LX} {L : Nat} {d : Nat → Nat} {l : SP} {a : Nat} {pv : Option Nat} (hL : L ≤ 8) (h : valS x L d l a pv) : mkl x l / 377801998336 % 16 = l.length := by
  have h1 := (mkey_div (fun k => ko (lC x (spP l k))) (spO l) l.length (fun k hk => (valS_bd l a pv h k hk).1)).1
  have h2 := valS_len l a pv h
  unfold mkl
  rw [h1]
  omega
theorem sel_nil {x : LX} {k : Int32} {E : List SP} (h : E.length = 0) : selR x E k none := fun l hl => by
  rw [List.length_eq_zero_iff.mp h] at hl
  cases hl
theorem sel_some {x : LX} {E : List SP} {o : Option SP} {k : Nat} (hr : ∃ l, l ∈ E ∧ E.countP (fun l' => decide (mkl x l' < mkl x l)) = k) (h : selR x E (nI k) o) : ∃ l, o = some l := by
  cases o with
  | some l => exact ⟨l, rfl⟩
  | none =>
    obtain ⟨l, h1, h2⟩ := hr
    exact absurd (by rw [h2]) (h l h1)
set_option maxHeartbeats 4000000 in
set_option maxRecDepth 100000 in
theorem kX5_splits (l : Launch) (lo : Nat) (G : vG) (rs : va_W) (g : Nat → Nat) (th : Nat) (np : Nat) (nl : Nat) (ld : Nat) (ll : Nat) (mn : Int32) (sp : Nat) (T : Nat → Int32) (S : Nat → Int32) (C : Nat → Int32) (F : Nat → Int32) (LT : Nat → Int32) (LS : Nat → Int32) (VE : Nat → Int32) (BA : Nat → Int32) (wd : Nat → Int32) (mo : Nat → Int32) (lt : Nat → Int32) (op : Nat → Int32) (pl : Nat → Int32) (pt : Nat → Int32) (ks : Nat → Int64) (u : Int32) (x : LX) (hok : lxOK x) (hmk : mOK x np nl T S C F LT LS VE BA) (hR : rkOK x) : Mi l yX5_splits (.code yX5_splits prog_7_method_33_code 2 (some .int)) 6 0 0 lo G [.ref (g 0), .int u] (mW G g th np nl ld ll mn sp T S C F LT LS VE BA wd mo lt op pl pt ks ++ rs) (fun (r : Int32) ((th1, ll1, mn1, sp1, lt1, op1, pl1, pt1, ks1) : (Nat) × (Nat) × (Int32) × (Nat) × (Nat → Int32) × (Nat → Int32) × (Nat → Int32) × (Nat → Int32) × (Nat → Int64)) => (SZ u 8 = 0 ∧ th1 = 1) ∨ (∃ w, u = nI w ∧ w < 200000000 ∧ 0 < SZ u 8 ∧ th1 = 0 ∧ r = nI (mEn x (dgt w (SZ u 8)) (SZ u 8)).length)) (fun ((th1, ll1, mn1, sp1, lt1, op1, pl1, pt1, ks1) : (Nat) × (Nat) × (Int32) × (Nat) × (Nat → Int32) × (Nat → Int32) × (Nat → Int32) × (Nat → Int32) × (Nat → Int64)) => mW G g th1 np nl ld ll1 mn1 sp1 T S C F LT LS VE BA wd mo lt1 op1 pl1 pt1 ks1 ++ rs) := by
  refine Mi_of (lc := [(0, .ref (g 0)), (1, .int u)]) (by decide +kernel) (Nat.le_of_ble_eq_true rfl) rfl ?_
  intro X cx hXR hXl hr hin
  subst hXl
  have hX := RmX.of hXR
  refine V_aload_n cx 1 rfl dX5_splits_0 0 rfl ?_
  refine V_iload_n cx 2 rfl dX5_splits_1 1 rfl ?_
  refine KX5_140 (As := [.int u]) (rest := []) cx (kX5_asks (xl X) lo G _ g th np nl ld ll mn sp T S C F LT LS VE BA wd mo lt op pl pt ks u x hok hmk (fun d L hL => (hR d L hL).1)) hX (by omega) 0 rfl rfl rfl (Nat.le_of_ble_eq_true rfl) 5 0 0 rfl rfl rfl (by omega) (by omega) dX5_splits_2 (fun r_1 u_2 hw_3 => ?_)
  obtain ⟨th1_4, ll1_5, mn1_6, sp1_7, lt1_8, op1_9, pl1_10, pt1_11, ks1_12⟩ := u_2
  try dsimp only at hw_3
  rcases hw_3 with ⟨hz, hr0, ht⟩ | ⟨w, hr0, ht, ha⟩
  · subst hr0; subst ht
    refine V_if_eq cx 8 15 rfl dX5_splits_5 (by decide) (fun c_5 => ?_) (fun c_5 => ?_)
    · skip
      refine V_iconst (v := nI 0) cx 16 rfl dX5_splits_15 (by decide) ?_
      exact V_ireturn cx hr (1, ll1_5, mn1_6, sp1_7, lt1_8, op1_9, pl1_10, pt1_11, ks1_12) (Or.inl ⟨hz, rfl⟩) rfl (by omega) (by omega) dX5_splits_16
    · skip
      exact absurd (B_eq_f c_5) (by decide)
  · subst hr0; subst ht
    obtain ⟨a1, a2, a3, a4, a5, a6, a7, a8⟩ := id ha
    have hR2 := hR (dgt w ll1_5) ll1_5 a4
    refine V_if_eq cx 8 15 rfl dX5_splits_5 (by decide) (fun c_5 => ?_) (fun c_5 => ?_)
    · skip
      exact absurd (B_eq_t c_5) (by decide)
    · skip
      refine V_aload_n cx 9 rfl dX5_splits_8 0 rfl ?_
      refine GX5_118 cx 0 rfl rfl 12 rfl dX5_splits_9 ?_
      refine V_goto cx 16 dX5_splits_12 (by decide) ?_
      exact V_ireturn cx hr (0, ll1_5, mn1_6, sp1_7, lt1_8, op1_9, pl1_10, pt1_11, ks1_12) (Or.inr ⟨w, a1, a2, by omega, rfl, by rw [← a5, ← a7]⟩) rfl (by omega) (by omega) dX5_splits_16
set_option maxHeartbeats 4000000 in
set_option maxRecDepth 100000 in
theorem kX5_asksSplit (l : Launch) (lo : Nat) (G : vG) (rs : va_W) (g : Nat → Nat) (th : Nat) (np : Nat) (nl : Nat) (ld : Nat) (ll : Nat) (mn : Int32) (sp : Nat) (T : Nat → Int32) (S : Nat → Int32) (C : Nat → Int32) (F : Nat → Int32) (LT : Nat → Int32) (LS : Nat → Int32) (VE : Nat → Int32) (BA : Nat → Int32) (wd : Nat → Int32) (mo : Nat → Int32) (lt : Nat → Int32) (op : Nat → Int32) (pl : Nat → Int32) (pt : Nat → Int32) (ks : Nat → Int64) (u : Int32) (k : Int32) (x : LX) (hok : lxOK x) (hmk : mOK x np nl T S C F LT LS VE BA) (hR : rkOK x) : Ml l yX5_asksSplit (.code yX5_asksSplit prog_7_method_34_code 3 (some .long)) 5 0 0 lo G [.ref (g 0), .int u, .int k] (mW G g th np nl ld ll mn sp T S C F LT LS VE BA wd mo lt op pl pt ks ++ rs) (fun (r : Int64) ((th1, ll1, mn1, sp1, lt1, op1, pl1, pt1, ks1) : (Nat) × (Nat) × (Int32) × (Nat) × (Nat → Int32) × (Nat → Int32) × (Nat → Int32) × (Nat → Int32) × (Nat → Int64)) => ((SZ u 8 = 0 ∨ k < 0) ∧ th1 = 1 ∧ r = -1) ∨ (∃ w o, ¬ k < 0 ∧ th1 = 0 ∧ asked x u w ll1 sp1 lt1 ks1 ∧ selR x (mEn x (dgt w ll1) ll1) k o ∧ r = selV x o)) (fun ((th1, ll1, mn1, sp1, lt1, op1, pl1, pt1, ks1) : (Nat) × (Nat) × (Int32) × (Nat) × (Nat → Int32) × (Nat → Int32) × (Nat → Int32) × (Nat → Int32) × (Nat → Int64)) => mW G g th1 np nl ld ll1 mn1 sp1 T S C F LT LS VE BA wd mo lt1 op1 pl1 pt1 ks1 ++ rs) := by
  refine Ml_of (lc := [(0, .ref (g 0)), (1, .int u), (2, .int k)]) (by decide +kernel) (Nat.le_of_ble_eq_true rfl) rfl ?_
  intro X cx hXR hXl hr hin
  subst hXl
  have hX := RmX.of hXR
  obtain ⟨w, hw0⟩ : ∃ w, 0 < SZ u 8 → u = nI w ∧ w < 200000000 := by rcases Nat.eq_zero_or_pos (SZ u 8) with h | h; (exact ⟨0, fun h2 => by omega⟩); (obtain ⟨w, h1, _, _, _, h5⟩ := SZ_szN (by decide) h; exact ⟨w, fun _ => ⟨h1, h5⟩⟩)
  have hL8 := SZ_le u 8
  refine V_aload_n cx 1 rfl dX5_asksSplit_0 0 rfl ?_
  refine V_aload_n cx 2 rfl dX5_asksSplit_1 0 rfl ?_
  refine V_iload_n cx 3 rfl dX5_asksSplit_2 1 rfl ?_
  refine KX5_128 (As := [.int u]) (rest := [.ref (g 0)]) cx (kX5_takes (xl X) lo G _ g th np nl ld ll mn sp T S C F LT LS VE BA wd mo lt op pl pt ks u w (fun h => ⟨(hw0 h).1, by have := (hw0 h).2; omega⟩)) hX (by omega) 0 rfl rfl rfl (Nat.le_of_ble_eq_true rfl) 6 0 0 rfl rfl rfl (by omega) (by omega) dX5_asksSplit_3 (fun r_1 u_2 hw_3 => ?_)
  obtain ⟨lt1_4, rfl⟩ : ∃ z, z = u_2 := ⟨_, rfl⟩
  try dsimp only at hw_3
  obtain ⟨hw_3, hp_5⟩ := hw_3
  subst hw_3
  have hltw := hp_5
  refine V_if_eq cx 9 17 rfl dX5_asksSplit_6 (by decide) (fun c_6 => ?_) (fun c_6 => ?_)
  · skip
    have n_6 := B_eq_t c_6
    try simp only [decide_eq_true_eq, decide_eq_false_iff_not] at n_6
    refine V_iconst (v := nI 1) cx 18 rfl dX5_asksSplit_17 (by decide) ?_
    refine PX5_56 cx 0 rfl (Nat.le_of_ble_eq_true rfl) (mW G g 1 np nl ld (SZ u 8) mn sp T S C F LT LS VE BA wd mo lt1_4 op pl pt ks ++ rs) rfl 21 rfl dX5_asksSplit_18 ?_
    refine V_aload_n cx 22 rfl dX5_asksSplit_21 0 rfl ?_
    refine GX5_56 cx 0 rfl rfl 25 rfl dX5_asksSplit_22 ?_
    refine V_if_le cx 28 32 rfl dX5_asksSplit_25 (by decide) (fun c_25 => ?_) (fun c_25 => ?_)
    · skip
      exact absurd c_25 (by decide)
    · skip
      refine V_ldc2 cx 31 rfl dX5_asksSplit_28 cl_X5_134 ?_
      exact V_lreturn cx hr (1, SZ u 8, mn, sp, lt1_4, op, pl, pt, ks) (Or.inl ⟨by first | exact Or.inl (by omega) | exact Or.inr c_10, rfl, rfl⟩) rfl (by omega) (by omega) dX5_asksSplit_31
  · skip
    have n_6 := B_eq_f c_6
    try simp only [decide_eq_true_eq, decide_eq_false_iff_not] at n_6
    refine V_iload_n cx 10 rfl dX5_asksSplit_9 2 rfl ?_
    refine V_if_lt cx 13 17 rfl dX5_asksSplit_10 (by decide) (fun c_10 => ?_) (fun c_10 => ?_)
    · skip
      refine V_iconst (v := nI 1) cx 18 rfl dX5_asksSplit_17 (by decide) ?_
      refine PX5_56 cx 0 rfl (Nat.le_of_ble_eq_true rfl) (mW G g 1 np nl ld (SZ u 8) mn sp T S C F LT LS VE BA wd mo lt1_4 op pl pt ks ++ rs) rfl 21 rfl dX5_asksSplit_18 ?_
      refine V_aload_n cx 22 rfl dX5_asksSplit_21 0 rfl ?_
      refine GX5_56 cx 0 rfl rfl 25 rfl dX5_asksSplit_22 ?_
      refine V_if_le cx 28 32 rfl dX5_asksSplit_25 (by decide) (fun c_25 => ?_) (fun c_25 => ?_)
      · skip
        exact absurd c_25 (by decide)
      · skip
        refine V_ldc2 cx 31 rfl dX5_asksSplit_28 cl_X5_134 ?_
        exact V_lreturn cx hr (1, SZ u 8, mn, sp, lt1_4, op, pl, pt, ks) (Or.inl ⟨by first | exact Or.inl (by omega) | exact Or.inr c_10, rfl, rfl⟩) rfl (by omega) (by omega) dX5_asksSplit_31
    · skip
      refine V_iconst (v := nI 0) cx 14 rfl dX5_asksSplit_13 (by decide) ?_
      refine V_goto cx 18 dX5_asksSplit_14 (by decide) ?_
      refine PX5_56 cx 0 rfl (Nat.le_of_ble_eq_true rfl) (mW G g 0 np nl ld (SZ u 8) mn sp T S C F LT LS VE BA wd mo lt1_4 op pl pt ks ++ rs) rfl 21 rfl dX5_asksSplit_18 ?_
      refine V_aload_n cx 22 rfl dX5_asksSplit_21 0 rfl ?_
      refine GX5_56 cx 0 rfl rfl 25 rfl dX5_asksSplit_22 ?_
      refine V_if_le cx 28 32 rfl dX5_asksSplit_25 (by decide) (fun c_25 => ?_) (fun c_25 => ?_)
      · skip
        refine V_aload_n cx 33 rfl dX5_asksSplit_32 0 rfl ?_
        refine KX5_131 (As := []) (rest := []) cx (kX5_laysSplits (xl X) lo G _ g 0 np nl ld (SZ u 8) mn sp T S C F LT LS VE BA wd mo lt1_4 op pl pt ks x (dgt w (SZ u 8)) hok hmk (by omega) hltw (fun k => dgt_lt w _ k) (by omega) ((hR _ _ hL8).1)) hX (by omega) 0 rfl rfl rfl (Nat.le_of_ble_eq_true rfl) 36 0 0 rfl rfl rfl (by omega) (by omega) dX5_asksSplit_33 (fun u_7 hw_8 => ?_)
        obtain ⟨op1_9, pl1_10, pt1_11, ks1_12⟩ := u_7
        try dsimp only at hw_8
        have hKS := hw_8
        refine V_aload_n cx 37 rfl dX5_asksSplit_36 0 rfl ?_
        refine V_iload_n cx 38 rfl dX5_asksSplit_37 2 rfl ?_
        refine KX5_143 (As := [.int k]) (rest := []) cx (kX5_keyAt (xl X) lo G _ g 0 np nl ld (SZ u 8) (nI 0 - nI 1) ((mEn x (dgt w (SZ u 8)) (SZ u 8)).length) T S C F LT LS VE BA wd mo lt1_4 op1_9 pl1_10 pt1_11 ks1_12 k ((hR _ _ hL8).1)) hX (by omega) 0 rfl rfl rfl (Nat.le_of_ble_eq_true rfl) 41 0 0 rfl rfl rfl (by omega) (by omega) dX5_asksSplit_38 (fun r_13 u_14 hw_15 => ?_)
        try dsimp only at hw_15
        subst hw_15
        have hasked : asked x u w (SZ u 8) (mEn x (dgt w (SZ u 8)) (SZ u 8)).length _ _ := ⟨(hw0 n_6).1, (hw0 n_6).2, by omega, hL8, rfl, hltw, rfl, hKS⟩
        obtain ⟨o, ho1, ho2⟩ := selK_sel (k := k) hasked.bd hKS
        exact V_lreturn cx hr (0, SZ u 8, nI 0 - nI 1, (mEn x (dgt w (SZ u 8)) (SZ u 8)).length, lt1_4, op1_9, pl1_10, pt1_11, ks1_12) (Or.inr ⟨w, o, c_10, rfl, hasked, ho2, ho1⟩) rfl (by omega) (by omega) dX5_asksSplit_41
      · skip
        exact absurd c_25 (by decide)
set_option maxHeartbeats 4000000 in
set_option maxRecDepth 100000 in
theorem kX5_cost (l : Launch) (lo : Nat) (G : vG) (rs : va_W) (g : Nat → Nat) (th : Nat) (np : Nat) (nl : Nat) (ld : Nat) (ll : Nat) (mn : Int32) (sp : Nat) (T : Nat → Int32) (S : Nat → Int32) (C : Nat → Int32) (F : Nat → Int32) (LT : Nat → Int32) (LS : Nat → Int32) (VE : Nat → Int32) (BA : Nat → Int32) (wd : Nat → Int32) (mo : Nat → Int32) (lt : Nat → Int32) (op : Nat → Int32) (pl : Nat → Int32) (pt : Nat → Int32) (ks : Nat → Int64) (u : Int32) (k : Int32) (x : LX) (hok : lxOK x) (hmk : mOK x np nl T S C F LT LS VE BA) (hR : rkOK x) : Mi l yX5_cost (.code yX5_cost prog_7_method_35_code 5 (some .int)) 6 0 0 lo G [.ref (g 0), .int u, .int k] (mW G g th np nl ld ll mn sp T S C F LT LS VE BA wd mo lt op pl pt ks ++ rs) (fun (r : Int32) ((th1, ll1, mn1, sp1, lt1, op1, pl1, pt1, ks1) : (Nat) × (Nat) × (Int32) × (Nat) × (Nat → Int32) × (Nat → Int32) × (Nat → Int32) × (Nat → Int32) × (Nat → Int64)) => askK x u k th1 (fun o => r = cosV x o)) (fun ((th1, ll1, mn1, sp1, lt1, op1, pl1, pt1, ks1) : (Nat) × (Nat) × (Int32) × (Nat) × (Nat → Int32) × (Nat → Int32) × (Nat → Int32) × (Nat → Int32) × (Nat → Int64)) => mW G g th1 np nl ld ll1 mn1 sp1 T S C F LT LS VE BA wd mo lt1 op1 pl1 pt1 ks1 ++ rs) := by
  refine Mi_of (lc := [(0, .ref (g 0)), (1, .int u), (2, .int k)]) (by decide +kernel) (Nat.le_of_ble_eq_true rfl) rfl ?_
  intro X cx hXR hXl hr hin
  subst hXl
  have hX := RmX.of hXR
  refine V_aload_n cx 1 rfl dX5_cost_0 0 rfl ?_
  refine V_iload_n cx 2 rfl dX5_cost_1 1 rfl ?_
  refine V_iload_n cx 3 rfl dX5_cost_2 2 rfl ?_
  refine KX5_147 (As := [.int u, .int k]) (rest := []) cx (kX5_asksSplit (xl X) lo G _ g th np nl ld ll mn sp T S C F LT LS VE BA wd mo lt op pl pt ks u k x hok hmk hR) hX (by omega) 0 rfl rfl rfl (Nat.le_of_ble_eq_true rfl) 6 0 0 rfl rfl rfl (by omega) (by omega) dX5_cost_3 (fun r_1 u_2 hw_3 => ?_)
  obtain ⟨th1_4, ll1_5, mn1_6, sp1_7, lt1_8, op1_9, pl1_10, pt1_11, ks1_12⟩ := u_2
  try dsimp only at hw_3
  rcases hw_3 with ⟨hz, ht, hr0⟩ | ⟨w, o, hk0, ht, ha, hsel, hr0⟩
  · subst hr0; subst ht
    refine V_lstore_n (lc1 := [(3, .long (-1)), (0, .ref (g 0)), (1, .int u), (2, .int k)]) cx 7 rfl dX5_cost_6 (by decide) rfl ?_
    refine V_lload_n cx 8 rfl dX5_cost_7 0 rfl ?_
    refine V_ldc2 cx 11 rfl dX5_cost_8 cl_X5_134 ?_
    refine V_lcmp cx 12 rfl dX5_cost_11 ?_
    refine V_if_ne cx 15 19 rfl dX5_cost_12 (by decide) (fun c_12 => ?_) (fun c_12 => ?_)
    · skip
      exact absurd (by decide) c_12
    · skip
      refine V_iconst (v := (-1)) cx 16 rfl dX5_cost_15 (by decide) ?_
      refine V_goto cx 23 dX5_cost_16 (by decide) ?_
      exact V_ireturn cx hr (1, ll1_5, mn1_6, sp1_7, lt1_8, op1_9, pl1_10, pt1_11, ks1_12) (Or.inl ⟨hz, rfl⟩) rfl (by omega) (by omega) dX5_cost_23
  · subst hr0; subst ht
    have hbd := ha.bd
    obtain ⟨a1, a2, a3, a4, a5, a6, a7, a8⟩ := id ha
    cases o with
    | none =>
      refine V_tol (-1) (rfl) ?_
      refine V_lstore_n (lc1 := [(3, .long (-1)), (0, .ref (g 0)), (1, .int u), (2, .int k)]) cx 7 rfl dX5_cost_6 (by decide) rfl ?_
      refine V_lload_n cx 8 rfl dX5_cost_7 0 rfl ?_
      refine V_ldc2 cx 11 rfl dX5_cost_8 cl_X5_134 ?_
      refine V_lcmp cx 12 rfl dX5_cost_11 ?_
      refine V_if_ne cx 15 19 rfl dX5_cost_12 (by decide) (fun c_12 => ?_) (fun c_12 => ?_)
      · skip
        exact absurd (by decide) c_12
      · skip
        refine V_iconst (v := (-1)) cx 16 rfl dX5_cost_15 (by decide) ?_
        refine V_goto cx 23 dX5_cost_16 (by decide) ?_
        exact V_ireturn cx hr (0, ll1_5, mn1_6, sp1_7, lt1_8, op1_9, pl1_10, pt1_11, ks1_12) (Or.inr ⟨w, none, a1, a2, by omega, hk0, rfl, a5 ▸ hsel, rfl⟩) rfl (by omega) (by omega) dX5_cost_23
    | some sl =>
      have hKb := hbd sl hsel.1
      have hvs := (mem_mEn a4).mp hsel.1
      refine V_tol (lN (mkl x sl)) (rfl) ?_
      refine V_lstore_n (lc1 := [(3, .long (lN (mkl x sl))), (0, .ref (g 0)), (1, .int u), (2, .int k)]) cx 7 rfl dX5_cost_6 (by decide) rfl ?_
      refine V_lload_n cx 8 rfl dX5_cost_7 0 rfl ?_
      refine V_ldc2 cx 11 rfl dX5_cost_8 cl_X5_134 ?_
      refine V_lcmp cx 12 rfl dX5_cost_11 ?_
      refine V_if_ne cx 15 19 rfl dX5_cost_12 (by decide) (fun c_12 => ?_) (fun c_12 => ?_)
      · skip
        refine V_lload_n cx 20 rfl dX5_cost_19 0 rfl ?_
        refine KX5_151 (As := [.long (lN (mkl x sl))]) (rest := []) cx (kX5_costOfKey (xl X) lo G _ (mkl x sl) hKb) hX (by omega) rfl rfl (Nat.le_of_ble_eq_true rfl) 23 0 0 rfl rfl rfl (by omega) (by omega) dX5_cost_20 (fun r_13 u_14 hw_15 => ?_)
        try dsimp only at hw_15
        subst hw_15
        exact V_ireturn cx hr (0, ll1_5, mn1_6, sp1_7, lt1_8, op1_9, pl1_10, pt1_11, ks1_12) (Or.inr ⟨w, (some sl), a1, a2, by omega, hk0, rfl, a5 ▸ hsel, rfl⟩) rfl (by omega) (by omega) dX5_cost_23
      · skip
        exact absurd (lg_eq0 c_12) (lN_nem1 hKb)
set_option maxHeartbeats 4000000 in
set_option maxRecDepth 100000 in
theorem kX5_size (l : Launch) (lo : Nat) (G : vG) (rs : va_W) (g : Nat → Nat) (th : Nat) (np : Nat) (nl : Nat) (ld : Nat) (ll : Nat) (mn : Int32) (sp : Nat) (T : Nat → Int32) (S : Nat → Int32) (C : Nat → Int32) (F : Nat → Int32) (LT : Nat → Int32) (LS : Nat → Int32) (VE : Nat → Int32) (BA : Nat → Int32) (wd : Nat → Int32) (mo : Nat → Int32) (lt : Nat → Int32) (op : Nat → Int32) (pl : Nat → Int32) (pt : Nat → Int32) (ks : Nat → Int64) (u : Int32) (k : Int32) (x : LX) (hok : lxOK x) (hmk : mOK x np nl T S C F LT LS VE BA) (hR : rkOK x) : Mi l yX5_size (.code yX5_size prog_7_method_36_code 5 (some .int)) 6 0 0 lo G [.ref (g 0), .int u, .int k] (mW G g th np nl ld ll mn sp T S C F LT LS VE BA wd mo lt op pl pt ks ++ rs) (fun (r : Int32) ((th1, ll1, mn1, sp1, lt1, op1, pl1, pt1, ks1) : (Nat) × (Nat) × (Int32) × (Nat) × (Nat → Int32) × (Nat → Int32) × (Nat → Int32) × (Nat → Int32) × (Nat → Int64)) => askK x u k th1 (fun o => r = sizV o)) (fun ((th1, ll1, mn1, sp1, lt1, op1, pl1, pt1, ks1) : (Nat) × (Nat) × (Int32) × (Nat) × (Nat → Int32) × (Nat → Int32) × (Nat → Int32) × (Nat → Int32) × (Nat → Int64)) => mW G g th1 np nl ld ll1 mn1 sp1 T S C F LT LS VE BA wd mo lt1 op1 pl1 pt1 ks1 ++ rs) := by
  refine Mi_of (lc := [(0, .ref (g 0)), (1, .int u), (2, .int k)]) (by decide +kernel) (Nat.le_of_ble_eq_true rfl) rfl ?_
  intro X cx hXR hXl hr hin
  subst hXl
  have hX := RmX.of hXR
  refine V_aload_n cx 1 rfl dX5_size_0 0 rfl ?_
  refine V_iload_n cx 2 rfl dX5_size_1 1 rfl ?_
  refine V_iload_n cx 3 rfl dX5_size_2 2 rfl ?_
  refine KX5_147 (As := [.int u, .int k]) (rest := []) cx (kX5_asksSplit (xl X) lo G _ g th np nl ld ll mn sp T S C F LT LS VE BA wd mo lt op pl pt ks u k x hok hmk hR) hX (by omega) 0 rfl rfl rfl (Nat.le_of_ble_eq_true rfl) 6 0 0 rfl rfl rfl (by omega) (by omega) dX5_size_3 (fun r_1 u_2 hw_3 => ?_)
  obtain ⟨th1_4, ll1_5, mn1_6, sp1_7, lt1_8, op1_9, pl1_10, pt1_11, ks1_12⟩ := u_2
  try dsimp only at hw_3
  rcases hw_3 with ⟨hz, ht, hr0⟩ | ⟨w, o, hk0, ht, ha, hsel, hr0⟩
  · subst hr0; subst ht
    refine V_lstore_n (lc1 := [(3, .long (-1)), (0, .ref (g 0)), (1, .int u), (2, .int k)]) cx 7 rfl dX5_size_6 (by decide) rfl ?_
    refine V_lload_n cx 8 rfl dX5_size_7 0 rfl ?_
    refine V_ldc2 cx 11 rfl dX5_size_8 cl_X5_134 ?_
    refine V_lcmp cx 12 rfl dX5_size_11 ?_
    refine V_if_ne cx 15 19 rfl dX5_size_12 (by decide) (fun c_12 => ?_) (fun c_12 => ?_)
    · skip
      exact absurd (by decide) c_12
    · skip
      refine V_iconst (v := (-1)) cx 16 rfl dX5_size_15 (by decide) ?_
      refine V_goto cx 23 dX5_size_16 (by decide) ?_
      exact V_ireturn cx hr (1, ll1_5, mn1_6, sp1_7, lt1_8, op1_9, pl1_10, pt1_11, ks1_12) (Or.inl ⟨hz, rfl⟩) rfl (by omega) (by omega) dX5_size_23
  · subst hr0; subst ht
    have hbd := ha.bd
    obtain ⟨a1, a2, a3, a4, a5, a6, a7, a8⟩ := id ha
    cases o with
    | none =>
      refine V_tol (-1) (rfl) ?_
      refine V_lstore_n (lc1 := [(3, .long (-1)), (0, .ref (g 0)), (1, .int u), (2, .int k)]) cx 7 rfl dX5_size_6 (by decide) rfl ?_
      refine V_lload_n cx 8 rfl dX5_size_7 0 rfl ?_
      refine V_ldc2 cx 11 rfl dX5_size_8 cl_X5_134 ?_
      refine V_lcmp cx 12 rfl dX5_size_11 ?_
      refine V_if_ne cx 15 19 rfl dX5_size_12 (by decide) (fun c_12 => ?_) (fun c_12 => ?_)
      · skip
        exact absurd (by decide) c_12
      · skip
        refine V_iconst (v := (-1)) cx 16 rfl dX5_size_15 (by decide) ?_
        refine V_goto cx 23 dX5_size_16 (by decide) ?_
        exact V_ireturn cx hr (0, ll1_5, mn1_6, sp1_7, lt1_8, op1_9, pl1_10, pt1_11, ks1_12) (Or.inr ⟨w, none, a1, a2, by omega, hk0, rfl, a5 ▸ hsel, rfl⟩) rfl (by omega) (by omega) dX5_size_23
    | some sl =>
      have hKb := hbd sl hsel.1
      have hvs := (mem_mEn a4).mp hsel.1
      refine V_tol (lN (mkl x sl)) (rfl) ?_
      refine V_lstore_n (lc1 := [(3, .long (lN (mkl x sl))), (0, .ref (g 0)), (1, .int u), (2, .int k)]) cx 7 rfl dX5_size_6 (by decide) rfl ?_
      refine V_lload_n cx 8 rfl dX5_size_7 0 rfl ?_
      refine V_ldc2 cx 11 rfl dX5_size_8 cl_X5_134 ?_
      refine V_lcmp cx 12 rfl dX5_size_11 ?_
      refine V_if_ne cx 15 19 rfl dX5_size_12 (by decide) (fun c_12 => ?_) (fun c_12 => ?_)
      · skip
        refine V_lload_n cx 20 rfl dX5_size_19 0 rfl ?_
        refine KX5_136 (As := [.long (lN (mkl x sl))]) (rest := []) cx (kX5_sizeOfKey (xl X) lo G _ (mkl x sl) hKb) hX (by omega) rfl rfl (Nat.le_of_ble_eq_true rfl) 23 0 0 rfl rfl rfl (by omega) (by omega) dX5_size_20 (fun r_13 u_14 hw_15 => ?_)
        try dsimp only at hw_15
        subst hw_15
        refine V_toi (nI sl.length) (by rw [mkl_size a4 hvs]) ?_
        exact V_ireturn cx hr (0, ll1_5, mn1_6, sp1_7, lt1_8, op1_9, pl1_10, pt1_11, ks1_12) (Or.inr ⟨w, (some sl), a1, a2, by omega, hk0, rfl, a5 ▸ hsel, rfl⟩) rfl (by omega) (by omega) dX5_size_23
      · skip
        exact absurd (lg_eq0 c_12) (lN_nem1 hKb)
set_option maxHeartbeats 4000000 in
set_option maxRecDepth 100000 in
theorem kX5_partAt (l : Launch) (lo : Nat) (G : vG) (rs : va_W) (g : Nat → Nat) (th : Nat) (np : Nat) (nl : Nat) (ld : Nat) (ll : Nat) (mn : Int32) (sp : Nat) (T : Nat → Int32) (S : Nat → Int32) (C : Nat → Int32) (F : Nat → Int32) (LT : Nat → Int32) (LS : Nat → Int32) (VE : Nat → Int32) (BA : Nat → Int32) (wd : Nat → Int32) (mo : Nat → Int32) (lt : Nat → Int32) (op : Nat → Int32) (pl : Nat → Int32) (pt : Nat → Int32) (ks : Nat → Int64) (u : Int32) (k : Int32) (j : Int32) (x : LX) (hok : lxOK x) (hmk : mOK x np nl T S C F LT LS VE BA) (hR : rkOK x) : Mi l yX5_partAt (.code yX5_partAt prog_7_method_37_code 6 (some .int)) 6 0 0 lo G [.ref (g 0), .int u, .int k, .int j] (mW G g th np nl ld ll mn sp T S C F LT LS VE BA wd mo lt op pl pt ks ++ rs) (fun (r : Int32) ((th1, ll1, mn1, sp1, lt1, op1, pl1, pt1, ks1) : (Nat) × (Nat) × (Int32) × (Nat) × (Nat → Int32) × (Nat → Int32) × (Nat → Int32) × (Nat → Int32) × (Nat → Int64)) => (j < 0 ∧ th1 = 1) ∨ (¬ j < 0 ∧ askK x u k th1 (patP j r))) (fun ((th1, ll1, mn1, sp1, lt1, op1, pl1, pt1, ks1) : (Nat) × (Nat) × (Int32) × (Nat) × (Nat → Int32) × (Nat → Int32) × (Nat → Int32) × (Nat → Int32) × (Nat → Int64)) => mW G g th1 np nl ld ll1 mn1 sp1 T S C F LT LS VE BA wd mo lt1 op1 pl1 pt1 ks1 ++ rs) := by
  refine Mi_of (lc := [(0, .ref (g 0)), (1, .int u), (2, .int k), (3, .int j)]) (by decide +kernel) (Nat.le_of_ble_eq_true rfl) rfl ?_
  intro X cx hXR hXl hr hin
  subst hXl
  have hX := RmX.of hXR
  refine V_iload_n cx 1 rfl dX5_partAt_0 3 rfl ?_
  refine V_if_ge cx 4 10 rfl dX5_partAt_1 (by decide) (fun c_1 => ?_) (fun c_1 => ?_)
  · skip
    have hj0 := Int32.not_lt.mpr c_1
    obtain ⟨jn, hjn, ej⟩ := nI_of hj0
    rw [ej]
    rw [ej] at hj0
    refine V_aload_n cx 11 rfl dX5_partAt_10 0 rfl ?_
    refine V_iload_n cx 12 rfl dX5_partAt_11 1 rfl ?_
    refine V_iload_n cx 13 rfl dX5_partAt_12 2 rfl ?_
    refine KX5_147 (As := [.int u, .int k]) (rest := []) cx (kX5_asksSplit (xl X) lo G _ g th np nl ld ll mn sp T S C F LT LS VE BA wd mo lt op pl pt ks u k x hok hmk hR) hX (by omega) 0 rfl rfl rfl (Nat.le_of_ble_eq_true rfl) 16 0 0 rfl rfl rfl (by omega) (by omega) dX5_partAt_13 (fun r_1 u_2 hw_3 => ?_)
    obtain ⟨th1_4, ll1_5, mn1_6, sp1_7, lt1_8, op1_9, pl1_10, pt1_11, ks1_12⟩ := u_2
    try dsimp only at hw_3
    rcases hw_3 with ⟨hz, ht, hr0⟩ | ⟨w, o, hk0, ht, ha, hsel, hr0⟩
    · subst hr0; subst ht
      refine V_lstore (lc1 := [(4, .long (-1)), (0, .ref (g 0)), (1, .int u), (2, .int k), (3, .int (nI jn))]) cx 18 rfl dX5_partAt_16 (by decide) rfl ?_
      refine V_iload_n cx 19 rfl dX5_partAt_18 4 rfl ?_
      refine V_if_ge cx 22 27 rfl dX5_partAt_19 (by decide) (fun c_19 => ?_) (fun c_19 => ?_)
      · skip
        refine V_lload cx 29 rfl dX5_partAt_27 0 rfl ?_
        refine V_ldc2 cx 32 rfl dX5_partAt_29 cl_X5_134 ?_
        refine V_lcmp cx 33 rfl dX5_partAt_32 ?_
        refine V_if_eq cx 36 45 rfl dX5_partAt_33 (by decide) (fun c_33 => ?_) (fun c_33 => ?_)
        · skip
          refine V_iconst (v := (-1)) cx 46 rfl dX5_partAt_45 (by decide) ?_
          exact V_ireturn cx hr (1, ll1_5, mn1_6, sp1_7, lt1_8, op1_9, pl1_10, pt1_11, ks1_12) (by subst ej; exact Or.inr ⟨hj0, Or.inl ⟨hz, rfl⟩⟩) rfl (by omega) (by omega) dX5_partAt_46
        · skip
          exact absurd (by decide) c_33
      · skip
        exact absurd (Int32.not_lt.mp hj0) c_19
    · subst hr0; subst ht
      have hbd := ha.bd
      obtain ⟨a1, a2, a3, a4, a5, a6, a7, a8⟩ := id ha
      cases o with
      | none =>
        refine V_tol (-1) (rfl) ?_
        refine V_lstore (lc1 := [(4, .long (-1)), (0, .ref (g 0)), (1, .int u), (2, .int k), (3, .int (nI jn))]) cx 18 rfl dX5_partAt_16 (by decide) rfl ?_
        refine V_iload_n cx 19 rfl dX5_partAt_18 4 rfl ?_
        refine V_if_ge cx 22 27 rfl dX5_partAt_19 (by decide) (fun c_19 => ?_) (fun c_19 => ?_)
        · skip
          refine V_lload cx 29 rfl dX5_partAt_27 0 rfl ?_
          refine V_ldc2 cx 32 rfl dX5_partAt_29 cl_X5_134 ?_
          refine V_lcmp cx 33 rfl dX5_partAt_32 ?_
          refine V_if_eq cx 36 45 rfl dX5_partAt_33 (by decide) (fun c_33 => ?_) (fun c_33 => ?_)
          · skip
            refine V_iconst (v := (-1)) cx 46 rfl dX5_partAt_45 (by decide) ?_
            exact V_ireturn cx hr (0, ll1_5, mn1_6, sp1_7, lt1_8, op1_9, pl1_10, pt1_11, ks1_12) (by subst ej; exact Or.inr ⟨hj0, Or.inr ⟨w, none, a1, a2, by omega, hk0, rfl, a5 ▸ hsel, rfl⟩⟩) rfl (by omega) (by omega) dX5_partAt_46
          · skip
            exact absurd (by decide) c_33
        · skip
          exact absurd (Int32.not_lt.mp hj0) c_19
      | some sl =>
        have hKb := hbd sl hsel.1
        have hvs := (mem_mEn a4).mp hsel.1
        refine V_tol (lN (mkl x sl)) (rfl) ?_
        refine V_lstore (lc1 := [(4, .long (lN (mkl x sl))), (0, .ref (g 0)), (1, .int u), (2, .int k), (3, .int (nI jn))]) cx 18 rfl dX5_partAt_16 (by decide) rfl ?_
        refine V_iload_n cx 19 rfl dX5_partAt_18 4 rfl ?_
        refine V_if_ge cx 22 27 rfl dX5_partAt_19 (by decide) (fun c_19 => ?_) (fun c_19 => ?_)
        · skip
          refine V_lload cx 29 rfl dX5_partAt_27 0 rfl ?_
          refine V_ldc2 cx 32 rfl dX5_partAt_29 cl_X5_134 ?_
          refine V_lcmp cx 33 rfl dX5_partAt_32 ?_
          refine V_if_eq cx 36 45 rfl dX5_partAt_33 (by decide) (fun c_33 => ?_) (fun c_33 => ?_)
          · skip
            exact absurd (lg_eq0 c_33) (lN_nem1 hKb)
          · skip
            refine V_iload_n cx 37 rfl dX5_partAt_36 4 rfl ?_
            refine V_lload cx 39 rfl dX5_partAt_37 0 rfl ?_
            refine KX5_136 (As := [.long (lN (mkl x sl))]) (rest := [.int (nI jn)]) cx (kX5_sizeOfKey (xl X) lo G _ (mkl x sl) hKb) hX (by omega) rfl rfl (Nat.le_of_ble_eq_true rfl) 42 0 0 rfl rfl rfl (by omega) (by omega) dX5_partAt_39 (fun r_13 u_14 hw_15 => ?_)
            try dsimp only at hw_15
            subst hw_15
            refine V_toi (nI sl.length) (by rw [mkl_size a4 hvs]) ?_
            refine V_icmp_lt cx 45 47 rfl dX5_partAt_42 (by decide) (fun c_42 => ?_) (fun c_42 => ?_)
            · skip
              have n_42 : jn < sl.length := N_lt_t (by omega) (by have := valS_len sl 0 none hvs; omega) c_42
              refine V_aload_n cx 48 rfl dX5_partAt_47 1 rfl ?_
              refine V_lload cx 50 rfl dX5_partAt_48 0 rfl ?_
              refine KX5_154 (As := [.long (lN (mkl x sl))]) (rest := []) cx (kX5_unfolds (xl X) lo G _ g 0 np nl ld ll1_5 mn1_6 sp1_7 T S C F LT LS VE BA wd mo lt1_8 op1_9 pl1_10 pt1_11 ks1_12 (mkl x sl) x (dgt w _) sl hok hmk (by omega) a6 (fun k => dgt_lt w _ k) rfl hvs) hX (by omega) 0 rfl rfl rfl (Nat.le_of_ble_eq_true rfl) 53 0 0 rfl rfl rfl (by omega) (by omega) dX5_partAt_50 (fun u_17 hw_18 => ?_)
              obtain ⟨op1_19, pl1_20, pt1_21⟩ := u_17
              try dsimp only at hw_18
              have hun := hw_18
              have hb1 := valS_bd sl 0 none hvs jn n_42
              have hb2 := valS_len sl 0 none hvs
              have hb3 := hok.1
              refine V_bipush (v := nI 10) cx 55 rfl dX5_partAt_53 (by decide) ?_
              refine V_aload_n cx 56 rfl dX5_partAt_55 1 rfl ?_
              refine GX5_49 cx 0 rfl rfl 59 rfl dX5_partAt_56 ?_
              refine V_iload_n cx 60 rfl dX5_partAt_59 4 rfl ?_
              refine V_ialdN cx jn (rfl) (by omega) (by decide) 14 rfl 61 rfl dX5_partAt_60 ?_
              refine V_toi (nI (spP sl jn)) ((hun jn n_42).2) ?_
              refine V_imul cx 62 rfl dX5_partAt_61 ?_
              refine V_toi (nI (10 * (spP sl jn))) (nI_mulN _ _) ?_
              refine V_aload_n cx 63 rfl dX5_partAt_62 1 rfl ?_
              refine GX5_43 cx 0 rfl rfl 66 rfl dX5_partAt_63 ?_
              refine V_iload_n cx 67 rfl dX5_partAt_66 4 rfl ?_
              refine V_ialdN cx jn (rfl) (by omega) (by decide) 12 rfl 68 rfl dX5_partAt_67 ?_
              refine V_toi (nI (spO sl jn)) ((hun jn n_42).1) ?_
              refine V_bipush (v := nI 7) cx 70 rfl dX5_partAt_68 (by decide) ?_
              refine V_irem cx 71 rfl dX5_partAt_70 (by decide) ?_
              refine V_toi (nI ((spO sl jn) % 7)) (nI_mod (by omega) (by omega)) ?_
              refine V_iadd cx 72 rfl dX5_partAt_71 ?_
              refine V_toi (nI ((10 * (spP sl jn)) + ((spO sl jn) % 7))) (nI_add _ _) ?_
              exact V_ireturn cx hr (0, ll1_5, nI sl.length, sp1_7, lt1_8, op1_19, pl1_20, pt1_21, ks1_12) (by subst ej; exact Or.inr ⟨hj0, Or.inr ⟨w, some sl, a1, a2, by omega, hk0, rfl, a5 ▸ hsel, Or.inr ⟨jn, n_42, rfl, rfl⟩⟩⟩) rfl (by omega) (by omega) dX5_partAt_72
            · skip
              have n_42 : jn ≥ sl.length := N_lt_f (by omega) (by have := valS_len sl 0 none hvs; omega) c_42
              refine V_iconst (v := (-1)) cx 46 rfl dX5_partAt_45 (by decide) ?_
              exact V_ireturn cx hr (0, ll1_5, mn1_6, sp1_7, lt1_8, op1_9, pl1_10, pt1_11, ks1_12) (by subst ej; exact Or.inr ⟨hj0, Or.inr ⟨w, some sl, a1, a2, by omega, hk0, rfl, a5 ▸ hsel, Or.inl ⟨nI_le n_42 (by omega), rfl⟩⟩⟩) rfl (by omega) (by omega) dX5_partAt_46
        · skip
          exact absurd (Int32.not_lt.mp hj0) c_19
  · skip
    refine V_ldc2 cx 7 rfl dX5_partAt_4 cl_X5_134 ?_
    refine V_goto cx 16 dX5_partAt_7 (by decide) ?_
    refine V_lstore (lc1 := [(4, .long (-1)), (0, .ref (g 0)), (1, .int u), (2, .int k), (3, .int j)]) cx 18 rfl dX5_partAt_16 (by decide) rfl ?_
    refine V_iload_n cx 19 rfl dX5_partAt_18 4 rfl ?_
    refine V_if_ge cx 22 27 rfl dX5_partAt_19 (by decide) (fun c_19 => ?_) (fun c_19 => ?_)
    · skip
      exact absurd c_19 c_1
    · skip
      refine V_aload_n cx 23 rfl dX5_partAt_22 1 rfl ?_
      refine V_iconst (v := nI 1) cx 24 rfl dX5_partAt_23 (by decide) ?_
      refine PX5_56 cx 0 rfl (Nat.le_of_ble_eq_true rfl) (mW G g 1 np nl ld ll mn sp T S C F LT LS VE BA wd mo lt op pl pt ks ++ rs) rfl 27 rfl dX5_partAt_24 ?_
      refine V_lload cx 29 rfl dX5_partAt_27 0 rfl ?_
      refine V_ldc2 cx 32 rfl dX5_partAt_29 cl_X5_134 ?_
      refine V_lcmp cx 33 rfl dX5_partAt_32 ?_
      refine V_if_eq cx 36 45 rfl dX5_partAt_33 (by decide) (fun c_33 => ?_) (fun c_33 => ?_)
      · skip
        refine V_iconst (v := (-1)) cx 46 rfl dX5_partAt_45 (by decide) ?_
        exact V_ireturn cx hr (1, ll, mn, sp, lt, op, pl, pt, ks) (Or.inl ⟨Int32.not_le.mp c_1, rfl⟩) rfl (by omega) (by omega) dX5_partAt_46
      · skip
        exact absurd (by decide) c_33
set_option maxHeartbeats 4000000 in
set_option maxRecDepth 100000 in
theorem kX5_head (l : Launch) (lo : Nat) (G : vG) (rs : va_W) (g : Nat → Nat) (th : Nat) (np : Nat) (nl : Nat) (ld : Nat) (ll : Nat) (mn : Int32) (sp : Nat) (T : Nat → Int32) (S : Nat → Int32) (C : Nat → Int32) (F : Nat → Int32) (LT : Nat → Int32) (LS : Nat → Int32) (VE : Nat → Int32) (BA : Nat → Int32) (wd : Nat → Int32) (mo : Nat → Int32) (lt : Nat → Int32) (op : Nat → Int32) (pl : Nat → Int32) (pt : Nat → Int32) (ks : Nat → Int64) (u : Int32) (x : LX) (hok : lxOK x) (hmk : mOK x np nl T S C F LT LS VE BA) (hR : rkOK x) : Mi l yX5_head (.code yX5_head prog_7_method_38_code 2 (some .int)) 6 0 0 lo G [.ref (g 0), .int u] (mW G g th np nl ld ll mn sp T S C F LT LS VE BA wd mo lt op pl pt ks ++ rs) (fun (r : Int32) ((th1, ll1, mn1, sp1, lt1, op1, pl1, pt1, ks1) : (Nat) × (Nat) × (Int32) × (Nat) × (Nat → Int32) × (Nat → Int32) × (Nat → Int32) × (Nat → Int32) × (Nat → Int64)) => askK x u (nI 0) th1 (fun o => r = hedV o)) (fun ((th1, ll1, mn1, sp1, lt1, op1, pl1, pt1, ks1) : (Nat) × (Nat) × (Int32) × (Nat) × (Nat → Int32) × (Nat → Int32) × (Nat → Int32) × (Nat → Int32) × (Nat → Int64)) => mW G g th1 np nl ld ll1 mn1 sp1 T S C F LT LS VE BA wd mo lt1 op1 pl1 pt1 ks1 ++ rs) := by
  refine Mi_of (lc := [(0, .ref (g 0)), (1, .int u)]) (by decide +kernel) (Nat.le_of_ble_eq_true rfl) rfl ?_
  intro X cx hXR hXl hr hin
  subst hXl
  have hX := RmX.of hXR
  refine V_aload_n cx 1 rfl dX5_head_0 0 rfl ?_
  refine V_iload_n cx 2 rfl dX5_head_1 1 rfl ?_
  refine KX5_140 (As := [.int u]) (rest := []) cx (kX5_asks (xl X) lo G _ g th np nl ld ll mn sp T S C F LT LS VE BA wd mo lt op pl pt ks u x hok hmk (fun d L hL => (hR d L hL).1)) hX (by omega) 0 rfl rfl rfl (Nat.le_of_ble_eq_true rfl) 5 0 0 rfl rfl rfl (by omega) (by omega) dX5_head_2 (fun r_1 u_2 hw_3 => ?_)
  obtain ⟨th1_4, ll1_5, mn1_6, sp1_7, lt1_8, op1_9, pl1_10, pt1_11, ks1_12⟩ := u_2
  try dsimp only at hw_3
  rcases hw_3 with ⟨hz, hr0, ht⟩ | ⟨w, hr0, ht, ha⟩
  · subst hr0; subst ht
    refine V_if_eq cx 8 15 rfl dX5_head_5 (by decide) (fun c_5 => ?_) (fun c_5 => ?_)
    · skip
      refine V_iconst (v := (-1)) cx 16 rfl dX5_head_15 (by decide) ?_
      exact V_ireturn cx hr (1, ll1_5, mn1_6, sp1_7, lt1_8, op1_9, pl1_10, pt1_11, ks1_12) (Or.inl ⟨Or.inl hz, rfl⟩) rfl (by omega) (by omega) dX5_head_16
    · skip
      exact absurd (B_eq_f c_5) (by decide)
  · subst hr0; subst ht
    obtain ⟨a1, a2, a3, a4, a5, a6, a7, a8⟩ := id ha
    have hR2 := hR (dgt w ll1_5) ll1_5 a4
    refine V_if_eq cx 8 15 rfl dX5_head_5 (by decide) (fun c_5 => ?_) (fun c_5 => ?_)
    · skip
      exact absurd (B_eq_t c_5) (by decide)
    · skip
      refine V_aload_n cx 9 rfl dX5_head_8 0 rfl ?_
      refine GX5_118 cx 0 rfl rfl 12 rfl dX5_head_9 ?_
      refine V_if_ne cx 15 17 rfl dX5_head_12 (by decide) (fun c_12 => ?_) (fun c_12 => ?_)
      · skip
        have n_12 : sp1_7 ≠ 0 := Z_ne_t (by have := hR2.1; omega) c_12
        refine V_aload_n cx 18 rfl dX5_head_17 0 rfl ?_
        refine V_aload_n cx 19 rfl dX5_head_18 0 rfl ?_
        refine V_iconst (v := nI 0) cx 20 rfl dX5_head_19 (by decide) ?_
        refine KX5_143 (As := [.int (nI 0)]) (rest := [.ref (g 0)]) cx (kX5_keyAt (xl X) lo G _ g 0 np nl ld ll1_5 mn1_6 sp1_7 T S C F LT LS VE BA wd mo lt1_8 op1_9 pl1_10 pt1_11 ks1_12 (nI 0) (by rw [a7]; exact hR2.1)) hX (by omega) 0 rfl rfl rfl (Nat.le_of_ble_eq_true rfl) 23 0 0 rfl rfl rfl (by omega) (by omega) dX5_head_20 (fun r_13 u_14 hw_15 => ?_)
        try dsimp only at hw_15
        subst hw_15
        obtain ⟨o, ho1, hsel⟩ := selK_sel (k := nI 0) ha.bd a8
        obtain ⟨sl, rfl⟩ := sel_some (hR2.2 0 (by omega)) hsel
        have hKb := ha.bd sl hsel.1
        have hvs := (mem_mEn a4).mp hsel.1
        rw [← a7] at ho1
        refine V_tol (lN (mkl x sl)) (ho1) ?_
        refine KX5_154 (As := [.long (lN (mkl x sl))]) (rest := []) cx (kX5_unfolds (xl X) lo G _ g 0 np nl ld ll1_5 mn1_6 sp1_7 T S C F LT LS VE BA wd mo lt1_8 op1_9 pl1_10 pt1_11 ks1_12 (mkl x sl) x (dgt w _) sl hok hmk (by omega) a6 (fun k => dgt_lt w _ k) rfl hvs) hX (by omega) 0 rfl rfl rfl (Nat.le_of_ble_eq_true rfl) 26 0 0 rfl rfl rfl (by omega) (by omega) dX5_head_23 (fun u_17 hw_18 => ?_)
        obtain ⟨op1_19, pl1_20, pt1_21⟩ := u_17
        try dsimp only at hw_18
        have hun := hw_18
        have hb2 := valS_len sl 0 none hvs
        refine V_aload_n cx 27 rfl dX5_head_26 0 rfl ?_
        refine GX5_49 cx 0 rfl rfl 30 rfl dX5_head_27 ?_
        refine V_aload_n cx 31 rfl dX5_head_30 0 rfl ?_
        refine GX5_104 cx 0 rfl rfl 34 rfl dX5_head_31 ?_
        refine V_iconst (v := nI 1) cx 35 rfl dX5_head_34 (by decide) ?_
        refine V_isub cx 36 rfl dX5_head_35 ?_
        refine V_toi (nI (sl.length - 1)) (nI_subN (by omega)) ?_
        refine V_ialdN cx (sl.length - 1) (rfl) (by omega) (by decide) 14 rfl 37 rfl dX5_head_36 ?_
        refine V_toi (nI (spP sl (sl.length - 1))) ((hun _ (by omega)).2) ?_
        exact V_ireturn cx hr (0, ll1_5, nI sl.length, sp1_7, lt1_8, op1_19, pl1_20, pt1_21, ks1_12) (Or.inr ⟨w, some sl, a1, a2, by omega, by decide, rfl, a5 ▸ hsel, rfl⟩) rfl (by omega) (by omega) dX5_head_37
      · skip
        have n_12 : sp1_7 = 0 := Z_ne_f (by have := hR2.1; omega) c_12
        refine V_iconst (v := (-1)) cx 16 rfl dX5_head_15 (by decide) ?_
        exact V_ireturn cx hr (0, ll1_5, mn1_6, sp1_7, lt1_8, op1_9, pl1_10, pt1_11, ks1_12) (Or.inr ⟨w, none, a1, a2, by omega, by decide, rfl, sel_nil (by rw [← a5, ← a7]; omega), rfl⟩) rfl (by omega) (by omega) dX5_head_16
