theorem lw_cOK {x : LX} {np nl : Nat} {T C F LT VV BB : Nat → Int32} (hok : lxOK x) (h : cOK x np nl T C F LT VV BB) : ∀ i, i < np → C i = nI (lC x i) ∧ 1 ≤ lC x i ∧ lC x i ≤ 9999 := fun i hi => ⟨h.2.2.2.1 i hi, hok.2.2.2.1 i (h.1 ▸ hi)⟩
theorem q_cnt {x : LX} {np nl : Nat} {T C F LT VV BB : Nat → Int32} (h : cOK x np nl T C F LT VV BB) {k : Nat} (hk : k < 2147483648) (hn : np ≤ 16) {r : Int32} (hx : ∃ q, q < np ∧ nI k = nI q ∧ r = C q) : r = nI (lC x k) := by
  obtain ⟨q, h1, h2, h3⟩ := hx
  rw [h3, h.2.2.2.1 q h1, nI_inj hk (by omega) h2]
theorem q_cst {f : Nat → Nat} {k np : Nat} (hk : k < 2147483648) (hn : np ≤ 16) {r : Int32} (hx : ∃ q, q < np ∧ nI k = nI q ∧ r = nI (ko (f q))) : r = nI (ko (f k)) := by
  obtain ⟨q, h1, h2, h3⟩ := hx
  rw [h3, nI_inj hk (by omega) h2]
theorem q_find {x : LX} {np nl : Nat} {T C F LT VV BB qt qc qf qb ql : Nat → Int32} (hok : lxOK x) (h : cOK x np nl T C F LT VV BB) (hq : LQ x qt qc qf qb ql) {w : Nat} (hw : w < 2147483648) {f r : Int32} (hf : f = lastW qt (nI w) (lNp x)) (hx : 0 < SZ (nI w) 8 ∧ r = oI (pwI T (nI w) np)) : r = f := by
  have ht : ∀ i, i < lNp x → lT x i < 2147483648 := fun i hi => Nat.lt_trans (hok.t hi) (by decide)
  have h1 := pwI_pw (T := T) (t := lT x) (y := w) (n := np) hw (fun i hi => ⟨h.2.2.1 i hi, ht i (h.1 ▸ hi)⟩)
  have h2 := lastW_pw (T := qt) (t := lT x) (x := w) (n := lNp x) hw (fun i hi => ⟨hq.1 i hi, ht i hi⟩) (fun i j hi hj e => hok.2.2.2.2.2.1 i j hi hj e)
  rw [hx.2, hf, h1, h2, h.1]
theorem q_none {x : LX} {np nl : Nat} {T C F LT VV BB : Nat → Int32} (hok : lxOK x) (h : cOK x np nl T C F LT VV BB) {w : Nat} (hw : w < 2147483648) (hb : 20000 ≤ w) {r : Int32} (hx : 0 < SZ (nI w) 8 ∧ r = oI (pwI T (nI w) np)) : r = -1 := by
  have ht : ∀ i, i < lNp x → lT x i < 2147483648 := fun i hi => Nat.lt_trans (hok.t hi) (by decide)
  have h1 := pwI_pw (T := T) (t := lT x) (y := w) (n := np) hw (fun i hi => ⟨h.2.2.1 i hi, ht i (h.1 ▸ hi)⟩)
  rw [hx.2, h1]
  cases hp : pw (lT x) w np with
  | none => rfl
  | some p =>
    obtain ⟨a1, a2⟩ := pw_some hp
    have := hok.t (h.1 ▸ a1)
    omega
theorem sz_c1 : SZ (nI 123456789) 8 = 8 := by decide +kernel
theorem sz_c2 : SZ (nI 1234567890) 8 = 0 := by decide +kernel
theorem sz_1 : SZ (nI 1) 8 = 0 := by decide +kernel
theorem sz_0 : SZ (nI 0) 8 = 0 := by decide +kernel
theorem sz_m1 : SZ (-1) 8 = 0 := by decide +kernel
theorem sz_max : SZ (nI 2147483647) 8 = 0 := by decide +kernel
set_option maxHeartbeats 4000000 in
set_option maxRecDepth 100000 in
theorem kL_text (l : Launch) (lo : Nat) (G : vG) (rs : va_W) (y : Int32) (m : Nat) (hm : 1 ≤ m ∧ m ≤ 5) : Mi l yL_text (.code yL_text method_26_code 5 (some .int)) 2 0 0 lo G [.int y, .int (nI m)] (rs) (fun (r : Int32) (_ : Unit) => ∃ v n, r = nI v ∧ 1 ≤ n ∧ n ≤ m ∧ 10 ^ n ≤ v ∧ v < 2 * 10 ^ n) (fun (_ : Unit) => rs) := by
  refine Mi_of (lc := [(0, .int y), (1, .int (nI m))]) (by decide +kernel) (Nat.le_of_ble_eq_true rfl) rfl ?_
  intro X cx hXR hXl hr hin
  subst hXl
  have hX := RmX.of hXR
  refine V_iconst (v := nI 1) cx 1 rfl dL_text_0 (by decide) ?_
  refine V_iload_n cx 2 rfl dL_text_1 0 rfl ?_
  refine V_iload_n cx 3 rfl dL_text_2 1 rfl ?_
  refine KL_101 (As := [.int y, .int (nI m)]) (rest := [.int (nI 1)]) cx (kL_low (xl X) lo G _ y m (by omega)) hX (by omega) rfl rfl (Nat.le_of_ble_eq_true rfl) 6 0 0 rfl rfl rfl (by omega) (by omega) dL_text_3 (fun r_1 u_2 hw_3 => ?_)
  try dsimp only at hw_3
  subst hw_3
  refine V_iadd cx 7 rfl dL_text_6 ?_
  refine V_toi (nI (1 + (lowN y m))) (nI_add _ _) ?_
  refine V_istore_n (lc1 := [(2, .int (nI (1 + (lowN y m)))), (0, .int y), (1, .int (nI m))]) cx 8 rfl dL_text_7 (by decide) rfl ?_
  have hlw := lowN_lt y (show 0 < m by omega)
  refine V_iconst (v := nI 1) cx 9 rfl dL_text_8 (by decide) ?_
  refine V_istore_n (lc1 := [(3, .int (nI 1)), (2, .int (nI (1 + (lowN y m)))), (0, .int y), (1, .int (nI m))]) cx 10 rfl dL_text_9 (by decide) rfl ?_
  refine V_iconst (v := nI 0) cx 11 rfl dL_text_10 (by decide) ?_
  refine V_istore (lc1 := [(4, .int (nI 0)), (3, .int (nI 1)), (2, .int (nI (1 + (lowN y m)))), (0, .int y), (1, .int (nI m))]) cx 13 rfl dL_text_11 (by decide) rfl ?_
  have loop_13 : ∀ (fuel : Nat) (k : Nat) (v : Nat), (k ≤ 1 + lowN y m) → (10 ^ k ≤ v) → (v < 2 * 10 ^ k) → 1 + lowN y m - k < fuel → V X lo 5 G (Qi X lo G (fun (r : Int32) (_ : Unit) => ∃ v n, r = nI v ∧ 1 ≤ n ∧ n ≤ m ∧ 10 ^ n ≤ v ∧ v < 2 * 10 ^ n) (fun (_ : Unit) => rs) 0 0) 0 0 (rs) [(4, .int (nI k)), (3, .int (nI v)), (2, .int (nI (1 + (lowN y m)))), (0, .int y), (1, .int (nI m))] [] 13 := by
    intro fuel
    induction fuel with
    | zero => intro k v hk hv1 hv2 hmz; exact absurd hmz (Nat.not_lt_zero _)
    | succ fuel ih_13 =>
      intro k v hk hv1 hv2 hmz_13
      refine V_iload cx 15 rfl dL_text_13 0 rfl ?_
      refine V_iload_n cx 16 rfl dL_text_15 2 rfl ?_
      refine V_icmp_ge cx 19 68 rfl dL_text_16 (by decide) (fun c_16 => ?_) (fun c_16 => ?_)
      · skip
        have n_16 : k ≥ 1 + (lowN y m) := N_ge_t (by omega) (by omega) c_16
        refine V_iload_n cx 69 rfl dL_text_68 1 rfl ?_
        exact V_ireturn cx hr () (⟨v, 1 + lowN y m, rfl, by omega, by omega, by rw [show 1 + lowN y m = k by omega]; exact hv1, by rw [show 1 + lowN y m = k by omega]; exact hv2⟩) rfl (by omega) (by omega) dL_text_69
      · skip
        have n_16 : k < 1 + (lowN y m) := N_ge_f (by omega) (by omega) c_16
        have join_60 : ∀ (dg : Nat), (dg < 3) → V X lo 5 G (Qi X lo G (fun (r : Int32) (_ : Unit) => ∃ v n, r = nI v ∧ 1 ≤ n ∧ n ≤ m ∧ 10 ^ n ≤ v ∧ v < 2 * 10 ^ n) (fun (_ : Unit) => rs) 0 0) 0 0 (rs) [(4, .int (nI k)), (3, .int (nI v)), (2, .int (nI (1 + (lowN y m)))), (0, .int y), (1, .int (nI m))] [.int (nI dg), .int (nI (10 * v))] 60 := by
          intro dg hdg
          refine V_iadd cx 61 rfl dL_text_60 ?_
          refine V_toi (nI ((10 * v) + dg)) (nI_add _ _) ?_
          refine V_istore_n (lc1 := [(3, .int (nI ((10 * v) + dg))), (4, .int (nI k)), (2, .int (nI (1 + (lowN y m)))), (0, .int y), (1, .int (nI m))]) cx 62 rfl dL_text_61 (by decide) rfl ?_
          refine V_iinc (v := nI (k + 1)) (lc1 := [(4, .int (nI (k + 1))), (3, .int (nI ((10 * v) + dg))), (2, .int (nI (1 + (lowN y m)))), (0, .int y), (1, .int (nI m))]) cx 65 rfl dL_text_62 1 rfl (nI_inc k 1) (by decide) rfl ?_
          refine V_goto cx 13 dL_text_65 (by decide) ?_
          refine V.locs [0, 1, 2, 3, 4] rfl ?_
          exact ih_13 (k + 1) ((10 * v) + dg) (by omega) (by exact (text_step (n := 0) hv1 hv2 (show dg < 10 by omega)).1) (by exact (text_step (n := 0) hv1 hv2 (show dg < 10 by omega)).2) (by omega)
        refine V_bipush (v := nI 10) cx 21 rfl dL_text_19 (by decide) ?_
        refine V_iload_n cx 22 rfl dL_text_21 1 rfl ?_
        refine V_imul cx 23 rfl dL_text_22 ?_
        refine V_toi (nI (10 * v)) (nI_mulN _ _) ?_
        refine V_iload_n cx 24 rfl dL_text_23 3 rfl ?_
        refine V_iconst (v := nI 4) cx 25 rfl dL_text_24 (by decide) ?_
        refine V_ishr cx 26 rfl dL_text_25 ?_
        refine V_iconst (v := nI 3) cx 27 rfl dL_text_26 (by decide) ?_
        refine V_iand cx 28 rfl dL_text_27 ?_
        refine V_if_ne cx 31 47 rfl dL_text_28 (by decide) (fun c_28 => ?_) (fun c_28 => ?_)
        · skip
          refine V_iload_n cx 48 rfl dL_text_47 3 rfl ?_
          refine V_bipush (v := nI 6) cx 50 rfl dL_text_48 (by decide) ?_
          refine V_iconst (v := nI 2) cx 51 rfl dL_text_50 (by decide) ?_
          refine V_iload cx 53 rfl dL_text_51 0 rfl ?_
          refine V_imul cx 54 rfl dL_text_53 ?_
          refine V_toi (nI (2 * k)) (nI_mulN _ _) ?_
          refine V_iadd cx 55 rfl dL_text_54 ?_
          refine V_toi (nI (6 + (2 * k))) (nI_add _ _) ?_
          refine V_ishr cx 56 rfl dL_text_55 ?_
          refine V_iconst (v := nI 2) cx 57 rfl dL_text_56 (by decide) ?_
          refine KL_101 (As := [.int (y >>> ((nI (6 + (2 * k))) &&& 31)), .int (nI 2)]) (rest := [.int (nI (10 * v))]) cx (kL_low (xl X) lo G _ (y >>> ((nI (6 + (2 * k))) &&& 31)) 2 (by omega)) hX (by omega) rfl rfl (Nat.le_of_ble_eq_true rfl) 60 0 0 rfl rfl rfl (by omega) (by omega) dL_text_57 (fun r_4 u_5 hw_6 => ?_)
          try dsimp only at hw_6
          subst hw_6
          refine V.locs [0, 1, 2, 3, 4] rfl ?_
          exact join_60 (lowN (y >>> ((nI (6 + (2 * k))) &&& 31)) 2) (by first | exact lowN_lt _ (by decide) | exact Nat.lt_succ_of_lt (lowN_lt _ (by decide)))
        · skip
          refine V_iload_n cx 32 rfl dL_text_31 3 rfl ?_
          refine V_bipush (v := nI 6) cx 34 rfl dL_text_32 (by decide) ?_
          refine V_iconst (v := nI 2) cx 35 rfl dL_text_34 (by decide) ?_
          refine V_iload cx 37 rfl dL_text_35 0 rfl ?_
          refine V_imul cx 38 rfl dL_text_37 ?_
          refine V_toi (nI (2 * k)) (nI_mulN _ _) ?_
          refine V_iadd cx 39 rfl dL_text_38 ?_
          refine V_toi (nI (6 + (2 * k))) (nI_add _ _) ?_
          refine V_ishr cx 40 rfl dL_text_39 ?_
          refine V_iconst (v := nI 3) cx 41 rfl dL_text_40 (by decide) ?_
          refine KL_101 (As := [.int (y >>> ((nI (6 + (2 * k))) &&& 31)), .int (nI 3)]) (rest := [.int (nI (10 * v))]) cx (kL_low (xl X) lo G _ (y >>> ((nI (6 + (2 * k))) &&& 31)) 3 (by omega)) hX (by omega) rfl rfl (Nat.le_of_ble_eq_true rfl) 44 0 0 rfl rfl rfl (by omega) (by omega) dL_text_41 (fun r_7 u_8 hw_9 => ?_)
          try dsimp only at hw_9
          subst hw_9
          refine V_goto cx 60 dL_text_44 (by decide) ?_
          refine V.locs [0, 1, 2, 3, 4] rfl ?_
          exact join_60 (lowN (y >>> ((nI (6 + (2 * k))) &&& 31)) 3) (by first | exact lowN_lt _ (by decide) | exact Nat.lt_succ_of_lt (lowN_lt _ (by decide)))
  refine V.locs [0, 1, 2, 3, 4] rfl ?_
  exact loop_13 _ 0 1 (by omega) (by exact Nat.le_refl 1) (by exact (by decide : 1 < 2 * 1)) (Nat.lt_succ_self _)
set_option maxHeartbeats 4000000 in
set_option maxRecDepth 100000 in
theorem kL_isTold (l : Launch) (lo : Nat) (G : vG) (rs : va_W) (h : Nat → Nat) (np : Nat) (nl : Nat) (len : Nat) (fd : Nat) (lu : Nat) (tu : Nat) (T : Nat → Int32) (C : Nat → Int32) (F : Nat → Int32) (LT : Nat → Int32) (VV : Nat → Int32) (BB : Nat → Int32) (lt : Nat → Int32) (ph : Nat → Int32) (lh : Nat → Int32) (ks : Nat → Int64) (wd : Nat → Int32) (gr : Nat → Int32) (gs : Nat → Int32) (bl : Nat → Int32) (ie : Nat → Int32) (tw : Nat → Int32) (qt : Nat → Int32) (qc : Nat → Int32) (qf : Nat → Int32) (qb : Nat → Int32) (ql : Nat → Int32) (qa : Nat → Int64) (qd : Nat → Int64) (qw : Nat → Int64) (qh : Nat → Int32) (qg : Nat → Int32) (y : Int32) (x : LX) (hst : l.stackTraces = false) (hok : lxOK x) (hck : cOK x np nl T C F LT VV BB) (hq : LQ x qt qc qf qb ql) (hg0 : qg 0 = nI (lNp x)) (hg1 : qg 1 = nI (lNl x)) (hg2 : qg 2 = nI lu) : Mi l yL_isTold (.code yL_isTold method_32_code 13 (some .boolean)) 26 100 600 lo G [.ref (h 0), .int y, .ref (h 21), .ref (h 22), .ref (h 23), .ref (h 24), .ref (h 25), .ref (h 26), .ref (h 27), .ref (h 30)] (cW G h np nl len fd lu tu T C F LT VV BB lt ph lh ks wd gr gs bl ie tw ++ (lW G h qt qc qf qb ql qa qd qw qh qg ++ rs)) (fun (r : Int32) ((len1, fd1, lt1, ph1, lh1, ks1, qa1, qd1, qg1) : (Nat) × (Nat) × (Nat → Int32) × (Nat → Int32) × (Nat → Int32) × (Nat → Int64) × (Nat → Int64) × (Nat → Int64) × (Nat → Int32)) => r = nI 1 ∧ (qg1 0 = qg 0 ∧ qg1 1 = qg 1 ∧ qg1 2 = qg 2)) (fun ((len1, fd1, lt1, ph1, lh1, ks1, qa1, qd1, qg1) : (Nat) × (Nat) × (Nat → Int32) × (Nat → Int32) × (Nat → Int32) × (Nat → Int64) × (Nat → Int64) × (Nat → Int64) × (Nat → Int32)) => cW G h np nl len1 fd1 lu tu T C F LT VV BB lt1 ph1 lh1 ks1 wd gr gs bl ie tw ++ (lW G h qt qc qf qb ql qa1 qd1 qw qh qg1 ++ rs)) := by
  refine Mi_of (lc := [(0, .ref (h 0)), (1, .int y), (2, .ref (h 21)), (3, .ref (h 22)), (4, .ref (h 23)), (5, .ref (h 24)), (6, .ref (h 25)), (7, .ref (h 26)), (8, .ref (h 27)), (9, .ref (h 30))]) (by decide +kernel) (Nat.le_of_ble_eq_true rfl) rfl ?_
  intro X cx hXR hXl hr hin
  subst hXl
  have hX := RmX.of hXR
  have hnp : np = lNp x := hck.1
  have hn16 := hok.1
  refine V_iconst (v := nI 0) cx 1 rfl dL_isTold_0 (by decide) ?_
  refine V_istore (lc1 := [(10, .int (nI 0)), (0, .ref (h 0)), (1, .int y), (2, .ref (h 21)), (3, .ref (h 22)), (4, .ref (h 23)), (5, .ref (h 24)), (6, .ref (h 25)), (7, .ref (h 26)), (8, .ref (h 27)), (9, .ref (h 30))]) cx 3 rfl dL_isTold_1 (by decide) rfl ?_
  have loop_3 : ∀ (fuel : Nat) (k : Nat), (k ≤ lNp x) → lNp x - k < fuel → V X lo 13 G (Qi X lo G (fun (r : Int32) ((len1, fd1, lt1, ph1, lh1, ks1, qa1, qd1, qg1) : (Nat) × (Nat) × (Nat → Int32) × (Nat → Int32) × (Nat → Int32) × (Nat → Int64) × (Nat → Int64) × (Nat → Int64) × (Nat → Int32)) => r = nI 1 ∧ (qg1 0 = qg 0 ∧ qg1 1 = qg 1 ∧ qg1 2 = qg 2)) (fun ((len1, fd1, lt1, ph1, lh1, ks1, qa1, qd1, qg1) : (Nat) × (Nat) × (Nat → Int32) × (Nat → Int32) × (Nat → Int32) × (Nat → Int64) × (Nat → Int64) × (Nat → Int64) × (Nat → Int32)) => cW G h np nl len1 fd1 lu tu T C F LT VV BB lt1 ph1 lh1 ks1 wd gr gs bl ie tw ++ (lW G h qt qc qf qb ql qa1 qd1 qw qh qg1 ++ rs)) 100 600) (2 * k) (12 * k) (cW G h np nl len fd lu tu T C F LT VV BB lt ph lh ks wd gr gs bl ie tw ++ (lW G h qt qc qf qb ql qa qd qw qh qg ++ rs)) [(10, .int (nI k)), (0, .ref (h 0)), (1, .int y), (2, .ref (h 21)), (3, .ref (h 22)), (4, .ref (h 23)), (5, .ref (h 24)), (6, .ref (h 25)), (7, .ref (h 26)), (8, .ref (h 27)), (9, .ref (h 30))] [] 3 := by
    intro fuel
    induction fuel with
    | zero => intro k hk hmz; exact absurd hmz (Nat.not_lt_zero _)
    | succ fuel ih_3 =>
      intro k hk hmz_3
      refine V_iload cx 5 rfl dL_isTold_3 0 rfl ?_
      refine V_aload cx 7 rfl dL_isTold_5 10 rfl ?_
      refine V_iconst (v := nI 0) cx 8 rfl dL_isTold_7 (by decide) ?_
      refine V_ialdN cx 0 (rfl) (by omega) (by decide) 30 rfl 9 rfl dL_isTold_8 ?_
      refine V_toi (nI (lNp x)) (hg0) ?_
      refine V_icmp_ge cx 12 49 rfl dL_isTold_9 (by decide) (fun c_9 => ?_) (fun c_9 => ?_)
      · skip
        have n_9 : k ≥ lNp x := N_ge_t (by omega) (by omega) c_9
        refine V_iload_n cx 50 rfl dL_isTold_49 2 rfl ?_
        refine V_iconst (v := nI 5) cx 51 rfl dL_isTold_50 (by decide) ?_
        refine KL_104 (As := [.int y, .int (nI 5)]) (rest := []) cx (kL_text (xl X) lo G _ y 5 (by omega)) hX (by omega) rfl rfl (Nat.le_of_ble_eq_true rfl) 54 (2 * k) (12 * k) rfl rfl rfl (by omega) (by omega) dL_isTold_51 (fun r_1 u_2 hw_3 => ?_)
        try dsimp only at hw_3
        obtain ⟨wv, L9, hre, hL1, hL2, hw1, hw2⟩ := hw_3
        refine V_toi (nI wv) (hre) ?_
        have hwb := sx_bd (show L9 ≤ 8 by omega) (ld_bd (Nat.le_refl _) hw2)
        have hSZ := word_SZ hw1 hw2 (show 1 ≤ L9 ∧ L9 ≤ 8 by omega)
        refine V_istore (lc1 := [(10, .int (nI wv)), (0, .ref (h 0)), (1, .int y), (2, .ref (h 21)), (3, .ref (h 22)), (4, .ref (h 23)), (5, .ref (h 24)), (6, .ref (h 25)), (7, .ref (h 26)), (8, .ref (h 27)), (9, .ref (h 30))]) cx 56 rfl dL_isTold_54 (by decide) rfl ?_
        refine V_iconst (v := (-1)) cx 57 rfl dL_isTold_56 (by decide) ?_
        refine V_istore (lc1 := [(11, .int (-1)), (10, .int (nI wv)), (0, .ref (h 0)), (1, .int y), (2, .ref (h 21)), (3, .ref (h 22)), (4, .ref (h 23)), (5, .ref (h 24)), (6, .ref (h 25)), (7, .ref (h 26)), (8, .ref (h 27)), (9, .ref (h 30))]) cx 59 rfl dL_isTold_57 (by decide) rfl ?_
        refine V_iconst (v := nI 0) cx 60 rfl dL_isTold_59 (by decide) ?_
        refine V_istore (lc1 := [(12, .int (nI 0)), (11, .int (-1)), (10, .int (nI wv)), (0, .ref (h 0)), (1, .int y), (2, .ref (h 21)), (3, .ref (h 22)), (4, .ref (h 23)), (5, .ref (h 24)), (6, .ref (h 25)), (7, .ref (h 26)), (8, .ref (h 27)), (9, .ref (h 30))]) cx 62 rfl dL_isTold_60 (by decide) rfl ?_
        have loop_62 : ∀ (fuel : Nat) (k6 : Nat) (fd9 : Int32), (k6 ≤ lNp x) → (fd9 = lastW qt (nI wv) k6) → lNp x - k6 < fuel → V X lo 13 G (Qi X lo G (fun (r : Int32) ((len1, fd1, lt1, ph1, lh1, ks1, qa1, qd1, qg1) : (Nat) × (Nat) × (Nat → Int32) × (Nat → Int32) × (Nat → Int32) × (Nat → Int64) × (Nat → Int64) × (Nat → Int64) × (Nat → Int32)) => r = nI 1 ∧ (qg1 0 = qg 0 ∧ qg1 1 = qg 1 ∧ qg1 2 = qg 2)) (fun ((len1, fd1, lt1, ph1, lh1, ks1, qa1, qd1, qg1) : (Nat) × (Nat) × (Nat → Int32) × (Nat → Int32) × (Nat → Int32) × (Nat → Int64) × (Nat → Int64) × (Nat → Int64) × (Nat → Int32)) => cW G h np nl len1 fd1 lu tu T C F LT VV BB lt1 ph1 lh1 ks1 wd gr gs bl ie tw ++ (lW G h qt qc qf qb ql qa1 qd1 qw qh qg1 ++ rs)) 100 600) (2 * k) (12 * k) (cW G h np nl len fd lu tu T C F LT VV BB lt ph lh ks wd gr gs bl ie tw ++ (lW G h qt qc qf qb ql qa qd qw qh qg ++ rs)) [(12, .int (nI k6)), (11, .int fd9), (10, .int (nI wv)), (0, .ref (h 0)), (1, .int y), (2, .ref (h 21)), (3, .ref (h 22)), (4, .ref (h 23)), (5, .ref (h 24)), (6, .ref (h 25)), (7, .ref (h 26)), (8, .ref (h 27)), (9, .ref (h 30))] [] 62 := by
          intro fuel
          induction fuel with
          | zero => intro k6 fd9 hk6 hfd hmz; exact absurd hmz (Nat.not_lt_zero _)
          | succ fuel ih_62 =>
            intro k6 fd9 hk6 hfd hmz_62
            refine V_iload cx 64 rfl dL_isTold_62 0 rfl ?_
            refine V_aload cx 66 rfl dL_isTold_64 12 rfl ?_
            refine V_iconst (v := nI 0) cx 67 rfl dL_isTold_66 (by decide) ?_
            refine V_ialdN cx 0 (rfl) (by omega) (by decide) 30 rfl 68 rfl dL_isTold_67 ?_
            refine V_toi (nI (lNp x)) (hg0) ?_
            refine V_icmp_ge cx 71 95 rfl dL_isTold_68 (by decide) (fun c_68 => ?_) (fun c_68 => ?_)
            · skip
              have n_68 : k6 ≥ lNp x := N_ge_t (by omega) (by omega) c_68
              have hk9 : k6 = lNp x := by omega
              rw [hk9] at hfd
              refine V_aload_n cx 96 rfl dL_isTold_95 3 rfl ?_
              refine KL_154 (As := []) (rest := []) cx (kX4_parts (xl X) lo G _ h np nl len fd lu tu T C F LT VV BB lt ph lh ks wd gr gs bl ie tw) hX (by omega) 0 rfl rfl rfl (Nat.le_of_ble_eq_true rfl) 99 (2 * k) (12 * k) rfl rfl rfl (by omega) (by omega) dL_isTold_96 (fun r_4 u_5 hw_6 => ?_)
              try dsimp only at hw_6
              subst hw_6
              refine V_toi (nI (lNp x)) (congrArg nI hnp) ?_
              refine V_aload cx 101 rfl dL_isTold_99 12 rfl ?_
              refine V_iconst (v := nI 0) cx 102 rfl dL_isTold_101 (by decide) ?_
              refine V_ialdN cx 0 (rfl) (by omega) (by decide) 30 rfl 103 rfl dL_isTold_102 ?_
              refine V_toi (nI (lNp x)) (hg0) ?_
              refine V_icmp_ne cx 106 297 rfl dL_isTold_103 (by decide) (fun c_103 => ?_) (fun c_103 => ?_)
              · skip
                exact absurd rfl c_103
              · skip
                refine V_aload_n cx 107 rfl dL_isTold_106 3 rfl ?_
                refine KL_156 (As := []) (rest := []) cx (kX4_learned (xl X) lo G _ h np nl len fd lu tu T C F LT VV BB lt ph lh ks wd gr gs bl ie tw) hX (by omega) 0 rfl rfl rfl (Nat.le_of_ble_eq_true rfl) 110 (2 * k) (12 * k) rfl rfl rfl (by omega) (by omega) dL_isTold_107 (fun r_7 u_8 hw_9 => ?_)
                try dsimp only at hw_9
                subst hw_9
                refine V_aload cx 112 rfl dL_isTold_110 12 rfl ?_
                refine V_iconst (v := nI 2) cx 113 rfl dL_isTold_112 (by decide) ?_
                refine V_ialdN cx 2 (rfl) (by omega) (by decide) 30 rfl 114 rfl dL_isTold_113 ?_
                refine V_toi (nI lu) (hg2) ?_
                refine V_icmp_ne cx 117 297 rfl dL_isTold_114 (by decide) (fun c_114 => ?_) (fun c_114 => ?_)
                · skip
                  exact absurd rfl c_114
                · skip
                  refine V_aload_n cx 118 rfl dL_isTold_117 3 rfl ?_
                  refine V_aload cx 120 rfl dL_isTold_118 12 rfl ?_
                  refine V_iconst (v := nI 0) cx 121 rfl dL_isTold_120 (by decide) ?_
                  refine V_ialdN cx 0 (rfl) (by omega) (by decide) 30 rfl 122 rfl dL_isTold_121 ?_
                  refine V_toi (nI (lNp x)) (hg0) ?_
                  refine KL_150 (As := [.ref (h 0), .int (nI (lNp x))]) (rest := []) cx (kL_count (xl X) lo G _ h np nl len fd lu tu T C F LT VV BB lt ph lh ks wd gr gs bl ie tw (nI (lNp x)) hst (by omega)) hX (by omega) rfl rfl (Nat.le_of_ble_eq_true rfl) 125 ((2 * k) + 1) ((12 * k) + 6) rfl rfl rfl (by omega) (by omega) dL_isTold_122 (fun r_10 u_11 hw_12 => ?_)
                  rcases u_11 with _ | v_13
                  rotate_left
                  · exfalso
                    dsimp only at hw_12
                    obtain ⟨hw_12, -⟩ := hw_12
                    obtain ⟨q, h1, h2, _⟩ := hw_12; have := nI_inj (by omega) (by omega) h2; omega
                  dsimp only at hw_12
                  have hv_r_10 : r_10 = (-71) := by
                    obtain ⟨E, hw_12, hc⟩ := hw_12
                    exact hc.2
                  subst hv_r_10
                  refine V_bipush (v := (-71)) cx 127 rfl dL_isTold_125 (by decide) ?_
                  refine V_icmp_ne cx 130 297 rfl dL_isTold_127 (by decide) (fun c_127 => ?_) (fun c_127 => ?_)
                  · skip
                    exact absurd rfl c_127
                  · skip
                    refine V_aload_n cx 131 rfl dL_isTold_130 3 rfl ?_
                    refine V_iconst (v := (-1)) cx 132 rfl dL_isTold_131 (by decide) ?_
                    refine KL_150 (As := [.ref (h 0), .int (-1)]) (rest := []) cx (kL_count (xl X) lo G _ h np nl len fd lu tu T C F LT VV BB lt ph lh ks wd gr gs bl ie tw (-1) hst (by omega)) hX (by omega) rfl rfl (Nat.le_of_ble_eq_true rfl) 135 ((2 * k) + 2) ((12 * k) + 12) rfl rfl rfl (by omega) (by omega) dL_isTold_132 (fun r_14 u_15 hw_16 => ?_)
                    rcases u_15 with _ | v_17
                    rotate_left
                    · exfalso
                      dsimp only at hw_16
                      obtain ⟨hw_16, -⟩ := hw_16
                      obtain ⟨q, h1, h2, _⟩ := hw_16; exact nI_nem1 (by omega) h2.symm
                    dsimp only at hw_16
                    have hv_r_14 : r_14 = (-71) := by
                      obtain ⟨E, hw_16, hc⟩ := hw_16
                      exact hc.2
                    subst hv_r_14
                    refine V_bipush (v := (-71)) cx 137 rfl dL_isTold_135 (by decide) ?_
                    refine V_icmp_ne cx 140 297 rfl dL_isTold_137 (by decide) (fun c_137 => ?_) (fun c_137 => ?_)
                    · skip
                      exact absurd rfl c_137
                    · skip
                      refine V_aload_n cx 141 rfl dL_isTold_140 3 rfl ?_
                      refine V_iload cx 143 rfl dL_isTold_141 2 rfl ?_
                      refine KL_159 (As := [.ref (h 0), .int (nI wv)]) (rest := []) cx (kL_find (xl X) lo G _ h np nl len fd lu tu T C F LT VV BB lt ph lh ks wd gr gs bl ie tw (nI wv) hst (by omega)) hX (by omega) rfl rfl (Nat.le_of_ble_eq_true rfl) 146 ((2 * k) + 3) ((12 * k) + 18) rfl rfl rfl (by omega) (by omega) dL_isTold_143 (fun r_18 u_19 hw_20 => ?_)
                      rcases u_19 with _ | v_21
                      · exfalso
                        dsimp only at hw_20
                        obtain ⟨E, hw_20, -⟩ := hw_20
                        obtain ⟨_, h9⟩ := hw_20; omega
                      dsimp only at hw_20
                      obtain ⟨hw_20, hv_22⟩ := hw_20
                      subst hv_22
                      refine V_toi fd9 (q_find hok hck hq (by omega) hfd hw_20) ?_
                      refine V_iload cx 148 rfl dL_isTold_146 1 rfl ?_
                      refine V_icmp_ne cx 151 297 rfl dL_isTold_148 (by decide) (fun c_148 => ?_) (fun c_148 => ?_)
                      · skip
                        exact absurd rfl c_148
                      · skip
                        refine V_aload_n cx 152 rfl dL_isTold_151 3 rfl ?_
                        refine V_ldc (v := nI 123456789) cx 154 rfl dL_isTold_152 ci_L_161 ?_
                        refine KL_159 (As := [.ref (h 0), .int (nI 123456789)]) (rest := []) cx (kL_find (xl X) lo G _ h np nl len fd lu tu T C F LT VV BB lt ph lh ks wd gr gs bl ie tw (nI 123456789) hst (by omega)) hX (by omega) rfl rfl (Nat.le_of_ble_eq_true rfl) 157 ((2 * k) + 4) ((12 * k) + 24) rfl rfl rfl (by omega) (by omega) dL_isTold_154 (fun r_23 u_24 hw_25 => ?_)
                        rcases u_24 with _ | v_26
                        · exfalso
                          dsimp only at hw_25
                          obtain ⟨E, hw_25, -⟩ := hw_25
                          rw [sz_c1] at hw_25; exact absurd hw_25.2 (by decide)
                        dsimp only at hw_25
                        obtain ⟨hw_25, hv_27⟩ := hw_25
                        subst hv_27
                        refine V_toi (-1) (q_none hok hck (by decide) (by decide) hw_25) ?_
                        refine V_iconst (v := (-1)) cx 158 rfl dL_isTold_157 (by decide) ?_
                        refine V_icmp_ne cx 161 297 rfl dL_isTold_158 (by decide) (fun c_158 => ?_) (fun c_158 => ?_)
                        · skip
                          exact absurd rfl c_158
                        · skip
                          refine V_aload_n cx 162 rfl dL_isTold_161 3 rfl ?_
                          refine V_ldc (v := nI 1234567890) cx 164 rfl dL_isTold_162 ci_L_162 ?_
                          refine KL_159 (As := [.ref (h 0), .int (nI 1234567890)]) (rest := []) cx (kL_find (xl X) lo G _ h np nl len fd lu tu T C F LT VV BB lt ph lh ks wd gr gs bl ie tw (nI 1234567890) hst (by omega)) hX (by omega) rfl rfl (Nat.le_of_ble_eq_true rfl) 167 ((2 * k) + 5) ((12 * k) + 30) rfl rfl rfl (by omega) (by omega) dL_isTold_164 (fun r_28 u_29 hw_30 => ?_)
                          rcases u_29 with _ | v_31
                          rotate_left
                          · exfalso
                            dsimp only at hw_30
                            obtain ⟨hw_30, -⟩ := hw_30
                            rw [sz_c2] at hw_30; exact absurd hw_30.1 (by decide)
                          dsimp only at hw_30
                          have hv_r_28 : r_28 = (-72) := by
                            obtain ⟨E, hw_30, hc⟩ := hw_30
                            exact hc.2
                          subst hv_r_28
                          refine V_bipush (v := (-72)) cx 169 rfl dL_isTold_167 (by decide) ?_
                          refine V_icmp_ne cx 172 297 rfl dL_isTold_169 (by decide) (fun c_169 => ?_) (fun c_169 => ?_)
                          · skip
                            exact absurd rfl c_169
                          · skip
                            refine V_aload_n cx 173 rfl dL_isTold_172 3 rfl ?_
                            refine V_iconst (v := nI 1) cx 174 rfl dL_isTold_173 (by decide) ?_
                            refine KL_159 (As := [.ref (h 0), .int (nI 1)]) (rest := []) cx (kL_find (xl X) lo G _ h np nl len fd lu tu T C F LT VV BB lt ph lh ks wd gr gs bl ie tw (nI 1) hst (by omega)) hX (by omega) rfl rfl (Nat.le_of_ble_eq_true rfl) 177 ((2 * k) + 6) ((12 * k) + 36) rfl rfl rfl (by omega) (by omega) dL_isTold_174 (fun r_32 u_33 hw_34 => ?_)
                            rcases u_33 with _ | v_35
                            rotate_left
                            · exfalso
                              dsimp only at hw_34
                              obtain ⟨hw_34, -⟩ := hw_34
                              rw [sz_1] at hw_34; exact absurd hw_34.1 (by decide)
                            dsimp only at hw_34
                            have hv_r_32 : r_32 = (-72) := by
                              obtain ⟨E, hw_34, hc⟩ := hw_34
                              exact hc.2
                            subst hv_r_32
                            refine V_bipush (v := (-72)) cx 179 rfl dL_isTold_177 (by decide) ?_
                            refine V_icmp_ne cx 182 297 rfl dL_isTold_179 (by decide) (fun c_179 => ?_) (fun c_179 => ?_)
                            · skip
                              exact absurd rfl c_179
                            · skip
                              refine V_aload_n cx 183 rfl dL_isTold_182 3 rfl ?_
                              refine V_iconst (v := (-1)) cx 184 rfl dL_isTold_183 (by decide) ?_
                              refine KL_159 (As := [.ref (h 0), .int (-1)]) (rest := []) cx (kL_find (xl X) lo G _ h np nl len fd lu tu T C F LT VV BB lt ph lh ks wd gr gs bl ie tw (-1) hst (by omega)) hX (by omega) rfl rfl (Nat.le_of_ble_eq_true rfl) 187 ((2 * k) + 7) ((12 * k) + 42) rfl rfl rfl (by omega) (by omega) dL_isTold_184 (fun r_36 u_37 hw_38 => ?_)
                              rcases u_37 with _ | v_39
                              rotate_left
                              · exfalso
                                dsimp only at hw_38
                                obtain ⟨hw_38, -⟩ := hw_38
                                rw [sz_m1] at hw_38; exact absurd hw_38.1 (by decide)
                              dsimp only at hw_38
                              have hv_r_36 : r_36 = (-72) := by
                                obtain ⟨E, hw_38, hc⟩ := hw_38
                                exact hc.2
                              subst hv_r_36
                              refine V_bipush (v := (-72)) cx 189 rfl dL_isTold_187 (by decide) ?_
                              refine V_icmp_ne cx 192 297 rfl dL_isTold_189 (by decide) (fun c_189 => ?_) (fun c_189 => ?_)
                              · skip
                                exact absurd rfl c_189
                              · skip
                                refine V_aload_n cx 193 rfl dL_isTold_192 3 rfl ?_
                                refine V_iconst (v := nI 0) cx 194 rfl dL_isTold_193 (by decide) ?_
                                refine KL_136 (As := [.ref (h 0), .int (nI 0)]) (rest := []) cx (kL_splits (xl X) lo G _ h np nl len fd lu tu T C F LT VV BB lt ph lh ks wd gr gs bl ie tw (nI 0) x hst hok hck) hX (by omega) rfl rfl (Nat.le_of_ble_eq_true rfl) 197 ((2 * k) + 8) ((12 * k) + 48) rfl rfl rfl (by omega) (by omega) dL_isTold_194 (fun r_40 u_41 hw_42 => ?_)
                                rcases u_41 with _ | ⟨fd1_43, lt1_44, ph1_45, lh1_46, ks1_47, v_48⟩
                                rotate_left
                                · exfalso
                                  dsimp only at hw_42
                                  obtain ⟨hw_42, -⟩ := hw_42
                                  obtain ⟨w9, _, _, h9, _⟩ := hw_42; rw [sz_0] at h9; exact absurd h9 (by decide)
                                dsimp only at hw_42
                                have hv_r_40 : r_40 = (-72) := by
                                  obtain ⟨E, hw_42, hc⟩ := hw_42
                                  exact hc.2
                                subst hv_r_40
                                refine V_bipush (v := (-72)) cx 199 rfl dL_isTold_197 (by decide) ?_
                                refine V_icmp_ne cx 202 297 rfl dL_isTold_199 (by decide) (fun c_199 => ?_) (fun c_199 => ?_)
                                · skip
                                  exact absurd rfl c_199
                                · skip
                                  refine V_aload_n cx 203 rfl dL_isTold_202 3 rfl ?_
                                  refine V_ldc (v := nI 2147483647) cx 205 rfl dL_isTold_203 ci_L_163 ?_
                                  refine KL_136 (As := [.ref (h 0), .int (nI 2147483647)]) (rest := []) cx (kL_splits (xl X) lo G _ h np nl len fd lu tu T C F LT VV BB lt ph lh ks wd gr gs bl ie tw (nI 2147483647) x hst hok hck) hX (by omega) rfl rfl (Nat.le_of_ble_eq_true rfl) 208 ((2 * k) + 9) ((12 * k) + 54) rfl rfl rfl (by omega) (by omega) dL_isTold_205 (fun r_49 u_50 hw_51 => ?_)
                                  rcases u_50 with _ | ⟨fd1_52, lt1_53, ph1_54, lh1_55, ks1_56, v_57⟩
                                  rotate_left
                                  · exfalso
                                    dsimp only at hw_51
                                    obtain ⟨hw_51, -⟩ := hw_51
                                    obtain ⟨w9, _, _, h9, _⟩ := hw_51; rw [sz_max] at h9; exact absurd h9 (by decide)
                                  dsimp only at hw_51
                                  have hv_r_49 : r_49 = (-72) := by
                                    obtain ⟨E, hw_51, hc⟩ := hw_51
                                    exact hc.2
                                  subst hv_r_49
                                  refine V_bipush (v := (-72)) cx 210 rfl dL_isTold_208 (by decide) ?_
                                  refine V_icmp_ne cx 213 297 rfl dL_isTold_210 (by decide) (fun c_210 => ?_) (fun c_210 => ?_)
                                  · skip
                                    exact absurd rfl c_210
                                  · skip
                                    refine V_aload_n cx 214 rfl dL_isTold_213 3 rfl ?_
                                    refine V_iconst (v := nI 1) cx 215 rfl dL_isTold_214 (by decide) ?_
                                    refine V_iconst (v := nI 0) cx 216 rfl dL_isTold_215 (by decide) ?_
                                    refine KL_144 (As := [.ref (h 0), .int (nI 1), .int (nI 0)]) (rest := []) cx (kL_cost (xl X) lo G _ h np nl len fd lu tu T C F LT VV BB lt ph lh ks wd gr gs bl ie tw (nI 1) (nI 0) x hst hok hck) hX (by omega) rfl rfl (Nat.le_of_ble_eq_true rfl) 219 ((2 * k) + 11) ((12 * k) + 66) rfl rfl rfl (by omega) (by omega) dL_isTold_216 (fun r_58 u_59 hw_60 => ?_)
                                    rcases u_59 with _ | ⟨fd1_61, lt1_62, ph1_63, lh1_64, ks1_65, v_66⟩
                                    rotate_left
                                    · exfalso
                                      dsimp only at hw_60
                                      obtain ⟨hw_60, -⟩ := hw_60
                                      rcases hw_60 with ⟨_, h9⟩ | ⟨w9, o9, _, _, h8, h9, _⟩; exact absurd h9 (by decide); (rw [sz_1] at h8; exact absurd h8 (by decide))
                                    dsimp only at hw_60
                                    have hv_r_58 : r_58 = (-72) := by
                                      obtain ⟨E, hw_60, hc⟩ := hw_60
                                      exact hc.2
                                    subst hv_r_58
                                    refine V_bipush (v := (-72)) cx 221 rfl dL_isTold_219 (by decide) ?_
                                    refine V_icmp_ne cx 224 297 rfl dL_isTold_221 (by decide) (fun c_221 => ?_) (fun c_221 => ?_)
                                    · skip
                                      exact absurd rfl c_221
                                    · skip
                                      refine V_aload_n cx 225 rfl dL_isTold_224 3 rfl ?_
                                      refine V_bipush (v := nI 12) cx 227 rfl dL_isTold_225 (by decide) ?_
                                      refine V_iconst (v := (-1)) cx 228 rfl dL_isTold_227 (by decide) ?_
                                      refine KL_144 (As := [.ref (h 0), .int (nI 12), .int (-1)]) (rest := []) cx (kL_cost (xl X) lo G _ h np nl len fd lu tu T C F LT VV BB lt ph lh ks wd gr gs bl ie tw (nI 12) (-1) x hst hok hck) hX (by omega) rfl rfl (Nat.le_of_ble_eq_true rfl) 231 ((2 * k) + 13) ((12 * k) + 78) rfl rfl rfl (by omega) (by omega) dL_isTold_228 (fun r_67 u_68 hw_69 => ?_)
                                      rcases u_68 with _ | ⟨fd1_70, lt1_71, ph1_72, lh1_73, ks1_74, v_75⟩
                                      rotate_left
                                      · exfalso
                                        dsimp only at hw_69
                                        obtain ⟨hw_69, -⟩ := hw_69
                                        rcases hw_69 with ⟨_, h9⟩ | ⟨w9, o9, _, _, h8, h9, _⟩; exact absurd h9 (by decide); exact h9 (by decide)
                                      dsimp only at hw_69
                                      have hv_r_67 : r_67 = (-72) := by
                                        obtain ⟨E, hw_69, hc⟩ := hw_69
                                        exact hc.2
                                      subst hv_r_67
                                      refine V_bipush (v := (-72)) cx 233 rfl dL_isTold_231 (by decide) ?_
                                      refine V_icmp_ne cx 236 297 rfl dL_isTold_233 (by decide) (fun c_233 => ?_) (fun c_233 => ?_)
                                      · skip
                                        exact absurd rfl c_233
                                      · skip
                                        refine V_aload_n cx 237 rfl dL_isTold_236 3 rfl ?_
                                        refine V_bipush (v := nI 12) cx 239 rfl dL_isTold_237 (by decide) ?_
                                        refine V_iconst (v := nI 0) cx 240 rfl dL_isTold_239 (by decide) ?_
                                        refine V_iconst (v := (-1)) cx 241 rfl dL_isTold_240 (by decide) ?_
                                        refine KL_148 (As := [.ref (h 0), .int (nI 12), .int (nI 0), .int (-1)]) (rest := []) cx (kL_partAt (xl X) lo G _ h np nl len fd lu tu T C F LT VV BB lt ph lh ks wd gr gs bl ie tw (nI 12) (nI 0) (-1) x hst hok hck) hX (by omega) rfl rfl (Nat.le_of_ble_eq_true rfl) 244 ((2 * k) + 15) ((12 * k) + 90) rfl rfl rfl (by omega) (by omega) dL_isTold_241 (fun r_76 u_77 hw_78 => ?_)
                                        rcases u_77 with _ | ⟨fd1_79, lt1_80, ph1_81, lh1_82, ks1_83, v_84⟩
                                        rotate_left
                                        · exfalso
                                          dsimp only at hw_78
                                          obtain ⟨hw_78, -⟩ := hw_78
                                          exact hw_78.1 (by decide)
                                        dsimp only at hw_78
                                        have hv_r_76 : r_76 = (-72) := by
                                          obtain ⟨E, hw_78, hc⟩ := hw_78
                                          exact hc.2
                                        subst hv_r_76
                                        refine V_bipush (v := (-72)) cx 246 rfl dL_isTold_244 (by decide) ?_
                                        refine V_icmp_ne cx 249 297 rfl dL_isTold_246 (by decide) (fun c_246 => ?_) (fun c_246 => ?_)
                                        · skip
                                          exact absurd rfl c_246
                                        · skip
                                          refine V_aload_n cx 250 rfl dL_isTold_249 3 rfl ?_
                                          refine V_bipush (v := nI 12) cx 252 rfl dL_isTold_250 (by decide) ?_
                                          refine V_iconst (v := (-1)) cx 253 rfl dL_isTold_252 (by decide) ?_
                                          refine V_iconst (v := nI 0) cx 254 rfl dL_isTold_253 (by decide) ?_
                                          refine KL_148 (As := [.ref (h 0), .int (nI 12), .int (-1), .int (nI 0)]) (rest := []) cx (kL_partAt (xl X) lo G _ h np nl len fd lu tu T C F LT VV BB lt ph lh ks wd gr gs bl ie tw (nI 12) (-1) (nI 0) x hst hok hck) hX (by omega) rfl rfl (Nat.le_of_ble_eq_true rfl) 257 ((2 * k) + 17) ((12 * k) + 102) rfl rfl rfl (by omega) (by omega) dL_isTold_254 (fun r_85 u_86 hw_87 => ?_)
                                          rcases u_86 with _ | ⟨fd1_88, lt1_89, ph1_90, lh1_91, ks1_92, v_93⟩
                                          rotate_left
                                          · exfalso
                                            dsimp only at hw_87
                                            obtain ⟨hw_87, -⟩ := hw_87
                                            obtain ⟨_, hw_87⟩ := hw_87; rcases hw_87 with ⟨_, h9⟩ | ⟨w9, o9, _, _, h8, h9, _⟩; exact absurd h9 (by decide); exact h9 (by decide)
                                          dsimp only at hw_87
                                          have hv_r_85 : r_85 = (-72) := by
                                            obtain ⟨E, hw_87, hc⟩ := hw_87
                                            exact hc.2
                                          subst hv_r_85
                                          refine V_bipush (v := (-72)) cx 259 rfl dL_isTold_257 (by decide) ?_
                                          refine V_icmp_ne cx 262 297 rfl dL_isTold_259 (by decide) (fun c_259 => ?_) (fun c_259 => ?_)
                                          · skip
                                            exact absurd rfl c_259
                                          · skip
                                            refine V_aload_n cx 263 rfl dL_isTold_262 3 rfl ?_
                                            refine V_iload cx 265 rfl dL_isTold_263 2 rfl ?_
                                            refine V_iload_n cx 266 rfl dL_isTold_265 4 rfl ?_
                                            refine V_iconst (v := nI 5) cx 267 rfl dL_isTold_266 (by decide) ?_
                                            refine V_ishr cx 268 rfl dL_isTold_267 ?_
                                            refine V_bipush (v := nI 8) cx 270 rfl dL_isTold_268 (by decide) ?_
                                            refine KL_101 (As := [.int (y >>> ((nI 5) &&& 31)), .int (nI 8)]) (rest := [.int (nI wv), .ref (h 0)]) cx (kL_low (xl X) lo G _ (y >>> ((nI 5) &&& 31)) 8 (by omega)) hX (by omega) rfl rfl (Nat.le_of_ble_eq_true rfl) 273 ((2 * k) + 17) ((12 * k) + 102) rfl rfl rfl (by omega) (by omega) dL_isTold_270 (fun r_94 u_95 hw_96 => ?_)
                                            try dsimp only at hw_96
                                            subst hw_96
                                            have hlw := lowN_lt (y >>> (nI 5 &&& 31)) (show 0 < 8 by decide)
                                            refine V_aload_n cx 274 rfl dL_isTold_273 5 rfl ?_
                                            refine V_aload_n cx 275 rfl dL_isTold_274 6 rfl ?_
                                            refine V_aload cx 277 rfl dL_isTold_275 7 rfl ?_
                                            refine V_aload cx 279 rfl dL_isTold_277 8 rfl ?_
                                            refine V_aload cx 281 rfl dL_isTold_279 9 rfl ?_
                                            refine V_aload cx 283 rfl dL_isTold_281 10 rfl ?_
                                            refine V_aload cx 285 rfl dL_isTold_283 11 rfl ?_
                                            refine V_aload cx 287 rfl dL_isTold_285 12 rfl ?_
                                            refine KL_164 (As := [.ref (h 0), .int (nI wv), .int (nI (lowN (y >>> ((nI 5) &&& 31)) 8)), .ref (h 21), .ref (h 22), .ref (h 23), .ref (h 24), .ref (h 25), .ref (h 26), .ref (h 27), .ref (h 30)]) (rest := []) cx (kL_isWord (xl X) lo G _ h np nl len fd lu tu T C F LT VV BB lt ph lh ks wd gr gs bl ie tw qt qc qf qb ql qa qd qw qh qg wv (lowN (y >>> ((nI 5) &&& 31)) 8) x L9 hst hok hck hq hw1 hw2 (by omega) (by omega) hg0 hg1) hX (by omega) rfl rfl (Nat.le_of_ble_eq_true rfl) 290 ((2 * k) + 49) ((12 * k) + 294) rfl rfl rfl (by omega) (by omega) dL_isTold_287 (fun r_97 u_98 hw_99 => ?_)
                                            obtain ⟨len1_100, fd1_101, lt1_102, ph1_103, lh1_104, ks1_105, qa1_106, qd1_107, qg1_108⟩ := u_98
                                            try dsimp only at hw_99
                                            obtain ⟨hw_99, hp_109⟩ := hw_99
                                            subst hw_99
                                            refine V_if_eq cx 293 297 rfl dL_isTold_290 (by decide) (fun c_290 => ?_) (fun c_290 => ?_)
                                            · skip
                                              exact absurd c_290 (by decide)
                                            · skip
                                              refine V_iconst (v := nI 1) cx 294 rfl dL_isTold_293 (by decide) ?_
                                              refine V_goto cx 298 dL_isTold_294 (by decide) ?_
                                              exact V_zreturn cx hr (by first | rfl | exact bI_z _) (len1_100, fd1_101, lt1_102, ph1_103, lh1_104, ks1_105, qa1_106, qd1_107, qg1_108) (⟨rfl, hp_109⟩) rfl (by omega) (by omega) dL_isTold_298
            · skip
              have n_68 : k6 < lNp x := N_ge_f (by omega) (by omega) c_68
              have join_87 : ∀ (fv : Int32), (fv = lastW qt (nI wv) (k6 + 1)) → V X lo 13 G (Qi X lo G (fun (r : Int32) ((len1, fd1, lt1, ph1, lh1, ks1, qa1, qd1, qg1) : (Nat) × (Nat) × (Nat → Int32) × (Nat → Int32) × (Nat → Int32) × (Nat → Int64) × (Nat → Int64) × (Nat → Int64) × (Nat → Int32)) => r = nI 1 ∧ (qg1 0 = qg 0 ∧ qg1 1 = qg 1 ∧ qg1 2 = qg 2)) (fun ((len1, fd1, lt1, ph1, lh1, ks1, qa1, qd1, qg1) : (Nat) × (Nat) × (Nat → Int32) × (Nat → Int32) × (Nat → Int32) × (Nat → Int64) × (Nat → Int64) × (Nat → Int64) × (Nat → Int32)) => cW G h np nl len1 fd1 lu tu T C F LT VV BB lt1 ph1 lh1 ks1 wd gr gs bl ie tw ++ (lW G h qt qc qf qb ql qa1 qd1 qw qh qg1 ++ rs)) 100 600) (2 * k) (12 * k) (cW G h np nl len fd lu tu T C F LT VV BB lt ph lh ks wd gr gs bl ie tw ++ (lW G h qt qc qf qb ql qa qd qw qh qg ++ rs)) [(12, .int (nI k6)), (11, .int fd9), (10, .int (nI wv)), (0, .ref (h 0)), (1, .int y), (2, .ref (h 21)), (3, .ref (h 22)), (4, .ref (h 23)), (5, .ref (h 24)), (6, .ref (h 25)), (7, .ref (h 26)), (8, .ref (h 27)), (9, .ref (h 30))] [.int fv] 87 := by
                intro fv hfv
                refine V_istore (lc1 := [(11, .int fv), (12, .int (nI k6)), (10, .int (nI wv)), (0, .ref (h 0)), (1, .int y), (2, .ref (h 21)), (3, .ref (h 22)), (4, .ref (h 23)), (5, .ref (h 24)), (6, .ref (h 25)), (7, .ref (h 26)), (8, .ref (h 27)), (9, .ref (h 30))]) cx 89 rfl dL_isTold_87 (by decide) rfl ?_
                refine V_iinc (v := nI (k6 + 1)) (lc1 := [(12, .int (nI (k6 + 1))), (11, .int fv), (10, .int (nI wv)), (0, .ref (h 0)), (1, .int y), (2, .ref (h 21)), (3, .ref (h 22)), (4, .ref (h 23)), (5, .ref (h 24)), (6, .ref (h 25)), (7, .ref (h 26)), (8, .ref (h 27)), (9, .ref (h 30))]) cx 92 rfl dL_isTold_89 1 rfl (nI_inc k6 1) (by decide) rfl ?_
                refine V_goto cx 62 dL_isTold_92 (by decide) ?_
                refine V.locs [0, 1, 2, 3, 4, 5, 6, 7, 8, 9, 10, 11, 12] rfl ?_
                exact ih_62 (k6 + 1) fv (by omega) (by exact hfv) (by omega)
              refine V_aload_n cx 72 rfl dL_isTold_71 5 rfl ?_
              refine V_iload cx 74 rfl dL_isTold_72 0 rfl ?_
              refine V_ialdN cx k6 (rfl) (by omega) (by decide) 21 rfl 75 rfl dL_isTold_74 ?_
              refine V_iload cx 77 rfl dL_isTold_75 2 rfl ?_
              refine V_icmp_ne cx 80 85 rfl dL_isTold_77 (by decide) (fun c_77 => ?_) (fun c_77 => ?_)
              · skip
                refine V_iload cx 87 rfl dL_isTold_85 1 rfl ?_
                refine V.locs [0, 1, 2, 3, 4, 5, 6, 7, 8, 9, 10, 11, 12] rfl ?_
                exact join_87 fd9 (by simp only [lastW]; first | rw [if_pos c_77] | (rw [if_neg c_77]; exact hfd))
              · skip
                refine V_iload cx 82 rfl dL_isTold_80 0 rfl ?_
                refine V_goto cx 87 dL_isTold_82 (by decide) ?_
                refine V.locs [0, 1, 2, 3, 4, 5, 6, 7, 8, 9, 10, 11, 12] rfl ?_
                exact join_87 (nI k6) (by simp only [lastW]; first | rw [if_pos c_77] | (rw [if_neg c_77]; exact hfd))
        refine V.locs [0, 1, 2, 3, 4, 5, 6, 7, 8, 9, 10, 11, 12] rfl ?_
        exact loop_62 _ 0 (-1) (by omega) (by rfl) (Nat.lt_succ_self _)
      · skip
        have n_9 : k < lNp x := N_ge_f (by omega) (by omega) c_9
        have hc9 := hok.2.2.2.1 k (by omega)
        refine V_aload_n cx 13 rfl dL_isTold_12 1 rfl ?_
        refine V_iload cx 15 rfl dL_isTold_13 0 rfl ?_
        refine KL_150 (As := [.ref (h 0), .int (nI k)]) (rest := []) cx (kL_count (xl X) lo G _ h np nl len fd lu tu T C F LT VV BB lt ph lh ks wd gr gs bl ie tw (nI k) hst (by omega)) hX (by omega) rfl rfl (Nat.le_of_ble_eq_true rfl) 18 ((2 * k) + 1) ((12 * k) + 6) rfl rfl rfl (by omega) (by omega) dL_isTold_15 (fun r_110 u_111 hw_112 => ?_)
        rcases u_111 with _ | v_113
        · exfalso
          dsimp only at hw_112
          obtain ⟨E, hw_112, -⟩ := hw_112
          exact hw_112.2 ⟨k, by omega, rfl⟩
        dsimp only at hw_112
        obtain ⟨hw_112, hv_114⟩ := hw_112
        subst hv_114
        refine V_toi (nI (lC x k)) (q_cnt hck (by omega) (by omega) hw_112) ?_
        refine V_aload_n cx 19 rfl dL_isTold_18 4 rfl ?_
        refine V_iload cx 21 rfl dL_isTold_19 0 rfl ?_
        refine V_ialdN cx k (rfl) (by omega) (by decide) 22 rfl 22 rfl dL_isTold_21 ?_
        refine V_toi (nI (lC x k)) (hq.2.1 k (by omega)) ?_
        refine V_icmp_ne cx 25 41 rfl dL_isTold_22 (by decide) (fun c_22 => ?_) (fun c_22 => ?_)
        · skip
          exact absurd rfl c_22
        · skip
          refine V_aload_n cx 26 rfl dL_isTold_25 1 rfl ?_
          refine V_iload cx 28 rfl dL_isTold_26 0 rfl ?_
          refine KXL_152 (As := [.int (nI k)]) (rest := []) cx (kX4_costOf (xl X) lo G _ h np nl len fd lu tu T C F LT VV BB lt ph lh ks wd gr gs bl ie tw (nI k) (lC x) hst (by omega) (lw_cOK hok hck)) hX (by omega) 0 rfl rfl rfl (Nat.le_of_ble_eq_true rfl) 31 ((2 * k) + 2) ((12 * k) + 12) rfl rfl rfl (by omega) (by omega) dL_isTold_28 (fun E ce q9 H1 locs1 ls he _ _ _ _ _ _ _ => by exfalso; exact he.2 ⟨k, by omega, rfl⟩) (fun r_115 u_116 hw_117 => ?_)
          try dsimp only at hw_117
          refine V_toi (nI (ko (lC x k))) (q_cst (by omega) (by omega) hw_117) ?_
          refine V_aload_n cx 32 rfl dL_isTold_31 4 rfl ?_
          refine V_iload cx 34 rfl dL_isTold_32 0 rfl ?_
          refine V_ialdN cx k (rfl) (by omega) (by decide) 22 rfl 35 rfl dL_isTold_34 ?_
          refine V_toi (nI (lC x k)) (hq.2.1 k (by omega)) ?_
          refine KL_77 (As := [.int (nI (lC x k))]) (rest := [.int (nI (ko (lC x k)))]) cx (kL_costOfPart (xl X) lo G _ (lC x k) (by omega)) hX (by omega) rfl rfl (Nat.le_of_ble_eq_true rfl) 38 ((2 * k) + 2) ((12 * k) + 12) rfl rfl rfl (by omega) (by omega) dL_isTold_35 (fun r_118 u_119 hw_120 => ?_)
          try dsimp only at hw_120
          subst hw_120
          refine V_icmp_eq cx 41 43 rfl dL_isTold_38 (by decide) (fun c_38 => ?_) (fun c_38 => ?_)
          · skip
            refine V_iinc (v := nI (k + 1)) (lc1 := [(10, .int (nI (k + 1))), (0, .ref (h 0)), (1, .int y), (2, .ref (h 21)), (3, .ref (h 22)), (4, .ref (h 23)), (5, .ref (h 24)), (6, .ref (h 25)), (7, .ref (h 26)), (8, .ref (h 27)), (9, .ref (h 30))]) cx 46 rfl dL_isTold_43 0 rfl (nI_inc k 1) (by decide) rfl ?_
            refine V_goto cx 3 dL_isTold_46 (by decide) ?_
            refine V.locs [0, 1, 2, 3, 4, 5, 6, 7, 8, 9, 10] rfl ?_
            refine V.widen (k' := 2 * (k + 1)) (n' := 12 * (k + 1)) (by omega) (by omega) ?_
            exact ih_3 (k + 1) (by omega) (by omega)
          · skip
            exact absurd rfl c_38
  refine V.locs [0, 1, 2, 3, 4, 5, 6, 7, 8, 9, 10] rfl ?_
  refine V.widen (k' := 2 * 0) (n' := 12 * 0) (by omega) (by omega) ?_
  exact loop_3 _ 0 (by omega) (Nat.lt_succ_self _)
