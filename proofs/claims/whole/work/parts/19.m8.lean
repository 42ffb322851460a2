def valS (x : LX) (L : Nat) (d : Nat → Nat) : SP → Nat → Option Nat → Prop
  | [], _, _ => False
  | (o, p) :: l, a, pv => o < 28 ∧ ∃ e, stp x L d a pv (4 - o / 7) (o % 7) = some (p, e) ∧ ((e = L ∧ l = []) ∨ (e < L ∧ valS x L d l e (some p)))
theorem valS_len {x : LX} {L : Nat} {d : Nat → Nat} : ∀ (l : SP) (a : Nat) (pv : Option Nat), valS x L d l a pv → l.length + a ≤ L ∧ 1 ≤ l.length
  | [], _, _, h => absurd h (fun h => h)
  | (o, p) :: l, a, pv, h => by
    obtain ⟨ho, e, hs, h⟩ := h
    have hb := stp_bd hs (by omega)
    rw [List.length_cons]
    rcases h with ⟨h1, rfl⟩ | ⟨h1, h2⟩
    · exact ⟨by simp; omega, by omega⟩
    · have := (valS_len l e (some p) h2).1
      exact ⟨by omega, by omega⟩
theorem valS_bd {x : LX} {L : Nat} {d : Nat → Nat} : ∀ (l : SP) (a : Nat) (pv : Option Nat), valS x L d l a pv → ∀ k, k < l.length → spO l k < 28 ∧ spP l k < lNp x
  | [], _, _, h => absurd h (fun h => h)
  | (o, p) :: l, a, pv, h => fun k hk => by
    obtain ⟨ho, e, hs, h⟩ := h
    have hb := stp_bd hs (by omega)
    cases k with
    | zero => exact ⟨ho, hb.2.2.1⟩
    | succ k =>
      rcases h with ⟨h1, rfl⟩ | ⟨h1, h2⟩
      · simp at hk
      · exact valS_bd l e (some p) h2 k (by simpa using hk)
theorem enO_mem {F : Nat → List SP} {l : SP} {z : Nat} (hz : z ≤ 28) : l ∈ enO F z ↔ ∃ o, 28 - z ≤ o ∧ o < 28 ∧ l ∈ F o := by
  induction z with
  | zero => constructor
            · intro h; cases h
            · rintro ⟨o, h1, h2, _⟩; omega
  | succ z ih =>
    rw [enO, List.mem_append, ih (by omega)]
    constructor
    · rintro (h | ⟨o, h1, h2, h3⟩)
      · exact ⟨28 - (z + 1), by omega, by omega, h⟩
      · exact ⟨o, by omega, h2, h3⟩
    · rintro ⟨o, h1, h2, h3⟩
      by_cases h : o = 28 - (z + 1)
      · left; rw [← h]; exact h3
      · right; exact ⟨o, by omega, h2, h3⟩
theorem mem_en {x : LX} {L : Nat} {d : Nat → Nat} (f : Nat) : ∀ (a : Nat) (pv : Option Nat) (l : SP), L ≤ a + f → (l ∈ en x L d f a pv ↔ valS x L d l a pv) := by
  induction f with
  | zero =>
    intro a pv l hf
    constructor
    · intro h; cases h
    · intro h
      have := valS_len l a pv h
      omega
  | succ f ih =>
    intro a pv l hf
    rw [en_succ, enO_mem (Nat.le_refl 28)]
    constructor
    · rintro ⟨o, _, ho, h⟩
      unfold enF at h
      split at h
      · cases h
      · rename_i p e hs
        have hb := stp_bd hs (by omega)
        split at h
        · rename_i he
          rw [List.mem_singleton] at h
          subst h
          exact ⟨ho, e, hs, Or.inl ⟨he, rfl⟩⟩
        · rename_i he
          obtain ⟨l2, h2, rfl⟩ := List.mem_map.mp h
          exact ⟨ho, e, hs, Or.inr ⟨by omega, (ih e (some p) l2 (by omega)).mp h2⟩⟩
    · intro h
      cases l with
      | nil => exact absurd h (fun h => h)
      | cons y l =>
        obtain ⟨o, p⟩ := y
        obtain ⟨ho, e, hs, h⟩ := h
        have hb := stp_bd hs (by omega)
        refine ⟨o, by omega, ho, ?_⟩
        unfold enF
        rw [hs]
        dsimp only
        rcases h with ⟨h1, rfl⟩ | ⟨h1, h2⟩
        · rw [if_pos h1]; exact List.mem_singleton.mpr rfl
        · rw [if_neg (by omega)]
          exact List.mem_map.mpr ⟨l, (ih e (some p) l (by omega)).mpr h2, rfl⟩
theorem mem_mEn {x : LX} {L : Nat} {d : Nat → Nat} {l : SP} (hL : L ≤ 8) : l ∈ mEn x d L ↔ valS x L d l 0 none := mem_en 8 0 none l (by omega)
theorem mkl_lt {x : LX} {L : Nat} {d : Nat → Nat} {l : SP} {a : Nat} {pv : Option Nat} (hL : L ≤ 8) (h : valS x L d l a pv) : mkl x l < 9223372036854775808 := mkey_lt _ _ (fun _ => ko_le _) (by have := valS_len l a pv h; omega) (fun k hk => (valS_bd l a pv h k hk).1)
/-- a split by its number: as many of them have a lesser key -/
def selR (x : LX) (E : List SP) (k : Int32) (o : Option SP) : Prop := match o with
  | none => ∀ l, l ∈ E → nI (E.countP (fun l' => decide (mkl x l' < mkl x l))) ≠ k
  | some l => l ∈ E ∧ nI (E.countP (fun l' => decide (mkl x l' < mkl x l))) = k
def selV (x : LX) (o : Option SP) : Int64 := match o with
  | none => -1
  | some l => lN (mkl x l)
theorem cntLt_countP {x : LX} {ks : Nat → Int64} {v : Nat} (hv : v < 9223372036854775808) : ∀ (E : List SP) (n : Nat), n ≤ E.length → (∀ l, l ∈ E → mkl x l < 9223372036854775808) → KS x [] ks 0 E → cntLt ks (lN v) n = (E.take n).countP (fun l' => decide (mkl x l' < v)) := by
  intro E n
  induction n with
  | zero => intro _ _ _; rfl
  | succ n ih =>
    intro hn hb hk
    have he : E[n]? = some E[n] := List.getElem?_eq_getElem (by omega)
    have hkn := hk n E[n] he
    rw [Nat.zero_add, List.nil_append] at hkn
    rw [cntLt, ih (by omega) hb hk, List.take_succ_eq_append_getElem (by omega), List.countP_append, hkn]
    congr 1
    rw [List.countP_singleton]
    have h1 := hb E[n] (List.getElem_mem (by omega))
    by_cases h : mkl x E[n] < v
    · rw [if_pos ((lN_ltB h1 hv).mpr h), if_pos (decide_eq_true h)]
    · rw [if_neg (fun h2 => h ((lN_ltB h1 hv).mp h2)), if_neg (by rw [decide_eq_false h]; decide)]
theorem selK_R {x : LX} {ks : Nat → Int64} {k : Int32} {E : List SP} (hb : ∀ l, l ∈ E → mkl x l < 9223372036854775808) (hk : KS x [] ks 0 E) : ∀ n, n ≤ E.length → ∃ o : Option SP, selK ks E.length k n = selV x o ∧ (match o with
    | none => ∀ i, i < n → ∀ l, E[i]? = some l → nI (E.countP (fun l' => decide (mkl x l' < mkl x l))) ≠ k
    | some l => l ∈ E ∧ nI (E.countP (fun l' => decide (mkl x l' < mkl x l))) = k) := by
  intro n
  induction n with
  | zero => intro _; exact ⟨none, rfl, fun i hi => absurd hi (Nat.not_lt_zero i)⟩
  | succ n ih =>
    intro hn
    have he : E[n]? = some E[n] := List.getElem?_eq_getElem (by omega)
    have hkn := hk n E[n] he
    rw [Nat.zero_add, List.nil_append] at hkn
    have hm : E[n] ∈ E := List.getElem_mem (by omega)
    have hc := cntLt_countP (hb _ hm) E E.length (Nat.le_refl _) hb hk
    rw [List.take_length] at hc
    unfold selK
    rw [hkn, hc]
    split
    · rename_i h
      exact ⟨some E[n], rfl, hm, h⟩
    · rename_i h
      obtain ⟨o, h1, h2⟩ := ih (by omega)
      refine ⟨o, h1, ?_⟩
      cases o with
      | some l => exact h2
      | none =>
        intro i hi l hl
        rcases Nat.lt_or_ge i n with h3 | h3
        · exact h2 i h3 l hl
        · have e : i = n := by omega
          subst e
          rw [he] at hl
          cases hl
          exact h
theorem selK_sel {x : LX} {ks : Nat → Int64} {k : Int32} {E : List SP} (hb : ∀ l, l ∈ E → mkl x l < 9223372036854775808) (hk : KS x [] ks 0 E) : ∃ o : Option SP, selK ks E.length k E.length = selV x o ∧ selR x E k o := by
  obtain ⟨o, h1, h2⟩ := selK_R hb hk E.length (Nat.le_refl _)
  refine ⟨o, h1, ?_⟩
  cases o with
  | some l => exact h2
  | none =>
    intro l hl
    obtain ⟨i, hi, rfl⟩ := List.getElem_of_mem hl
    exact h2 i hi _ (List.getElem?_eq_getElem hi)
def asked (x : LX) (u : Int32) (w ll1 sp1 : Nat) (lt1 : Nat → Int32) (ks1 : Nat → Int64) : Prop := u = nI w ∧ w < 200000000 ∧ 1 ≤ ll1 ∧ ll1 ≤ 8 ∧ ll1 = SZ u 8 ∧ (∀ k, k < ll1 → lt1 k = nI (dgt w ll1 k)) ∧ sp1 = (mEn x (dgt w ll1) ll1).length ∧ KS x [] ks1 0 (mEn x (dgt w ll1) ll1)
theorem asked.bd {x : LX} {u : Int32} {w ll1 sp1 : Nat} {lt1 : Nat → Int32} {ks1 : Nat → Int64} (h : asked x u w ll1 sp1 lt1 ks1) : ∀ l, l ∈ mEn x (dgt w ll1) ll1 → mkl x l < 9223372036854775808 := fun l hl => mkl_lt h.2.2.2.1 ((mem_mEn h.2.2.2.1).mp hl)
set_option maxHeartbeats 4000000 in
set_option maxRecDepth 100000 in
theorem kX5_unfolds (l : Launch) (lo : Nat) (G : vG) (rs : va_W) (g : Nat → Nat) (th : Nat) (np : Nat) (nl : Nat) (ld : Nat) (ll : Nat) (mn : Int32) (sp : Nat) (T : Nat → Int32) (S : Nat → Int32) (C : Nat → Int32) (F : Nat → Int32) (LT : Nat → Int32) (LS : Nat → Int32) (VE : Nat → Int32) (BA : Nat → Int32) (wd : Nat → Int32) (mo : Nat → Int32) (lt : Nat → Int32) (op : Nat → Int32) (pl : Nat → Int32) (pt : Nat → Int32) (ks : Nat → Int64) (K : Nat) (x : LX) (d : Nat → Nat) (sq : SP) (hok : lxOK x) (hmk : mOK x np nl T S C F LT LS VE BA) (hll : ll ≤ 8) (hlt : ∀ k, k < ll → lt k = nI (d k)) (hd : ∀ k, d k ≤ 9) (hK : K = mkl x sq) (hv : valS x ll d sq 0 none) : Mv l yX5_unfolds (.code yX5_unfolds prog_7_method_32_code 6 none) 4 0 0 lo G [.ref (g 0), .long (lN K)] (mW G g th np nl ld ll mn sp T S C F LT LS VE BA wd mo lt op pl pt ks ++ rs) (fun ((op1, pl1, pt1) : (Nat → Int32) × (Nat → Int32) × (Nat → Int32)) => ∀ k, k < sq.length → op1 k = nI (spO sq k) ∧ pt1 k = nI (spP sq k)) (fun ((op1, pl1, pt1) : (Nat → Int32) × (Nat → Int32) × (Nat → Int32)) => mW G g th np nl ld ll (nI sq.length) sp T S C F LT LS VE BA wd mo lt op1 pl1 pt1 ks ++ rs) := by
  refine Mv_of (lc := [(0, .ref (g 0)), (1, .long (lN K))]) (by decide +kernel) (Nat.le_of_ble_eq_true rfl) rfl ?_
  intro X cx hXR hXl hr hin
  subst hXl
  have hX := RmX.of hXR
  have hmk2 := hmk
  obtain ⟨hnp, hnl, hT, hS, hC, hF, hLT, hLS, hVE, hBA⟩ := hmk
  have hnp16 : np ≤ 16 := by rw [hnp]; exact hok.1
  obtain ⟨hl8, hl1⟩ := valS_len sq 0 none hv
  have hsb := valS_bd sq 0 none hv
  have hlt8 : sq.length ≤ 8 := by omega
  have hKb : K < 9223372036854775808 := by rw [hK]; exact mkl_lt hll hv
  obtain ⟨hd1, hd2⟩ := mkey_div (fun k => ko (lC x (spP sq k))) (spO sq) sq.length (fun k hk => (hsb k hk).1)
  have hd1 : K / 377801998336 = 16 * (kS (fun k => ko (lC x (spP sq k))) (spO sq) sq.length - 15) + sq.length := by rw [hK]; exact hd1
  have hd2 : K % 377801998336 = kCd (spO sq) sq.length 8 := by rw [hK]; exact hd2
  refine V_aload_n cx 1 rfl dX5_unfolds_0 0 rfl ?_
  refine V_lload_n cx 2 rfl dX5_unfolds_1 1 rfl ?_
  refine KX5_136 (As := [.long (lN K)]) (rest := [.ref (g 0)]) cx (kX5_sizeOfKey (xl X) lo G _ K (by omega)) hX (by omega) rfl rfl (Nat.le_of_ble_eq_true rfl) 5 0 0 rfl rfl rfl (by omega) (by omega) dX5_unfolds_2 (fun r_1 u_2 hw_3 => ?_)
  try dsimp only at hw_3
  subst hw_3
  refine V_toi (nI sq.length) (by rw [show K / 377801998336 % 16 = sq.length by omega]) ?_
  refine PX5_104 cx 0 rfl (Nat.le_of_ble_eq_true rfl) (mW G g th np nl ld ll (nI sq.length) sp T S C F LT LS VE BA wd mo lt op pl pt ks ++ rs) rfl 8 rfl dX5_unfolds_5 ?_
  refine V_lload_n cx 9 rfl dX5_unfolds_8 1 rfl ?_
  refine V_ldc2 cx 12 rfl dX5_unfolds_9 cl_X5_116 ?_
  refine V_tol (lN 377801998336) (by decide) ?_
  refine V_lrem cx 13 rfl dX5_unfolds_12 (by decide) ?_
  refine V_tol (lN (K % 377801998336)) (lN_mod (by omega) (by decide)) ?_
  refine V_lstore_n (lc1 := [(3, .long (lN (K % 377801998336))), (0, .ref (g 0)), (1, .long (lN K))]) cx 14 rfl dX5_unfolds_13 (by decide) rfl ?_
  refine V_bipush (v := nI 7) cx 16 rfl dX5_unfolds_14 (by decide) ?_
  refine V_istore (lc1 := [(5, .int (nI 7)), (3, .long (lN (K % 377801998336))), (0, .ref (g 0)), (1, .long (lN K))]) cx 18 rfl dX5_unfolds_16 (by decide) rfl ?_
  have loop_18 : ∀ (fuel : Nat) (j : Nat) (lf : Nat) (op2 : Nat → Int32), (j ≤ 8) → (lf = kCd (spO sq) sq.length j) → (lf < 377801998336) → (∀ k, j ≤ k → k < sq.length → op2 k = nI (spO sq k)) → j < fuel → V X lo 6 G (Qv X lo G (fun ((op1, pl1, pt1) : (Nat → Int32) × (Nat → Int32) × (Nat → Int32)) => ∀ k, k < sq.length → op1 k = nI (spO sq k) ∧ pt1 k = nI (spP sq k)) (fun ((op1, pl1, pt1) : (Nat → Int32) × (Nat → Int32) × (Nat → Int32)) => mW G g th np nl ld ll (nI sq.length) sp T S C F LT LS VE BA wd mo lt op1 pl1 pt1 ks ++ rs) 0 0) 0 0 (mW G g th np nl ld ll (nI sq.length) sp T S C F LT LS VE BA wd mo lt op2 pl pt ks ++ rs) [(5, .int (nI j - nI 1)), (3, .long (lN lf)), (0, .ref (g 0))] [] 18 := by
    intro fuel
    induction fuel with
    | zero => intro j lf op2 hj hlf hlfb hop hmz; exact absurd hmz (Nat.not_lt_zero _)
    | succ fuel ih_18 =>
      intro j lf op2 hj hlf hlfb hop hmz_18
      refine V_iload cx 20 rfl dX5_unfolds_18 0 rfl ?_
      refine V_if_lt cx 23 48 rfl dX5_unfolds_20 (by decide) (fun c_20 => ?_) (fun c_20 => ?_)
      · skip
        have ej : j = 0 := nI_subz (by omega) c_20
        refine V_aload_n cx 49 rfl dX5_unfolds_48 2 rfl ?_
        refine GX5_104 cx 0 rfl rfl 52 rfl dX5_unfolds_49 ?_
        refine V_istore (lc1 := [(5, .int (nI sq.length)), (3, .long (lN lf)), (0, .ref (g 0))]) cx 54 rfl dX5_unfolds_52 (by decide) rfl ?_
        refine V_aload_n cx 55 rfl dX5_unfolds_54 2 rfl ?_
        refine GX5_46 cx 0 rfl rfl 58 rfl dX5_unfolds_55 ?_
        refine V_iconst (v := nI 0) cx 59 rfl dX5_unfolds_58 (by decide) ?_
        refine V_iconst (v := nI 0) cx 60 rfl dX5_unfolds_59 (by decide) ?_
        refine V_iastN cx 0 (rfl) (by omega) (by decide) 13 rfl (mW G g th np nl ld ll (nI sq.length) sp T S C F LT LS VE BA wd mo lt op2 (upd pl 0 (nI 0)) pt ks ++ rs) rfl 61 rfl dX5_unfolds_60 ?_
        refine V_aload_n cx 62 rfl dX5_unfolds_61 2 rfl ?_
        refine V_iconst (v := nI 0) cx 63 rfl dX5_unfolds_62 (by decide) ?_
        refine PX5_104 cx 0 rfl (Nat.le_of_ble_eq_true rfl) (mW G g th np nl ld ll (nI 0) sp T S C F LT LS VE BA wd mo lt op2 (upd pl 0 (nI 0)) pt ks ++ rs) rfl 66 rfl dX5_unfolds_63 ?_
        have loop_66 : ∀ (fuel : Nat) (j : Nat) (op3 : Nat → Int32) (pl3 : Nat → Int32) (pt3 : Nat → Int32) (a : Nat) (pv : Option Nat) (rest : SP), (j + rest.length = sq.length) → (∀ k, k < sq.length → op3 k = nI (spO sq k)) → (∀ k, k < j → pt3 k = nI (spP sq k)) → (∀ k, k < rest.length → spO rest k = spO sq (j + k) ∧ spP rest k = spP sq (j + k)) → (pl3 j = nI a) → (pvOK np j pt3 pv) → ((a = ll ∧ rest = []) ∨ (a < ll ∧ valS x ll d rest a pv)) → sq.length - j < fuel → V X lo 6 G (Qv X lo G (fun ((op1, pl1, pt1) : (Nat → Int32) × (Nat → Int32) × (Nat → Int32)) => ∀ k, k < sq.length → op1 k = nI (spO sq k) ∧ pt1 k = nI (spP sq k)) (fun ((op1, pl1, pt1) : (Nat → Int32) × (Nat → Int32) × (Nat → Int32)) => mW G g th np nl ld ll (nI sq.length) sp T S C F LT LS VE BA wd mo lt op1 pl1 pt1 ks ++ rs) 0 0) 0 0 (mW G g th np nl ld ll (nI j) sp T S C F LT LS VE BA wd mo lt op3 pl3 pt3 ks ++ rs) [(5, .int (nI sq.length)), (0, .ref (g 0))] [] 66 := by
          intro fuel
          induction fuel with
          | zero => intro j op3 pl3 pt3 a pv rest hj hop3 hpt3 hrest hpl3 hpv3 hval hmz; exact absurd hmz (Nat.not_lt_zero _)
          | succ fuel ih_66 =>
            intro j op3 pl3 pt3 a pv rest hj hop3 hpt3 hrest hpl3 hpv3 hval hmz_66
            refine V_aload_n cx 67 rfl dX5_unfolds_66 1 rfl ?_
            refine GX5_104 cx 0 rfl rfl 70 rfl dX5_unfolds_67 ?_
            refine V_iload cx 72 rfl dX5_unfolds_70 0 rfl ?_
            refine V_icmp_ge cx 75 102 rfl dX5_unfolds_72 (by decide) (fun c_72 => ?_) (fun c_72 => ?_)
            · skip
              have n_72 : j ≥ sq.length := N_ge_t (by omega) (by omega) c_72
              have ejl : j = sq.length := by omega
              subst ejl
              exact V_vreturn cx hr (op3, pl3, pt3) (fun k hk => ⟨hop3 k hk, hpt3 k hk⟩) rfl (by omega) (by omega) dX5_unfolds_102
            · skip
              have n_72 : j < sq.length := N_ge_f (by omega) (by omega) c_72
              rcases hval with ⟨_, h0⟩ | ⟨hal, hval⟩
              · rw [h0] at hj; simp at hj; omega
              cases rest with
              | nil => exact absurd hval (fun h => h)
              | cons y l2 =>
                obtain ⟨o, p⟩ := y
                obtain ⟨ho28, e, hst, hvv⟩ := hval
                obtain ⟨b1, b2, b3, b4⟩ := stp_bd hst (by omega)
                have h00 := hrest 0 (by simp)
                have hoe : o = spO sq j := h00.1
                have hpe : p = spP sq j := h00.2
                have hoj : op3 j = nI o := by rw [hop3 j (by omega), hoe]
                refine V_aload_n cx 76 rfl dX5_unfolds_75 1 rfl ?_
                refine V_aload_n cx 77 rfl dX5_unfolds_76 1 rfl ?_
                refine GX5_43 cx 0 rfl rfl 80 rfl dX5_unfolds_77 ?_
                refine V_aload_n cx 81 rfl dX5_unfolds_80 1 rfl ?_
                refine GX5_104 cx 0 rfl rfl 84 rfl dX5_unfolds_81 ?_
                refine V_ialdN cx j (rfl) (by omega) (by decide) 12 rfl 85 rfl dX5_unfolds_84 ?_
                refine V_toi (nI o) (hoj) ?_
                refine KX5_121 (As := [.int (nI o)]) (rest := []) cx (kX5_goesOn (xl X) lo G _ g th np nl ld ll j sp T S C F LT LS VE BA wd mo lt op3 pl3 pt3 ks o x d a pv (4 - o / 7) (o % 7) hok hmk2 (by omega) hlt hd (by omega) (by omega) hpl3 hpv3 (by omega) (by omega) (by omega)) hX (by omega) 0 rfl rfl rfl (Nat.le_of_ble_eq_true rfl) 88 0 0 rfl rfl rfl (by omega) (by omega) dX5_unfolds_85 (fun r_4 u_5 hw_6 => ?_)
                obtain ⟨op1_7, pl1_8, pt1_9⟩ := u_5
                try dsimp only at hw_6
                rcases hw_6 with ⟨hst2, hr0, e1, e2, e3⟩ | ⟨p2, e20, hst2, hr0, e1, e2, e3⟩
                · rw [hst] at hst2; cases hst2
                rw [hst] at hst2; cases hst2; subst hr0; subst e1; subst e2; subst e3
                refine V_pop cx 89 rfl dX5_unfolds_88 rfl ?_
                refine V_aload_n cx 90 rfl dX5_unfolds_89 1 rfl ?_
                refine V_dup cx 91 rfl dX5_unfolds_90 rfl ?_
                refine GX5_104 cx 0 rfl rfl 94 rfl dX5_unfolds_91 ?_
                refine V_iconst (v := nI 1) cx 95 rfl dX5_unfolds_94 (by decide) ?_
                refine V_iadd cx 96 rfl dX5_unfolds_95 ?_
                refine V_toi (nI (j + 1)) (nI_add _ _) ?_
                refine PX5_104 cx 0 rfl (Nat.le_of_ble_eq_true rfl) (mW G g th np nl ld ll (nI (j + 1)) sp T S C F LT LS VE BA wd mo lt (upd op3 j (nI o)) (upd pl3 (j + 1) (nI e)) (upd pt3 j (nI p)) ks ++ rs) rfl 99 rfl dX5_unfolds_96 ?_
                refine V_goto cx 66 dX5_unfolds_99 (by decide) ?_
                refine V.locs [0, 1] rfl ?_
                exact ih_66 (j + 1) (upd op3 j (nI o)) (upd pl3 (j + 1) (nI e)) (upd pt3 j (nI p)) e (some p) l2 (by rw [List.length_cons] at hj; omega) (by intro k hk; unfold upd; split; (rename_i h; subst h; rw [hoe]); exact hop3 k hk) (by intro k hk; unfold upd; split; (rename_i h; subst h; rw [hpe]); exact hpt3 k (by omega)) (by intro k hk; have := hrest (k + 1) (by simpa using hk); rw [show j + 1 + k = j + (k + 1) by omega]; exact this) (by exact upd_s _ _ _) (by exact Or.inr ⟨by omega, p, by omega, by rw [Nat.add_sub_cancel]; exact upd_s _ _ _, rfl⟩) (by exact hvv) (by omega)
        refine V.locs [0, 2] rfl ?_
        exact loop_66 _ 0 op2 (upd pl 0 (nI 0)) pt 0 none sq (by omega) (by intro k hk; exact hop k (by omega) hk) (by intro k hk; exact absurd hk (Nat.not_lt_zero k)) (by intro k hk; rw [Nat.zero_add]; exact ⟨rfl, rfl⟩) (by exact upd_s _ _ _) (by exact Or.inl ⟨rfl, rfl⟩) (by exact Or.inr ⟨by omega, hv⟩) (Nat.lt_succ_self _)
      · skip
        have ej : 0 < j := nI_subnz c_20
        rw [nI_subN ej]
        have hk0 : lf = 28 * kCd (spO sq) sq.length (j - 1) + (if j - 1 < sq.length then spO sq (j - 1) else 0) := by rw [hlf, show j = (j - 1) + 1 by omega]; rfl
        have hk1 : (if j - 1 < sq.length then spO sq (j - 1) else 0) < 28 := by split; (exact (hsb (j - 1) (by assumption)).1); decide
        have hk2 : j - 1 < sq.length → (if j - 1 < sq.length then spO sq (j - 1) else 0) = spO sq (j - 1) := fun h => if_pos h
        refine V_aload_n cx 24 rfl dX5_unfolds_23 2 rfl ?_
        refine GX5_43 cx 0 rfl rfl 27 rfl dX5_unfolds_24 ?_
        refine V_iload cx 29 rfl dX5_unfolds_27 0 rfl ?_
        refine V_lload_n cx 30 rfl dX5_unfolds_29 1 rfl ?_
        refine V_ldc2 cx 33 rfl dX5_unfolds_30 cl_X5_112 ?_
        refine V_tol (lN 28) (by decide) ?_
        refine V_lrem cx 34 rfl dX5_unfolds_33 (by decide) ?_
        refine V_tol (lN (lf % 28)) (lN_mod (by omega) (by decide)) ?_
        refine V_l2i cx 35 rfl dX5_unfolds_34 ?_
        refine V_toi (nI (lf % 28)) (lN_i _) ?_
        refine V_iastN cx (j - 1) (rfl) (by omega) (by decide) 12 rfl (mW G g th np nl ld ll (nI sq.length) sp T S C F LT LS VE BA wd mo lt (upd op2 (j - 1) (nI (lf % 28))) pl pt ks ++ rs) rfl 36 rfl dX5_unfolds_35 ?_
        refine V_lload_n cx 37 rfl dX5_unfolds_36 1 rfl ?_
        refine V_ldc2 cx 40 rfl dX5_unfolds_37 cl_X5_112 ?_
        refine V_tol (lN 28) (by decide) ?_
        refine V_ldiv cx 41 rfl dX5_unfolds_40 (by decide) ?_
        refine V_tol (lN (lf / 28)) (lN_div (by omega) (by decide)) ?_
        refine V_lstore_n (lc1 := [(3, .long (lN (lf / 28))), (5, .int (nI (j - 1))), (0, .ref (g 0))]) cx 42 rfl dX5_unfolds_41 (by decide) rfl ?_
        refine V_iinc (v := nI (j - 1) - nI 1) (lc1 := [(5, .int (nI (j - 1) - nI 1)), (3, .long (lN (lf / 28))), (0, .ref (g 0))]) cx 45 rfl dX5_unfolds_42 1 rfl (nI_decR (j - 1)) (by decide) rfl ?_
        refine V_goto cx 18 dX5_unfolds_45 (by decide) ?_
        refine V.locs [0, 1, 2] rfl ?_
        exact ih_18 (j - 1) (lf / 28) (upd op2 (j - 1) (nI (lf % 28))) (by omega) (by omega) (by omega) (by intro k h1 h2; unfold upd; split; (rename_i hk; subst hk; rw [show lf % 28 = spO sq (j - 1) by omega]); exact hop k (by omega) h2) (by omega)
  refine V.locs [0, 1, 2] rfl ?_
  exact loop_18 _ 8 (K % 377801998336) op (by omega) (by exact hd2) (by omega) (by intro k h1 h2; omega) (Nat.lt_succ_self _)
set_option maxHeartbeats 4000000 in
set_option maxRecDepth 100000 in
theorem kX5_asks (l : Launch) (lo : Nat) (G : vG) (rs : va_W) (g : Nat → Nat) (th : Nat) (np : Nat) (nl : Nat) (ld : Nat) (ll : Nat) (mn : Int32) (sp : Nat) (T : Nat → Int32) (S : Nat → Int32) (C : Nat → Int32) (F : Nat → Int32) (LT : Nat → Int32) (LS : Nat → Int32) (VE : Nat → Int32) (BA : Nat → Int32) (wd : Nat → Int32) (mo : Nat → Int32) (lt : Nat → Int32) (op : Nat → Int32) (pl : Nat → Int32) (pt : Nat → Int32) (ks : Nat → Int64) (u : Int32) (x : LX) (hok : lxOK x) (hmk : mOK x np nl T S C F LT LS VE BA) (hE : ∀ (d : Nat → Nat) (L : Nat), L ≤ 8 → (mEn x d L).length ≤ 640) : Mi l yX5_asks (.code yX5_asks prog_7_method_28_code 2 (some .boolean)) 5 0 0 lo G [.ref (g 0), .int u] (mW G g th np nl ld ll mn sp T S C F LT LS VE BA wd mo lt op pl pt ks ++ rs) (fun (r : Int32) ((th1, ll1, mn1, sp1, lt1, op1, pl1, pt1, ks1) : (Nat) × (Nat) × (Int32) × (Nat) × (Nat → Int32) × (Nat → Int32) × (Nat → Int32) × (Nat → Int32) × (Nat → Int64)) => (SZ u 8 = 0 ∧ r = bI false ∧ th1 = 1) ∨ (∃ w, r = bI true ∧ th1 = 0 ∧ asked x u w ll1 sp1 lt1 ks1)) (fun ((th1, ll1, mn1, sp1, lt1, op1, pl1, pt1, ks1) : (Nat) × (Nat) × (Int32) × (Nat) × (Nat → Int32) × (Nat → Int32) × (Nat → Int32) × (Nat → Int32) × (Nat → Int64)) => mW G g th1 np nl ld ll1 mn1 sp1 T S C F LT LS VE BA wd mo lt1 op1 pl1 pt1 ks1 ++ rs) := by
  refine Mi_of (lc := [(0, .ref (g 0)), (1, .int u)]) (by decide +kernel) (Nat.le_of_ble_eq_true rfl) rfl ?_
  intro X cx hXR hXl hr hin
  subst hXl
  have hX := RmX.of hXR
  obtain ⟨w, hw0⟩ : ∃ w, 0 < SZ u 8 → u = nI w ∧ w < 200000000 := by rcases Nat.eq_zero_or_pos (SZ u 8) with h | h; (exact ⟨0, fun h2 => by omega⟩); (obtain ⟨w, h1, _, _, _, h5⟩ := SZ_szN (by decide) h; exact ⟨w, fun _ => ⟨h1, h5⟩⟩)
  have hL8 := SZ_le u 8
  refine V_aload_n cx 1 rfl dX5_asks_0 0 rfl ?_
  refine V_aload_n cx 2 rfl dX5_asks_1 0 rfl ?_
  refine V_iload_n cx 3 rfl dX5_asks_2 1 rfl ?_
  refine KX5_128 (As := [.int u]) (rest := [.ref (g 0)]) cx (kX5_takes (xl X) lo G _ g th np nl ld ll mn sp T S C F LT LS VE BA wd mo lt op pl pt ks u w (fun h => ⟨(hw0 h).1, by have := (hw0 h).2; omega⟩)) hX (by omega) 0 rfl rfl rfl (Nat.le_of_ble_eq_true rfl) 6 0 0 rfl rfl rfl (by omega) (by omega) dX5_asks_3 (fun r_1 u_2 hw_3 => ?_)
  obtain ⟨lt1_4, rfl⟩ : ∃ z, z = u_2 := ⟨_, rfl⟩
  try dsimp only at hw_3
  obtain ⟨hw_3, hp_5⟩ := hw_3
  subst hw_3
  have hltw := hp_5
  refine V_if_eq cx 9 13 rfl dX5_asks_6 (by decide) (fun c_6 => ?_) (fun c_6 => ?_)
  · skip
    have n_6 := B_eq_t c_6
    try simp only [decide_eq_true_eq, decide_eq_false_iff_not] at n_6
    refine V_iconst (v := nI 1) cx 14 rfl dX5_asks_13 (by decide) ?_
    refine PX5_56 cx 0 rfl (Nat.le_of_ble_eq_true rfl) (mW G g 1 np nl ld (SZ u 8) mn sp T S C F LT LS VE BA wd mo lt1_4 op pl pt ks ++ rs) rfl 17 rfl dX5_asks_14 ?_
    refine V_aload_n cx 18 rfl dX5_asks_17 0 rfl ?_
    refine GX5_56 cx 0 rfl rfl 21 rfl dX5_asks_18 ?_
    refine V_if_ne cx 24 28 rfl dX5_asks_21 (by decide) (fun c_21 => ?_) (fun c_21 => ?_)
    · skip
      refine V_aload_n cx 29 rfl dX5_asks_28 0 rfl ?_
      refine GX5_56 cx 0 rfl rfl 32 rfl dX5_asks_29 ?_
      refine V_if_ne cx 35 39 rfl dX5_asks_32 (by decide) (fun c_32 => ?_) (fun c_32 => ?_)
      · skip
        refine V_iconst (v := nI 0) cx 40 rfl dX5_asks_39 (by decide) ?_
        exact V_zreturn cx hr (by first | rfl | exact bI_z _) (1, SZ u 8, mn, sp, lt1_4, op, pl, pt, ks) (Or.inl ⟨by omega, rfl, rfl⟩) rfl (by omega) (by omega) dX5_asks_40
      · skip
        exact absurd c_32 (by decide)
    · skip
      exact absurd c_21 (by decide)
  · skip
    have n_6 := B_eq_f c_6
    try simp only [decide_eq_true_eq, decide_eq_false_iff_not] at n_6
    refine V_iconst (v := nI 0) cx 10 rfl dX5_asks_9 (by decide) ?_
    refine V_goto cx 14 dX5_asks_10 (by decide) ?_
    refine PX5_56 cx 0 rfl (Nat.le_of_ble_eq_true rfl) (mW G g 0 np nl ld (SZ u 8) mn sp T S C F LT LS VE BA wd mo lt1_4 op pl pt ks ++ rs) rfl 17 rfl dX5_asks_14 ?_
    refine V_aload_n cx 18 rfl dX5_asks_17 0 rfl ?_
    refine GX5_56 cx 0 rfl rfl 21 rfl dX5_asks_18 ?_
    refine V_if_ne cx 24 28 rfl dX5_asks_21 (by decide) (fun c_21 => ?_) (fun c_21 => ?_)
    · skip
      exact absurd c_21 (by decide)
    · skip
      refine V_aload_n cx 25 rfl dX5_asks_24 0 rfl ?_
      refine KX5_131 (As := []) (rest := []) cx (kX5_laysSplits (xl X) lo G _ g 0 np nl ld (SZ u 8) mn sp T S C F LT LS VE BA wd mo lt1_4 op pl pt ks x (dgt w (SZ u 8)) hok hmk (by omega) hltw (fun k => dgt_lt w _ k) (by omega) (hE _ _ hL8)) hX (by omega) 0 rfl rfl rfl (Nat.le_of_ble_eq_true rfl) 28 0 0 rfl rfl rfl (by omega) (by omega) dX5_asks_25 (fun u_7 hw_8 => ?_)
      obtain ⟨op1_9, pl1_10, pt1_11, ks1_12⟩ := u_7
      try dsimp only at hw_8
      refine V_aload_n cx 29 rfl dX5_asks_28 0 rfl ?_
      refine GX5_56 cx 0 rfl rfl 32 rfl dX5_asks_29 ?_
      refine V_if_ne cx 35 39 rfl dX5_asks_32 (by decide) (fun c_32 => ?_) (fun c_32 => ?_)
      · skip
        exact absurd c_32 (by decide)
      · skip
        refine V_iconst (v := nI 1) cx 36 rfl dX5_asks_35 (by decide) ?_
        refine V_goto cx 40 dX5_asks_36 (by decide) ?_
        exact V_zreturn cx hr (by first | rfl | exact bI_z _) (0, SZ u 8, nI 0 - nI 1, (mEn x (dgt w (SZ u 8)) (SZ u 8)).length, lt1_4, op1_9, pl1_10, pt1_11, ks1_12) (Or.inr ⟨w, rfl, rfl, (hw0 n_6).1, (hw0 n_6).2, by omega, hL8, rfl, hltw, rfl, hw_8⟩) rfl (by omega) (by omega) dX5_asks_40
