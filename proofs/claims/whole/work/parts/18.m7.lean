def enZ (x : LX) (L : Nat) (d : Nat → Nat) (f a : Nat) (pv : Option Nat) (z : Nat) : List SP := match f with
  | 0 => []
  | f + 1 => enO (enF x L d f a pv) z
theorem en_Z (x : LX) (L : Nat) (d : Nat → Nat) (f a : Nat) (pv : Option Nat) : en x L d f a pv = enZ x L d f a pv 28 := by cases f <;> rfl
theorem enO_cons {F : Nat → List SP} {z o : Nat} (h : o + (z + 1) = 28) : enO F (z + 1) = F o ++ enO F z := by
  rw [enO, show 28 - (z + 1) = o by omega]
theorem stp_bd {x : LX} {L : Nat} {d : Nat → Nat} {a n c p e : Nat} {pv : Option Nat} (h : stp x L d a pv n c = some (p, e)) (hn : 1 ≤ n) : a < e ∧ e ≤ L ∧ p < lNp x ∧ wAt x L d a n = some p := by
  unfold stp at h
  split at h
  · cases h
  · rename_i q hw
    have hq := wAt_some hw
    split at h
    · cases h
    · split at h
      · split at h
        · cases h
          exact ⟨by omega, hq.1, hq.2.1, hw⟩
        · split at h
          · rename_i hl
            have := lkOK_iff.mp hl
            cases h
            exact ⟨by omega, by omega, hq.2.1, hw⟩
          · cases h
      · cases h
theorem upd_s (f : Nat → Int32) (k : Nat) (v : Int32) : upd f k v k = v := if_pos rfl
theorem upd_n (f : Nat → Int32) {k j : Nat} (v : Int32) (h : j ≠ k) : upd f k v j = f j := if_neg h
theorem updL_s (f : Nat → Int64) (k : Nat) (v : Int64) : vp_updL f k v k = v := if_pos rfl
theorem updL_n (f : Nat → Int64) {k j : Nat} (v : Int64) (h : j ≠ k) : vp_updL f k v j = f j := if_neg h
theorem nI_sa (o : Nat) : nI o - nI 1 + nI 1 = nI o := Int32.sub_add_cancel _ _
theorem nI_s1 (m : Nat) : nI (m + 1) - nI 1 = nI m := nI_subN (by omega)
theorem pvOK_keep {np m : Nat} {pt pt1 : Nat → Int32} {pv : Option Nat} (h : pvOK np m pt pv) (h1 : ∀ k, k < m → pt1 k = pt k) : pvOK np m pt1 pv := by
  rcases h with h | ⟨h2, q, h3, h4, h5⟩
  · exact Or.inl h
  · exact Or.inr ⟨h2, q, h3, (h1 (m - 1) (by omega)).trans h4, h5⟩
set_option maxHeartbeats 4000000 in
set_option maxRecDepth 100000 in
theorem kX5_laysSplits (l : Launch) (lo : Nat) (G : vG) (rs : va_W) (g : Nat → Nat) (th : Nat) (np : Nat) (nl : Nat) (ld : Nat) (ll : Nat) (mn : Int32) (sp : Nat) (T : Nat → Int32) (S : Nat → Int32) (C : Nat → Int32) (F : Nat → Int32) (LT : Nat → Int32) (LS : Nat → Int32) (VE : Nat → Int32) (BA : Nat → Int32) (wd : Nat → Int32) (mo : Nat → Int32) (lt : Nat → Int32) (op : Nat → Int32) (pl : Nat → Int32) (pt : Nat → Int32) (ks : Nat → Int64) (x : LX) (d : Nat → Nat) (hok : lxOK x) (hmk : mOK x np nl T S C F LT LS VE BA) (hll : ll ≤ 8) (hlt : ∀ k, k < ll → lt k = nI (d k)) (hd : ∀ k, d k ≤ 9) (hl1 : 1 ≤ ll) (hlen : (mEn x d ll).length ≤ 640) : Mv l yX5_laysSplits (.code yX5_laysSplits prog_7_method_27_code 2 none) 4 0 0 lo G [.ref (g 0)] (mW G g th np nl ld ll mn sp T S C F LT LS VE BA wd mo lt op pl pt ks ++ rs) (fun ((op1, pl1, pt1, ks1) : (Nat → Int32) × (Nat → Int32) × (Nat → Int32) × (Nat → Int64)) => KS x [] ks1 0 (mEn x d ll)) (fun ((op1, pl1, pt1, ks1) : (Nat → Int32) × (Nat → Int32) × (Nat → Int32) × (Nat → Int64)) => mW G g th np nl ld ll (nI 0 - nI 1) ((mEn x d ll).length) T S C F LT LS VE BA wd mo lt op1 pl1 pt1 ks1 ++ rs) := by
  refine Mv_of (lc := [(0, .ref (g 0))]) (by decide +kernel) (Nat.le_of_ble_eq_true rfl) rfl ?_
  intro X cx hXR hXl hr hin
  subst hXl
  have hX := RmX.of hXR
  have hmk2 := hmk
  obtain ⟨hnp, hnl, hT, hS, hC, hF, hLT, hLS, hVE, hBA⟩ := hmk
  have hnp16 : np ≤ 16 := by rw [hnp]; exact hok.1
  refine V_aload_n cx 1 rfl dX5_laysSplits_0 0 rfl ?_
  refine V_iconst (v := nI 0) cx 2 rfl dX5_laysSplits_1 (by decide) ?_
  refine PX5_118 cx 0 rfl (Nat.le_of_ble_eq_true rfl) (mW G g th np nl ld ll mn 0 T S C F LT LS VE BA wd mo lt op pl pt ks ++ rs) rfl 5 rfl dX5_laysSplits_2 ?_
  refine V_aload_n cx 6 rfl dX5_laysSplits_5 0 rfl ?_
  refine V_iconst (v := nI 0) cx 7 rfl dX5_laysSplits_6 (by decide) ?_
  refine PX5_104 cx 0 rfl (Nat.le_of_ble_eq_true rfl) (mW G g th np nl ld ll (nI 0) 0 T S C F LT LS VE BA wd mo lt op pl pt ks ++ rs) rfl 10 rfl dX5_laysSplits_7 ?_
  refine V_aload_n cx 11 rfl dX5_laysSplits_10 0 rfl ?_
  refine GX5_46 cx 0 rfl rfl 14 rfl dX5_laysSplits_11 ?_
  refine V_iconst (v := nI 0) cx 15 rfl dX5_laysSplits_14 (by decide) ?_
  refine V_iconst (v := nI 0) cx 16 rfl dX5_laysSplits_15 (by decide) ?_
  refine V_iastN cx 0 (rfl) (by omega) (by decide) 13 rfl (mW G g th np nl ld ll (nI 0) 0 T S C F LT LS VE BA wd mo lt op (upd pl 0 (nI 0)) pt ks ++ rs) rfl 17 rfl dX5_laysSplits_16 ?_
  refine V_aload_n cx 18 rfl dX5_laysSplits_17 0 rfl ?_
  refine GX5_43 cx 0 rfl rfl 21 rfl dX5_laysSplits_18 ?_
  refine V_iconst (v := nI 0) cx 22 rfl dX5_laysSplits_21 (by decide) ?_
  refine V_iconst (v := (-1)) cx 23 rfl dX5_laysSplits_22 (by decide) ?_
  refine V_iastN cx 0 (rfl) (by omega) (by decide) 12 rfl (mW G g th np nl ld ll (nI 0) 0 T S C F LT LS VE BA wd mo lt (upd op 0 (-1)) (upd pl 0 (nI 0)) pt ks ++ rs) rfl 24 rfl dX5_laysSplits_23 ?_
  have h24 : ∀ (m o sp2 : Nat) (op2 pl2 pt2 : Nat → Int32) (ks2 : Nat → Int64), m ≤ 7 → op2 m = nI o - nI 1 → V X lo 2 G (Qv X lo G (fun ((op1, pl1, pt1, ks1) : (Nat → Int32) × (Nat → Int32) × (Nat → Int32) × (Nat → Int64)) => KS x [] ks1 0 (mEn x d ll)) (fun ((op1, pl1, pt1, ks1) : (Nat → Int32) × (Nat → Int32) × (Nat → Int32) × (Nat → Int64)) => mW G g th np nl ld ll (nI 0 - nI 1) ((mEn x d ll).length) T S C F LT LS VE BA wd mo lt op1 pl1 pt1 ks1 ++ rs) 0 0) 0 0 (mW G g th np nl ld ll (nI m) sp2 T S C F LT LS VE BA wd mo lt op2 pl2 pt2 ks2 ++ rs) [(1, .int (nI o)), (0, .ref (g 0))] [] 43 → V X lo 2 G (Qv X lo G (fun ((op1, pl1, pt1, ks1) : (Nat → Int32) × (Nat → Int32) × (Nat → Int32) × (Nat → Int64)) => KS x [] ks1 0 (mEn x d ll)) (fun ((op1, pl1, pt1, ks1) : (Nat → Int32) × (Nat → Int32) × (Nat → Int32) × (Nat → Int64)) => mW G g th np nl ld ll (nI 0 - nI 1) ((mEn x d ll).length) T S C F LT LS VE BA wd mo lt op1 pl1 pt1 ks1 ++ rs) 0 0) 0 0 (mW G g th np nl ld ll (nI m) sp2 T S C F LT LS VE BA wd mo lt op2 pl2 pt2 ks2 ++ rs) [(0, .ref (g 0))] [] 24 := by
    intro m o sp2 op2 pl2 pt2 ks2 hm7 hop hV
    refine V_aload_n cx 25 rfl dX5_laysSplits_24 0 rfl ?_
    refine GX5_104 cx 0 rfl rfl 28 rfl dX5_laysSplits_25 ?_
    refine V_if_lt cx 31 157 rfl dX5_laysSplits_28 (by decide) (fun c_28 => ?_) (fun c_28 => ?_)
    · skip
      have n_28 : m < 0 := Z_lt_t (by omega) c_28
      omega
    · skip
      have n_28 : m ≥ 0 := Z_lt_f (by omega) c_28
      refine V_aload_n cx 32 rfl dX5_laysSplits_31 0 rfl ?_
      refine GX5_43 cx 0 rfl rfl 35 rfl dX5_laysSplits_32 ?_
      refine V_aload_n cx 36 rfl dX5_laysSplits_35 0 rfl ?_
      refine GX5_104 cx 0 rfl rfl 39 rfl dX5_laysSplits_36 ?_
      refine V_ialdN cx m (rfl) (by omega) (by decide) 12 rfl 40 rfl dX5_laysSplits_39 ?_
      refine V_toi (nI o - nI 1) (hop) ?_
      refine V_iconst (v := nI 1) cx 41 rfl dX5_laysSplits_40 (by decide) ?_
      refine V_iadd cx 42 rfl dX5_laysSplits_41 ?_
      refine V_toi (nI o) (nI_sa o) ?_
      refine V_istore_n (lc1 := [(1, .int (nI o)), (0, .ref (g 0))]) cx 43 rfl dX5_laysSplits_42 (by decide) rfl ?_
      refine V.locs [0, 1] rfl ?_
      exact hV
  have lev : ∀ (f z o : Nat), o + z = 28 → ∀ (m a : Nat) (pv : Option Nat) (pre : SP) (op2 pl2 pt2 : Nat → Int32) (ks2 : Nat → Int64) (sp2 : Nat), pre.length = m → m ≤ a → a < ll → ll - a ≤ f → holds pre op2 pt2 np → pl2 m = nI a → pvOK np m pt2 pv → sp2 + (enZ x ll d f a pv z).length ≤ 640 → (∀ (op3 pl3 pt3 : Nat → Int32) (ks3 : Nat → Int64), (∀ k, k < m → op3 k = op2 k ∧ pt3 k = pt2 k) → (∀ k, k ≤ m → pl3 k = pl2 k) → (∀ i, i < sp2 → ks3 i = ks2 i) → KS x pre ks3 sp2 (enZ x ll d f a pv z) → V X lo 2 G (Qv X lo G (fun ((op1, pl1, pt1, ks1) : (Nat → Int32) × (Nat → Int32) × (Nat → Int32) × (Nat → Int64)) => KS x [] ks1 0 (mEn x d ll)) (fun ((op1, pl1, pt1, ks1) : (Nat → Int32) × (Nat → Int32) × (Nat → Int32) × (Nat → Int64)) => mW G g th np nl ld ll (nI 0 - nI 1) ((mEn x d ll).length) T S C F LT LS VE BA wd mo lt op1 pl1 pt1 ks1 ++ rs) 0 0) 0 0 (mW G g th np nl ld ll (nI m - nI 1) (sp2 + (enZ x ll d f a pv z).length) T S C F LT LS VE BA wd mo lt op3 pl3 pt3 ks3 ++ rs) [(0, .ref (g 0))] [] 24) → V X lo 2 G (Qv X lo G (fun ((op1, pl1, pt1, ks1) : (Nat → Int32) × (Nat → Int32) × (Nat → Int32) × (Nat → Int64)) => KS x [] ks1 0 (mEn x d ll)) (fun ((op1, pl1, pt1, ks1) : (Nat → Int32) × (Nat → Int32) × (Nat → Int32) × (Nat → Int64)) => mW G g th np nl ld ll (nI 0 - nI 1) ((mEn x d ll).length) T S C F LT LS VE BA wd mo lt op1 pl1 pt1 ks1 ++ rs) 0 0) 0 0 (mW G g th np nl ld ll (nI m) sp2 T S C F LT LS VE BA wd mo lt op2 pl2 pt2 ks2 ++ rs) [(1, .int (nI o)), (0, .ref (g 0))] [] 43 := by
    intro f
    induction f with
    | zero => intro z o _ m a pv pre op2 pl2 pt2 ks2 sp2 _ _ hal hfu; exfalso; omega
    | succ f ihf =>
      intro z
      induction z with
      | zero =>
        intro o hoz m a pv pre op2 pl2 pt2 ks2 sp2 hpre hma hal hfu hho hpl hpv hsp hK
        refine V_iload_n cx 44 rfl dX5_laysSplits_43 0 rfl ?_
        refine V_bipush (v := nI 28) cx 46 rfl dX5_laysSplits_44 (by decide) ?_
        refine V_icmp_ge cx 49 63 rfl dX5_laysSplits_46 (by decide) (fun c_46 => ?_) (fun c_46 => ?_)
        · skip
          have n_46 : o ≥ 28 := N_ge_t (by omega) (by omega) c_46
          refine V_iload_n cx 64 rfl dX5_laysSplits_63 0 rfl ?_
          refine V_bipush (v := nI 28) cx 66 rfl dX5_laysSplits_64 (by decide) ?_
          refine V_icmp_ne cx 69 82 rfl dX5_laysSplits_66 (by decide) (fun c_66 => ?_) (fun c_66 => ?_)
          · skip
            have n_66 : o ≠ 28 := N_ne_t (by omega) (by omega) c_66
            omega
          · skip
            have n_66 : o = 28 := N_ne_f (by omega) (by omega) c_66
            refine V_aload_n cx 70 rfl dX5_laysSplits_69 1 rfl ?_
            refine V_dup cx 71 rfl dX5_laysSplits_70 rfl ?_
            refine GX5_104 cx 0 rfl rfl 74 rfl dX5_laysSplits_71 ?_
            refine V_iconst (v := nI 1) cx 75 rfl dX5_laysSplits_74 (by decide) ?_
            refine V_isub cx 76 rfl dX5_laysSplits_75 ?_
            refine PX5_104 cx 0 rfl (Nat.le_of_ble_eq_true rfl) (mW G g th np nl ld ll ((nI m) - (nI 1)) sp2 T S C F LT LS VE BA wd mo lt op2 pl2 pt2 ks2 ++ rs) rfl 79 rfl dX5_laysSplits_76 ?_
            refine V_goto cx 154 dX5_laysSplits_79 (by decide) ?_
            refine V_goto cx 24 dX5_laysSplits_154 (by decide) ?_
            refine V.locs [1] rfl ?_
            exact hK op2 pl2 pt2 ks2 (fun k _ => ⟨rfl, rfl⟩) (fun k _ => rfl) (fun i _ => rfl) (KS_nil _ _ _ _)
        · skip
          have n_46 : o < 28 := N_ge_f (by omega) (by omega) c_46
          omega
      | succ z ihz =>
        intro o hoz m a pv pre op2 pl2 pt2 ks2 sp2 hpre hma hal hfu hho hpl hpv hsp hK
        have hcons := enO_cons (F := enF x ll d f a pv) hoz
        have hsp0 : sp2 + (enO (enF x ll d f a pv) (z + 1)).length ≤ 640 := hsp
        have hK : (∀ (op3 pl3 pt3 : Nat → Int32) (ks3 : Nat → Int64), (∀ k, k < m → op3 k = op2 k ∧ pt3 k = pt2 k) → (∀ k, k ≤ m → pl3 k = pl2 k) → (∀ i, i < sp2 → ks3 i = ks2 i) → KS x pre ks3 sp2 (enO (enF x ll d f a pv) (z + 1)) → V X lo 2 G (Qv X lo G (fun ((op1, pl1, pt1, ks1) : (Nat → Int32) × (Nat → Int32) × (Nat → Int32) × (Nat → Int64)) => KS x [] ks1 0 (mEn x d ll)) (fun ((op1, pl1, pt1, ks1) : (Nat → Int32) × (Nat → Int32) × (Nat → Int32) × (Nat → Int64)) => mW G g th np nl ld ll (nI 0 - nI 1) ((mEn x d ll).length) T S C F LT LS VE BA wd mo lt op1 pl1 pt1 ks1 ++ rs) 0 0) 0 0 (mW G g th np nl ld ll (nI m - nI 1) (sp2 + (enO (enF x ll d f a pv) (z + 1)).length) T S C F LT LS VE BA wd mo lt op3 pl3 pt3 ks3 ++ rs) [(0, .ref (g 0))] [] 24) := hK
        rw [hcons] at hsp0 hK
        refine V_iload_n cx 44 rfl dX5_laysSplits_43 0 rfl ?_
        refine V_bipush (v := nI 28) cx 46 rfl dX5_laysSplits_44 (by decide) ?_
        refine V_icmp_ge cx 49 63 rfl dX5_laysSplits_46 (by decide) (fun c_46 => ?_) (fun c_46 => ?_)
        · skip
          have n_46 : o ≥ 28 := N_ge_t (by omega) (by omega) c_46
          omega
        · skip
          have n_46 : o < 28 := N_ge_f (by omega) (by omega) c_46
          refine V_aload_n cx 50 rfl dX5_laysSplits_49 1 rfl ?_
          refine V_iload_n cx 51 rfl dX5_laysSplits_50 0 rfl ?_
          refine KX5_121 (As := [.int (nI o)]) (rest := []) cx (kX5_goesOn (xl X) lo G _ g th np nl ld ll m sp2 T S C F LT LS VE BA wd mo lt op2 pl2 pt2 ks2 o x d a pv (4 - o / 7) (o % 7) hok hmk2 (by omega) hlt hd (by omega) (by omega) hpl hpv (by omega) (by omega) (by omega)) hX (by omega) 0 rfl rfl rfl (Nat.le_of_ble_eq_true rfl) 54 0 0 rfl rfl rfl (by omega) (by omega) dX5_laysSplits_51 (fun r_1 u_2 hw_3 => ?_)
          obtain ⟨op1_4, pl1_5, pt1_6⟩ := u_2
          try dsimp only at hw_3
          rcases hw_3 with ⟨hst, hr0, e1, e2, e3⟩ | ⟨p, e, hst, hr0, e1, e2, e3⟩
          · subst hr0; subst e1; subst e2; subst e3
            have hF : enF x ll d f a pv o = [] := by rw [enF, hst]
            refine V_if_ne cx 57 63 rfl dX5_laysSplits_54 (by decide) (fun c_54 => ?_) (fun c_54 => ?_)
            · skip
              have n_54 := B_ne_t c_54
              try simp only [decide_eq_true_eq, decide_eq_false_iff_not] at n_54
              exact absurd (B_ne_t c_54) (by decide)
            · skip
              have n_54 := B_ne_f c_54
              try simp only [decide_eq_true_eq, decide_eq_false_iff_not] at n_54
              refine V_iinc (v := nI (o + 1)) (lc1 := [(1, .int (nI (o + 1))), (0, .ref (g 0))]) cx 60 rfl dX5_laysSplits_57 0 rfl (nI_inc o 1) (by decide) rfl ?_
              refine V_goto cx 43 dX5_laysSplits_60 (by decide) ?_
              refine V.locs [0, 1] rfl ?_
              rw [hF, List.nil_append] at hK hsp0
              exact ihz (o + 1) (by omega) m a pv pre _ _ _ _ sp2 hpre hma hal hfu hho hpl hpv hsp0 hK
          · subst hr0; subst e1; subst e2; subst e3
            obtain ⟨b1, b2, b3, b4⟩ := stp_bd hst (by omega)
            have hpush := holds_push (op1 := upd op2 m (nI o)) (pt1 := upd pt2 m (nI p)) (o := o) (p := p) hho (by omega) (by omega) (fun k hk => ⟨upd_n _ _ (by omega), upd_n _ _ (by omega)⟩) (by rw [hpre]; exact ⟨upd_s _ _ _, upd_s _ _ _⟩)
            refine V_if_ne cx 57 63 rfl dX5_laysSplits_54 (by decide) (fun c_54 => ?_) (fun c_54 => ?_)
            · skip
              have n_54 := B_ne_t c_54
              try simp only [decide_eq_true_eq, decide_eq_false_iff_not] at n_54
              refine V_iload_n cx 64 rfl dX5_laysSplits_63 0 rfl ?_
              refine V_bipush (v := nI 28) cx 66 rfl dX5_laysSplits_64 (by decide) ?_
              refine V_icmp_ne cx 69 82 rfl dX5_laysSplits_66 (by decide) (fun c_66 => ?_) (fun c_66 => ?_)
              · skip
                have n_66 : o ≠ 28 := N_ne_t (by omega) (by omega) c_66
                refine V_aload_n cx 83 rfl dX5_laysSplits_82 1 rfl ?_
                refine V_dup cx 84 rfl dX5_laysSplits_83 rfl ?_
                refine GX5_104 cx 0 rfl rfl 87 rfl dX5_laysSplits_84 ?_
                refine V_iconst (v := nI 1) cx 88 rfl dX5_laysSplits_87 (by decide) ?_
                refine V_iadd cx 89 rfl dX5_laysSplits_88 ?_
                refine V_toi (nI (m + 1)) (nI_add _ _) ?_
                refine PX5_104 cx 0 rfl (Nat.le_of_ble_eq_true rfl) (mW G g th np nl ld ll (nI (m + 1)) sp2 T S C F LT LS VE BA wd mo lt (upd op2 m (nI o)) (upd pl2 (m + 1) (nI e)) (upd pt2 m (nI p)) ks2 ++ rs) rfl 92 rfl dX5_laysSplits_89 ?_
                refine V_aload_n cx 93 rfl dX5_laysSplits_92 1 rfl ?_
                refine GX5_46 cx 0 rfl rfl 96 rfl dX5_laysSplits_93 ?_
                refine V_aload_n cx 97 rfl dX5_laysSplits_96 1 rfl ?_
                refine GX5_104 cx 0 rfl rfl 100 rfl dX5_laysSplits_97 ?_
                refine V_ialdN cx (m + 1) (rfl) (by omega) (by decide) 13 rfl 101 rfl dX5_laysSplits_100 ?_
                refine V_toi (nI e) (upd_s _ _ _) ?_
                refine V_aload_n cx 102 rfl dX5_laysSplits_101 1 rfl ?_
                refine GX5_101 cx 0 rfl rfl 105 rfl dX5_laysSplits_102 ?_
                refine V_icmp_ne cx 108 144 rfl dX5_laysSplits_105 (by decide) (fun c_105 => ?_) (fun c_105 => ?_)
                · skip
                  have n_105 : e ≠ ll := N_ne_t (by omega) (by omega) c_105
                  have hF : enF x ll d f a pv o = (en x ll d f e (some p)).map (fun l => (o, p) :: l) := by rw [enF, hst]; exact if_neg n_105
                  have hsp1 : sp2 + (en x ll d f e (some p)).length + (enO (enF x ll d f a pv) z).length ≤ 640 := by rw [hF, List.length_append, List.length_map] at hsp0; omega
                  refine V_aload_n cx 145 rfl dX5_laysSplits_144 1 rfl ?_
                  refine GX5_43 cx 0 rfl rfl 148 rfl dX5_laysSplits_145 ?_
                  refine V_aload_n cx 149 rfl dX5_laysSplits_148 1 rfl ?_
                  refine GX5_104 cx 0 rfl rfl 152 rfl dX5_laysSplits_149 ?_
                  refine V_iconst (v := (-1)) cx 153 rfl dX5_laysSplits_152 (by decide) ?_
                  refine V_iastN cx (m + 1) (rfl) (by omega) (by decide) 12 rfl (mW G g th np nl ld ll (nI (m + 1)) sp2 T S C F LT LS VE BA wd mo lt (upd (upd op2 m (nI o)) (m + 1) (-1)) (upd pl2 (m + 1) (nI e)) (upd pt2 m (nI p)) ks2 ++ rs) rfl 154 rfl dX5_laysSplits_153 ?_
                  refine V_goto cx 24 dX5_laysSplits_154 (by decide) ?_
                  refine V.locs [1] rfl ?_
                  refine h24 (m + 1) 0 _ _ _ _ _ (by omega) (upd_s _ _ _) ?_
                  exact ihf 28 0 rfl (m + 1) e (some p) (pre ++ [(o, p)]) _ _ _ _ sp2 (by rw [List.length_append, hpre]; rfl) (by omega) (by omega) (by omega) (holds_keep hpush (fun k hk => by rw [List.length_append, hpre] at hk; exact ⟨upd_n _ _ (by simp at hk; omega), rfl⟩)) (upd_s _ _ _) (Or.inr ⟨by omega, p, by omega, by rw [Nat.add_sub_cancel]; exact upd_s _ _ _, rfl⟩) (by rw [← en_Z]; omega) (fun op3 pl3 pt3 ks3 k1 k2 k3 k4 => by
                    rw [← en_Z] at k4 ⊢
                    rw [nI_s1]
                    refine h24 m (o + 1) _ _ _ _ _ (by omega) ((k1 m (by omega)).1.trans (((upd_n _ _ (by omega)).trans (upd_s _ _ _)).trans (nI_s1 o).symm)) ?_
                    have q1 : ∀ k, k < m → op3 k = op2 k ∧ pt3 k = pt2 k := fun k hk => ⟨(k1 k (by omega)).1.trans ((upd_n _ _ (by omega)).trans (upd_n _ _ (by omega))), (k1 k (by omega)).2.trans (upd_n _ _ (by omega))⟩
                    have q2 : ∀ k, k ≤ m → pl3 k = pl2 k := fun k hk => (k2 k (by omega)).trans (upd_n _ _ (by omega))
                    exact ihz (o + 1) (by omega) m a pv pre _ _ _ _ _ hpre hma hal hfu (holds_keep hho (fun k hk => q1 k (by omega))) ((q2 m (Nat.le_refl m)).trans hpl) (pvOK_keep hpv (fun k hk => (q1 k hk).2)) (by show sp2 + (en x ll d f e (some p)).length + (enO (enF x ll d f a pv) z).length ≤ 640; omega) (fun op4 pl4 pt4 ks4 j1 j2 j3 j4 => by
                      have h9 := hK op4 pl4 pt4 ks4 (fun k hk => ⟨(j1 k hk).1.trans (q1 k hk).1, (j1 k hk).2.trans (q1 k hk).2⟩) (fun k hk => (j2 k hk).trans (q2 k hk)) (fun i hi => (j3 i (by omega)).trans (k3 i hi)) (by rw [hF]; exact KS_app (KS_map (KS_keep k4 (fun i hi => j3 i hi) (Nat.le_refl _))) (by rw [List.length_map]; exact j4))
                      rw [hF, List.length_append, List.length_map, ← Nat.add_assoc] at h9
                      exact h9))
                · skip
                  have n_105 : e = ll := N_ne_f (by omega) (by omega) c_105
                  have hF : enF x ll d f a pv o = [[(o, p)]] := by rw [enF, hst]; exact if_pos n_105
                  have hsp1 : sp2 + 1 + (enO (enF x ll d f a pv) z).length ≤ 640 := by rw [hF, List.length_append, List.length_singleton] at hsp0; omega
                  refine V_aload_n cx 109 rfl dX5_laysSplits_108 1 rfl ?_
                  refine GX5_52 cx 0 rfl rfl 112 rfl dX5_laysSplits_109 ?_
                  refine V_aload_n cx 113 rfl dX5_laysSplits_112 1 rfl ?_
                  refine GX5_118 cx 0 rfl rfl 116 rfl dX5_laysSplits_113 ?_
                  refine V_aload_n cx 117 rfl dX5_laysSplits_116 1 rfl ?_
                  refine KX5_124 (As := []) (rest := [.int (nI sp2), .ref (g 15)]) cx (kX5_key (xl X) lo G _ g th np nl ld ll (m + 1) sp2 T S C F LT LS VE BA wd mo lt (upd op2 m (nI o)) (upd pl2 (m + 1) (nI e)) (upd pt2 m (nI p)) ks2 x (pre ++ [(o, p)]) hok hmk2 (by rw [List.length_append, hpre]; rfl) (by omega) hpush) hX (by omega) 0 rfl rfl rfl (Nat.le_of_ble_eq_true rfl) 120 0 0 rfl rfl rfl (by omega) (by omega) dX5_laysSplits_117 (fun r_7 u_8 hw_9 => ?_)
                  try dsimp only at hw_9
                  subst hw_9
                  refine V_lastN cx sp2 (rfl) (by omega) (by decide) 15 rfl (mW G g th np nl ld ll (nI (m + 1)) sp2 T S C F LT LS VE BA wd mo lt (upd op2 m (nI o)) (upd pl2 (m + 1) (nI e)) (upd pt2 m (nI p)) (vp_updL ks2 sp2 (lN (mkl x (pre ++ [(o, p)])))) ++ rs) rfl 121 rfl dX5_laysSplits_120 ?_
                  refine V_aload_n cx 122 rfl dX5_laysSplits_121 1 rfl ?_
                  refine V_dup cx 123 rfl dX5_laysSplits_122 rfl ?_
                  refine GX5_118 cx 0 rfl rfl 126 rfl dX5_laysSplits_123 ?_
                  refine V_iconst (v := nI 1) cx 127 rfl dX5_laysSplits_126 (by decide) ?_
                  refine V_iadd cx 128 rfl dX5_laysSplits_127 ?_
                  refine V_toi (nI (sp2 + 1)) (nI_add _ _) ?_
                  refine PX5_118 cx 0 rfl (Nat.le_of_ble_eq_true rfl) (mW G g th np nl ld ll (nI (m + 1)) (sp2 + 1) T S C F LT LS VE BA wd mo lt (upd op2 m (nI o)) (upd pl2 (m + 1) (nI e)) (upd pt2 m (nI p)) (vp_updL ks2 sp2 (lN (mkl x (pre ++ [(o, p)])))) ++ rs) rfl 131 rfl dX5_laysSplits_128 ?_
                  refine V_aload_n cx 132 rfl dX5_laysSplits_131 1 rfl ?_
                  refine V_dup cx 133 rfl dX5_laysSplits_132 rfl ?_
                  refine GX5_104 cx 0 rfl rfl 136 rfl dX5_laysSplits_133 ?_
                  refine V_iconst (v := nI 1) cx 137 rfl dX5_laysSplits_136 (by decide) ?_
                  refine V_isub cx 138 rfl dX5_laysSplits_137 ?_
                  refine V_toi (nI m) (nI_subN (by omega)) ?_
                  refine PX5_104 cx 0 rfl (Nat.le_of_ble_eq_true rfl) (mW G g th np nl ld ll (nI m) (sp2 + 1) T S C F LT LS VE BA wd mo lt (upd op2 m (nI o)) (upd pl2 (m + 1) (nI e)) (upd pt2 m (nI p)) (vp_updL ks2 sp2 (lN (mkl x (pre ++ [(o, p)])))) ++ rs) rfl 141 rfl dX5_laysSplits_138 ?_
                  refine V_goto cx 154 dX5_laysSplits_141 (by decide) ?_
                  refine V_goto cx 24 dX5_laysSplits_154 (by decide) ?_
                  refine V.locs [1] rfl ?_
                  refine h24 m (o + 1) _ _ _ _ _ (by omega) ((upd_s _ _ _).trans (nI_s1 o).symm) ?_
                  exact ihz (o + 1) (by omega) m a pv pre _ _ _ _ (sp2 + 1) hpre hma hal hfu (holds_keep hho (fun k hk => ⟨upd_n _ _ (by omega), upd_n _ _ (by omega)⟩)) ((upd_n _ _ (by omega)).trans hpl) (pvOK_keep hpv (fun k hk => upd_n _ _ (by omega))) (by show sp2 + 1 + (enO (enF x ll d f a pv) z).length ≤ 640; omega) (fun op3 pl3 pt3 ks3 k1 k2 k3 k4 => by
                    have h9 := hK op3 pl3 pt3 ks3 (fun k hk => ⟨(k1 k hk).1.trans (upd_n _ _ (by omega)), (k1 k hk).2.trans (upd_n _ _ (by omega))⟩) (fun k hk => (k2 k hk).trans (upd_n _ _ (by omega))) (fun i hi => (k3 i (by omega)).trans (updL_n _ _ (by omega))) (by rw [hF]; exact KS_app (KS_one ((k3 sp2 (by omega)).trans (updL_s _ _ _))) k4)
                    rw [hF, List.length_append, List.length_singleton, ← Nat.add_assoc] at h9
                    exact h9)
              · skip
                have n_66 : o = 28 := N_ne_f (by omega) (by omega) c_66
                omega
            · skip
              have n_54 := B_ne_f c_54
              try simp only [decide_eq_true_eq, decide_eq_false_iff_not] at n_54
              exact absurd (B_ne_f c_54) (by decide)
  refine h24 0 0 _ _ _ _ _ (by omega) (upd_s _ _ _) ?_
  exact lev 8 28 0 rfl 0 0 none [] _ _ _ _ 0 rfl (by omega) (by omega) (by omega) (fun k hk => absurd hk (Nat.not_lt_zero k)) (upd_s _ _ _) (Or.inl ⟨rfl, rfl⟩) (by have := hlen; rw [mEn, en_Z] at this; omega) (fun op3 pl3 pt3 ks3 k1 k2 k3 k4 => by
    rw [Nat.zero_add, ← en_Z]
    rw [← en_Z] at k4
    show V X lo 2 G (Qv X lo G (fun ((op1, pl1, pt1, ks1) : (Nat → Int32) × (Nat → Int32) × (Nat → Int32) × (Nat → Int64)) => KS x [] ks1 0 (mEn x d ll)) (fun ((op1, pl1, pt1, ks1) : (Nat → Int32) × (Nat → Int32) × (Nat → Int32) × (Nat → Int64)) => mW G g th np nl ld ll (nI 0 - nI 1) ((mEn x d ll).length) T S C F LT LS VE BA wd mo lt op1 pl1 pt1 ks1 ++ rs) 0 0) 0 0 (mW G g th np nl ld ll (nI 0 - nI 1) ((mEn x d ll).length) T S C F LT LS VE BA wd mo lt op3 pl3 pt3 ks3 ++ rs) [(0, .ref (g 0))] [] 24
    refine V_aload_n cx 25 rfl dX5_laysSplits_24 0 rfl ?_
    refine GX5_104 cx 0 rfl rfl 28 rfl dX5_laysSplits_25 ?_
    refine V_if_lt cx 31 157 rfl dX5_laysSplits_28 (by decide) (fun c_28 => ?_) (fun c_28 => ?_)
    · skip
      exact V_vreturn cx hr (op3, pl3, pt3, ks3) (k4) rfl (by omega) (by omega) dX5_laysSplits_157
    · skip
      exact absurd (by decide) c_28)
