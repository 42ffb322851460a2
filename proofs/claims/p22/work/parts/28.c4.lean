theorem ecS_step {F : Nat → List SP} {n : Nat} (h : 1 ≤ n) : ecS F n = ecS F (n - 1) ++ F n := by
  obtain ⟨m, rfl⟩ : ∃ m, n = m + 1 := ⟨n - 1, by omega⟩
  rfl
theorem ecG_far {x : LX} {L : Nat} {d : Nat → Nat} {E : Nat → List SP} {e p n s : Nat} (h : ¬ e + s < L) : ecG x L d E e p n s = [] := if_neg h
theorem ecG_none {x : LX} {L : Nat} {d : Nat → Nat} {E : Nat → List SP} {e p n s : Nat} (h : lwAt x d e s = none) : ecG x L d E e p n s = [] := by
  unfold ecG
  split
  · rw [h]
  · rfl
theorem ecG_bar {x : LX} {L : Nat} {d : Nat → Nat} {E : Nat → List SP} {e p n s l : Nat} (h : lwAt x d e s = some l) (hb : lB x p l = true) : ecG x L d E e p n s = [] := by
  unfold ecG
  split
  · rw [h]; exact if_pos hb
  · rfl
theorem ecG_ok {x : LX} {L : Nat} {d : Nat → Nat} {E : Nat → List SP} {e p n s l : Nat} (h0 : e + s < L) (h : lwAt x d e s = some l) (hb : lB x p l = false) : ecG x L d E e p n s = (E (e + s)).map (fun q => ((4 - n) * 7 + (l + 1), p) :: q) := by
  unfold ecG
  rw [if_pos h0, h]
  exact if_neg (by rw [hb]; decide)
theorem cdg_7 (v : Nat) : cdg (v * 7) = v * 8 := by unfold cdg; omega
theorem cdg_7l {v c : Nat} (h : c ≤ 6) : cdg (v * 7 + c) = v * 8 + c := by unfold cdg; omega
theorem lwAt_some {x : LX} {d : Nat → Nat} {a s l : Nat} (h : lwAt x d a s = some l) : l < lNl x ∧ lU x l = TA d a s := pw_some h
theorem cS_len (x : LX) (l : SP) : cS x l ≤ 158 * l.length := kS_le _ _ (fun _ => ko_le _) _
theorem stp_no {x : LX} {L : Nat} {d : Nat → Nat} {a n p : Nat} {pv : Option Nat} (hw : wAt x L d a n = some p) (h : (okF (lF x p) pv.isNone (decide (a + n = L)) && !(vetoed x pv p)) = false) : stp x L d a pv n 0 = none := by
  cases hv : vetoed x pv p with
  | true => exact stp_veto hw hv
  | false =>
    rw [stp_eq hw hv, if_neg]
    rw [hv, Bool.not_false, Bool.and_true] at h
    rw [h]
    decide
theorem stp_yes {x : LX} {L : Nat} {d : Nat → Nat} {a n p : Nat} {pv : Option Nat} (hw : wAt x L d a n = some p) (h : (okF (lF x p) pv.isNone (decide (a + n = L)) && !(vetoed x pv p)) = true) : stp x L d a pv n 0 = some (p, a + n) := by
  rw [Bool.and_eq_true] at h
  have hv : vetoed x pv p = false := by have := h.2; cases hq : vetoed x pv p with
    | true => rw [hq] at this; exact absurd this (by decide)
    | false => rfl
  rw [stp_eq hw hv, if_pos h.1, if_pos rfl]
theorem ecS_mono {F : Nat → List SP} {n m : Nat} (h : n ≤ m) : (ecS F n).length ≤ (ecS F m).length := by
  induction m with
  | zero => rw [show n = 0 by omega]; exact Nat.le_refl _
  | succ m ih =>
    rcases Nat.lt_or_ge n (m + 1) with h1 | h1
    · have := ih (by omega)
      rw [ecS, List.length_append]
      omega
    · rw [show n = m + 1 by omega]; exact Nat.le_refl _
def tryPartsAt (f : Nat) : Prop := ∀ (l : Launch) (lo : Nat) (G : vG) (rs : va_W) (h : Nat → Nat) (np : Nat) (nl : Nat) (len : Nat) (fd : Nat) (lu : Nat) (tu : Nat) (T : Nat → Int32) (C : Nat → Int32) (F : Nat → Int32) (LT : Nat → Int32) (VV : Nat → Int32) (BB : Nat → Int32) (lt : Nat → Int32) (ph : Nat → Int32) (lh : Nat → Int32) (ks : Nat → Int64) (wd : Nat → Int32) (gr : Nat → Int32) (gs : Nat → Int32) (bl : Nat → Int32) (ie : Nat → Int32) (tw : Nat → Int32) (a : Nat) (bf : Int32) (pc : Nat) (co : Nat) (K : Nat) (x : LX) (d : Nat → Nat) (pv : Option Nat) (pre : SP) (hok : lxOK x) (hck : cOK x np nl T C F LT VV BB) (hll : len ≤ 8) (hph : ∀ b, b < len → phOK x len d ph lh b) (ha : a < len) (hf : len ≤ a + f) (hpre : pre.length = pc) (hpca : pc ≤ a) (hpv : (pv = none ∧ pc = 0) ∨ (0 < pc ∧ ∃ q, q < np ∧ pv = some q)) (hbf : bf = oI pv) (hco : co = cS x pre - 15) (hK : K = cC pre) (hKr : cRm K pc) (hfd : fd + (ec x len d f a pv).length ≤ 513), Mv l yX2_tryParts (.code yX2_tryParts prog_4_method_5_code 13 none) (2 * f + 4) 0 0 lo G [.ref (h 2), .int (nI a), .int bf, .int (nI pc), .int (nI co), .long (lN K)] (cW G h np nl len fd lu tu T C F LT VV BB lt ph lh ks wd gr gs bl ie tw ++ rs) (fun (ks1 : (Nat → Int64)) => (∀ i, i < fd → ks1 i = ks i) ∧ CS x pre ks1 fd (ec x len d f a pv)) (fun (ks1 : (Nat → Int64)) => cW G h np nl len (fd + (ec x len d f a pv).length) lu tu T C F LT VV BB lt ph lh ks1 wd gr gs bl ie tw ++ rs)
def tryLinksAt (f : Nat) : Prop := ∀ (l : Launch) (lo : Nat) (G : vG) (rs : va_W) (h : Nat → Nat) (np : Nat) (nl : Nat) (len : Nat) (fd : Nat) (lu : Nat) (tu : Nat) (T : Nat → Int32) (C : Nat → Int32) (F : Nat → Int32) (LT : Nat → Int32) (VV : Nat → Int32) (BB : Nat → Int32) (lt : Nat → Int32) (ph : Nat → Int32) (lh : Nat → Int32) (ks : Nat → Int64) (wd : Nat → Int32) (gr : Nat → Int32) (gs : Nat → Int32) (bl : Nat → Int32) (ie : Nat → Int32) (tw : Nat → Int32) (a : Nat) (p : Nat) (pc : Nat) (co : Nat) (K : Nat) (x : LX) (d : Nat → Nat) (n : Nat) (pre : SP) (hok : lxOK x) (hck : cOK x np nl T C F LT VV BB) (hll : len ≤ 8) (hph : ∀ b, b < len → phOK x len d ph lh b) (ha : a < len) (hf : len ≤ a + f) (hpre : pre.length + 1 = pc) (hpca : pc ≤ a) (hp : p < np) (hn : 1 ≤ n ∧ n ≤ 4) (hco : co = cS x (pre ++ [((4 - n) * 7, p)]) - 15) (hK : K = cC pre + (4 - n) * 8 * 32 ^ (7 - pre.length)) (hKr : cRm (cC pre) pre.length) (hfd : fd + (ecL x len d (fun i => ec x len d f i (some p)) a p n).length ≤ 513), Mv l yX2_tryLinks (.code yX2_tryLinks prog_4_method_7_code 11 none) (2 * f + 5) 0 0 lo G [.ref (h 2), .int (nI a), .int (nI p), .int (nI pc), .int (nI co), .long (lN K)] (cW G h np nl len fd lu tu T C F LT VV BB lt ph lh ks wd gr gs bl ie tw ++ rs) (fun (ks1 : (Nat → Int64)) => (∀ i, i < fd → ks1 i = ks i) ∧ CS x pre ks1 fd (ecL x len d (fun i => ec x len d f i (some p)) a p n)) (fun (ks1 : (Nat → Int64)) => cW G h np nl len (fd + (ecL x len d (fun i => ec x len d f i (some p)) a p n).length) lu tu T C F LT VV BB lt ph lh ks1 wd gr gs bl ie tw ++ rs)
set_option maxHeartbeats 4000000 in
set_option maxRecDepth 100000 in
theorem tl_of (f : Nat) (hTP : tryPartsAt f) : tryLinksAt f := by
  intro l lo G rs h np nl len fd lu tu T C F LT VV BB lt ph lh ks wd gr gs bl ie tw a p pc co K x d n pre hok hck hll hph ha hf hpre hpca hp hn hco hK hKr hfd
  refine Mv_of (lc := [(0, .ref (h 2)), (1, .int (nI a)), (2, .int (nI p)), (3, .int (nI pc)), (4, .int (nI co)), (5, .long (lN K))]) (by decide +kernel) (Nat.le_of_ble_eq_true rfl) rfl ?_
  intro X cx hXR hXl hr hin
  subst hXl
  have hX := RmX.of hXR
  obtain ⟨hnp, hnl, hT, hC, hF, hLT, hVV, hBB⟩ := id hck
  have hnp16 : np ≤ 16 := by rw [hnp]; exact hok.1
  have hnl6 : nl ≤ 6 := by rw [hnl]; exact hok.2.1
  have hcsl := cS_len x (pre ++ [((4 - n) * 7, p)])
  rw [List.length_append, List.length_singleton] at hcsl
  have hfd0 := hfd
  rw [ecL, List.length_append, List.length_map] at hfd0
  have hKr2 : cRm K pc := by have := cRm_push (v := (4 - n) * 8) (by omega) (by omega) hKr; rw [← hK, hpre] at this; exact this
  have hKe : K = cC (pre ++ [((4 - n) * 7, p)]) := by rw [hK, cC_push, cdg_7]
  refine V_aload_n cx 1 rfl dX2_tryLinks_0 0 rfl ?_
  refine V_iload_n cx 2 rfl dX2_tryLinks_1 1 rfl ?_
  refine V_iload_n cx 3 rfl dX2_tryLinks_2 2 rfl ?_
  refine V_iload_n cx 4 rfl dX2_tryLinks_3 3 rfl ?_
  refine V_iload cx 6 rfl dX2_tryLinks_4 4 rfl ?_
  refine V_lload cx 8 rfl dX2_tryLinks_6 5 rfl ?_
  refine KX2_43 (As := [.int (nI a), .int (nI p), .int (nI pc), .int (nI co), .long (lN K)]) (rest := []) cx (hTP (xl X) lo G _ h np nl len fd lu tu T C F LT VV BB lt ph lh ks wd gr gs bl ie tw a (nI p) pc co K x d (some p) (pre ++ [((4 - n) * 7, p)]) hok hck (by omega) hph (by omega) (by omega) (by rw [List.length_append]; exact hpre) (by omega) (Or.inr ⟨by omega, p, hp, rfl⟩) rfl hco hKe hKr2 (by omega)) hX (by omega) 2 rfl rfl rfl (Nat.le_of_ble_eq_true rfl) 11 0 0 rfl rfl rfl (by omega) (by omega) dX2_tryLinks_8 (fun u_2 hw_3 => ?_)
  obtain ⟨ks1_4, rfl⟩ : ∃ z, z = u_2 := ⟨_, rfl⟩
  try dsimp only at hw_3
  obtain ⟨g1, g2⟩ := hw_3
  refine V_iconst (v := nI 1) cx 12 rfl dX2_tryLinks_11 (by decide) ?_
  refine V_istore (lc1 := [(7, .int (nI 1)), (0, .ref (h 2)), (1, .int (nI a)), (2, .int (nI p)), (3, .int (nI pc)), (4, .int (nI co)), (5, .long (lN K))]) cx 14 rfl dX2_tryLinks_12 (by decide) rfl ?_
  have loop_14 : ∀ (fuel : Nat) (s : Nat) (fd2 : Nat) (ks2 : Nat → Int64), (1 ≤ s ∧ s ≤ 3) → (fd2 = fd + ((ec x len d f a (some p)).map (fun q => ((4 - n) * 7, p) :: q) ++ ecS (ecG x len d (fun i => ec x len d f i (some p)) a p n) (s - 1)).length) → (∀ i, i < fd → ks2 i = ks i) → (CS x pre ks2 fd ((ec x len d f a (some p)).map (fun q => ((4 - n) * 7, p) :: q) ++ ecS (ecG x len d (fun i => ec x len d f i (some p)) a p n) (s - 1))) → 3 - s < fuel → V X lo 11 G (Qv X lo G (fun (ks1 : (Nat → Int64)) => (∀ i, i < fd → ks1 i = ks i) ∧ CS x pre ks1 fd (ecL x len d (fun i => ec x len d f i (some p)) a p n)) (fun (ks1 : (Nat → Int64)) => cW G h np nl len (fd + (ecL x len d (fun i => ec x len d f i (some p)) a p n).length) lu tu T C F LT VV BB lt ph lh ks1 wd gr gs bl ie tw ++ rs) 0 0) 0 0 (cW G h np nl len fd2 lu tu T C F LT VV BB lt ph lh ks2 wd gr gs bl ie tw ++ rs) [(7, .int (nI s)), (0, .ref (h 2)), (1, .int (nI a)), (2, .int (nI p)), (3, .int (nI pc)), (4, .int (nI co)), (5, .long (lN K))] [] 14 := by
    intro fuel
    induction fuel with
    | zero => intro s fd2 ks2 hs hfd2 hk2 hc2 hmz; exact absurd hmz (Nat.not_lt_zero _)
    | succ fuel ih_14 =>
      intro s fd2 ks2 hs hfd2 hk2 hc2 hmz_14
      refine V_iload cx 16 rfl dX2_tryLinks_14 0 rfl ?_
      refine V_iconst (v := nI 2) cx 17 rfl dX2_tryLinks_16 (by decide) ?_
      refine V_icmp_gt cx 20 109 rfl dX2_tryLinks_17 (by decide) (fun c_17 => ?_) (fun c_17 => ?_)
      · skip
        have n_17 : s > 2 := N_gt_t (by omega) (by omega) c_17
        have hA : ecL x len d (fun i => ec x len d f i (some p)) a p n = ((ec x len d f a (some p)).map (fun q => ((4 - n) * 7, p) :: q) ++ ecS (ecG x len d (fun i => ec x len d f i (some p)) a p n) (s - 1)) := by rw [ecL, ecS_far (show s - 1 ≤ 2 by omega) (fun k g1 g2 => ecG_far (by omega))]
        subst hfd2
        rw [← hA]
        rw [← hA] at hc2
        exact V_vreturn cx hr ks2 (⟨hk2, hc2⟩) rfl (by omega) (by omega) dX2_tryLinks_109
      · skip
        have n_17 : s ≤ 2 := N_gt_f (by omega) (by omega) c_17
        refine V_iload_n cx 21 rfl dX2_tryLinks_20 2 rfl ?_
        refine V_iload cx 23 rfl dX2_tryLinks_21 0 rfl ?_
        refine V_iadd cx 24 rfl dX2_tryLinks_23 ?_
        refine V_toi (nI (a + s)) (nI_add _ _) ?_
        refine V_aload_n cx 25 rfl dX2_tryLinks_24 1 rfl ?_
        refine GX2_33 cx 2 rfl rfl 28 rfl dX2_tryLinks_25 ?_
        refine V_icmp_ge cx 31 109 rfl dX2_tryLinks_28 (by decide) (fun c_28 => ?_) (fun c_28 => ?_)
        · skip
          have n_28 : a + s ≥ len := N_ge_t (by omega) (by omega) c_28
          have hA : ecL x len d (fun i => ec x len d f i (some p)) a p n = ((ec x len d f a (some p)).map (fun q => ((4 - n) * 7, p) :: q) ++ ecS (ecG x len d (fun i => ec x len d f i (some p)) a p n) (s - 1)) := by rw [ecL, ecS_far (show s - 1 ≤ 2 by omega) (fun k g1 g2 => ecG_far (by omega))]
          subst hfd2
          rw [← hA]
          rw [← hA] at hc2
          exact V_vreturn cx hr ks2 (⟨hk2, hc2⟩) rfl (by omega) (by omega) dX2_tryLinks_109
        · skip
          have n_28 : a + s < len := N_ge_f (by omega) (by omega) c_28
          refine V_aload_n cx 32 rfl dX2_tryLinks_31 1 rfl ?_
          refine GX2_18 cx 2 rfl rfl 35 rfl dX2_tryLinks_32 ?_
          refine V_iload_n cx 36 rfl dX2_tryLinks_35 2 rfl ?_
          refine V_iconst (v := nI 2) cx 37 rfl dX2_tryLinks_36 (by decide) ?_
          refine V_imul cx 38 rfl dX2_tryLinks_37 ?_
          refine V_toi (nI (a * 2)) (nI_mulN _ _) ?_
          refine V_iload cx 40 rfl dX2_tryLinks_38 0 rfl ?_
          refine V_iadd cx 41 rfl dX2_tryLinks_40 ?_
          refine V_toi (nI ((a * 2) + s)) (nI_add _ _) ?_
          refine V_iconst (v := nI 1) cx 42 rfl dX2_tryLinks_41 (by decide) ?_
          refine V_isub cx 43 rfl dX2_tryLinks_42 ?_
          refine V_toi (nI (((a * 2) + s) - 1)) (nI_subN (by omega)) ?_
          refine V_ialdN cx (((a * 2) + s) - 1) (rfl) (by omega) (by decide) 13 rfl 44 rfl dX2_tryLinks_43 ?_
          refine V_toi (oI (lwAt x d a s)) ((hph a ha).2 s (by omega) (by omega) (by omega)) ?_
          refine V_istore (lc1 := [(8, .int (oI (lwAt x d a s))), (7, .int (nI s)), (0, .ref (h 2)), (1, .int (nI a)), (2, .int (nI p)), (3, .int (nI pc)), (4, .int (nI co)), (5, .long (lN K))]) cx 46 rfl dX2_tryLinks_44 (by decide) rfl ?_
          refine V_iload cx 48 rfl dX2_tryLinks_46 0 rfl ?_
          refine V_iconst (v := (-1)) cx 49 rfl dX2_tryLinks_48 (by decide) ?_
          refine V_icmp_eq cx 52 103 rfl dX2_tryLinks_49 (by decide) (fun c_49 => ?_) (fun c_49 => ?_)
          · skip
            have hln : lwAt x d a s = none := oI_m1 (fun q h => by have := (lwAt_some h).1; omega) c_49
            have hG : (ecG x len d (fun i => ec x len d f i (some p)) a p n) s = [] := ecG_none hln
            refine V_iinc (v := nI (s + 1)) (lc1 := [(7, .int (nI (s + 1))), (8, .int (oI (lwAt x d a s))), (0, .ref (h 2)), (1, .int (nI a)), (2, .int (nI p)), (3, .int (nI pc)), (4, .int (nI co)), (5, .long (lN K))]) cx 106 rfl dX2_tryLinks_103 1 rfl (nI_inc s 1) (by decide) rfl ?_
            refine V_goto cx 14 dX2_tryLinks_106 (by decide) ?_
            refine V.locs [0, 2, 3, 4, 5, 6, 7] rfl ?_
            exact ih_14 (s + 1) fd2 ks2 (by omega) (by rw [Nat.add_sub_cancel, ecS_step hs.1, hG]; first | (rw [List.append_nil]; exact hfd2) | (rw [← List.append_assoc, List.length_append (bs := (ec _ _ _ _ _ _).map _), List.length_map, List.length_append, List.length_map]; omega)) (by first | exact hk2 | exact fun i hi => (j1 i (by omega)).trans (hk2 i hi)) (by rw [Nat.add_sub_cancel, ecS_step hs.1, hG]; first | (rw [List.append_nil]; exact hc2) | (rw [← List.append_assoc]; exact CS_app (CS_keep hc2 (fun i hi => j1 i hi) (by rw [List.length_append, List.length_map]; omega)) (by rw [List.length_append, List.length_map, ← Nat.add_assoc, Nat.add_assoc fd, ← hfd2]; exact CS_map j2))) (by omega)
          · skip
            obtain ⟨lk, hlk⟩ := oI_nm1 c_49
            have hlk2 := (lwAt_some hlk).1
            rw [show oI (lwAt x d a s) = nI lk by rw [hlk]; rfl]
            refine V_aload_n cx 53 rfl dX2_tryLinks_52 2 rfl ?_
            refine GX2_25 cx 2 rfl rfl 56 rfl dX2_tryLinks_53 ?_
            refine GX2_87 cx 1 rfl rfl 59 rfl dX2_tryLinks_56 ?_
            refine V_iload_n cx 60 rfl dX2_tryLinks_59 4 rfl ?_
            refine V_bipush (v := nI 6) cx 62 rfl dX2_tryLinks_60 (by decide) ?_
            refine V_imul cx 63 rfl dX2_tryLinks_62 ?_
            refine V_toi (nI (p * 6)) (nI_mulN _ _) ?_
            refine V_iload cx 65 rfl dX2_tryLinks_63 0 rfl ?_
            refine V_iadd cx 66 rfl dX2_tryLinks_65 ?_
            refine V_toi (nI ((p * 6) + lk)) (nI_add _ _) ?_
            refine V_zaldN cx ((p * 6) + lk) (rfl) (by omega) (by decide) 10 rfl 67 rfl dX2_tryLinks_66 ?_
            refine V_toi (bI (lB x p lk)) (hBB p lk hp (by omega)) ?_
            refine V_if_ne cx 70 103 rfl dX2_tryLinks_67 (by decide) (fun c_67 => ?_) (fun c_67 => ?_)
            · skip
              have n_67 : lB x p lk = true := B_ne_t c_67
              have hG : (ecG x len d (fun i => ec x len d f i (some p)) a p n) s = [] := ecG_bar hlk n_67
              refine V_iinc (v := nI (s + 1)) (lc1 := [(7, .int (nI (s + 1))), (8, .int (nI lk)), (0, .ref (h 2)), (1, .int (nI a)), (2, .int (nI p)), (3, .int (nI pc)), (4, .int (nI co)), (5, .long (lN K))]) cx 106 rfl dX2_tryLinks_103 1 rfl (nI_inc s 1) (by decide) rfl ?_
              refine V_goto cx 14 dX2_tryLinks_106 (by decide) ?_
              refine V.locs [0, 2, 3, 4, 5, 6, 7] rfl ?_
              exact ih_14 (s + 1) fd2 ks2 (by omega) (by rw [Nat.add_sub_cancel, ecS_step hs.1, hG]; first | (rw [List.append_nil]; exact hfd2) | (rw [← List.append_assoc, List.length_append (bs := (ec _ _ _ _ _ _).map _), List.length_map, List.length_append, List.length_map]; omega)) (by first | exact hk2 | exact fun i hi => (j1 i (by omega)).trans (hk2 i hi)) (by rw [Nat.add_sub_cancel, ecS_step hs.1, hG]; first | (rw [List.append_nil]; exact hc2) | (rw [← List.append_assoc]; exact CS_app (CS_keep hc2 (fun i hi => j1 i hi) (by rw [List.length_append, List.length_map]; omega)) (by rw [List.length_append, List.length_map, ← Nat.add_assoc, Nat.add_assoc fd, ← hfd2]; exact CS_map j2))) (by omega)
            · skip
              have n_67 : lB x p lk = false := B_ne_f c_67
              have hG : (ecG x len d (fun i => ec x len d f i (some p)) a p n) s = (ec x len d f (a + s) (some p)).map (fun q => ((4 - n) * 7 + (lk + 1), p) :: q) := ecG_ok n_28 hlk n_67
              have hle : (ecS (ecG x len d (fun i => ec x len d f i (some p)) a p n) (s - 1)).length + (ec x len d f (a + s) (some p)).length ≤ (ecS (ecG x len d (fun i => ec x len d f i (some p)) a p n) 2).length := by
                have q1 : (ecS (ecG x len d (fun i => ec x len d f i (some p)) a p n) s).length = (ecS (ecG x len d (fun i => ec x len d f i (some p)) a p n) (s - 1)).length + (ec x len d f (a + s) (some p)).length := by rw [ecS_step hs.1, hG, List.length_append, List.length_map]
                rcases Nat.lt_or_ge s 2 with q2 | q2
                · have q3 : (ecS (ecG x len d (fun i => ec x len d f i (some p)) a p n) 2).length = (ecS (ecG x len d (fun i => ec x len d f i (some p)) a p n) 1).length + ((ecG x len d (fun i => ec x len d f i (some p)) a p n) 2).length := by rw [ecS, List.length_append]
                  rw [show s = 1 by omega] at q1 ⊢; omega
                · rw [show s = 2 by omega] at q1 ⊢; omega
              rw [List.length_append, List.length_map] at hfd2
              have hcs2 : co + 3 = cS x (pre ++ [((4 - n) * 7 + (lk + 1), p)]) - 15 := by
                have e1 := cS_push x pre ((4 - n) * 7, p)
                have e2 := cS_push x pre ((4 - n) * 7 + (lk + 1), p)
                dsimp only at e1 e2
                rw [if_neg (by omega)] at e1
                rw [if_pos (by omega)] at e2
                omega
              have hKr3 : cRm (cC (pre ++ [((4 - n) * 7 + (lk + 1), p)])) pc := by have := cRm_push (v := (4 - n) * 8 + (lk + 1)) (by omega) (by omega) hKr; rw [cC_push, cdg_7l (by omega), ← hpre]; exact this
              refine V_lload cx 72 rfl dX2_tryLinks_70 7 rfl ?_
              refine V_iload cx 74 rfl dX2_tryLinks_72 0 rfl ?_
              refine V_iconst (v := nI 1) cx 75 rfl dX2_tryLinks_74 (by decide) ?_
              refine V_iadd cx 76 rfl dX2_tryLinks_75 ?_
              refine V_toi (nI (lk + 1)) (nI_add _ _) ?_
              refine V_i2l cx 77 rfl dX2_tryLinks_76 ?_
              refine V_tol (lN (lk + 1)) (nI_l (by omega)) ?_
              refine V_iload_n cx 78 rfl dX2_tryLinks_77 5 rfl ?_
              refine V_iconst (v := nI 1) cx 79 rfl dX2_tryLinks_78 (by decide) ?_
              refine V_isub cx 80 rfl dX2_tryLinks_79 ?_
              refine V_toi (nI (pc - 1)) (nI_subN (by omega)) ?_
              refine KX2_69 (As := [.int (nI (pc - 1))]) (rest := [.long (lN (lk + 1)), .long (lN K)]) cx (kX2_shiftOf (xl X) lo G _ (pc - 1) (by omega)) hX (by omega) rfl rfl (Nat.le_of_ble_eq_true rfl) 83 0 0 rfl rfl rfl (by omega) (by omega) dX2_tryLinks_80 (fun r_5 u_6 hw_7 => ?_)
              try dsimp only at hw_7
              subst hw_7
              have fk_8 := show 5 * (7 - (pc - 1)) ≤ 35 by omega
              refine V_lshl cx 84 rfl dX2_tryLinks_83 ?_
              refine V_tol (lN ((lk + 1) * 2 ^ (5 * (7 - (pc - 1))))) (wb_shl (lk + 1) (by omega)) ?_
              refine V_lor cx 85 rfl dX2_tryLinks_84 ?_
              refine V_tol (lN (cC (pre ++ [((4 - n) * 7 + (lk + 1), p)]))) (by rw [hK, show pc - 1 = pre.length by omega, or_link (by omega) (by omega) (by omega) hKr, cC_push, cdg_7l (by omega)]) ?_
              refine V_lstore (lc1 := [(9, .long (lN (cC (pre ++ [((4 - n) * 7 + (lk + 1), p)])))), (8, .int (nI lk)), (7, .int (nI s)), (0, .ref (h 2)), (1, .int (nI a)), (2, .int (nI p)), (3, .int (nI pc)), (4, .int (nI co)), (5, .long (lN K))]) cx 87 rfl dX2_tryLinks_85 (by decide) rfl ?_
              refine V_aload_n cx 88 rfl dX2_tryLinks_87 3 rfl ?_
              refine V_iload_n cx 89 rfl dX2_tryLinks_88 4 rfl ?_
              refine V_iload cx 91 rfl dX2_tryLinks_89 2 rfl ?_
              refine V_iadd cx 92 rfl dX2_tryLinks_91 ?_
              refine V_toi (nI (a + s)) (nI_add _ _) ?_
              refine V_iload_n cx 93 rfl dX2_tryLinks_92 5 rfl ?_
              refine V_iload_n cx 94 rfl dX2_tryLinks_93 6 rfl ?_
              refine V_iload cx 96 rfl dX2_tryLinks_94 7 rfl ?_
              refine V_iconst (v := nI 3) cx 97 rfl dX2_tryLinks_96 (by decide) ?_
              refine V_iadd cx 98 rfl dX2_tryLinks_97 ?_
              refine V_toi (nI (co + 3)) (nI_add _ _) ?_
              refine V_lload cx 100 rfl dX2_tryLinks_98 0 rfl ?_
              refine KX2_43 (As := [.int (nI (a + s)), .int (nI p), .int (nI pc), .int (nI (co + 3)), .long (lN (cC (pre ++ [((4 - n) * 7 + (lk + 1), p)])))]) (rest := []) cx (hTP (xl X) lo G _ h np nl len fd2 lu tu T C F LT VV BB lt ph lh ks2 wd gr gs bl ie tw (a + s) (nI p) pc (co + 3) (cC (pre ++ [((4 - n) * 7 + (lk + 1), p)])) x d (some p) (pre ++ [((4 - n) * 7 + (lk + 1), p)]) hok hck (by omega) hph (by omega) (by omega) (by rw [List.length_append]; exact hpre) (by omega) (Or.inr ⟨by omega, p, hp, rfl⟩) rfl hcs2 rfl hKr3 (by omega)) hX (by omega) 2 rfl rfl rfl (Nat.le_of_ble_eq_true rfl) 103 0 0 rfl rfl rfl (by omega) (by omega) dX2_tryLinks_100 (fun u_10 hw_11 => ?_)
              obtain ⟨ks1_12, rfl⟩ : ∃ z, z = u_10 := ⟨_, rfl⟩
              try dsimp only at hw_11
              obtain ⟨j1, j2⟩ := hw_11
              refine V_iinc (v := nI (s + 1)) (lc1 := [(7, .int (nI (s + 1))), (9, .long (lN (cC (pre ++ [((4 - n) * 7 + (lk + 1), p)])))), (8, .int (nI lk)), (0, .ref (h 2)), (1, .int (nI a)), (2, .int (nI p)), (3, .int (nI pc)), (4, .int (nI co)), (5, .long (lN K))]) cx 106 rfl dX2_tryLinks_103 2 rfl (nI_inc s 1) (by decide) rfl ?_
              refine V_goto cx 14 dX2_tryLinks_106 (by decide) ?_
              refine V.locs [0, 3, 4, 5, 6, 7, 8] rfl ?_
              exact ih_14 (s + 1) (fd2 + (ec x len d f (a + s) (some p)).length) ks1_12 (by omega) (by rw [Nat.add_sub_cancel, ecS_step hs.1, hG]; first | (rw [List.append_nil]; exact hfd2) | (rw [← List.append_assoc, List.length_append (bs := (ec _ _ _ _ _ _).map _), List.length_map, List.length_append, List.length_map]; omega)) (by first | exact hk2 | exact fun i hi => (j1 i (by omega)).trans (hk2 i hi)) (by rw [Nat.add_sub_cancel, ecS_step hs.1, hG]; first | (rw [List.append_nil]; exact hc2) | (rw [← List.append_assoc]; exact CS_app (CS_keep hc2 (fun i hi => j1 i hi) (by rw [List.length_append, List.length_map]; omega)) (by rw [List.length_append, List.length_map, ← Nat.add_assoc, Nat.add_assoc fd, ← hfd2]; exact CS_map j2))) (by omega)
  refine V.locs [0, 1, 2, 3, 4, 5, 6] rfl ?_
  exact loop_14 _ 1 (fd + (ec x len d f a (some p)).length) ks1_4 (by omega) (by rw [List.length_append, List.length_map]; rfl) (by exact g1) (by rw [show ecS _ (1 - 1) = ([] : List SP) from rfl, List.append_nil]; exact CS_map g2) (Nat.lt_succ_self _)
set_option maxHeartbeats 4000000 in
set_option maxRecDepth 100000 in
theorem tp_of (f : Nat) (hTL : tryLinksAt f) : tryPartsAt (f + 1) := by
  intro l lo G rs h np nl len fd lu tu T C F LT VV BB lt ph lh ks wd gr gs bl ie tw a bf pc co K x d pv pre hok hck hll hph ha hf hpre hpca hpv hbf hco hK hKr hfd
  refine Mv_of (lc := [(0, .ref (h 2)), (1, .int (nI a)), (2, .int bf), (3, .int (nI pc)), (4, .int (nI co)), (5, .long (lN K))]) (by decide +kernel) (Nat.le_of_ble_eq_true rfl) rfl ?_
  intro X cx hXR hXl hr hin
  subst hXl
  have hX := RmX.of hXR
  obtain ⟨hnp, hnl, hT, hC, hF, hLT, hVV, hBB⟩ := id hck
  have hnp16 : np ≤ 16 := by rw [hnp]; exact hok.1
  have hnl6 : nl ≤ 6 := by rw [hnl]; exact hok.2.1
  have hcsl := cS_len x pre
  have hec : ec x len d (f + 1) a pv = ecS (ecP x len d (fun i q => ec x len d f i (some q)) a pv) 4 := rfl
  rw [hec] at hfd
  have hpv2 : ∀ q, pv = some q → q < np := fun q h => by rcases hpv with h1 | ⟨_, q2, h2, h3⟩; (rw [h1.1] at h; cases h); (rw [h3] at h; cases h; exact h2)
  refine V_iload_n cx 1 rfl dX2_tryParts_0 3 rfl ?_
  refine V_bipush (v := nI 8) cx 3 rfl dX2_tryParts_1 (by decide) ?_
  refine V_icmp_lt cx 6 7 rfl dX2_tryParts_3 (by decide) (fun c_3 => ?_) (fun c_3 => ?_)
  · skip
    have n_3 : pc < 8 := N_lt_t (by omega) (by omega) c_3
    refine V_iconst (v := nI 1) cx 8 rfl dX2_tryParts_7 (by decide) ?_
    refine V_istore (lc1 := [(7, .int (nI 1)), (0, .ref (h 2)), (1, .int (nI a)), (2, .int bf), (3, .int (nI pc)), (4, .int (nI co)), (5, .long (lN K))]) cx 10 rfl dX2_tryParts_8 (by decide) rfl ?_
    have loop_10 : ∀ (fuel : Nat) (n : Nat) (fd2 : Nat) (ks2 : Nat → Int64), (1 ≤ n ∧ n ≤ 5) → (fd2 = fd + (ecS (ecP x len d (fun i q => ec x len d f i (some q)) a pv) (n - 1)).length) → (∀ i, i < fd → ks2 i = ks i) → (CS x pre ks2 fd (ecS (ecP x len d (fun i q => ec x len d f i (some q)) a pv) (n - 1))) → 5 - n < fuel → V X lo 13 G (Qv X lo G (fun (ks1 : (Nat → Int64)) => (∀ i, i < fd → ks1 i = ks i) ∧ CS x pre ks1 fd (ec x len d (f + 1) a pv)) (fun (ks1 : (Nat → Int64)) => cW G h np nl len (fd + (ec x len d (f + 1) a pv).length) lu tu T C F LT VV BB lt ph lh ks1 wd gr gs bl ie tw ++ rs) 0 0) 0 0 (cW G h np nl len fd2 lu tu T C F LT VV BB lt ph lh ks2 wd gr gs bl ie tw ++ rs) [(7, .int (nI n)), (0, .ref (h 2)), (1, .int (nI a)), (2, .int bf), (3, .int (nI pc)), (4, .int (nI co)), (5, .long (lN K))] [] 10 := by
      intro fuel
      induction fuel with
      | zero => intro n fd2 ks2 hn hfd2 hk2 hc2 hmz; exact absurd hmz (Nat.not_lt_zero _)
      | succ fuel ih_10 =>
        intro n fd2 ks2 hn hfd2 hk2 hc2 hmz_10
        refine V_iload cx 12 rfl dX2_tryParts_10 0 rfl ?_
        refine V_iconst (v := nI 4) cx 13 rfl dX2_tryParts_12 (by decide) ?_
        refine V_icmp_gt cx 16 163 rfl dX2_tryParts_13 (by decide) (fun c_13 => ?_) (fun c_13 => ?_)
        · skip
          have n_13 : n > 4 := N_gt_t (by omega) (by omega) c_13
          have hA : ecS (ecP x len d (fun i q => ec x len d f i (some q)) a pv) 4 = ecS (ecP x len d (fun i q => ec x len d f i (some q)) a pv) (n - 1) := ecS_far (by omega) (fun k g1 g2 => ecP_far (by omega))
          subst hfd2
          rw [← hA]
          rw [← hA] at hc2
          exact V_vreturn cx hr ks2 (⟨hk2, hc2⟩) rfl (by omega) (by omega) dX2_tryParts_163
        · skip
          have n_13 : n ≤ 4 := N_gt_f (by omega) (by omega) c_13
          refine V_iload_n cx 17 rfl dX2_tryParts_16 2 rfl ?_
          refine V_iload cx 19 rfl dX2_tryParts_17 0 rfl ?_
          refine V_iadd cx 20 rfl dX2_tryParts_19 ?_
          refine V_toi (nI (a + n)) (nI_add _ _) ?_
          refine V_aload_n cx 21 rfl dX2_tryParts_20 1 rfl ?_
          refine GX2_33 cx 2 rfl rfl 24 rfl dX2_tryParts_21 ?_
          refine V_icmp_gt cx 27 163 rfl dX2_tryParts_24 (by decide) (fun c_24 => ?_) (fun c_24 => ?_)
          · skip
            have n_24 : a + n > len := N_gt_t (by omega) (by omega) c_24
            have hA : ecS (ecP x len d (fun i q => ec x len d f i (some q)) a pv) 4 = ecS (ecP x len d (fun i q => ec x len d f i (some q)) a pv) (n - 1) := ecS_far (by omega) (fun k g1 g2 => ecP_far (by omega))
            subst hfd2
            rw [← hA]
            rw [← hA] at hc2
            exact V_vreturn cx hr ks2 (⟨hk2, hc2⟩) rfl (by omega) (by omega) dX2_tryParts_163
          · skip
            have n_24 : a + n ≤ len := N_gt_f (by omega) (by omega) c_24
            refine V_aload_n cx 28 rfl dX2_tryParts_27 1 rfl ?_
            refine GX2_15 cx 2 rfl rfl 31 rfl dX2_tryParts_28 ?_
            refine V_iload_n cx 32 rfl dX2_tryParts_31 2 rfl ?_
            refine V_iconst (v := nI 4) cx 33 rfl dX2_tryParts_32 (by decide) ?_
            refine V_imul cx 34 rfl dX2_tryParts_33 ?_
            refine V_toi (nI (a * 4)) (nI_mulN _ _) ?_
            refine V_iload cx 36 rfl dX2_tryParts_34 0 rfl ?_
            refine V_iadd cx 37 rfl dX2_tryParts_36 ?_
            refine V_toi (nI ((a * 4) + n)) (nI_add _ _) ?_
            refine V_iconst (v := nI 1) cx 38 rfl dX2_tryParts_37 (by decide) ?_
            refine V_isub cx 39 rfl dX2_tryParts_38 ?_
            refine V_toi (nI (((a * 4) + n) - 1)) (nI_subN (by omega)) ?_
            refine V_ialdN cx (((a * 4) + n) - 1) (rfl) (by omega) (by decide) 12 rfl 40 rfl dX2_tryParts_39 ?_
            refine V_toi (oI (wAt x len d a n)) ((hph a ha).1 n (by omega) (by omega) (by omega)) ?_
            refine V_istore (lc1 := [(8, .int (oI (wAt x len d a n))), (7, .int (nI n)), (0, .ref (h 2)), (1, .int (nI a)), (2, .int bf), (3, .int (nI pc)), (4, .int (nI co)), (5, .long (lN K))]) cx 42 rfl dX2_tryParts_40 (by decide) rfl ?_
            refine V_iload_n cx 43 rfl dX2_tryParts_42 3 rfl ?_
            refine V_iload cx 45 rfl dX2_tryParts_43 1 rfl ?_
            refine V_iadd cx 46 rfl dX2_tryParts_45 ?_
            refine V_toi (nI (a + n)) (nI_add _ _) ?_
            refine V_istore (lc1 := [(9, .int (nI (a + n))), (8, .int (oI (wAt x len d a n))), (7, .int (nI n)), (0, .ref (h 2)), (1, .int (nI a)), (2, .int bf), (3, .int (nI pc)), (4, .int (nI co)), (5, .long (lN K))]) cx 48 rfl dX2_tryParts_46 (by decide) rfl ?_
            refine V_iload cx 50 rfl dX2_tryParts_48 1 rfl ?_
            refine V_iconst (v := (-1)) cx 51 rfl dX2_tryParts_50 (by decide) ?_
            refine V_icmp_eq cx 54 157 rfl dX2_tryParts_51 (by decide) (fun c_51 => ?_) (fun c_51 => ?_)
            · skip
              have hwn : wAt x len d a n = none := oI_m1 (fun q h => by have := (wAt_some h).2.1; omega) c_51
              have hG : (ecP x len d (fun i q => ec x len d f i (some q)) a pv) n = [] := by unfold ecP; rw [stp_none hwn]
              refine V_iinc (v := nI (n + 1)) (lc1 := [(7, .int (nI (n + 1))), (9, .int (nI (a + n))), (8, .int (oI (wAt x len d a n))), (0, .ref (h 2)), (1, .int (nI a)), (2, .int bf), (3, .int (nI pc)), (4, .int (nI co)), (5, .long (lN K))]) cx 160 rfl dX2_tryParts_157 2 rfl (nI_inc n 1) (by decide) rfl ?_
              refine V_goto cx 10 dX2_tryParts_160 (by decide) ?_
              refine V.locs [0, 3, 4, 5, 6, 7, 8] rfl ?_
              exact ih_10 (n + 1) fd2 ks2 (by omega) (by rw [Nat.add_sub_cancel, ecS_step hn.1, hG]; first | (rw [List.append_nil]; exact hfd2) | (rw [List.length_append, List.length_singleton]; omega) | (rw [List.length_append]; omega)) (by first | exact hk2 | exact fun i hi => (updL_n _ _ (by omega)).trans (hk2 i hi) | exact fun i hi => (j1 i (by omega)).trans (hk2 i hi)) (by rw [Nat.add_sub_cancel, ecS_step hn.1, hG]; first | (rw [List.append_nil]; exact hc2) | exact CS_app (CS_keep (n := fd2) hc2 (fun i hi => updL_n _ _ (by omega)) (by omega)) (by rw [← hfd2]; exact CS_one ((updL_s _ _ _).trans hkey)) | exact CS_app (CS_keep hc2 (fun i hi => j1 i hi) (by omega)) (by rw [← hfd2]; exact j2)) (by omega)
            · skip
              obtain ⟨p, hpw⟩ := oI_nm1 c_51
              obtain ⟨_, hpn0, _⟩ := wAt_some hpw
              have hpn : p < np := by omega
              have hcp := hok.2.2.2.1 p hpn0
              have hkol := ko_le (lC x p)
              rw [show oI (wAt x len d a n) = nI p by rw [hpw]; rfl]
              refine V_aload_n cx 55 rfl dX2_tryParts_54 3 rfl ?_
              refine V_iload_n cx 56 rfl dX2_tryParts_55 5 rfl ?_
              refine V_iload cx 58 rfl dX2_tryParts_56 1 rfl ?_
              refine V_iload cx 60 rfl dX2_tryParts_58 0 rfl ?_
              refine KX2_59 (As := [.int bf, .int (nI p), .int (nI (a + n))]) (rest := []) cx (kX2_mayFollow (xl X) lo G _ h np nl len fd2 lu tu T C F LT VV BB lt ph lh ks2 wd gr gs bl ie tw bf p (a + n) x pv hok hck hpn (by omega) (by omega) hbf hpv2) hX (by omega) 2 rfl rfl rfl (Nat.le_of_ble_eq_true rfl) 63 0 0 rfl rfl rfl (by omega) (by omega) dX2_tryParts_60 (fun r_1 u_2 hw_3 => ?_)
              try dsimp only at hw_3
              subst hw_3
              refine V_if_ne cx 66 69 rfl dX2_tryParts_63 (by decide) (fun c_63 => ?_) (fun c_63 => ?_)
              · skip
                have n_63 := B_ne_t c_63
                have hst := stp_yes hpw n_63
                have join_96 : ∀ (mo : Nat), (co + mo = cS x (pre ++ [((4 - n) * 7, p)]) - 15) → (mo ≤ 155) → V X lo 13 G (Qv X lo G (fun (ks1 : (Nat → Int64)) => (∀ i, i < fd → ks1 i = ks i) ∧ CS x pre ks1 fd (ec x len d (f + 1) a pv)) (fun (ks1 : (Nat → Int64)) => cW G h np nl len (fd + (ec x len d (f + 1) a pv).length) lu tu T C F LT VV BB lt ph lh ks1 wd gr gs bl ie tw ++ rs) 0 0) 0 0 (cW G h np nl len fd2 lu tu T C F LT VV BB lt ph lh ks2 wd gr gs bl ie tw ++ rs) [(9, .int (nI (a + n))), (8, .int (nI p)), (7, .int (nI n)), (0, .ref (h 2)), (1, .int (nI a)), (2, .int bf), (3, .int (nI pc)), (4, .int (nI co)), (5, .long (lN K)), (10, .int (nI mo))] [] 96 := by
                  intro mo hmo hmb
                  refine V_lload cx 98 rfl dX2_tryParts_96 8 rfl ?_
                  refine V_iconst (v := nI 4) cx 99 rfl dX2_tryParts_98 (by decide) ?_
                  refine V_iload cx 101 rfl dX2_tryParts_99 2 rfl ?_
                  refine V_isub cx 102 rfl dX2_tryParts_101 ?_
                  refine V_toi (nI (4 - n)) (nI_subN (by omega)) ?_
                  refine V_i2l cx 103 rfl dX2_tryParts_102 ?_
                  refine V_tol (lN (4 - n)) (nI_l (by omega)) ?_
                  refine V_iload_n cx 104 rfl dX2_tryParts_103 6 rfl ?_
                  refine KX2_69 (As := [.int (nI pc)]) (rest := [.long (lN (4 - n)), .long (lN K)]) cx (kX2_shiftOf (xl X) lo G _ pc (by omega)) hX (by omega) rfl rfl (Nat.le_of_ble_eq_true rfl) 107 0 0 rfl rfl rfl (by omega) (by omega) dX2_tryParts_104 (fun r_4 u_5 hw_6 => ?_)
                  try dsimp only at hw_6
                  subst hw_6
                  have fk_7 := show 5 * (7 - pc) ≤ 35 by omega
                  refine V_iconst (v := nI 3) cx 108 rfl dX2_tryParts_107 (by decide) ?_
                  refine V_iadd cx 109 rfl dX2_tryParts_108 ?_
                  refine V_toi (nI ((5 * (7 - pc)) + 3)) (nI_add _ _) ?_
                  refine V_lshl cx 110 rfl dX2_tryParts_109 ?_
                  refine V_tol (lN ((4 - n) * 2 ^ (5 * (7 - pc) + 3))) (wb_shl (4 - n) (by omega)) ?_
                  refine V_lor cx 111 rfl dX2_tryParts_110 ?_
                  refine V_tol (lN (K + (4 - n) * 8 * 32 ^ (7 - pc))) (or_part (by omega) (by omega) hKr) ?_
                  refine V_lstore (lc1 := [(11, .long (lN (K + (4 - n) * 8 * 32 ^ (7 - pc)))), (9, .int (nI (a + n))), (8, .int (nI p)), (7, .int (nI n)), (0, .ref (h 2)), (1, .int (nI a)), (2, .int bf), (3, .int (nI pc)), (4, .int (nI co)), (5, .long (lN K)), (10, .int (nI mo))]) cx 113 rfl dX2_tryParts_111 (by decide) rfl ?_
                  have hcs2 := cS_len x (pre ++ [((4 - n) * 7, p)])
                  rw [List.length_append, List.length_singleton] at hcs2
                  have hKr2 : cRm (K + (4 - n) * 8 * 32 ^ (7 - pc)) (pc + 1) := cRm_push (by omega) (by omega) hKr
                  have hP1 : 0 < 32 ^ (8 - (pc + 1)) := Nat.pow_pos (by decide)
                  have q0 : (ecS (ecP x len d (fun i q => ec x len d f i (some q)) a pv) n).length = (ecS (ecP x len d (fun i q => ec x len d f i (some q)) a pv) (n - 1)).length + ((ecP x len d (fun i q => ec x len d f i (some q)) a pv) n).length := by rw [ecS_step hn.1, List.length_append]
                  have q1 : (ecS (ecP x len d (fun i q => ec x len d f i (some q)) a pv) n).length ≤ (ecS (ecP x len d (fun i q => ec x len d f i (some q)) a pv) 4).length := ecS_mono (by omega)
                  refine V_iload cx 115 rfl dX2_tryParts_113 1 rfl ?_
                  refine V_aload_n cx 116 rfl dX2_tryParts_115 4 rfl ?_
                  refine GX2_33 cx 2 rfl rfl 119 rfl dX2_tryParts_116 ?_
                  refine V_icmp_ne cx 122 139 rfl dX2_tryParts_119 (by decide) (fun c_119 => ?_) (fun c_119 => ?_)
                  · skip
                    have n_119 : a + n ≠ len := N_ne_t (by omega) (by omega) c_119
                    have hG : (ecP x len d (fun i q => ec x len d f i (some q)) a pv) n = ecL x len d (fun i => ec x len d f i (some p)) (a + n) p n := by unfold ecP; rw [hst]; exact if_neg n_119
                    rw [hG] at q0
                    refine V_aload_n cx 140 rfl dX2_tryParts_139 4 rfl ?_
                    refine V_iload cx 142 rfl dX2_tryParts_140 1 rfl ?_
                    refine V_iload cx 144 rfl dX2_tryParts_142 2 rfl ?_
                    refine V_iload_n cx 145 rfl dX2_tryParts_144 7 rfl ?_
                    refine V_iconst (v := nI 1) cx 146 rfl dX2_tryParts_145 (by decide) ?_
                    refine V_iadd cx 147 rfl dX2_tryParts_146 ?_
                    refine V_toi (nI (pc + 1)) (nI_add _ _) ?_
                    refine V_iload cx 149 rfl dX2_tryParts_147 8 rfl ?_
                    refine V_iload cx 151 rfl dX2_tryParts_149 10 rfl ?_
                    refine V_iadd cx 152 rfl dX2_tryParts_151 ?_
                    refine V_toi (nI (co + mo)) (nI_add _ _) ?_
                    refine V_lload cx 154 rfl dX2_tryParts_152 0 rfl ?_
                    refine KX2_76 (As := [.int (nI (a + n)), .int (nI p), .int (nI (pc + 1)), .int (nI (co + mo)), .long (lN (K + (4 - n) * 8 * 32 ^ (7 - pc)))]) (rest := []) cx (hTL (xl X) lo G _ h np nl len fd2 lu tu T C F LT VV BB lt ph lh ks2 wd gr gs bl ie tw (a + n) p (pc + 1) (co + mo) (K + (4 - n) * 8 * 32 ^ (7 - pc)) x d n pre hok hck (by omega) hph (by omega) (by omega) (by omega) (by omega) hpn (by omega) hmo (by rw [hK, hpre]) (by rw [← hK, hpre]; exact hKr) (by omega)) hX (by omega) 2 rfl rfl rfl (Nat.le_of_ble_eq_true rfl) 157 0 0 rfl rfl rfl (by omega) (by omega) dX2_tryParts_154 (fun u_9 hw_10 => ?_)
                    obtain ⟨ks1_11, rfl⟩ : ∃ z, z = u_9 := ⟨_, rfl⟩
                    try dsimp only at hw_10
                    obtain ⟨j1, j2⟩ := hw_10
                    refine V_iinc (v := nI (n + 1)) (lc1 := [(7, .int (nI (n + 1))), (11, .long (lN (K + (4 - n) * 8 * 32 ^ (7 - pc)))), (9, .int (nI (a + n))), (8, .int (nI p)), (0, .ref (h 2)), (1, .int (nI a)), (2, .int bf), (3, .int (nI pc)), (4, .int (nI co)), (5, .long (lN K)), (10, .int (nI mo))]) cx 160 rfl dX2_tryParts_157 3 rfl (nI_inc n 1) (by decide) rfl ?_
                    refine V_goto cx 10 dX2_tryParts_160 (by decide) ?_
                    refine V.locs [0, 4, 5, 6, 7, 8, 9] rfl ?_
                    exact ih_10 (n + 1) (fd2 + (ecL x len d (fun i => ec x len d f i (some p)) (a + n) p n).length) ks1_11 (by omega) (by rw [Nat.add_sub_cancel, ecS_step hn.1, hG]; first | (rw [List.append_nil]; exact hfd2) | (rw [List.length_append, List.length_singleton]; omega) | (rw [List.length_append]; omega)) (by first | exact hk2 | exact fun i hi => (updL_n _ _ (by omega)).trans (hk2 i hi) | exact fun i hi => (j1 i (by omega)).trans (hk2 i hi)) (by rw [Nat.add_sub_cancel, ecS_step hn.1, hG]; first | (rw [List.append_nil]; exact hc2) | exact CS_app (CS_keep (n := fd2) hc2 (fun i hi => updL_n _ _ (by omega)) (by omega)) (by rw [← hfd2]; exact CS_one ((updL_s _ _ _).trans hkey)) | exact CS_app (CS_keep hc2 (fun i hi => j1 i hi) (by omega)) (by rw [← hfd2]; exact j2)) (by omega)
                  · skip
                    have n_119 : a + n = len := N_ne_f (by omega) (by omega) c_119
                    have hG : (ecP x len d (fun i q => ec x len d f i (some q)) a pv) n = [[((4 - n) * 7, p)]] := by unfold ecP; rw [hst]; exact if_pos n_119
                    rw [hG, List.length_singleton] at q0
                    have hkey : lN (((co + mo) * 16 + (pc + 1)) * 1099511627776 + (K + (4 - n) * 8 * 32 ^ (7 - pc))) = lN (ckl x (pre ++ [((4 - n) * 7, p)])) := by rw [ckl_eq, cC_push, cdg_7, ← hmo, List.length_append, List.length_singleton, hpre, ← hK]
                    refine V_aload_n cx 123 rfl dX2_tryParts_122 4 rfl ?_
                    refine V_iload cx 125 rfl dX2_tryParts_123 8 rfl ?_
                    refine V_iload cx 127 rfl dX2_tryParts_125 10 rfl ?_
                    refine V_iadd cx 128 rfl dX2_tryParts_127 ?_
                    refine V_toi (nI (co + mo)) (nI_add _ _) ?_
                    refine V_iload_n cx 129 rfl dX2_tryParts_128 7 rfl ?_
                    refine V_iconst (v := nI 1) cx 130 rfl dX2_tryParts_129 (by decide) ?_
                    refine V_iadd cx 131 rfl dX2_tryParts_130 ?_
                    refine V_toi (nI (pc + 1)) (nI_add _ _) ?_
                    refine V_lload cx 133 rfl dX2_tryParts_131 0 rfl ?_
                    refine KX2_72 (As := [.int (nI (co + mo)), .int (nI (pc + 1)), .long (lN (K + (4 - n) * 8 * 32 ^ (7 - pc)))]) (rest := []) cx (kX2_keep (xl X) lo G _ h np nl len fd2 lu tu T C F LT VV BB lt ph lh ks2 wd gr gs bl ie tw (co + mo) (pc + 1) (K + (4 - n) * 8 * 32 ^ (7 - pc)) (by omega) (by omega) (by omega) (by have := hKr2.2; omega)) hX (by omega) 2 rfl rfl rfl (Nat.le_of_ble_eq_true rfl) 136 0 0 rfl rfl rfl (by omega) (by omega) dX2_tryParts_133 (fun u_13 hw_14 => ?_)
                    try dsimp only at hw_14
                    refine V_goto cx 157 dX2_tryParts_136 (by decide) ?_
                    refine V_iinc (v := nI (n + 1)) (lc1 := [(7, .int (nI (n + 1))), (11, .long (lN (K + (4 - n) * 8 * 32 ^ (7 - pc)))), (9, .int (nI (a + n))), (8, .int (nI p)), (0, .ref (h 2)), (1, .int (nI a)), (2, .int bf), (3, .int (nI pc)), (4, .int (nI co)), (5, .long (lN K)), (10, .int (nI mo))]) cx 160 rfl dX2_tryParts_157 3 rfl (nI_inc n 1) (by decide) rfl ?_
                    refine V_goto cx 10 dX2_tryParts_160 (by decide) ?_
                    refine V.locs [0, 4, 5, 6, 7, 8, 9] rfl ?_
                    exact ih_10 (n + 1) (fd2 + 1) (vp_updL ks2 fd2 (lN (((co + mo) * 16 + (pc + 1)) * 1099511627776 + (K + (4 - n) * 8 * 32 ^ (7 - pc))))) (by omega) (by rw [Nat.add_sub_cancel, ecS_step hn.1, hG]; first | (rw [List.append_nil]; exact hfd2) | (rw [List.length_append, List.length_singleton]; omega) | (rw [List.length_append]; omega)) (by first | exact hk2 | exact fun i hi => (updL_n _ _ (by omega)).trans (hk2 i hi) | exact fun i hi => (j1 i (by omega)).trans (hk2 i hi)) (by rw [Nat.add_sub_cancel, ecS_step hn.1, hG]; first | (rw [List.append_nil]; exact hc2) | exact CS_app (CS_keep (n := fd2) hc2 (fun i hi => updL_n _ _ (by omega)) (by omega)) (by rw [← hfd2]; exact CS_one ((updL_s _ _ _).trans hkey)) | exact CS_app (CS_keep hc2 (fun i hi => j1 i hi) (by omega)) (by rw [← hfd2]; exact j2)) (by omega)
                refine V_aload_n cx 70 rfl dX2_tryParts_69 3 rfl ?_
                refine GX2_25 cx 2 rfl rfl 73 rfl dX2_tryParts_70 ?_
                refine GX2_63 cx 1 rfl rfl 76 rfl dX2_tryParts_73 ?_
                refine V_iload cx 78 rfl dX2_tryParts_76 1 rfl ?_
                refine V_ialdN cx p (rfl) (by omega) (by decide) 6 rfl 79 rfl dX2_tryParts_78 ?_
                refine V_toi (nI (lC x p)) (hC p hpn) ?_
                refine KX2_66 (As := [.int (nI (lC x p))]) (rest := []) cx (kX1_costOfCount (xl X) lo G _ (lC x p) hcp) hX (by omega) rfl rfl (Nat.le_of_ble_eq_true rfl) 82 0 0 rfl rfl rfl (by omega) (by omega) dX2_tryParts_79 (fun r_15 u_16 hw_17 => ?_)
                try dsimp only at hw_17
                subst hw_17
                refine V_iload_n cx 83 rfl dX2_tryParts_82 5 rfl ?_
                refine V_iconst (v := (-1)) cx 84 rfl dX2_tryParts_83 (by decide) ?_
                refine V_icmp_ne cx 87 91 rfl dX2_tryParts_84 (by decide) (fun c_84 => ?_) (fun c_84 => ?_)
                · skip
                  rw [hbf] at c_84
                  have hq1 : 0 < pc := by rcases hpv with h | h; (rw [h.1] at c_84; exact absurd rfl c_84); exact h.1
                  refine V_bipush (v := nI 15) cx 93 rfl dX2_tryParts_91 (by decide) ?_
                  refine V_iadd cx 94 rfl dX2_tryParts_93 ?_
                  refine V_toi (nI ((ko (lC x p)) + 15)) (nI_add _ _) ?_
                  refine V_istore (lc1 := [(10, .int (nI ((ko (lC x p)) + 15))), (9, .int (nI (a + n))), (8, .int (nI p)), (7, .int (nI n)), (0, .ref (h 2)), (1, .int (nI a)), (2, .int bf), (3, .int (nI pc)), (4, .int (nI co)), (5, .long (lN K))]) cx 96 rfl dX2_tryParts_94 (by decide) rfl ?_
                  refine V.locs [1, 2, 3, 4, 5, 6, 7, 8, 9, 0] rfl ?_
                  exact join_96 ((ko (lC x p)) + 15) (by have e1 := cS_push x pre ((4 - n) * 7, p); dsimp only at e1; rw [if_neg (by omega)] at e1; have h15 : 15 ≤ cS x pre := kS_ge _ _ (by omega); omega) (by omega)
                · skip
                  rw [hbf] at c_84
                  have hq1 : pc = 0 := by rcases hpv with h | ⟨_, q, h2, h3⟩; (exact h.2); (rw [h3] at c_84; exact absurd c_84 (nI_nem1 (show q < 2147483648 by omega)))
                  have hpe : pre = [] := List.length_eq_zero_iff.mp (hpre.trans hq1)
                  refine V_iconst (v := nI 0) cx 88 rfl dX2_tryParts_87 (by decide) ?_
                  refine V_goto cx 93 dX2_tryParts_88 (by decide) ?_
                  refine V_iadd cx 94 rfl dX2_tryParts_93 ?_
                  refine V_toi (nI (ko (lC x p))) (nI_add _ _) ?_
                  refine V_istore (lc1 := [(10, .int (nI (ko (lC x p)))), (9, .int (nI (a + n))), (8, .int (nI p)), (7, .int (nI n)), (0, .ref (h 2)), (1, .int (nI a)), (2, .int bf), (3, .int (nI pc)), (4, .int (nI co)), (5, .long (lN K))]) cx 96 rfl dX2_tryParts_94 (by decide) rfl ?_
                  refine V.locs [1, 2, 3, 4, 5, 6, 7, 8, 9, 0] rfl ?_
                  exact join_96 (ko (lC x p)) (by have e1 := cS_push x pre ((4 - n) * 7, p); dsimp only at e1; rw [if_neg (by omega)] at e1; have e0 : cS x pre = 0 := (by rw [hpe]; rfl); omega) (by omega)
              · skip
                have n_63 := B_ne_f c_63
                have hG : (ecP x len d (fun i q => ec x len d f i (some q)) a pv) n = [] := by unfold ecP; rw [stp_no hpw n_63]
                refine V_goto cx 157 dX2_tryParts_66 (by decide) ?_
                refine V_iinc (v := nI (n + 1)) (lc1 := [(7, .int (nI (n + 1))), (9, .int (nI (a + n))), (8, .int (nI p)), (0, .ref (h 2)), (1, .int (nI a)), (2, .int bf), (3, .int (nI pc)), (4, .int (nI co)), (5, .long (lN K))]) cx 160 rfl dX2_tryParts_157 2 rfl (nI_inc n 1) (by decide) rfl ?_
                refine V_goto cx 10 dX2_tryParts_160 (by decide) ?_
                refine V.locs [0, 3, 4, 5, 6, 7, 8] rfl ?_
                exact ih_10 (n + 1) fd2 ks2 (by omega) (by rw [Nat.add_sub_cancel, ecS_step hn.1, hG]; first | (rw [List.append_nil]; exact hfd2) | (rw [List.length_append, List.length_singleton]; omega) | (rw [List.length_append]; omega)) (by first | exact hk2 | exact fun i hi => (updL_n _ _ (by omega)).trans (hk2 i hi) | exact fun i hi => (j1 i (by omega)).trans (hk2 i hi)) (by rw [Nat.add_sub_cancel, ecS_step hn.1, hG]; first | (rw [List.append_nil]; exact hc2) | exact CS_app (CS_keep (n := fd2) hc2 (fun i hi => updL_n _ _ (by omega)) (by omega)) (by rw [← hfd2]; exact CS_one ((updL_s _ _ _).trans hkey)) | exact CS_app (CS_keep hc2 (fun i hi => j1 i hi) (by omega)) (by rw [← hfd2]; exact j2)) (by omega)
    refine V.locs [0, 1, 2, 3, 4, 5, 6] rfl ?_
    exact loop_10 _ 1 fd ks (by omega) (by rfl) (by exact fun i _ => rfl) (by exact CS_nil _ _ _ _) (Nat.lt_succ_self _)
  · skip
    have n_3 : pc ≥ 8 := N_lt_f (by omega) (by omega) c_3
    omega
theorem tp_all : ∀ f, tryPartsAt f := by
  intro f
  induction f with
  | zero => intro l lo G rs h np nl len fd lu tu T C F LT VV BB lt ph lh ks wd gr gs bl ie tw a bf pc co K x d pv pre hok hck hll hph ha hf hpre hpca hpv hbf hco hK hKr hfd; exfalso; omega
  | succ f ih => exact tp_of f (tl_of f ih)
