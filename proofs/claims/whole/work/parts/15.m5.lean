theorem wAt_last {x : LX} {L : Nat} {d : Nat → Nat} {a n np : Nat} {T : Nat → Int32} (hok : lxOK x) (hnp : np = lNp x) (hT : ∀ i, i < np → T i = nI (lT x i)) (hd : ∀ k, d k ≤ 9) (hn : n ≤ 8) : lastW T (if a + n ≤ L then nI (TA d a n) else -1) np = oI (wAt x L d a n) := by
  subst hnp
  have h : ∀ i, i < lNp x → T i = nI (lT x i) ∧ lT x i < 2147483648 := fun i hi => ⟨hT i hi, by have := hok.t hi; omega⟩
  unfold wAt
  split
  · exact lastW_pw (by have := TA_bd d hd a hn; omega) h hok.2.2.2.2.2.1
  · exact lastW_m1 h
theorem wAt_some {x : LX} {L : Nat} {d : Nat → Nat} {a n p : Nat} (h : wAt x L d a n = some p) : a + n ≤ L ∧ p < lNp x ∧ lT x p = TA d a n := by
  unfold wAt at h
  split at h
  · rename_i h1
    exact ⟨h1, pw_some h⟩
  · cases h
theorem lk_t {c : Nat} (hc : c < 2147483648) (h : nI c - nI 1 = -1) : c = 0 := by
  rcases Nat.eq_zero_or_pos c with h0 | h0
  · exact h0
  · rw [nI_subN h0] at h
    exact absurd h (nI_nem1 (by omega))
theorem lk_f {c : Nat} (h : ¬ nI c - nI 1 = -1) : 0 < c := by
  rcases Nat.eq_zero_or_pos c with rfl | h0
  · exact absurd (by decide) h
  · exact h0
theorem stp_eq {x : LX} {L : Nat} {d : Nat → Nat} {a n c p : Nat} {pv : Option Nat} (hw : wAt x L d a n = some p) (hv : vetoed x pv p = false) : stp x L d a pv n c = if okF (lF x p) pv.isNone (decide (a + n = L)) = true then (if c = 0 then some (p, a + n) else if lkOK x L d (a + n) p (c - 1) = true then some (p, a + n + szN (lU x (c - 1))) else none) else none := by
  unfold stp
  rw [hw]
  dsimp only
  rw [hv, if_neg (by decide)]
theorem stp_none {x : LX} {L : Nat} {d : Nat → Nat} {a n c : Nat} {pv : Option Nat} (hw : wAt x L d a n = none) : stp x L d a pv n c = none := by
  unfold stp
  rw [hw]
theorem stp_veto {x : LX} {L : Nat} {d : Nat → Nat} {a n c p : Nat} {pv : Option Nat} (hw : wAt x L d a n = some p) (hv : vetoed x pv p = true) : stp x L d a pv n c = none := by
  unfold stp
  rw [hw]
  dsimp only
  rw [if_pos hv]
theorem lkOK_iff {x : LX} {L : Nat} {d : Nat → Nat} {e p l : Nat} : lkOK x L d e p l = true ↔ (l < lNl x ∧ lB x p l = false ∧ e + szN (lU x l) < L ∧ TA d e (szN (lU x l)) = lU x l) := decide_eq_true_iff
theorem txt_iff {x : LX} {L : Nat} {d : Nat → Nat} {e l s : Nat} (hok : lxOK x) (hl : l < lNl x) (hd : ∀ k, d k ≤ 9) (hs : s ≤ 8) : (if e + s ≤ L then nI (TA d e s) else -1) = nI (lU x l) ↔ e + s ≤ L ∧ TA d e s = lU x l := by
  have hu := hok.u hl
  have hb := TA_bd d hd e hs
  constructor
  · intro h
    split at h
    · exact ⟨by assumption, nI_inj (by omega) (by omega) h⟩
    · exact absurd h.symm (nI_nem1 (by omega))
  · rintro ⟨h1, h2⟩
    rw [if_pos h1, h2]
def mGoes (x : LX) (L : Nat) (d : Nat → Nat) (a : Nat) (pv : Option Nat) (n c its m : Nat) (op pl pt : Nat → Int32) (r : Int32) (op1 pl1 pt1 : Nat → Int32) : Prop :=
  (stp x L d a pv n c = none ∧ r = bI false ∧ op1 = op ∧ pl1 = pl ∧ pt1 = pt) ∨ (∃ p e, stp x L d a pv n c = some (p, e) ∧ r = bI true ∧ op1 = upd op m (nI its) ∧ pl1 = upd pl (m + 1) (nI e) ∧ pt1 = upd pt m (nI p))
def pvOK (np m : Nat) (pt : Nat → Int32) (pv : Option Nat) : Prop := (m = 0 ∧ pv = none) ∨ (0 < m ∧ ∃ q, q < np ∧ pt (m - 1) = nI q ∧ pv = some q)
set_option maxHeartbeats 4000000 in
set_option maxRecDepth 100000 in
theorem kX5_goesOn (l : Launch) (lo : Nat) (G : vG) (rs : va_W) (g : Nat → Nat) (th : Nat) (np : Nat) (nl : Nat) (ld : Nat) (ll : Nat) (m : Nat) (sp : Nat) (T : Nat → Int32) (S : Nat → Int32) (C : Nat → Int32) (F : Nat → Int32) (LT : Nat → Int32) (LS : Nat → Int32) (VE : Nat → Int32) (BA : Nat → Int32) (wd : Nat → Int32) (mo : Nat → Int32) (lt : Nat → Int32) (op : Nat → Int32) (pl : Nat → Int32) (pt : Nat → Int32) (ks : Nat → Int64) (its : Nat) (x : LX) (d : Nat → Nat) (a : Nat) (pv : Option Nat) (n : Nat) (c : Nat) (hok : lxOK x) (hmk : mOK x np nl T S C F LT LS VE BA) (hll : ll ≤ 8) (hlt : ∀ k, k < ll → lt k = nI (d k)) (hd : ∀ k, d k ≤ 9) (hm7 : m ≤ 7) (ha : a ≤ 8) (hpl : pl m = nI a) (hpv : pvOK np m pt pv) (hits : its = (4 - n) * 7 + c) (hn : 1 ≤ n ∧ n ≤ 4) (hc : c ≤ 6) : Mi l yX5_goesOn (.code yX5_goesOn prog_7_method_25_code 10 (some .boolean)) 3 0 0 lo G [.ref (g 0), .int (nI its)] (mW G g th np nl ld ll (nI m) sp T S C F LT LS VE BA wd mo lt op pl pt ks ++ rs) (fun (r : Int32) ((op1, pl1, pt1) : (Nat → Int32) × (Nat → Int32) × (Nat → Int32)) => mGoes x ll d a pv n c its m op pl pt r op1 pl1 pt1) (fun ((op1, pl1, pt1) : (Nat → Int32) × (Nat → Int32) × (Nat → Int32)) => mW G g th np nl ld ll (nI m) sp T S C F LT LS VE BA wd mo lt op1 pl1 pt1 ks ++ rs) := by
  refine Mi_of (lc := [(0, .ref (g 0)), (1, .int (nI its))]) (by decide +kernel) (Nat.le_of_ble_eq_true rfl) rfl ?_
  intro X cx hXR hXl hr hin
  subst hXl
  have hX := RmX.of hXR
  obtain ⟨hnp, hnl, hT, hS, hC, hF, hLT, hLS, hVE, hBA⟩ := hmk
  have hnp16 : np ≤ 16 := by rw [hnp]; exact hok.1
  have hnl6 : nl ≤ 6 := by rw [hnl]; exact hok.2.1
  refine V_iconst (v := nI 4) cx 1 rfl dX5_goesOn_0 (by decide) ?_
  refine V_iload_n cx 2 rfl dX5_goesOn_1 1 rfl ?_
  refine V_bipush (v := nI 7) cx 4 rfl dX5_goesOn_2 (by decide) ?_
  refine V_idiv cx 5 rfl dX5_goesOn_4 (by decide) ?_
  refine V_toi (nI (its / 7)) (nI_div (by omega) (by omega)) ?_
  refine V_toi (nI (4 - n)) (by rw [show its / 7 = 4 - n by omega]) ?_
  refine V_isub cx 6 rfl dX5_goesOn_5 ?_
  refine V_toi (nI (4 - (4 - n))) (nI_subN (by omega)) ?_
  refine V_toi (nI n) (by rw [show 4 - (4 - n) = n by omega]) ?_
  refine V_istore_n (lc1 := [(2, .int (nI n)), (0, .ref (g 0)), (1, .int (nI its))]) cx 7 rfl dX5_goesOn_6 (by decide) rfl ?_
  refine V_iload_n cx 8 rfl dX5_goesOn_7 2 rfl ?_
  refine V_bipush (v := nI 7) cx 10 rfl dX5_goesOn_8 (by decide) ?_
  refine V_irem cx 11 rfl dX5_goesOn_10 (by decide) ?_
  refine V_toi (nI (its % 7)) (nI_mod (by omega) (by omega)) ?_
  refine V_toi (nI c) (by rw [show its % 7 = c by omega]) ?_
  refine V_iconst (v := nI 1) cx 12 rfl dX5_goesOn_11 (by decide) ?_
  refine V_isub cx 13 rfl dX5_goesOn_12 ?_
  refine V_istore_n (lc1 := [(3, .int ((nI c) - (nI 1))), (2, .int (nI n)), (0, .ref (g 0)), (1, .int (nI its))]) cx 14 rfl dX5_goesOn_13 (by decide) rfl ?_
  refine V_aload_n cx 15 rfl dX5_goesOn_14 2 rfl ?_
  refine GX5_46 cx 0 rfl rfl 18 rfl dX5_goesOn_15 ?_
  refine V_aload_n cx 19 rfl dX5_goesOn_18 2 rfl ?_
  refine GX5_104 cx 0 rfl rfl 22 rfl dX5_goesOn_19 ?_
  refine V_ialdN cx m (rfl) (by omega) (by decide) 13 rfl 23 rfl dX5_goesOn_22 ?_
  refine V_toi (nI a) (hpl) ?_
  refine V_istore (lc1 := [(4, .int (nI a)), (3, .int ((nI c) - (nI 1))), (2, .int (nI n)), (0, .ref (g 0)), (1, .int (nI its))]) cx 25 rfl dX5_goesOn_23 (by decide) rfl ?_
  refine V_aload_n cx 26 rfl dX5_goesOn_25 3 rfl ?_
  refine V_aload_n cx 27 rfl dX5_goesOn_26 3 rfl ?_
  refine V_iload cx 29 rfl dX5_goesOn_27 0 rfl ?_
  refine V_iload_n cx 30 rfl dX5_goesOn_29 2 rfl ?_
  refine KX5_107 (As := [.int (nI a), .int (nI n)]) (rest := [.ref (g 0)]) cx (kX5_textAt (xl X) lo G _ g th np nl ld ll (nI m) sp T S C F LT LS VE BA wd mo lt op pl pt ks a n d (by omega) hlt hd (by omega) (by omega)) hX (by omega) 0 rfl rfl rfl (Nat.le_of_ble_eq_true rfl) 33 0 0 rfl rfl rfl (by omega) (by omega) dX5_goesOn_30 (fun r_1 u_2 hw_3 => ?_)
  try dsimp only at hw_3
  subst hw_3
  refine KX5_75 (As := [.int (if a + n ≤ ll then nI (TA d a n) else -1)]) (rest := []) cx (kX5_partWith (xl X) lo G _ g th np nl ld ll (nI m) sp T S C F LT LS VE BA wd mo lt op pl pt ks (if a + n ≤ ll then nI (TA d a n) else -1) (by omega)) hX (by omega) 0 rfl rfl rfl (Nat.le_of_ble_eq_true rfl) 36 0 0 rfl rfl rfl (by omega) (by omega) dX5_goesOn_33 (fun r_4 u_5 hw_6 => ?_)
  try dsimp only at hw_6
  subst hw_6
  refine V_toi (oI (wAt x ll d a n)) (wAt_last hok hnp hT hd (by omega)) ?_
  refine V_istore (lc1 := [(5, .int (oI (wAt x ll d a n))), (4, .int (nI a)), (3, .int ((nI c) - (nI 1))), (2, .int (nI n)), (0, .ref (g 0)), (1, .int (nI its))]) cx 38 rfl dX5_goesOn_36 (by decide) rfl ?_
  refine V_iload cx 40 rfl dX5_goesOn_38 0 rfl ?_
  refine V_iconst (v := (-1)) cx 41 rfl dX5_goesOn_40 (by decide) ?_
  refine V_icmp_eq cx 44 76 rfl dX5_goesOn_41 (by decide) (fun c_41 => ?_) (fun c_41 => ?_)
  · skip
    have hwn : wAt x ll d a n = none := oI_m1 (fun p hp => by have := (wAt_some hp).2.1; omega) c_41
    refine V_iconst (v := nI 0) cx 77 rfl dX5_goesOn_76 (by decide) ?_
    exact V_zreturn cx hr (by first | rfl | exact bI_z _) (op, pl, pt) (Or.inl ⟨stp_none hwn, rfl, rfl, rfl, rfl⟩) rfl (by omega) (by omega) dX5_goesOn_77
  · skip
    obtain ⟨p, hp⟩ := oI_nm1 c_41
    obtain ⟨hal, hpn0, hpt0⟩ := wAt_some hp
    have hpn : p < np := by omega
    have hp16 : p < 16 := by omega
    rw [show oI (wAt x ll d a n) = nI p by rw [hp]; rfl]
    have join_78 : (vetoed x pv p = false) → V X lo 10 G (Qi X lo G (fun (r : Int32) ((op1, pl1, pt1) : (Nat → Int32) × (Nat → Int32) × (Nat → Int32)) => mGoes x ll d a pv n c its m op pl pt r op1 pl1 pt1) (fun ((op1, pl1, pt1) : (Nat → Int32) × (Nat → Int32) × (Nat → Int32)) => mW G g th np nl ld ll (nI m) sp T S C F LT LS VE BA wd mo lt op1 pl1 pt1 ks ++ rs) 0 0) 0 0 (mW G g th np nl ld ll (nI m) sp T S C F LT LS VE BA wd mo lt op pl pt ks ++ rs) [(5, .int (nI p)), (4, .int (nI a)), (3, .int ((nI c) - (nI 1))), (2, .int (nI n)), (0, .ref (g 0)), (1, .int (nI its))] [] 78 := by
      intro hv
      refine V_iload cx 80 rfl dX5_goesOn_78 1 rfl ?_
      refine V_iload_n cx 81 rfl dX5_goesOn_80 3 rfl ?_
      refine V_iadd cx 82 rfl dX5_goesOn_81 ?_
      refine V_toi (nI (a + n)) (nI_add _ _) ?_
      refine V_istore (lc1 := [(6, .int (nI (a + n))), (5, .int (nI p)), (4, .int (nI a)), (3, .int ((nI c) - (nI 1))), (2, .int (nI n)), (0, .ref (g 0)), (1, .int (nI its))]) cx 84 rfl dX5_goesOn_82 (by decide) rfl ?_
      have join_100 : ∀ (last : Bool), (last = decide (a + n = ll)) → V X lo 10 G (Qi X lo G (fun (r : Int32) ((op1, pl1, pt1) : (Nat → Int32) × (Nat → Int32) × (Nat → Int32)) => mGoes x ll d a pv n c its m op pl pt r op1 pl1 pt1) (fun ((op1, pl1, pt1) : (Nat → Int32) × (Nat → Int32) × (Nat → Int32)) => mW G g th np nl ld ll (nI m) sp T S C F LT LS VE BA wd mo lt op1 pl1 pt1 ks ++ rs) 0 0) 0 0 (mW G g th np nl ld ll (nI m) sp T S C F LT LS VE BA wd mo lt op pl pt ks ++ rs) [(6, .int (nI (a + n))), (5, .int (nI p)), (4, .int (nI a)), (3, .int ((nI c) - (nI 1))), (2, .int (nI n)), (0, .ref (g 0)), (1, .int (nI its)), (7, .int (bI last))] [] 100 := by
        intro last hlast
        have join_165 : ∀ (b : Bool), (b = okF (lF x p) pv.isNone last) → V X lo 10 G (Qi X lo G (fun (r : Int32) ((op1, pl1, pt1) : (Nat → Int32) × (Nat → Int32) × (Nat → Int32)) => mGoes x ll d a pv n c its m op pl pt r op1 pl1 pt1) (fun ((op1, pl1, pt1) : (Nat → Int32) × (Nat → Int32) × (Nat → Int32)) => mW G g th np nl ld ll (nI m) sp T S C F LT LS VE BA wd mo lt op1 pl1 pt1 ks ++ rs) 0 0) 0 0 (mW G g th np nl ld ll (nI m) sp T S C F LT LS VE BA wd mo lt op pl pt ks ++ rs) [(6, .int (nI (a + n))), (5, .int (nI p)), (4, .int (nI a)), (3, .int ((nI c) - (nI 1))), (2, .int (nI n)), (0, .ref (g 0)), (1, .int (nI its)), (7, .int (bI last)), (9, .int (bI b))] [] 165 := by
          intro b hb
          have join_310 : ∀ (e : Nat) (b2 : Bool), (b2 = true → stp x ll d a pv n c = some (p, e)) → (b2 = false → stp x ll d a pv n c = none) → V X lo 10 G (Qi X lo G (fun (r : Int32) ((op1, pl1, pt1) : (Nat → Int32) × (Nat → Int32) × (Nat → Int32)) => mGoes x ll d a pv n c its m op pl pt r op1 pl1 pt1) (fun ((op1, pl1, pt1) : (Nat → Int32) × (Nat → Int32) × (Nat → Int32)) => mW G g th np nl ld ll (nI m) sp T S C F LT LS VE BA wd mo lt op1 pl1 pt1 ks ++ rs) 0 0) 0 0 (mW G g th np nl ld ll (nI m) sp T S C F LT LS VE BA wd mo lt op pl pt ks ++ rs) [(5, .int (nI p)), (0, .ref (g 0)), (1, .int (nI its)), (6, .int (nI e)), (9, .int (bI b2))] [] 310 := by
            intro e b2 h1 h0
            refine V_iload cx 312 rfl dX5_goesOn_310 4 rfl ?_
            refine V_if_eq cx 315 349 rfl dX5_goesOn_312 (by decide) (fun c_312 => ?_) (fun c_312 => ?_)
            · skip
              have n_312 : b2 = false := B_eq_t c_312
              refine V_iload cx 351 rfl dX5_goesOn_349 4 rfl ?_
              exact V_zreturn cx hr (by first | rfl | exact bI_z _) (op, pl, pt) (Or.inl ⟨h0 n_312, by rw [n_312], rfl, rfl, rfl⟩) rfl (by omega) (by omega) dX5_goesOn_351
            · skip
              have n_312 : b2 = true := B_eq_f c_312
              refine V_aload_n cx 316 rfl dX5_goesOn_315 1 rfl ?_
              refine GX5_43 cx 0 rfl rfl 319 rfl dX5_goesOn_316 ?_
              refine V_aload_n cx 320 rfl dX5_goesOn_319 1 rfl ?_
              refine GX5_104 cx 0 rfl rfl 323 rfl dX5_goesOn_320 ?_
              refine V_iload_n cx 324 rfl dX5_goesOn_323 2 rfl ?_
              refine V_iastN cx m (rfl) (by omega) (by decide) 12 rfl (mW G g th np nl ld ll (nI m) sp T S C F LT LS VE BA wd mo lt (upd op m (nI its)) pl pt ks ++ rs) rfl 325 rfl dX5_goesOn_324 ?_
              refine V_aload_n cx 326 rfl dX5_goesOn_325 1 rfl ?_
              refine GX5_49 cx 0 rfl rfl 329 rfl dX5_goesOn_326 ?_
              refine V_aload_n cx 330 rfl dX5_goesOn_329 1 rfl ?_
              refine GX5_104 cx 0 rfl rfl 333 rfl dX5_goesOn_330 ?_
              refine V_iload cx 335 rfl dX5_goesOn_333 0 rfl ?_
              refine V_iastN cx m (rfl) (by omega) (by decide) 14 rfl (mW G g th np nl ld ll (nI m) sp T S C F LT LS VE BA wd mo lt (upd op m (nI its)) pl (upd pt m (nI p)) ks ++ rs) rfl 336 rfl dX5_goesOn_335 ?_
              refine V_aload_n cx 337 rfl dX5_goesOn_336 1 rfl ?_
              refine GX5_46 cx 0 rfl rfl 340 rfl dX5_goesOn_337 ?_
              refine V_aload_n cx 341 rfl dX5_goesOn_340 1 rfl ?_
              refine GX5_104 cx 0 rfl rfl 344 rfl dX5_goesOn_341 ?_
              refine V_iconst (v := nI 1) cx 345 rfl dX5_goesOn_344 (by decide) ?_
              refine V_iadd cx 346 rfl dX5_goesOn_345 ?_
              refine V_toi (nI (m + 1)) (nI_add _ _) ?_
              refine V_iload cx 348 rfl dX5_goesOn_346 3 rfl ?_
              refine V_iastN cx (m + 1) (rfl) (by omega) (by decide) 13 rfl (mW G g th np nl ld ll (nI m) sp T S C F LT LS VE BA wd mo lt (upd op m (nI its)) (upd pl (m + 1) (nI e)) (upd pt m (nI p)) ks ++ rs) rfl 349 rfl dX5_goesOn_348 ?_
              refine V_iload cx 351 rfl dX5_goesOn_349 4 rfl ?_
              exact V_zreturn cx hr (by first | rfl | exact bI_z _) (upd op m (nI its), upd pl (m + 1) (nI e), upd pt m (nI p)) (Or.inr ⟨p, e, h1 n_312, by rw [n_312], rfl, rfl, rfl⟩) rfl (by omega) (by omega) dX5_goesOn_351
          refine V_iload_n cx 166 rfl dX5_goesOn_165 3 rfl ?_
          refine V_iconst (v := (-1)) cx 167 rfl dX5_goesOn_166 (by decide) ?_
          refine V_icmp_eq cx 170 310 rfl dX5_goesOn_167 (by decide) (fun c_167 => ?_) (fun c_167 => ?_)
          · skip
            have hc0 : c = 0 := lk_t (by omega) c_167
            refine V.locs [1, 5, 6, 0, 8] rfl ?_
            exact join_310 (a + n) b (by intro h; rw [stp_eq hp hv, ← hlast, ← hb, if_pos h, if_pos hc0]) (by intro h; rw [stp_eq hp hv, ← hlast, ← hb, if_neg (by rw [h]; decide)])
          · skip
            have hc0 : 0 < c := lk_f c_167
            rw [nI_subN hc0]
            have join_209 : ∀ (b1 : Bool), (b1 = true ↔ (b = true ∧ last = false ∧ c - 1 < nl ∧ lB x p (c - 1) = false)) → V X lo 10 G (Qi X lo G (fun (r : Int32) ((op1, pl1, pt1) : (Nat → Int32) × (Nat → Int32) × (Nat → Int32)) => mGoes x ll d a pv n c its m op pl pt r op1 pl1 pt1) (fun ((op1, pl1, pt1) : (Nat → Int32) × (Nat → Int32) × (Nat → Int32)) => mW G g th np nl ld ll (nI m) sp T S C F LT LS VE BA wd mo lt op1 pl1 pt1 ks ++ rs) 0 0) 0 0 (mW G g th np nl ld ll (nI m) sp T S C F LT LS VE BA wd mo lt op pl pt ks ++ rs) [(6, .int (nI (a + n))), (5, .int (nI p)), (3, .int (nI (c - 1))), (0, .ref (g 0)), (1, .int (nI its)), (9, .int (bI b1))] [] 209 := by
              intro b1 hb1
              have join_266 : ∀ (b3 : Bool), (b3 = true ↔ (b1 = true ∧ (if a + n + szN (lU x (c - 1)) ≤ ll then nI (TA d (a + n) (szN (lU x (c - 1)))) else -1) = nI (lU x (c - 1)))) → V X lo 10 G (Qi X lo G (fun (r : Int32) ((op1, pl1, pt1) : (Nat → Int32) × (Nat → Int32) × (Nat → Int32)) => mGoes x ll d a pv n c its m op pl pt r op1 pl1 pt1) (fun ((op1, pl1, pt1) : (Nat → Int32) × (Nat → Int32) × (Nat → Int32)) => mW G g th np nl ld ll (nI m) sp T S C F LT LS VE BA wd mo lt op1 pl1 pt1 ks ++ rs) 0 0) 0 0 (mW G g th np nl ld ll (nI m) sp T S C F LT LS VE BA wd mo lt op pl pt ks ++ rs) [(6, .int (nI (a + n))), (5, .int (nI p)), (3, .int (nI (c - 1))), (0, .ref (g 0)), (1, .int (nI its)), (9, .int (bI b3))] [] 266 := by
                intro b3 hb3
                refine V_iload cx 268 rfl dX5_goesOn_266 0 rfl ?_
                refine V_iload_n cx 269 rfl dX5_goesOn_268 2 rfl ?_
                refine V_aload_n cx 270 rfl dX5_goesOn_269 3 rfl ?_
                refine GX5_82 cx 0 rfl rfl 273 rfl dX5_goesOn_270 ?_
                refine V_icmp_ge cx 276 285 rfl dX5_goesOn_273 (by decide) (fun c_273 => ?_) (fun c_273 => ?_)
                · skip
                  have n_273 : c - 1 ≥ nl := N_ge_t (by omega) (by omega) c_273
                  refine V_iconst (v := nI 0) cx 286 rfl dX5_goesOn_285 (by decide) ?_
                  refine V_iadd cx 287 rfl dX5_goesOn_286 ?_
                  refine V_toi (nI (a + n)) (nI_add _ _) ?_
                  refine V_istore (lc1 := [(6, .int (nI (a + n))), (5, .int (nI p)), (3, .int (nI (c - 1))), (0, .ref (g 0)), (1, .int (nI its)), (9, .int (bI b3))]) cx 289 rfl dX5_goesOn_287 (by decide) rfl ?_
                  refine V_iload cx 291 rfl dX5_goesOn_289 5 rfl ?_
                  refine V_if_eq cx 294 307 rfl dX5_goesOn_291 (by decide) (fun c_291 => ?_) (fun c_291 => ?_)
                  · skip
                    have n_291 := B_eq_t c_291
                    try simp only [decide_eq_true_eq, decide_eq_false_iff_not] at n_291
                    refine V_iconst (v := nI 0) cx 308 rfl dX5_goesOn_307 (by decide) ?_
                    refine V_istore (lc1 := [(9, .int (nI 0)), (6, .int (nI (a + n))), (5, .int (nI p)), (3, .int (nI (c - 1))), (0, .ref (g 0)), (1, .int (nI its))]) cx 310 rfl dX5_goesOn_308 (by decide) rfl ?_
                    refine V.locs [2, 4, 5, 1, 0] rfl ?_
                    exact join_310 (a + n) false (by intro h; exact absurd h (by decide)) (by intro _; rw [stp_eq hp hv, ← hlast, ← hb]; split; (rename_i hbt; rw [if_neg (by omega), if_neg]; intro hl; obtain ⟨g1, g2, g3, g4⟩ := lkOK_iff.mp hl; first | omega | (have := hb3.mpr ⟨hb1.mpr ⟨hbt, by rw [hlast]; exact decide_eq_false (by omega), by omega, g2⟩, (txt_iff hok (by omega) hd (by omega)).mpr ⟨by omega, g4⟩⟩; rw [n_291] at this; exact absurd this (by decide))); rfl)
                  · skip
                    have n_291 := B_eq_f c_291
                    try simp only [decide_eq_true_eq, decide_eq_false_iff_not] at n_291
                    refine V_iload cx 296 rfl dX5_goesOn_294 0 rfl ?_
                    refine V_aload_n cx 297 rfl dX5_goesOn_296 3 rfl ?_
                    refine GX5_101 cx 0 rfl rfl 300 rfl dX5_goesOn_297 ?_
                    refine V_icmp_ge cx 303 307 rfl dX5_goesOn_300 (by decide) (fun c_300 => ?_) (fun c_300 => ?_)
                    · skip
                      have n_300 : a + n ≥ ll := N_ge_t (by omega) (by omega) c_300
                      refine V_iconst (v := nI 0) cx 308 rfl dX5_goesOn_307 (by decide) ?_
                      refine V_istore (lc1 := [(9, .int (nI 0)), (6, .int (nI (a + n))), (5, .int (nI p)), (3, .int (nI (c - 1))), (0, .ref (g 0)), (1, .int (nI its))]) cx 310 rfl dX5_goesOn_308 (by decide) rfl ?_
                      refine V.locs [2, 4, 5, 1, 0] rfl ?_
                      exact join_310 (a + n) false (by intro h; exact absurd h (by decide)) (by intro _; rw [stp_eq hp hv, ← hlast, ← hb]; split; (rename_i hbt; rw [if_neg (by omega), if_neg]; intro hl; obtain ⟨g1, g2, g3, g4⟩ := lkOK_iff.mp hl; first | omega | (have := hb3.mpr ⟨hb1.mpr ⟨hbt, by rw [hlast]; exact decide_eq_false (by omega), by omega, g2⟩, (txt_iff hok (by omega) hd (by omega)).mpr ⟨by omega, g4⟩⟩; rw [n_291] at this; exact absurd this (by decide))); rfl)
                    · skip
                      have n_300 : a + n < ll := N_ge_f (by omega) (by omega) c_300
                      refine V_iconst (v := nI 1) cx 304 rfl dX5_goesOn_303 (by decide) ?_
                      refine V_goto cx 308 dX5_goesOn_304 (by decide) ?_
                      refine V_istore (lc1 := [(9, .int (nI 1)), (6, .int (nI (a + n))), (5, .int (nI p)), (3, .int (nI (c - 1))), (0, .ref (g 0)), (1, .int (nI its))]) cx 310 rfl dX5_goesOn_308 (by decide) rfl ?_
                      refine V.locs [2, 4, 5, 1, 0] rfl ?_
                      exact join_310 (a + n) true (by intro _; obtain ⟨g1, g2⟩ := hb3.mp n_291; obtain ⟨q1, q2, q3, q4⟩ := hb1.mp g1; obtain ⟨t1, t2⟩ := (txt_iff hok (by omega) hd (by omega)).mp g2; rw [stp_eq hp hv, ← hlast, ← hb, if_pos q1, if_neg (by omega), if_pos (lkOK_iff.mpr ⟨by omega, q4, by omega, t2⟩)]; try (exfalso; omega)) (by intro h; exact absurd h (by decide))
                · skip
                  have n_273 : c - 1 < nl := N_ge_f (by omega) (by omega) c_273
                  obtain ⟨u1, u2, u3, u4⟩ := hok.2.2.2.2.2.2.1 (c - 1) (by omega)
                  refine V_aload_n cx 277 rfl dX5_goesOn_276 3 rfl ?_
                  refine GX5_25 cx 0 rfl rfl 280 rfl dX5_goesOn_277 ?_
                  refine V_iload_n cx 281 rfl dX5_goesOn_280 2 rfl ?_
                  refine V_ialdN cx (c - 1) (rfl) (by omega) (by decide) 6 rfl 282 rfl dX5_goesOn_281 ?_
                  refine V_toi (nI (szN (lU x (c - 1)))) (hLS (c - 1) n_273) ?_
                  refine V_goto cx 286 dX5_goesOn_282 (by decide) ?_
                  refine V_iadd cx 287 rfl dX5_goesOn_286 ?_
                  refine V_toi (nI (a + n + (szN (lU x (c - 1))))) (nI_add _ _) ?_
                  refine V_istore (lc1 := [(6, .int (nI (a + n + (szN (lU x (c - 1)))))), (5, .int (nI p)), (3, .int (nI (c - 1))), (0, .ref (g 0)), (1, .int (nI its)), (9, .int (bI b3))]) cx 289 rfl dX5_goesOn_287 (by decide) rfl ?_
                  refine V_iload cx 291 rfl dX5_goesOn_289 5 rfl ?_
                  refine V_if_eq cx 294 307 rfl dX5_goesOn_291 (by decide) (fun c_291 => ?_) (fun c_291 => ?_)
                  · skip
                    have n_291 := B_eq_t c_291
                    try simp only [decide_eq_true_eq, decide_eq_false_iff_not] at n_291
                    refine V_iconst (v := nI 0) cx 308 rfl dX5_goesOn_307 (by decide) ?_
                    refine V_istore (lc1 := [(9, .int (nI 0)), (6, .int (nI (a + n + (szN (lU x (c - 1)))))), (5, .int (nI p)), (3, .int (nI (c - 1))), (0, .ref (g 0)), (1, .int (nI its))]) cx 310 rfl dX5_goesOn_308 (by decide) rfl ?_
                    refine V.locs [2, 4, 5, 1, 0] rfl ?_
                    exact join_310 (a + n + (szN (lU x (c - 1)))) false (by intro h; exact absurd h (by decide)) (by intro _; rw [stp_eq hp hv, ← hlast, ← hb]; split; (rename_i hbt; rw [if_neg (by omega), if_neg]; intro hl; obtain ⟨g1, g2, g3, g4⟩ := lkOK_iff.mp hl; first | omega | (have := hb3.mpr ⟨hb1.mpr ⟨hbt, by rw [hlast]; exact decide_eq_false (by omega), by omega, g2⟩, (txt_iff hok (by omega) hd (by omega)).mpr ⟨by omega, g4⟩⟩; rw [n_291] at this; exact absurd this (by decide))); rfl)
                  · skip
                    have n_291 := B_eq_f c_291
                    try simp only [decide_eq_true_eq, decide_eq_false_iff_not] at n_291
                    refine V_iload cx 296 rfl dX5_goesOn_294 0 rfl ?_
                    refine V_aload_n cx 297 rfl dX5_goesOn_296 3 rfl ?_
                    refine GX5_101 cx 0 rfl rfl 300 rfl dX5_goesOn_297 ?_
                    refine V_icmp_ge cx 303 307 rfl dX5_goesOn_300 (by decide) (fun c_300 => ?_) (fun c_300 => ?_)
                    · skip
                      have n_300 : a + n + (szN (lU x (c - 1))) ≥ ll := N_ge_t (by omega) (by omega) c_300
                      refine V_iconst (v := nI 0) cx 308 rfl dX5_goesOn_307 (by decide) ?_
                      refine V_istore (lc1 := [(9, .int (nI 0)), (6, .int (nI (a + n + (szN (lU x (c - 1)))))), (5, .int (nI p)), (3, .int (nI (c - 1))), (0, .ref (g 0)), (1, .int (nI its))]) cx 310 rfl dX5_goesOn_308 (by decide) rfl ?_
                      refine V.locs [2, 4, 5, 1, 0] rfl ?_
                      exact join_310 (a + n + (szN (lU x (c - 1)))) false (by intro h; exact absurd h (by decide)) (by intro _; rw [stp_eq hp hv, ← hlast, ← hb]; split; (rename_i hbt; rw [if_neg (by omega), if_neg]; intro hl; obtain ⟨g1, g2, g3, g4⟩ := lkOK_iff.mp hl; first | omega | (have := hb3.mpr ⟨hb1.mpr ⟨hbt, by rw [hlast]; exact decide_eq_false (by omega), by omega, g2⟩, (txt_iff hok (by omega) hd (by omega)).mpr ⟨by omega, g4⟩⟩; rw [n_291] at this; exact absurd this (by decide))); rfl)
                    · skip
                      have n_300 : a + n + (szN (lU x (c - 1))) < ll := N_ge_f (by omega) (by omega) c_300
                      refine V_iconst (v := nI 1) cx 304 rfl dX5_goesOn_303 (by decide) ?_
                      refine V_goto cx 308 dX5_goesOn_304 (by decide) ?_
                      refine V_istore (lc1 := [(9, .int (nI 1)), (6, .int (nI (a + n + (szN (lU x (c - 1)))))), (5, .int (nI p)), (3, .int (nI (c - 1))), (0, .ref (g 0)), (1, .int (nI its))]) cx 310 rfl dX5_goesOn_308 (by decide) rfl ?_
                      refine V.locs [2, 4, 5, 1, 0] rfl ?_
                      exact join_310 (a + n + (szN (lU x (c - 1)))) true (by intro _; obtain ⟨g1, g2⟩ := hb3.mp n_291; obtain ⟨q1, q2, q3, q4⟩ := hb1.mp g1; obtain ⟨t1, t2⟩ := (txt_iff hok (by omega) hd (by omega)).mp g2; rw [stp_eq hp hv, ← hlast, ← hb, if_pos q1, if_neg (by omega), if_pos (lkOK_iff.mpr ⟨by omega, q4, by omega, t2⟩)]; try (exfalso; omega)) (by intro h; exact absurd h (by decide))
              refine V_iload cx 211 rfl dX5_goesOn_209 5 rfl ?_
              refine V_if_eq cx 214 263 rfl dX5_goesOn_211 (by decide) (fun c_211 => ?_) (fun c_211 => ?_)
              · skip
                have n_211 : b1 = false := B_eq_t c_211
                refine V_iconst (v := nI 0) cx 264 rfl dX5_goesOn_263 (by decide) ?_
                refine V_istore (lc1 := [(9, .int (nI 0)), (6, .int (nI (a + n))), (5, .int (nI p)), (3, .int (nI (c - 1))), (0, .ref (g 0)), (1, .int (nI its))]) cx 266 rfl dX5_goesOn_264 (by decide) rfl ?_
                refine V.locs [1, 2, 3, 4, 5, 0] rfl ?_
                exact join_266 false (by exact ⟨fun h => absurd h (by decide), fun h => by first | (rw [n_211] at h; exact absurd h.1 (by decide)) | exact absurd h.2 c_256⟩)
              · skip
                have n_211 : b1 = true := B_eq_f c_211
                obtain ⟨q1, q2, q3, q4⟩ := hb1.mp n_211
                obtain ⟨u1, u2, u3, u4⟩ := hok.2.2.2.2.2.2.1 (c - 1) (by omega)
                have u5 := hok.u (show c - 1 < lNl x by omega)
                refine V_aload_n cx 215 rfl dX5_goesOn_214 3 rfl ?_
                refine V_iload cx 217 rfl dX5_goesOn_215 0 rfl ?_
                refine V_aload_n cx 218 rfl dX5_goesOn_217 3 rfl ?_
                refine GX5_25 cx 0 rfl rfl 221 rfl dX5_goesOn_218 ?_
                refine V_iload_n cx 222 rfl dX5_goesOn_221 2 rfl ?_
                refine V_aload_n cx 223 rfl dX5_goesOn_222 3 rfl ?_
                refine GX5_82 cx 0 rfl rfl 226 rfl dX5_goesOn_223 ?_
                refine V_icmp_ge cx 229 233 rfl dX5_goesOn_226 (by decide) (fun c_226 => ?_) (fun c_226 => ?_)
                · skip
                  have n_226 : c - 1 ≥ nl := N_ge_t (by omega) (by omega) c_226
                  omega
                · skip
                  have n_226 : c - 1 < nl := N_ge_f (by omega) (by omega) c_226
                  refine V_iload_n cx 230 rfl dX5_goesOn_229 2 rfl ?_
                  refine V_goto cx 234 dX5_goesOn_230 (by decide) ?_
                  refine V_ialdN cx (c - 1) (rfl) (by omega) (by decide) 6 rfl 235 rfl dX5_goesOn_234 ?_
                  refine V_toi (nI (szN (lU x (c - 1)))) (hLS (c - 1) q3) ?_
                  refine KX5_107 (As := [.int (nI (a + n)), .int (nI (szN (lU x (c - 1))))]) (rest := []) cx (kX5_textAt (xl X) lo G _ g th np nl ld ll (nI m) sp T S C F LT LS VE BA wd mo lt op pl pt ks (a + n) (szN (lU x (c - 1))) d (by omega) hlt hd (by omega) (by omega)) hX (by omega) 0 rfl rfl rfl (Nat.le_of_ble_eq_true rfl) 238 0 0 rfl rfl rfl (by omega) (by omega) dX5_goesOn_235 (fun r_7 u_8 hw_9 => ?_)
                  try dsimp only at hw_9
                  subst hw_9
                  refine V_aload_n cx 239 rfl dX5_goesOn_238 3 rfl ?_
                  refine GX5_22 cx 0 rfl rfl 242 rfl dX5_goesOn_239 ?_
                  refine V_iload_n cx 243 rfl dX5_goesOn_242 2 rfl ?_
                  refine V_aload_n cx 244 rfl dX5_goesOn_243 3 rfl ?_
                  refine GX5_82 cx 0 rfl rfl 247 rfl dX5_goesOn_244 ?_
                  refine V_icmp_ge cx 250 254 rfl dX5_goesOn_247 (by decide) (fun c_247 => ?_) (fun c_247 => ?_)
                  · skip
                    have n_247 : c - 1 ≥ nl := N_ge_t (by omega) (by omega) c_247
                    omega
                  · skip
                    have n_247 : c - 1 < nl := N_ge_f (by omega) (by omega) c_247
                    refine V_iload_n cx 251 rfl dX5_goesOn_250 2 rfl ?_
                    refine V_goto cx 255 dX5_goesOn_251 (by decide) ?_
                    refine V_ialdN cx (c - 1) (rfl) (by omega) (by decide) 5 rfl 256 rfl dX5_goesOn_255 ?_
                    refine V_toi (nI (lU x (c - 1))) (hLT (c - 1) q3) ?_
                    refine V_icmp_ne cx 259 263 rfl dX5_goesOn_256 (by decide) (fun c_256 => ?_) (fun c_256 => ?_)
                    · skip
                      refine V_iconst (v := nI 0) cx 264 rfl dX5_goesOn_263 (by decide) ?_
                      refine V_istore (lc1 := [(9, .int (nI 0)), (6, .int (nI (a + n))), (5, .int (nI p)), (3, .int (nI (c - 1))), (0, .ref (g 0)), (1, .int (nI its))]) cx 266 rfl dX5_goesOn_264 (by decide) rfl ?_
                      refine V.locs [1, 2, 3, 4, 5, 0] rfl ?_
                      exact join_266 false (by exact ⟨fun h => absurd h (by decide), fun h => by first | (rw [n_211] at h; exact absurd h.1 (by decide)) | exact absurd h.2 c_256⟩)
                    · skip
                      refine V_iconst (v := nI 1) cx 260 rfl dX5_goesOn_259 (by decide) ?_
                      refine V_goto cx 264 dX5_goesOn_260 (by decide) ?_
                      refine V_istore (lc1 := [(9, .int (nI 1)), (6, .int (nI (a + n))), (5, .int (nI p)), (3, .int (nI (c - 1))), (0, .ref (g 0)), (1, .int (nI its))]) cx 266 rfl dX5_goesOn_264 (by decide) rfl ?_
                      refine V.locs [1, 2, 3, 4, 5, 0] rfl ?_
                      exact join_266 true (by exact ⟨fun _ => ⟨n_211, c_256⟩, fun _ => rfl⟩)
            refine V_iload cx 172 rfl dX5_goesOn_170 8 rfl ?_
            refine V_if_eq cx 175 206 rfl dX5_goesOn_172 (by decide) (fun c_172 => ?_) (fun c_172 => ?_)
            · skip
              have n_172 := B_eq_t c_172
              try simp only [decide_eq_true_eq, decide_eq_false_iff_not] at n_172
              refine V_iconst (v := nI 0) cx 207 rfl dX5_goesOn_206 (by decide) ?_
              refine V_istore (lc1 := [(9, .int (nI 0)), (6, .int (nI (a + n))), (5, .int (nI p)), (4, .int (nI a)), (3, .int (nI (c - 1))), (2, .int (nI n)), (0, .ref (g 0)), (1, .int (nI its)), (7, .int (bI last))]) cx 209 rfl dX5_goesOn_207 (by decide) rfl ?_
              refine V.locs [1, 2, 4, 6, 7, 0] rfl ?_
              exact join_209 false (by exact ⟨fun h => absurd h (by decide), fun h => by first | (rw [n_172] at h; exact absurd h.1 (by decide)) | (rw [n_177] at h; exact absurd h.2.1 (by decide)) | (exfalso; have := h.2.2.1; omega) | (rw [hbb] at h; exact absurd h.2.2.2 (by decide))⟩)
            · skip
              have n_172 := B_eq_f c_172
              try simp only [decide_eq_true_eq, decide_eq_false_iff_not] at n_172
              refine V_iload cx 177 rfl dX5_goesOn_175 7 rfl ?_
              refine V_if_ne cx 180 206 rfl dX5_goesOn_177 (by decide) (fun c_177 => ?_) (fun c_177 => ?_)
              · skip
                have n_177 := B_ne_t c_177
                try simp only [decide_eq_true_eq, decide_eq_false_iff_not] at n_177
                refine V_iconst (v := nI 0) cx 207 rfl dX5_goesOn_206 (by decide) ?_
                refine V_istore (lc1 := [(9, .int (nI 0)), (6, .int (nI (a + n))), (5, .int (nI p)), (4, .int (nI a)), (3, .int (nI (c - 1))), (2, .int (nI n)), (0, .ref (g 0)), (1, .int (nI its)), (7, .int (bI last))]) cx 209 rfl dX5_goesOn_207 (by decide) rfl ?_
                refine V.locs [1, 2, 4, 6, 7, 0] rfl ?_
                exact join_209 false (by exact ⟨fun h => absurd h (by decide), fun h => by first | (rw [n_172] at h; exact absurd h.1 (by decide)) | (rw [n_177] at h; exact absurd h.2.1 (by decide)) | (exfalso; have := h.2.2.1; omega) | (rw [hbb] at h; exact absurd h.2.2.2 (by decide))⟩)
              · skip
                have n_177 := B_ne_f c_177
                try simp only [decide_eq_true_eq, decide_eq_false_iff_not] at n_177
                refine V_iload_n cx 181 rfl dX5_goesOn_180 3 rfl ?_
                refine V_aload_n cx 182 rfl dX5_goesOn_181 5 rfl ?_
                refine GX5_82 cx 0 rfl rfl 185 rfl dX5_goesOn_182 ?_
                refine V_icmp_ge cx 188 206 rfl dX5_goesOn_185 (by decide) (fun c_185 => ?_) (fun c_185 => ?_)
                · skip
                  have n_185 : c - 1 ≥ nl := N_ge_t (by omega) (by omega) c_185
                  refine V_iconst (v := nI 0) cx 207 rfl dX5_goesOn_206 (by decide) ?_
                  refine V_istore (lc1 := [(9, .int (nI 0)), (6, .int (nI (a + n))), (5, .int (nI p)), (4, .int (nI a)), (3, .int (nI (c - 1))), (2, .int (nI n)), (0, .ref (g 0)), (1, .int (nI its)), (7, .int (bI last))]) cx 209 rfl dX5_goesOn_207 (by decide) rfl ?_
                  refine V.locs [1, 2, 4, 6, 7, 0] rfl ?_
                  exact join_209 false (by exact ⟨fun h => absurd h (by decide), fun h => by first | (rw [n_172] at h; exact absurd h.1 (by decide)) | (rw [n_177] at h; exact absurd h.2.1 (by decide)) | (exfalso; have := h.2.2.1; omega) | (rw [hbb] at h; exact absurd h.2.2.2 (by decide))⟩)
                · skip
                  have n_185 : c - 1 < nl := N_ge_f (by omega) (by omega) c_185
                  refine V_aload_n cx 189 rfl dX5_goesOn_188 5 rfl ?_
                  refine GX5_31 cx 0 rfl rfl 192 rfl dX5_goesOn_189 ?_
                  refine V_iload cx 194 rfl dX5_goesOn_192 1 rfl ?_
                  refine V_ialdN cx p (rfl) (by omega) (by decide) 8 rfl 195 rfl dX5_goesOn_194 ?_
                  refine V_iload_n cx 196 rfl dX5_goesOn_195 3 rfl ?_
                  refine V_ishr cx 197 rfl dX5_goesOn_196 ?_
                  refine V_iconst (v := nI 1) cx 198 rfl dX5_goesOn_197 (by decide) ?_
                  refine V_iand cx 199 rfl dX5_goesOn_198 ?_
                  refine V_if_ne cx 202 206 rfl dX5_goesOn_199 (by decide) (fun c_199 => ?_) (fun c_199 => ?_)
                  · skip
                    have hbb : lB x p (c - 1) = true := (hBA p (c - 1) hpn n_185).symm.trans (bit_n0 c_199)
                    refine V_iconst (v := nI 0) cx 207 rfl dX5_goesOn_206 (by decide) ?_
                    refine V_istore (lc1 := [(9, .int (nI 0)), (6, .int (nI (a + n))), (5, .int (nI p)), (4, .int (nI a)), (3, .int (nI (c - 1))), (2, .int (nI n)), (0, .ref (g 0)), (1, .int (nI its)), (7, .int (bI last))]) cx 209 rfl dX5_goesOn_207 (by decide) rfl ?_
                    refine V.locs [1, 2, 4, 6, 7, 0] rfl ?_
                    exact join_209 false (by exact ⟨fun h => absurd h (by decide), fun h => by first | (rw [n_172] at h; exact absurd h.1 (by decide)) | (rw [n_177] at h; exact absurd h.2.1 (by decide)) | (exfalso; have := h.2.2.1; omega) | (rw [hbb] at h; exact absurd h.2.2.2 (by decide))⟩)
                  · skip
                    have hbb : lB x p (c - 1) = false := (hBA p (c - 1) hpn n_185).symm.trans (bit_0 c_199)
                    refine V_iconst (v := nI 1) cx 203 rfl dX5_goesOn_202 (by decide) ?_
                    refine V_goto cx 207 dX5_goesOn_203 (by decide) ?_
                    refine V_istore (lc1 := [(9, .int (nI 1)), (6, .int (nI (a + n))), (5, .int (nI p)), (4, .int (nI a)), (3, .int (nI (c - 1))), (2, .int (nI n)), (0, .ref (g 0)), (1, .int (nI its)), (7, .int (bI last))]) cx 209 rfl dX5_goesOn_207 (by decide) rfl ?_
                    refine V.locs [1, 2, 4, 6, 7, 0] rfl ?_
                    exact join_209 true (by exact ⟨fun _ => ⟨n_172, n_177, n_185, hbb⟩, fun _ => rfl⟩)
        refine V_aload_n cx 101 rfl dX5_goesOn_100 5 rfl ?_
        refine GX5_104 cx 0 rfl rfl 104 rfl dX5_goesOn_101 ?_
        refine V_if_ne cx 107 111 rfl dX5_goesOn_104 (by decide) (fun c_104 => ?_) (fun c_104 => ?_)
        · skip
          have n_104 : m ≠ 0 := Z_ne_t (by omega) c_104
          have hni : pv.isNone = false := by rcases hpv with h | h; (exact absurd h.1 n_104); (obtain ⟨_, q, _, _, h⟩ := h; rw [h]; rfl)
          refine V_iconst (v := nI 0) cx 112 rfl dX5_goesOn_111 (by decide) ?_
          refine V_iload cx 114 rfl dX5_goesOn_112 7 rfl ?_
          refine V_if_eq cx 117 121 rfl dX5_goesOn_114 (by decide) (fun c_114 => ?_) (fun c_114 => ?_)
          · skip
            have n_114 : last = false := B_eq_t c_114
            refine V_iconst (v := nI 0) cx 122 rfl dX5_goesOn_121 (by decide) ?_
            refine V_ior cx 123 rfl dX5_goesOn_122 ?_
            refine V_toi (nI 0) (nI_orN _ _) ?_
            refine V_aload_n cx 124 rfl dX5_goesOn_123 5 rfl ?_
            refine GX5_104 cx 0 rfl rfl 127 rfl dX5_goesOn_124 ?_
            refine V_if_le cx 130 139 rfl dX5_goesOn_127 (by decide) (fun c_127 => ?_) (fun c_127 => ?_)
            · skip
              have n_127 : m ≤ 0 := Z_le_t (by omega) c_127
              omega
            · skip
              have n_127 : m > 0 := Z_le_f (by omega) c_127
              refine V_iload cx 132 rfl dX5_goesOn_130 7 rfl ?_
              refine V_if_ne cx 135 139 rfl dX5_goesOn_132 (by decide) (fun c_132 => ?_) (fun c_132 => ?_)
              · skip
                have n_132 : last = true := B_ne_t c_132
                exact absurd (n_114.symm.trans n_132) (by decide)
              · skip
                refine V_iconst (v := nI 2) cx 136 rfl dX5_goesOn_135 (by decide) ?_
                refine V_goto cx 140 dX5_goesOn_136 (by decide) ?_
                refine V_ior cx 141 rfl dX5_goesOn_140 ?_
                refine V_toi (nI 2) (nI_orN _ _) ?_
                refine V_istore (lc1 := [(8, .int (nI 2)), (6, .int (nI (a + n))), (5, .int (nI p)), (4, .int (nI a)), (3, .int ((nI c) - (nI 1))), (2, .int (nI n)), (0, .ref (g 0)), (1, .int (nI its)), (7, .int (bI last))]) cx 143 rfl dX5_goesOn_141 (by decide) rfl ?_
                refine V_aload_n cx 144 rfl dX5_goesOn_143 6 rfl ?_
                refine GX5_19 cx 0 rfl rfl 147 rfl dX5_goesOn_144 ?_
                refine V_iload cx 149 rfl dX5_goesOn_147 2 rfl ?_
                refine V_ialdN cx p (rfl) (by omega) (by decide) 4 rfl 150 rfl dX5_goesOn_149 ?_
                refine V_toi (nI (lF x p)) (hF p hpn) ?_
                refine V_iload cx 152 rfl dX5_goesOn_150 0 rfl ?_
                refine V_iand cx 153 rfl dX5_goesOn_152 ?_
                refine V_toi (nI ((lF x p) &&& 2)) (nI_andN _ _) ?_
                refine V_iload cx 155 rfl dX5_goesOn_153 0 rfl ?_
                refine V_icmp_ne cx 158 162 rfl dX5_goesOn_155 (by decide) (fun c_155 => ?_) (fun c_155 => ?_)
                · skip
                  have n_155 : (lF x p) &&& 2 ≠ 2 := N_ne_t (by exact Nat.lt_of_le_of_lt Nat.and_le_right (by decide)) (by omega) c_155
                  refine V_iconst (v := nI 0) cx 163 rfl dX5_goesOn_162 (by decide) ?_
                  refine V_istore (lc1 := [(9, .int (nI 0)), (8, .int (nI 2)), (6, .int (nI (a + n))), (5, .int (nI p)), (4, .int (nI a)), (3, .int ((nI c) - (nI 1))), (2, .int (nI n)), (0, .ref (g 0)), (1, .int (nI its)), (7, .int (bI last))]) cx 165 rfl dX5_goesOn_163 (by decide) rfl ?_
                  refine V.locs [2, 3, 4, 5, 6, 7, 8, 9, 0] rfl ?_
                  exact join_165 false (by rw [hni, n_114]; exact (decide_eq_false n_155).symm)
                · skip
                  have n_155 : (lF x p) &&& 2 = 2 := N_ne_f (by exact Nat.lt_of_le_of_lt Nat.and_le_right (by decide)) (by omega) c_155
                  refine V_iconst (v := nI 1) cx 159 rfl dX5_goesOn_158 (by decide) ?_
                  refine V_goto cx 163 dX5_goesOn_159 (by decide) ?_
                  refine V_istore (lc1 := [(9, .int (nI 1)), (8, .int (nI 2)), (6, .int (nI (a + n))), (5, .int (nI p)), (4, .int (nI a)), (3, .int ((nI c) - (nI 1))), (2, .int (nI n)), (0, .ref (g 0)), (1, .int (nI its)), (7, .int (bI last))]) cx 165 rfl dX5_goesOn_163 (by decide) rfl ?_
                  refine V.locs [2, 3, 4, 5, 6, 7, 8, 9, 0] rfl ?_
                  exact join_165 true (by rw [hni, n_114]; exact (decide_eq_true n_155).symm)
          · skip
            have n_114 : last = true := B_eq_f c_114
            refine V_iconst (v := nI 4) cx 118 rfl dX5_goesOn_117 (by decide) ?_
            refine V_goto cx 122 dX5_goesOn_118 (by decide) ?_
            refine V_ior cx 123 rfl dX5_goesOn_122 ?_
            refine V_toi (nI 4) (nI_orN _ _) ?_
            refine V_aload_n cx 124 rfl dX5_goesOn_123 5 rfl ?_
            refine GX5_104 cx 0 rfl rfl 127 rfl dX5_goesOn_124 ?_
            refine V_if_le cx 130 139 rfl dX5_goesOn_127 (by decide) (fun c_127 => ?_) (fun c_127 => ?_)
            · skip
              have n_127 : m ≤ 0 := Z_le_t (by omega) c_127
              omega
            · skip
              have n_127 : m > 0 := Z_le_f (by omega) c_127
              refine V_iload cx 132 rfl dX5_goesOn_130 7 rfl ?_
              refine V_if_ne cx 135 139 rfl dX5_goesOn_132 (by decide) (fun c_132 => ?_) (fun c_132 => ?_)
              · skip
                refine V_iconst (v := nI 0) cx 140 rfl dX5_goesOn_139 (by decide) ?_
                refine V_ior cx 141 rfl dX5_goesOn_140 ?_
                refine V_toi (nI 4) (nI_orN _ _) ?_
                refine V_istore (lc1 := [(8, .int (nI 4)), (6, .int (nI (a + n))), (5, .int (nI p)), (4, .int (nI a)), (3, .int ((nI c) - (nI 1))), (2, .int (nI n)), (0, .ref (g 0)), (1, .int (nI its)), (7, .int (bI last))]) cx 143 rfl dX5_goesOn_141 (by decide) rfl ?_
                refine V_aload_n cx 144 rfl dX5_goesOn_143 6 rfl ?_
                refine GX5_19 cx 0 rfl rfl 147 rfl dX5_goesOn_144 ?_
                refine V_iload cx 149 rfl dX5_goesOn_147 2 rfl ?_
                refine V_ialdN cx p (rfl) (by omega) (by decide) 4 rfl 150 rfl dX5_goesOn_149 ?_
                refine V_toi (nI (lF x p)) (hF p hpn) ?_
                refine V_iload cx 152 rfl dX5_goesOn_150 0 rfl ?_
                refine V_iand cx 153 rfl dX5_goesOn_152 ?_
                refine V_toi (nI ((lF x p) &&& 4)) (nI_andN _ _) ?_
                refine V_iload cx 155 rfl dX5_goesOn_153 0 rfl ?_
                refine V_icmp_ne cx 158 162 rfl dX5_goesOn_155 (by decide) (fun c_155 => ?_) (fun c_155 => ?_)
                · skip
                  have n_155 : (lF x p) &&& 4 ≠ 4 := N_ne_t (by exact Nat.lt_of_le_of_lt Nat.and_le_right (by decide)) (by omega) c_155
                  refine V_iconst (v := nI 0) cx 163 rfl dX5_goesOn_162 (by decide) ?_
                  refine V_istore (lc1 := [(9, .int (nI 0)), (8, .int (nI 4)), (6, .int (nI (a + n))), (5, .int (nI p)), (4, .int (nI a)), (3, .int ((nI c) - (nI 1))), (2, .int (nI n)), (0, .ref (g 0)), (1, .int (nI its)), (7, .int (bI last))]) cx 165 rfl dX5_goesOn_163 (by decide) rfl ?_
                  refine V.locs [2, 3, 4, 5, 6, 7, 8, 9, 0] rfl ?_
                  exact join_165 false (by rw [hni, n_114]; exact (decide_eq_false n_155).symm)
                · skip
                  have n_155 : (lF x p) &&& 4 = 4 := N_ne_f (by exact Nat.lt_of_le_of_lt Nat.and_le_right (by decide)) (by omega) c_155
                  refine V_iconst (v := nI 1) cx 159 rfl dX5_goesOn_158 (by decide) ?_
                  refine V_goto cx 163 dX5_goesOn_159 (by decide) ?_
                  refine V_istore (lc1 := [(9, .int (nI 1)), (8, .int (nI 4)), (6, .int (nI (a + n))), (5, .int (nI p)), (4, .int (nI a)), (3, .int ((nI c) - (nI 1))), (2, .int (nI n)), (0, .ref (g 0)), (1, .int (nI its)), (7, .int (bI last))]) cx 165 rfl dX5_goesOn_163 (by decide) rfl ?_
                  refine V.locs [2, 3, 4, 5, 6, 7, 8, 9, 0] rfl ?_
                  exact join_165 true (by rw [hni, n_114]; exact (decide_eq_true n_155).symm)
              · skip
                have n_132 : last = false := B_ne_f c_132
                exact absurd (n_114.symm.trans n_132) (by decide)
        · skip
          have n_104 : m = 0 := Z_ne_f (by omega) c_104
          have hni : pv.isNone = true := by rcases hpv with h | h; (rw [h.2]; rfl); (exact absurd h.1 (by omega))
          refine V_iconst (v := nI 1) cx 108 rfl dX5_goesOn_107 (by decide) ?_
          refine V_goto cx 112 dX5_goesOn_108 (by decide) ?_
          refine V_iload cx 114 rfl dX5_goesOn_112 7 rfl ?_
          refine V_if_eq cx 117 121 rfl dX5_goesOn_114 (by decide) (fun c_114 => ?_) (fun c_114 => ?_)
          · skip
            have n_114 : last = false := B_eq_t c_114
            refine V_iconst (v := nI 0) cx 122 rfl dX5_goesOn_121 (by decide) ?_
            refine V_ior cx 123 rfl dX5_goesOn_122 ?_
            refine V_toi (nI 1) (nI_orN _ _) ?_
            refine V_aload_n cx 124 rfl dX5_goesOn_123 5 rfl ?_
            refine GX5_104 cx 0 rfl rfl 127 rfl dX5_goesOn_124 ?_
            refine V_if_le cx 130 139 rfl dX5_goesOn_127 (by decide) (fun c_127 => ?_) (fun c_127 => ?_)
            · skip
              have n_127 : m ≤ 0 := Z_le_t (by omega) c_127
              refine V_iconst (v := nI 0) cx 140 rfl dX5_goesOn_139 (by decide) ?_
              refine V_ior cx 141 rfl dX5_goesOn_140 ?_
              refine V_toi (nI 1) (nI_orN _ _) ?_
              refine V_istore (lc1 := [(8, .int (nI 1)), (6, .int (nI (a + n))), (5, .int (nI p)), (4, .int (nI a)), (3, .int ((nI c) - (nI 1))), (2, .int (nI n)), (0, .ref (g 0)), (1, .int (nI its)), (7, .int (bI last))]) cx 143 rfl dX5_goesOn_141 (by decide) rfl ?_
              refine V_aload_n cx 144 rfl dX5_goesOn_143 6 rfl ?_
              refine GX5_19 cx 0 rfl rfl 147 rfl dX5_goesOn_144 ?_
              refine V_iload cx 149 rfl dX5_goesOn_147 2 rfl ?_
              refine V_ialdN cx p (rfl) (by omega) (by decide) 4 rfl 150 rfl dX5_goesOn_149 ?_
              refine V_toi (nI (lF x p)) (hF p hpn) ?_
              refine V_iload cx 152 rfl dX5_goesOn_150 0 rfl ?_
              refine V_iand cx 153 rfl dX5_goesOn_152 ?_
              refine V_toi (nI ((lF x p) &&& 1)) (nI_andN _ _) ?_
              refine V_iload cx 155 rfl dX5_goesOn_153 0 rfl ?_
              refine V_icmp_ne cx 158 162 rfl dX5_goesOn_155 (by decide) (fun c_155 => ?_) (fun c_155 => ?_)
              · skip
                have n_155 : (lF x p) &&& 1 ≠ 1 := N_ne_t (by exact Nat.lt_of_le_of_lt Nat.and_le_right (by decide)) (by omega) c_155
                refine V_iconst (v := nI 0) cx 163 rfl dX5_goesOn_162 (by decide) ?_
                refine V_istore (lc1 := [(9, .int (nI 0)), (8, .int (nI 1)), (6, .int (nI (a + n))), (5, .int (nI p)), (4, .int (nI a)), (3, .int ((nI c) - (nI 1))), (2, .int (nI n)), (0, .ref (g 0)), (1, .int (nI its)), (7, .int (bI last))]) cx 165 rfl dX5_goesOn_163 (by decide) rfl ?_
                refine V.locs [2, 3, 4, 5, 6, 7, 8, 9, 0] rfl ?_
                exact join_165 false (by rw [hni, n_114]; exact (decide_eq_false n_155).symm)
              · skip
                have n_155 : (lF x p) &&& 1 = 1 := N_ne_f (by exact Nat.lt_of_le_of_lt Nat.and_le_right (by decide)) (by omega) c_155
                refine V_iconst (v := nI 1) cx 159 rfl dX5_goesOn_158 (by decide) ?_
                refine V_goto cx 163 dX5_goesOn_159 (by decide) ?_
                refine V_istore (lc1 := [(9, .int (nI 1)), (8, .int (nI 1)), (6, .int (nI (a + n))), (5, .int (nI p)), (4, .int (nI a)), (3, .int ((nI c) - (nI 1))), (2, .int (nI n)), (0, .ref (g 0)), (1, .int (nI its)), (7, .int (bI last))]) cx 165 rfl dX5_goesOn_163 (by decide) rfl ?_
                refine V.locs [2, 3, 4, 5, 6, 7, 8, 9, 0] rfl ?_
                exact join_165 true (by rw [hni, n_114]; exact (decide_eq_true n_155).symm)
            · skip
              have n_127 : m > 0 := Z_le_f (by omega) c_127
              omega
          · skip
            have n_114 : last = true := B_eq_f c_114
            refine V_iconst (v := nI 4) cx 118 rfl dX5_goesOn_117 (by decide) ?_
            refine V_goto cx 122 dX5_goesOn_118 (by decide) ?_
            refine V_ior cx 123 rfl dX5_goesOn_122 ?_
            refine V_toi (nI 5) (nI_orN _ _) ?_
            refine V_aload_n cx 124 rfl dX5_goesOn_123 5 rfl ?_
            refine GX5_104 cx 0 rfl rfl 127 rfl dX5_goesOn_124 ?_
            refine V_if_le cx 130 139 rfl dX5_goesOn_127 (by decide) (fun c_127 => ?_) (fun c_127 => ?_)
            · skip
              have n_127 : m ≤ 0 := Z_le_t (by omega) c_127
              refine V_iconst (v := nI 0) cx 140 rfl dX5_goesOn_139 (by decide) ?_
              refine V_ior cx 141 rfl dX5_goesOn_140 ?_
              refine V_toi (nI 5) (nI_orN _ _) ?_
              refine V_istore (lc1 := [(8, .int (nI 5)), (6, .int (nI (a + n))), (5, .int (nI p)), (4, .int (nI a)), (3, .int ((nI c) - (nI 1))), (2, .int (nI n)), (0, .ref (g 0)), (1, .int (nI its)), (7, .int (bI last))]) cx 143 rfl dX5_goesOn_141 (by decide) rfl ?_
              refine V_aload_n cx 144 rfl dX5_goesOn_143 6 rfl ?_
              refine GX5_19 cx 0 rfl rfl 147 rfl dX5_goesOn_144 ?_
              refine V_iload cx 149 rfl dX5_goesOn_147 2 rfl ?_
              refine V_ialdN cx p (rfl) (by omega) (by decide) 4 rfl 150 rfl dX5_goesOn_149 ?_
              refine V_toi (nI (lF x p)) (hF p hpn) ?_
              refine V_iload cx 152 rfl dX5_goesOn_150 0 rfl ?_
              refine V_iand cx 153 rfl dX5_goesOn_152 ?_
              refine V_toi (nI ((lF x p) &&& 5)) (nI_andN _ _) ?_
              refine V_iload cx 155 rfl dX5_goesOn_153 0 rfl ?_
              refine V_icmp_ne cx 158 162 rfl dX5_goesOn_155 (by decide) (fun c_155 => ?_) (fun c_155 => ?_)
              · skip
                have n_155 : (lF x p) &&& 5 ≠ 5 := N_ne_t (by exact Nat.lt_of_le_of_lt Nat.and_le_right (by decide)) (by omega) c_155
                refine V_iconst (v := nI 0) cx 163 rfl dX5_goesOn_162 (by decide) ?_
                refine V_istore (lc1 := [(9, .int (nI 0)), (8, .int (nI 5)), (6, .int (nI (a + n))), (5, .int (nI p)), (4, .int (nI a)), (3, .int ((nI c) - (nI 1))), (2, .int (nI n)), (0, .ref (g 0)), (1, .int (nI its)), (7, .int (bI last))]) cx 165 rfl dX5_goesOn_163 (by decide) rfl ?_
                refine V.locs [2, 3, 4, 5, 6, 7, 8, 9, 0] rfl ?_
                exact join_165 false (by rw [hni, n_114]; exact (decide_eq_false n_155).symm)
              · skip
                have n_155 : (lF x p) &&& 5 = 5 := N_ne_f (by exact Nat.lt_of_le_of_lt Nat.and_le_right (by decide)) (by omega) c_155
                refine V_iconst (v := nI 1) cx 159 rfl dX5_goesOn_158 (by decide) ?_
                refine V_goto cx 163 dX5_goesOn_159 (by decide) ?_
                refine V_istore (lc1 := [(9, .int (nI 1)), (8, .int (nI 5)), (6, .int (nI (a + n))), (5, .int (nI p)), (4, .int (nI a)), (3, .int ((nI c) - (nI 1))), (2, .int (nI n)), (0, .ref (g 0)), (1, .int (nI its)), (7, .int (bI last))]) cx 165 rfl dX5_goesOn_163 (by decide) rfl ?_
                refine V.locs [2, 3, 4, 5, 6, 7, 8, 9, 0] rfl ?_
                exact join_165 true (by rw [hni, n_114]; exact (decide_eq_true n_155).symm)
            · skip
              have n_127 : m > 0 := Z_le_f (by omega) c_127
              omega
      refine V_iload cx 86 rfl dX5_goesOn_84 0 rfl ?_
      refine V_aload_n cx 87 rfl dX5_goesOn_86 5 rfl ?_
      refine GX5_101 cx 0 rfl rfl 90 rfl dX5_goesOn_87 ?_
      refine V_icmp_ne cx 93 97 rfl dX5_goesOn_90 (by decide) (fun c_90 => ?_) (fun c_90 => ?_)
      · skip
        have n_90 : a + n ≠ ll := N_ne_t (by omega) (by omega) c_90
        refine V_iconst (v := nI 0) cx 98 rfl dX5_goesOn_97 (by decide) ?_
        refine V_istore (lc1 := [(7, .int (nI 0)), (6, .int (nI (a + n))), (5, .int (nI p)), (4, .int (nI a)), (3, .int ((nI c) - (nI 1))), (2, .int (nI n)), (0, .ref (g 0)), (1, .int (nI its))]) cx 100 rfl dX5_goesOn_98 (by decide) rfl ?_
        refine V.locs [1, 2, 3, 4, 5, 6, 7, 0] rfl ?_
        exact join_100 false (by exact (decide_eq_false n_90).symm)
      · skip
        have n_90 : a + n = ll := N_ne_f (by omega) (by omega) c_90
        refine V_iconst (v := nI 1) cx 94 rfl dX5_goesOn_93 (by decide) ?_
        refine V_goto cx 98 dX5_goesOn_94 (by decide) ?_
        refine V_istore (lc1 := [(7, .int (nI 1)), (6, .int (nI (a + n))), (5, .int (nI p)), (4, .int (nI a)), (3, .int ((nI c) - (nI 1))), (2, .int (nI n)), (0, .ref (g 0)), (1, .int (nI its))]) cx 100 rfl dX5_goesOn_98 (by decide) rfl ?_
        refine V.locs [1, 2, 3, 4, 5, 6, 7, 0] rfl ?_
        exact join_100 true (by exact (decide_eq_true n_90).symm)
    refine V_aload_n cx 45 rfl dX5_goesOn_44 4 rfl ?_
    refine GX5_104 cx 0 rfl rfl 48 rfl dX5_goesOn_45 ?_
    refine V_if_le cx 51 78 rfl dX5_goesOn_48 (by decide) (fun c_48 => ?_) (fun c_48 => ?_)
    · skip
      have n_48 : m ≤ 0 := Z_le_t (by omega) c_48
      refine V.locs [0, 1, 2, 3, 4, 5] rfl ?_
      exact join_78  (by rcases hpv with h | h; (rw [h.2]; rfl); (exact absurd h.1 (by omega)))
    · skip
      have n_48 : m > 0 := Z_le_f (by omega) c_48
      obtain ⟨q, hq, hpt, hpvq⟩ : ∃ q, q < np ∧ pt (m - 1) = nI q ∧ pv = some q := by rcases hpv with h | h; (exact absurd h.1 (by omega)); exact h.2
      have hq16 : q < 16 := by omega
      refine V_aload_n cx 52 rfl dX5_goesOn_51 4 rfl ?_
      refine GX5_28 cx 0 rfl rfl 55 rfl dX5_goesOn_52 ?_
      refine V_aload_n cx 56 rfl dX5_goesOn_55 4 rfl ?_
      refine GX5_49 cx 0 rfl rfl 59 rfl dX5_goesOn_56 ?_
      refine V_aload_n cx 60 rfl dX5_goesOn_59 4 rfl ?_
      refine GX5_104 cx 0 rfl rfl 63 rfl dX5_goesOn_60 ?_
      refine V_iconst (v := nI 1) cx 64 rfl dX5_goesOn_63 (by decide) ?_
      refine V_isub cx 65 rfl dX5_goesOn_64 ?_
      refine V_toi (nI (m - 1)) (nI_subN (by omega)) ?_
      refine V_ialdN cx (m - 1) (rfl) (by omega) (by decide) 14 rfl 66 rfl dX5_goesOn_65 ?_
      refine V_toi (nI q) (hpt) ?_
      refine V_ialdN cx q (rfl) (by omega) (by decide) 7 rfl 67 rfl dX5_goesOn_66 ?_
      refine V_iload cx 69 rfl dX5_goesOn_67 0 rfl ?_
      refine V_ishr cx 70 rfl dX5_goesOn_69 ?_
      refine V_iconst (v := nI 1) cx 71 rfl dX5_goesOn_70 (by decide) ?_
      refine V_iand cx 72 rfl dX5_goesOn_71 ?_
      refine V_iconst (v := nI 1) cx 73 rfl dX5_goesOn_72 (by decide) ?_
      refine V_icmp_ne cx 76 78 rfl dX5_goesOn_73 (by decide) (fun c_73 => ?_) (fun c_73 => ?_)
      · skip
        have hvq : lV x q p = false := (hVE q p hq hpn).symm.trans (bit_n1 c_73)
        refine V.locs [0, 1, 2, 3, 4, 5] rfl ?_
        exact join_78  (by rw [hpvq]; exact hvq)
      · skip
        have hvq : lV x q p = true := (hVE q p hq hpn).symm.trans (bit_1 c_73)
        refine V_iconst (v := nI 0) cx 77 rfl dX5_goesOn_76 (by decide) ?_
        exact V_zreturn cx hr (by first | rfl | exact bI_z _) (op, pl, pt) (Or.inl ⟨stp_veto hp (by rw [hpvq]; exact hvq), rfl, rfl, rfl, rfl⟩) rfl (by omega) (by omega) dX5_goesOn_77
