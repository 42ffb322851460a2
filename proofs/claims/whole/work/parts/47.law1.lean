/-! the law's loop -/
section LL
variable {X : vX} {lo : Nat} {G : vG} {Q : State → Prop} {k n : Nat} {ws : va_W} {lc : List (Nat × Value)} {st : List Value} {pc : Nat}
/-- the law's own context: its code, its room, the script -/
def LCx (X : vX) (lo : Nat) (G : vG) (b L : Nat) (sc : Nat → Int32) : Prop := Cx X lo 7 G cL_law RL ∧ RmX X 100 601024 7293034 ∧ (xl X).stackTraces = false ∧ va_X b L sc (xs X) (xs X).heap ∧ b < (xs X).heap.size ∧ ¬ Lo lo b
theorem V_sld {b L : Nat} {sc : Nat → Int32} (C : LCx X lo G b L sc) {i : Int32} (j : Nat) (hi : i = nI j) (hj : j < L) (hL : L ≤ 2048) (p1 : Nat) (hp : pc + 1 = p1) (d : decode cL_law pc = .ok (.iaload, 1)) (kk : V X lo 7 G Q k n ws lc (.int (sc j) :: st) p1) : V X lo 7 G Q k n ws lc (.int i :: .ref b :: st) pc := by
  subst hi
  subst hp
  intro H locs ls hP hD hS hl
  refine va_sld C.1.1 C.1.2.1 C.2.2.2.1 C.2.2.2.2.1 C.2.2.2.2.2 hS (vp_in_nI hj (by omega)) d ?_
  rw [nI_clamp (by omega)]
  exact kk H locs ls hP hD hS hl
theorem V_slen {b L : Nat} {sc : Nat → Int32} (C : LCx X lo G b L sc) (p1 : Nat) (hp : pc + 1 = p1) (d : decode cL_law pc = .ok (.arraylength, 1)) (kk : V X lo 7 G Q k n ws lc (.int (nI L) :: st) p1) : V X lo 7 G Q k n ws lc (.ref b :: st) pc := by
  subst hp
  intro H locs ls hP hD hS hl
  exact va_slen C.1.1 C.1.2.1 C.2.2.2.1 C.2.2.2.2.1 C.2.2.2.2.2 hS d (kk H locs ls hP hD hS hl)
theorem V_tswIn {cc : ByteArray} {own : String} {nL : Nat} (C : Cx X lo nL G cc own) {dflt lo' hi : Int} {offs : Array Int} {len : Nat} {x : Int32} {off : Int} (tgt : Nat) (d : decode cc pc = .ok (.tableswitch dflt lo' hi offs, len)) (h1 : ¬ x.toInt < lo') (h2 : ¬ hi < x.toInt) (ho : offs[(x.toInt - lo').toNat]? = some off) (ht : (pc : Int) + off = (tgt : Int)) (kk : V X lo nL G Q k n ws lc st tgt) : V X lo nL G Q k n ws lc (.int x :: st) pc := fun H locs ls hP hD hS hl => lv_tableIn C.1 C.2.1 d h1 h2 ho ht (kk H locs ls hP hD hS hl)
theorem V_tswOut {cc : ByteArray} {own : String} {nL : Nat} (C : Cx X lo nL G cc own) {dflt lo' hi : Int} {offs : Array Int} {len : Nat} {x : Int32} (tgt : Nat) (d : decode cc pc = .ok (.tableswitch dflt lo' hi offs, len)) (h : x.toInt < lo' ∨ hi < x.toInt) (ht : (pc : Int) + dflt = (tgt : Int)) (kk : V X lo nL G Q k n ws lc st tgt) : V X lo nL G Q k n ws lc (.int x :: st) pc := fun H locs ls hP hD hS hl => lv_tableOut C.1 C.2.1 d h ht (kk H locs ls hP hD hS hl)
theorem V_ifbool {cc : ByteArray} {own : String} {nL : Nat} (C : Cx X lo nL G cc own) {x : Int32} {bb : Bool} (hx : (bb = true → ¬ x = 0) ∧ (bb = false → x = 0)) (p1 p2 p3 p4 : Nat) (h1 : pc + 3 = p1) (h2 : p1 + 1 = p2) (h3 : p2 + 3 = p3) (h4 : p3 + 1 = p4) (d0 : decode cc pc = .ok (.ifCond .eq 7, 3)) (d1 : decode cc p1 = .ok (.iconst 1, 1)) (d2 : decode cc p2 = .ok (.goto 4, 3)) (d3 : decode cc p3 = .ok (.iconst 0, 1)) (kk : V X lo nL G Q k n ws lc (.int (bI bb) :: st) p4) : V X lo nL G Q k n ws lc (.int x :: st) pc := by
  refine V_if_eq C p1 p3 h1 d0 (by omega) (fun c0 => ?_) (fun c0 => ?_)
  · refine V_iconst (v := nI 0) C p4 h4 d3 (by decide) ?_
    cases bb with
    | false => exact kk
    | true => exact absurd c0 (hx.1 rfl)
  · refine V_iconst (v := nI 1) C p2 h2 d1 (by decide) ?_
    refine V_goto C p4 d2 (by omega) ?_
    cases bb with
    | true => exact kk
    | false => exact absurd (hx.2 rfl) c0
theorem V_ifz {cc : ByteArray} {own : String} {nL : Nat} (C : Cx X lo nL G cc own) {x : Int32} {z : Int64} (hz : (x = 0 → z = lN 0) ∧ (¬ x = 0 → z = lN 1)) (p1 p2 p3 p4 : Nat) (h1 : pc + 3 = p1) (h2 : p1 + 1 = p2) (h3 : p2 + 3 = p3) (h4 : p3 + 1 = p4) (d0 : decode cc pc = .ok (.ifCond .eq 7, 3)) (d1 : decode cc p1 = .ok (.lconst 1, 1)) (d2 : decode cc p2 = .ok (.goto 4, 3)) (d3 : decode cc p3 = .ok (.lconst 0, 1)) (kk : V X lo nL G Q k n ws lc (.long z :: st) p4) : V X lo nL G Q k n ws lc (.int x :: st) pc := by
  refine V_if_eq C p1 p3 h1 d0 (by omega) (fun c0 => ?_) (fun c0 => ?_)
  · refine V_lconst (v := lN 0) C p4 h4 d3 (by decide) ?_
    rw [← hz.1 c0]
    exact kk
  · refine V_lconst (v := lN 1) C p2 h2 d1 (by decide) ?_
    refine V_goto C p4 d2 (by omega) ?_
    rw [← hz.2 c0]
    exact kk
theorem and31 (x : Int32) : ∃ m, m < 32 ∧ x &&& nI 31 = nI m := by
  refine ⟨(x &&& nI 31).toBitVec.toNat, ?_, ?_⟩
  · rw [Int32.toBitVec_and, BitVec.toNat_and]
    exact Nat.lt_of_le_of_lt Nat.and_le_right (by decide)
  · refine Int32.toBitVec_inj.mp ?_
    show _ = BitVec.ofNat 32 _
    rw [BitVec.ofNat_toNat, BitVec.setWidth_eq]
theorem exc2 {E a b : String} {v : Int32} {th : Nat} (hne : a ≠ b) (h : (E = a ∧ v = nI 1) ∨ (E = b ∧ v = nI 2)) (h2 : (E = a ∧ th = 1) ∨ (E = b ∧ th = 2)) : v = nI th ∧ ¬ nI th = 0 := by
  rcases h with ⟨rfl, rfl⟩ | ⟨rfl, rfl⟩ <;> rcases h2 with ⟨h3, rfl⟩ | ⟨h3, rfl⟩
  · exact ⟨rfl, by decide⟩
  · exact absurd h3 hne
  · exact absurd h3.symm hne
  · exact ⟨rfl, by decide⟩
theorem exc1 {E a : String} {v : Int32} {th : Nat} (h : E = a ∧ v = nI 1) (h2 : th = 1) : v = nI th ∧ ¬ nI th = 0 := by
  obtain ⟨_, rfl⟩ := h
  subst h2
  exact ⟨rfl, by decide⟩
theorem lg_cmp_self (z : Int64) : lg_cmp z z = 0 := by
  unfold lg_cmp
  rw [if_neg (Int64.lt_irrefl), if_pos rfl]
theorem loop_end {L it : Nat} (hL : L ≤ 2048) (hit : 4 * it ≤ L) (h : ¬ nI L - nI 4 < nI (4 * it)) : 4 * it + 4 ≤ L := by
  rcases Nat.lt_or_ge L 4 with q | q
  · exfalso
    have h0 : it = 0 := by omega
    subst h0
    rcases (by omega : L = 0 ∨ L = 1 ∨ L = 2 ∨ L = 3) with rfl | rfl | rfl | rfl <;> exact h (by decide)
  · rw [nI_subN q] at h
    rcases Nat.lt_or_ge (L - 4) (4 * it) with r | r
    · exact absurd (nI_lt r (by omega)) h
    · omega
theorem lw_rm {X : vX} {c s d mc ms maxL : Nat} (h : RmX X 100 c s) (hd : d ≤ 50) (hm : maxL ≤ 20) : (rmD d mc ms).frames + 1 ≤ (xR X).frames ∧ 8 + (maxL + 11) + (rmD d mc ms).locals ≤ (xR X).locals := by
  have h1 : 100 ≤ (xR X).frames := h.1
  have h2 : 40 * 100 ≤ (xR X).locals := h.2.1
  show d + 1 ≤ (xR X).frames ∧ 8 + (maxL + 11) + 40 * d ≤ (xR X).locals
  exact ⟨by omega, by omega⟩
theorem ask_8 {x : LX} {u k : Int32} {P : Option SP → Prop} (h : askK x u k 0 P) : askK x u k 0 (fun o => P o ∧ ∀ l, o = some l → l.length ≤ 8) := by
  rcases h with ⟨_, q⟩ | ⟨w, o, c1, c2, c3, c4, c5, c6, c7⟩
  · omega
  · refine Or.inr ⟨w, o, c1, c2, c3, c4, c5, c6, c7, fun l hl => ?_⟩
    subst hl
    have h1 := SZ_le u 8
    have h2 := (valS_len l 0 none ((mem_mEn h1).mp c6.1)).1
    omega
theorem lw_cOK {x : LX} {np nl : Nat} {T C F LT VV BB : Nat → Int32} (hok : lxOK x) (h : cOK x np nl T C F LT VV BB) : ∀ i, i < np → C i = nI (lC x i) ∧ 1 ≤ lC x i ∧ lC x i ≤ 9999 := fun i hi => ⟨h.2.2.2.1 i hi, hok.2.2.2.1 i (h.1 ▸ hi)⟩
theorem lw_mOK {x : LX} {np nl : Nat} {T S C F LT LS VE BA : Nat → Int32} (hok : lxOK x) (h : mOK x np nl T S C F LT LS VE BA) : ∀ i, i < np → C i = nI (lC x i) ∧ 1 ≤ lC x i ∧ lC x i ≤ 9999 := fun i hi => ⟨h.2.2.2.2.1 i hi, hok.2.2.2.1 i (h.1 ▸ hi)⟩
theorem lw_ts {x : LX} {np nl : Nat} {T S C F LT LS VE BA : Nat → Int32} (hok : lxOK x) (h : mOK x np nl T S C F LT LS VE BA) : ∀ i, i < np → T i = nI (lT x i) ∧ S i = nI (szN (lT x i)) ∧ 1 ≤ szN (lT x i) ∧ szN (lT x i) ≤ 4 ∧ lT x i < 20000 := fun i hi => by
  obtain ⟨a1, a2, a3, a4⟩ := hok.2.2.1 i (h.1 ▸ hi)
  refine ⟨h.2.2.1 i hi, h.2.2.2.1 i hi, a1, a2, Nat.lt_of_lt_of_le a4 ?_⟩
  have := Nat.pow_le_pow_right (n := 10) (by decide) a2
  omega
end LL
set_option maxHeartbeats 4000000 in
set_option maxRecDepth 100000 in
theorem lw_case_addPart {X : vX} {lo : Nat} {G : vG} {Q : State → Prop} {b L : Nat} {sc : Nat → Int32} (LC : LCx X lo G b L sc) (hL : L ≤ 2048) {it : Nat} (hit : 4 * it + 4 ≤ L) {h g : Nat → Nat} {oa : Nat} {np : Nat} {nl : Nat} {len : Nat} {fd : Nat} {lu : Nat} {tu : Nat} {T : Nat → Int32} {C : Nat → Int32} {F : Nat → Int32} {LT : Nat → Int32} {VV : Nat → Int32} {BB : Nat → Int32} {lt : Nat → Int32} {ph : Nat → Int32} {lh : Nat → Int32} {ks : Nat → Int64} {wd : Nat → Int32} {gr : Nat → Int32} {gs : Nat → Int32} {bl : Nat → Int32} {ie : Nat → Int32} {tw : Nat → Int32} {th2 : Nat} {np2 : Nat} {nl2 : Nat} {ld2 : Nat} {ll2 : Nat} {mn2 : Int32} {sp2 : Nat} {T2 : Nat → Int32} {S2 : Nat → Int32} {C2 : Nat → Int32} {F2 : Nat → Int32} {LT2 : Nat → Int32} {LS2 : Nat → Int32} {VE2 : Nat → Int32} {BA2 : Nat → Int32} {wd2 : Nat → Int32} {mo2 : Nat → Int32} {lt2 : Nat → Int32} {op2 : Nat → Int32} {pl2 : Nat → Int32} {pt2 : Nat → Int32} {ks2 : Nat → Int64} {ov : Nat → Int64} {x : LX} (hI : INV x np nl lu tu T C F LT VV BB wd gr gs bl ie np2 nl2 ld2 T2 S2 C2 F2 LT2 LS2 VE2 BA2 wd2 mo2) {k n : Nat} (hk : k + 2 ≤ 601024) (hn : n + 12 ≤ 7293034) (LJ : ∀ (np : Nat) (nl : Nat) (len : Nat) (fd : Nat) (lu : Nat) (tu : Nat) (T : Nat → Int32) (C : Nat → Int32) (F : Nat → Int32) (LT : Nat → Int32) (VV : Nat → Int32) (BB : Nat → Int32) (lt : Nat → Int32) (ph : Nat → Int32) (lh : Nat → Int32) (ks : Nat → Int64) (wd : Nat → Int32) (gr : Nat → Int32) (gs : Nat → Int32) (bl : Nat → Int32) (ie : Nat → Int32) (tw : Nat → Int32) (th2 : Nat) (np2 : Nat) (nl2 : Nat) (ld2 : Nat) (ll2 : Nat) (mn2 : Int32) (sp2 : Nat) (T2 : Nat → Int32) (S2 : Nat → Int32) (C2 : Nat → Int32) (F2 : Nat → Int32) (LT2 : Nat → Int32) (LS2 : Nat → Int32) (VE2 : Nat → Int32) (BA2 : Nat → Int32) (wd2 : Nat → Int32) (mo2 : Nat → Int32) (lt2 : Nat → Int32) (op2 : Nat → Int32) (pl2 : Nat → Int32) (pt2 : Nat → Int32) (ks2 : Nat → Int64) (ov : Nat → Int64) (x : LX), INV x np nl lu tu T C F LT VV BB wd gr gs bl ie np2 nl2 ld2 T2 S2 C2 F2 LT2 LS2 VE2 BA2 wd2 mo2 → V X lo 7 G Q (k + 2) (n + 12) (cW G h np nl len fd lu tu T C F LT VV BB lt ph lh ks wd gr gs bl ie tw ++ ([(oa, .inl (G.2.2.1, 1, .inr (.inl ov)))] ++ mW G g th2 np2 nl2 ld2 ll2 mn2 sp2 T2 S2 C2 F2 LT2 LS2 VE2 BA2 wd2 mo2 lt2 op2 pl2 pt2 ks2)) [(4, .int (nI (4 * it))), (0, .ref b), (1, .ref (h 0)), (2, .ref (g 0)), (3, .ref oa)] [] 1236) : V X lo 7 G Q k n (cW G h np nl len fd lu tu T C F LT VV BB lt ph lh ks wd gr gs bl ie tw ++ ([(oa, .inl (G.2.2.1, 1, .inr (.inl ov)))] ++ mW G g th2 np2 nl2 ld2 ll2 mn2 sp2 T2 S2 C2 F2 LT2 LS2 VE2 BA2 wd2 mo2 lt2 op2 pl2 pt2 ks2)) [(4, .int (nI (4 * it))), (0, .ref b), (1, .ref (h 0)), (2, .ref (g 0)), (3, .ref oa)] [] 128 := by
  obtain ⟨cx, hX, hst, hsc, hbl, hbA⟩ := id LC
  obtain ⟨hnp1, hnp2, hnp, hnl1, hnl2, hnl, hld, hlu⟩ := inv_np hI
  have hnp22 : np2 ≤ 16 := by omega
  have hnl22 : nl2 ≤ 6 := by omega
  have hld50 : ld2 ≤ 50 := by omega
  have htu : tu ≤ 1 + 4 * np := hI.2.2.2.2.1.2
  have hT := hI.2.2.2.2.1.1
  refine V_aload_n cx 129 rfl dL_law_128 2 rfl ?_
  refine V_aload_n cx 130 rfl dL_law_129 1 rfl ?_
  refine V_iload cx 132 rfl dL_law_130 0 rfl ?_
  refine V_iconst (v := nI 1) cx 133 rfl dL_law_132 (by decide) ?_
  refine V_iadd cx 134 rfl dL_law_133 ?_
  refine V_toi (nI (4 * it + 1)) (nI_add _ _) ?_
  refine V_sld LC (4 * it + 1) rfl (by omega) hL 135 rfl dL_law_134 ?_
  refine V_aload_n cx 136 rfl dL_law_135 1 rfl ?_
  refine V_iload cx 138 rfl dL_law_136 0 rfl ?_
  refine V_iconst (v := nI 2) cx 139 rfl dL_law_138 (by decide) ?_
  refine V_iadd cx 140 rfl dL_law_139 ?_
  refine V_toi (nI (4 * it + 2)) (nI_add _ _) ?_
  refine V_sld LC (4 * it + 2) rfl (by omega) hL 141 rfl dL_law_140 ?_
  refine V_aload_n cx 142 rfl dL_law_141 1 rfl ?_
  refine V_iload cx 144 rfl dL_law_142 0 rfl ?_
  refine V_iconst (v := nI 3) cx 145 rfl dL_law_144 (by decide) ?_
  refine V_iadd cx 146 rfl dL_law_145 ?_
  refine V_toi (nI (4 * it + 3)) (nI_add _ _) ?_
  refine V_sld LC (4 * it + 3) rfl (by omega) hL 147 rfl dL_law_146 ?_
  refine V_aload_n cx 148 rfl dL_law_147 4 rfl ?_
  refine V_calli (V_runSW (As := [.ref (h 0), .int (sc (4 * it + 1)), .int (sc (4 * it + 2)), .int (sc (4 * it + 3)), .ref oa]) (rest := []) (nA := 5) cx (kL_addPart (xl X) lo G _ h np nl len fd lu tu T C F LT VV BB lt ph lh ks wd gr gs bl ie tw oa ov (sc (4 * it + 1)) (sc (4 * it + 2)) (sc (4 * it + 3)) (Wd (lT x) (lNp x)) hst hnp htu hT) ⟨ml_L_73, sm_L_addPart, ii_L, co_L_addPart⟩ ⟨by decide, by decide, by decide +kernel⟩ (lw_rm hX (by decide) (by decide)) rfl rfl (Nat.le_of_ble_eq_true rfl) ⟨Nat.le_trans (by omega) hX.2.2.1, Nat.le_trans (by omega) hX.2.2.2⟩ dL_law_148) 151 (k + 2) (n + 12) rfl rfl rfl (fun v u hw => ?_)
  rcases u with _ | ⟨tu1, bl1, ie1, v1, z⟩
  · skip
    dsimp only at hw
    obtain ⟨E, hx, hcode⟩ := hw
    refine V_istore (lc1 := [(5, .int v), (4, .int (nI (4 * it))), (0, .ref b), (1, .ref (h 0)), (2, .ref (g 0)), (3, .ref oa)]) cx 153 rfl dL_law_151 (by decide) rfl ?_
    refine V.toM ?_
    refine V_aload_n cx 154 rfl dL_law_153 4 rfl ?_
    refine V_aload_n cx 155 rfl dL_law_154 2 rfl ?_
    refine V_iload cx 157 rfl dL_law_155 1 rfl ?_
    refine V_iconst (v := nI 1) cx 158 rfl dL_law_157 (by decide) ?_
    refine V_iadd cx 159 rfl dL_law_158 ?_
    refine V_toi (nI (4 * it + 1)) (nI_add _ _) ?_
    refine V_sld LC (4 * it + 1) rfl (by omega) hL 160 rfl dL_law_159 ?_
    refine V_aload_n cx 161 rfl dL_law_160 2 rfl ?_
    refine V_iload cx 163 rfl dL_law_161 1 rfl ?_
    refine V_iconst (v := nI 2) cx 164 rfl dL_law_163 (by decide) ?_
    refine V_iadd cx 165 rfl dL_law_164 ?_
    refine V_toi (nI (4 * it + 2)) (nI_add _ _) ?_
    refine V_sld LC (4 * it + 2) rfl (by omega) hL 166 rfl dL_law_165 ?_
    refine V_aload_n cx 167 rfl dL_law_166 2 rfl ?_
    refine V_iload cx 169 rfl dL_law_167 1 rfl ?_
    refine V_iconst (v := nI 3) cx 170 rfl dL_law_169 (by decide) ?_
    refine V_iadd cx 171 rfl dL_law_170 ?_
    refine V_toi (nI (4 * it + 3)) (nI_add _ _) ?_
    refine V_sld LC (4 * it + 3) rfl (by omega) hL 172 rfl dL_law_171 ?_
    refine KL_78 (As := [.int (sc (4 * it + 1)), .int (sc (4 * it + 2)), .int (sc (4 * it + 3))]) (rest := []) cx (kX5_addPart (xl X) lo G _ g th2 np2 nl2 ld2 ll2 mn2 sp2 T2 S2 C2 F2 LT2 LS2 VE2 BA2 wd2 mo2 lt2 op2 pl2 pt2 ks2 (sc (4 * it + 1)) (sc (4 * it + 2)) (sc (4 * it + 3)) hnp22) hX (by omega) 0 rfl rfl rfl (Nat.le_of_ble_eq_true rfl) 175 (k + 2) (n + 12) rfl rfl rfl (by omega) (by omega) dL_law_172 ?_
    intro r u2 hw2
    obtain ⟨th1', np1', T1', S1', C1', F1'⟩ := u2
    try dsimp only at hw2
    refine V_istore (lc1 := [(6, .int r), (5, .int v), (4, .int (nI (4 * it))), (0, .ref b), (1, .ref (h 0)), (2, .ref (g 0)), (3, .ref oa)]) cx 177 rfl dL_law_175 (by decide) rfl ?_
    refine V_aload_n cx 178 rfl dL_law_177 5 rfl ?_
    refine KL_79 (As := []) (rest := []) cx (kX5_thrown (xl X) lo G _ g _ _ _ _ _ _ _ _ _ _ _ _ _ _ _ _ _ _ _ _ _ _) hX (by omega) 0 rfl rfl rfl (Nat.le_of_ble_eq_true rfl) 181 (k + 2) (n + 12) rfl rfl rfl (by omega) (by omega) dL_law_178 ?_
    intro rt _ hrt
    try dsimp only at hrt
    subst hrt
    refine V_iload cx 183 rfl dL_law_181 1 rfl ?_
    obtain ⟨hth, rfl, rfl, rfl, rfl, rfl⟩ := st_addPart_x hI hx hw2
    obtain ⟨rfl, hne⟩ := exc2 (by decide) hcode hth
    refine V_icmp_eq cx 186 188 rfl dL_law_183 (by decide) (fun c0 => ?_) (fun c0 => absurd rfl c0)
    refine V_iload cx 190 rfl dL_law_188 1 rfl ?_
    refine V_if_ne cx 193 205 rfl dL_law_190 (by decide) (fun c0 => ?_) (fun c0 => absurd c0 hne)
    refine V_goto cx 1236 dL_law_205 (by decide) ?_
    refine V.widen (k' := k + 2) (n' := n + 12) (by omega) (by omega) ?_
    refine V.toC ?_
    refine V.locs (lc' := [(4, .int (nI (4 * it))), (0, .ref b), (1, .ref (h 0)), (2, .ref (g 0)), (3, .ref oa)]) [2, 3, 4, 5, 6] rfl ?_
    exact LJ _ _ _ _ _ _ _ _ _ _ _ _ _ _ _ _ _ _ _ _ _ _ _ _ _ _ _ _ _ _ _ _ _ _ _ _ _ _ _ _ _ _ _ _ _ x hI
  · skip
    dsimp only at hw
    obtain ⟨hx, hv, hz⟩ := hw
    subst hv
    refine V_istore (lc1 := [(5, .int (nI 0)), (4, .int (nI (4 * it))), (0, .ref b), (1, .ref (h 0)), (2, .ref (g 0)), (3, .ref oa)]) cx 153 rfl dL_law_151 (by decide) rfl ?_
    refine V.toM ?_
    refine V_aload_n cx 154 rfl dL_law_153 4 rfl ?_
    refine V_aload_n cx 155 rfl dL_law_154 2 rfl ?_
    refine V_iload cx 157 rfl dL_law_155 1 rfl ?_
    refine V_iconst (v := nI 1) cx 158 rfl dL_law_157 (by decide) ?_
    refine V_iadd cx 159 rfl dL_law_158 ?_
    refine V_toi (nI (4 * it + 1)) (nI_add _ _) ?_
    refine V_sld LC (4 * it + 1) rfl (by omega) hL 160 rfl dL_law_159 ?_
    refine V_aload_n cx 161 rfl dL_law_160 2 rfl ?_
    refine V_iload cx 163 rfl dL_law_161 1 rfl ?_
    refine V_iconst (v := nI 2) cx 164 rfl dL_law_163 (by decide) ?_
    refine V_iadd cx 165 rfl dL_law_164 ?_
    refine V_toi (nI (4 * it + 2)) (nI_add _ _) ?_
    refine V_sld LC (4 * it + 2) rfl (by omega) hL 166 rfl dL_law_165 ?_
    refine V_aload_n cx 167 rfl dL_law_166 2 rfl ?_
    refine V_iload cx 169 rfl dL_law_167 1 rfl ?_
    refine V_iconst (v := nI 3) cx 170 rfl dL_law_169 (by decide) ?_
    refine V_iadd cx 171 rfl dL_law_170 ?_
    refine V_toi (nI (4 * it + 3)) (nI_add _ _) ?_
    refine V_sld LC (4 * it + 3) rfl (by omega) hL 172 rfl dL_law_171 ?_
    refine KL_78 (As := [.int (sc (4 * it + 1)), .int (sc (4 * it + 2)), .int (sc (4 * it + 3))]) (rest := []) cx (kX5_addPart (xl X) lo G _ g th2 np2 nl2 ld2 ll2 mn2 sp2 T2 S2 C2 F2 LT2 LS2 VE2 BA2 wd2 mo2 lt2 op2 pl2 pt2 ks2 (sc (4 * it + 1)) (sc (4 * it + 2)) (sc (4 * it + 3)) hnp22) hX (by omega) 0 rfl rfl rfl (Nat.le_of_ble_eq_true rfl) 175 (k + 2) (n + 12) rfl rfl rfl (by omega) (by omega) dL_law_172 ?_
    intro r u2 hw2
    obtain ⟨th1', np1', T1', S1', C1', F1'⟩ := u2
    try dsimp only at hw2
    refine V_istore (lc1 := [(6, .int r), (5, .int (nI 0)), (4, .int (nI (4 * it))), (0, .ref b), (1, .ref (h 0)), (2, .ref (g 0)), (3, .ref oa)]) cx 177 rfl dL_law_175 (by decide) rfl ?_
    refine V_aload_n cx 178 rfl dL_law_177 5 rfl ?_
    refine KL_79 (As := []) (rest := []) cx (kX5_thrown (xl X) lo G _ g _ _ _ _ _ _ _ _ _ _ _ _ _ _ _ _ _ _ _ _ _ _) hX (by omega) 0 rfl rfl rfl (Nat.le_of_ble_eq_true rfl) 181 (k + 2) (n + 12) rfl rfl rfl (by omega) (by omega) dL_law_178 ?_
    intro rt _ hrt
    try dsimp only at hrt
    subst hrt
    refine V_iload cx 183 rfl dL_law_181 1 rfl ?_
    obtain ⟨rfl, rfl, x', hI'⟩ := st_addPart_n hI hx hw2
    refine V_icmp_eq cx 186 188 rfl dL_law_183 (by decide) (fun c0 => ?_) (fun c0 => absurd rfl c0)
    refine V_iload cx 190 rfl dL_law_188 1 rfl ?_
    refine V_if_ne cx 193 205 rfl dL_law_190 (by decide) (fun c0 => absurd rfl c0) (fun c0 => ?_)
    refine V_aload_n cx 194 rfl dL_law_193 6 rfl ?_
    refine V_iconst (v := nI 0) cx 195 rfl dL_law_194 (by decide) ?_
    refine V_laldN cx 0 rfl (by decide) (by decide) 37 rfl 196 rfl dL_law_195 ?_
    refine V_tol z rfl ?_
    refine V_iload cx 198 rfl dL_law_196 0 rfl ?_
    refine V_i2l cx 199 rfl dL_law_198 ?_
    refine V_tol z hz.symm ?_
    refine V_lcmp cx 200 rfl dL_law_199 ?_
    refine V_if_eq cx 203 205 rfl dL_law_200 (by decide) (fun c0 => ?_) (fun c0 => absurd (lg_cmp_self z) c0)
    refine V_goto cx 1236 dL_law_205 (by decide) ?_
    refine V.widen (k' := k + 2) (n' := n + 12) (by omega) (by omega) ?_
    refine V.toC ?_
    refine V.locs (lc' := [(4, .int (nI (4 * it))), (0, .ref b), (1, .ref (h 0)), (2, .ref (g 0)), (3, .ref oa)]) [2, 3, 4, 5, 6] rfl ?_
    exact LJ _ _ _ _ _ _ _ _ _ _ _ _ _ _ _ _ _ _ _ _ _ _ _ _ _ _ _ _ _ _ _ _ _ _ _ _ _ _ _ _ _ _ _ _ _ x' hI'
set_option maxHeartbeats 4000000 in
set_option maxRecDepth 100000 in
theorem lw_case_setFlags {X : vX} {lo : Nat} {G : vG} {Q : State → Prop} {b L : Nat} {sc : Nat → Int32} (LC : LCx X lo G b L sc) (hL : L ≤ 2048) {it : Nat} (hit : 4 * it + 4 ≤ L) {h g : Nat → Nat} {oa : Nat} {np : Nat} {nl : Nat} {len : Nat} {fd : Nat} {lu : Nat} {tu : Nat} {T : Nat → Int32} {C : Nat → Int32} {F : Nat → Int32} {LT : Nat → Int32} {VV : Nat → Int32} {BB : Nat → Int32} {lt : Nat → Int32} {ph : Nat → Int32} {lh : Nat → Int32} {ks : Nat → Int64} {wd : Nat → Int32} {gr : Nat → Int32} {gs : Nat → Int32} {bl : Nat → Int32} {ie : Nat → Int32} {tw : Nat → Int32} {th2 : Nat} {np2 : Nat} {nl2 : Nat} {ld2 : Nat} {ll2 : Nat} {mn2 : Int32} {sp2 : Nat} {T2 : Nat → Int32} {S2 : Nat → Int32} {C2 : Nat → Int32} {F2 : Nat → Int32} {LT2 : Nat → Int32} {LS2 : Nat → Int32} {VE2 : Nat → Int32} {BA2 : Nat → Int32} {wd2 : Nat → Int32} {mo2 : Nat → Int32} {lt2 : Nat → Int32} {op2 : Nat → Int32} {pl2 : Nat → Int32} {pt2 : Nat → Int32} {ks2 : Nat → Int64} {ov : Nat → Int64} {x : LX} (hI : INV x np nl lu tu T C F LT VV BB wd gr gs bl ie np2 nl2 ld2 T2 S2 C2 F2 LT2 LS2 VE2 BA2 wd2 mo2) {k n : Nat} (hk : k + 2 ≤ 601024) (hn : n + 12 ≤ 7293034) (LJ : ∀ (np : Nat) (nl : Nat) (len : Nat) (fd : Nat) (lu : Nat) (tu : Nat) (T : Nat → Int32) (C : Nat → Int32) (F : Nat → Int32) (LT : Nat → Int32) (VV : Nat → Int32) (BB : Nat → Int32) (lt : Nat → Int32) (ph : Nat → Int32) (lh : Nat → Int32) (ks : Nat → Int64) (wd : Nat → Int32) (gr : Nat → Int32) (gs : Nat → Int32) (bl : Nat → Int32) (ie : Nat → Int32) (tw : Nat → Int32) (th2 : Nat) (np2 : Nat) (nl2 : Nat) (ld2 : Nat) (ll2 : Nat) (mn2 : Int32) (sp2 : Nat) (T2 : Nat → Int32) (S2 : Nat → Int32) (C2 : Nat → Int32) (F2 : Nat → Int32) (LT2 : Nat → Int32) (LS2 : Nat → Int32) (VE2 : Nat → Int32) (BA2 : Nat → Int32) (wd2 : Nat → Int32) (mo2 : Nat → Int32) (lt2 : Nat → Int32) (op2 : Nat → Int32) (pl2 : Nat → Int32) (pt2 : Nat → Int32) (ks2 : Nat → Int64) (ov : Nat → Int64) (x : LX), INV x np nl lu tu T C F LT VV BB wd gr gs bl ie np2 nl2 ld2 T2 S2 C2 F2 LT2 LS2 VE2 BA2 wd2 mo2 → V X lo 7 G Q (k + 2) (n + 12) (cW G h np nl len fd lu tu T C F LT VV BB lt ph lh ks wd gr gs bl ie tw ++ ([(oa, .inl (G.2.2.1, 1, .inr (.inl ov)))] ++ mW G g th2 np2 nl2 ld2 ll2 mn2 sp2 T2 S2 C2 F2 LT2 LS2 VE2 BA2 wd2 mo2 lt2 op2 pl2 pt2 ks2)) [(4, .int (nI (4 * it))), (0, .ref b), (1, .ref (h 0)), (2, .ref (g 0)), (3, .ref oa)] [] 1236) : V X lo 7 G Q k n (cW G h np nl len fd lu tu T C F LT VV BB lt ph lh ks wd gr gs bl ie tw ++ ([(oa, .inl (G.2.2.1, 1, .inr (.inl ov)))] ++ mW G g th2 np2 nl2 ld2 ll2 mn2 sp2 T2 S2 C2 F2 LT2 LS2 VE2 BA2 wd2 mo2 lt2 op2 pl2 pt2 ks2)) [(4, .int (nI (4 * it))), (0, .ref b), (1, .ref (h 0)), (2, .ref (g 0)), (3, .ref oa)] [] 208 := by
  obtain ⟨cx, hX, hst, hsc, hbl, hbA⟩ := id LC
  obtain ⟨hnp1, hnp2, hnp, hnl1, hnl2, hnl, hld, hlu⟩ := inv_np hI
  have hnp22 : np2 ≤ 16 := by omega
  have hnl22 : nl2 ≤ 6 := by omega
  have hld50 : ld2 ≤ 50 := by omega
  refine V_aload_n cx 209 rfl dL_law_208 2 rfl ?_
  refine V_aload_n cx 210 rfl dL_law_209 1 rfl ?_
  refine V_iload cx 212 rfl dL_law_210 0 rfl ?_
  refine V_iconst (v := nI 1) cx 213 rfl dL_law_212 (by decide) ?_
  refine V_iadd cx 214 rfl dL_law_213 ?_
  refine V_toi (nI (4 * it + 1)) (nI_add _ _) ?_
  refine V_sld LC (4 * it + 1) rfl (by omega) hL 215 rfl dL_law_214 ?_
  refine V_aload_n cx 216 rfl dL_law_215 1 rfl ?_
  refine V_iload cx 218 rfl dL_law_216 0 rfl ?_
  refine V_iconst (v := nI 2) cx 219 rfl dL_law_218 (by decide) ?_
  refine V_iadd cx 220 rfl dL_law_219 ?_
  refine V_toi (nI (4 * it + 2)) (nI_add _ _) ?_
  refine V_sld LC (4 * it + 2) rfl (by omega) hL 221 rfl dL_law_220 ?_
  refine V_aload_n cx 222 rfl dL_law_221 4 rfl ?_
  refine V_calli (V_runSW (As := [.ref (h 0), .int (sc (4 * it + 1)), .int (sc (4 * it + 2)), .ref oa]) (rest := []) (nA := 4) cx (kL_setFlags (xl X) lo G _ h np nl len fd lu tu T C F LT VV BB lt ph lh ks wd gr gs bl ie tw oa ov (sc (4 * it + 1)) (sc (4 * it + 2)) hst hnp) ⟨ml_L_82, sm_L_setFlags, ii_L, co_L_setFlags⟩ ⟨by decide, by decide, by decide +kernel⟩ (lw_rm hX (by decide) (by decide)) rfl rfl (Nat.le_of_ble_eq_true rfl) ⟨Nat.le_trans (by omega) hX.2.2.1, Nat.le_trans (by omega) hX.2.2.2⟩ dL_law_222) 225 (k + 2) (n + 12) rfl rfl rfl (fun v u hw => ?_)
  rcases u with _ | ⟨F1, v1, z⟩
  · skip
    dsimp only at hw
    obtain ⟨E, hx, hcode⟩ := hw
    refine V_istore (lc1 := [(5, .int v), (4, .int (nI (4 * it))), (0, .ref b), (1, .ref (h 0)), (2, .ref (g 0)), (3, .ref oa)]) cx 227 rfl dL_law_225 (by decide) rfl ?_
    refine V.toM ?_
    refine V_aload_n cx 228 rfl dL_law_227 4 rfl ?_
    refine V_aload_n cx 229 rfl dL_law_228 2 rfl ?_
    refine V_iload cx 231 rfl dL_law_229 1 rfl ?_
    refine V_iconst (v := nI 1) cx 232 rfl dL_law_231 (by decide) ?_
    refine V_iadd cx 233 rfl dL_law_232 ?_
    refine V_toi (nI (4 * it + 1)) (nI_add _ _) ?_
    refine V_sld LC (4 * it + 1) rfl (by omega) hL 234 rfl dL_law_233 ?_
    refine V_aload_n cx 235 rfl dL_law_234 2 rfl ?_
    refine V_iload cx 237 rfl dL_law_235 1 rfl ?_
    refine V_iconst (v := nI 2) cx 238 rfl dL_law_237 (by decide) ?_
    refine V_iadd cx 239 rfl dL_law_238 ?_
    refine V_toi (nI (4 * it + 2)) (nI_add _ _) ?_
    refine V_sld LC (4 * it + 2) rfl (by omega) hL 240 rfl dL_law_239 ?_
    refine KL_85 (As := [.int (sc (4 * it + 1)), .int (sc (4 * it + 2))]) (rest := []) cx (kX5_setFlags (xl X) lo G _ g th2 np2 nl2 ld2 ll2 mn2 sp2 T2 S2 C2 F2 LT2 LS2 VE2 BA2 wd2 mo2 lt2 op2 pl2 pt2 ks2 (sc (4 * it + 1)) (sc (4 * it + 2)) hnp22) hX (by omega) 0 rfl rfl rfl (Nat.le_of_ble_eq_true rfl) 243 (k + 2) (n + 12) rfl rfl rfl (by omega) (by omega) dL_law_240 ?_
    intro r u2 hw2
    obtain ⟨th1', F1'⟩ := u2
    try dsimp only at hw2
    refine V_istore (lc1 := [(6, .int r), (5, .int v), (4, .int (nI (4 * it))), (0, .ref b), (1, .ref (h 0)), (2, .ref (g 0)), (3, .ref oa)]) cx 245 rfl dL_law_243 (by decide) rfl ?_
    refine V_aload_n cx 246 rfl dL_law_245 5 rfl ?_
    refine KL_79 (As := []) (rest := []) cx (kX5_thrown (xl X) lo G _ g _ _ _ _ _ _ _ _ _ _ _ _ _ _ _ _ _ _ _ _ _ _) hX (by omega) 0 rfl rfl rfl (Nat.le_of_ble_eq_true rfl) 249 (k + 2) (n + 12) rfl rfl rfl (by omega) (by omega) dL_law_246 ?_
    intro rt _ hrt
    try dsimp only at hrt
    subst hrt
    refine V_iload cx 251 rfl dL_law_249 1 rfl ?_
    obtain ⟨hth, rfl⟩ := st_setFlags_x hI hx hw2
    obtain ⟨rfl, hne⟩ := exc2 (by decide) hcode hth
    refine V_icmp_eq cx 254 256 rfl dL_law_251 (by decide) (fun c0 => ?_) (fun c0 => absurd rfl c0)
    refine V_iload cx 258 rfl dL_law_256 1 rfl ?_
    refine V_if_ne cx 261 273 rfl dL_law_258 (by decide) (fun c0 => ?_) (fun c0 => absurd c0 hne)
    refine V_goto cx 1236 dL_law_273 (by decide) ?_
    refine V.widen (k' := k + 2) (n' := n + 12) (by omega) (by omega) ?_
    refine V.toC ?_
    refine V.locs (lc' := [(4, .int (nI (4 * it))), (0, .ref b), (1, .ref (h 0)), (2, .ref (g 0)), (3, .ref oa)]) [2, 3, 4, 5, 6] rfl ?_
    exact LJ _ _ _ _ _ _ _ _ _ _ _ _ _ _ _ _ _ _ _ _ _ _ _ _ _ _ _ _ _ _ _ _ _ _ _ _ _ _ _ _ _ _ _ _ _ x hI
  · skip
    dsimp only at hw
    obtain ⟨hx, hv, hz⟩ := hw
    subst hv
    refine V_istore (lc1 := [(5, .int (nI 0)), (4, .int (nI (4 * it))), (0, .ref b), (1, .ref (h 0)), (2, .ref (g 0)), (3, .ref oa)]) cx 227 rfl dL_law_225 (by decide) rfl ?_
    refine V.toM ?_
    refine V_aload_n cx 228 rfl dL_law_227 4 rfl ?_
    refine V_aload_n cx 229 rfl dL_law_228 2 rfl ?_
    refine V_iload cx 231 rfl dL_law_229 1 rfl ?_
    refine V_iconst (v := nI 1) cx 232 rfl dL_law_231 (by decide) ?_
    refine V_iadd cx 233 rfl dL_law_232 ?_
    refine V_toi (nI (4 * it + 1)) (nI_add _ _) ?_
    refine V_sld LC (4 * it + 1) rfl (by omega) hL 234 rfl dL_law_233 ?_
    refine V_aload_n cx 235 rfl dL_law_234 2 rfl ?_
    refine V_iload cx 237 rfl dL_law_235 1 rfl ?_
    refine V_iconst (v := nI 2) cx 238 rfl dL_law_237 (by decide) ?_
    refine V_iadd cx 239 rfl dL_law_238 ?_
    refine V_toi (nI (4 * it + 2)) (nI_add _ _) ?_
    refine V_sld LC (4 * it + 2) rfl (by omega) hL 240 rfl dL_law_239 ?_
    refine KL_85 (As := [.int (sc (4 * it + 1)), .int (sc (4 * it + 2))]) (rest := []) cx (kX5_setFlags (xl X) lo G _ g th2 np2 nl2 ld2 ll2 mn2 sp2 T2 S2 C2 F2 LT2 LS2 VE2 BA2 wd2 mo2 lt2 op2 pl2 pt2 ks2 (sc (4 * it + 1)) (sc (4 * it + 2)) hnp22) hX (by omega) 0 rfl rfl rfl (Nat.le_of_ble_eq_true rfl) 243 (k + 2) (n + 12) rfl rfl rfl (by omega) (by omega) dL_law_240 ?_
    intro r u2 hw2
    obtain ⟨th1', F1'⟩ := u2
    try dsimp only at hw2
    refine V_istore (lc1 := [(6, .int r), (5, .int (nI 0)), (4, .int (nI (4 * it))), (0, .ref b), (1, .ref (h 0)), (2, .ref (g 0)), (3, .ref oa)]) cx 245 rfl dL_law_243 (by decide) rfl ?_
    refine V_aload_n cx 246 rfl dL_law_245 5 rfl ?_
    refine KL_79 (As := []) (rest := []) cx (kX5_thrown (xl X) lo G _ g _ _ _ _ _ _ _ _ _ _ _ _ _ _ _ _ _ _ _ _ _ _) hX (by omega) 0 rfl rfl rfl (Nat.le_of_ble_eq_true rfl) 249 (k + 2) (n + 12) rfl rfl rfl (by omega) (by omega) dL_law_246 ?_
    intro rt _ hrt
    try dsimp only at hrt
    subst hrt
    refine V_iload cx 251 rfl dL_law_249 1 rfl ?_
    obtain ⟨rfl, rfl, x', hI'⟩ := st_setFlags_n hI hx hw2
    refine V_icmp_eq cx 254 256 rfl dL_law_251 (by decide) (fun c0 => ?_) (fun c0 => absurd rfl c0)
    refine V_iload cx 258 rfl dL_law_256 1 rfl ?_
    refine V_if_ne cx 261 273 rfl dL_law_258 (by decide) (fun c0 => absurd rfl c0) (fun c0 => ?_)
    refine V_aload_n cx 262 rfl dL_law_261 6 rfl ?_
    refine V_iconst (v := nI 0) cx 263 rfl dL_law_262 (by decide) ?_
    refine V_laldN cx 0 rfl (by decide) (by decide) 37 rfl 264 rfl dL_law_263 ?_
    refine V_tol z rfl ?_
    refine V_iload cx 266 rfl dL_law_264 0 rfl ?_
    refine V_i2l cx 267 rfl dL_law_266 ?_
    refine V_tol z hz.symm ?_
    refine V_lcmp cx 268 rfl dL_law_267 ?_
    refine V_if_eq cx 271 273 rfl dL_law_268 (by decide) (fun c0 => ?_) (fun c0 => absurd (lg_cmp_self z) c0)
    refine V_goto cx 1236 dL_law_273 (by decide) ?_
    refine V.widen (k' := k + 2) (n' := n + 12) (by omega) (by omega) ?_
    refine V.toC ?_
    refine V.locs (lc' := [(4, .int (nI (4 * it))), (0, .ref b), (1, .ref (h 0)), (2, .ref (g 0)), (3, .ref oa)]) [2, 3, 4, 5, 6] rfl ?_
    exact LJ _ _ _ _ _ _ _ _ _ _ _ _ _ _ _ _ _ _ _ _ _ _ _ _ _ _ _ _ _ _ _ _ _ _ _ _ _ _ _ _ _ _ _ _ _ x' hI'
set_option maxHeartbeats 4000000 in
set_option maxRecDepth 100000 in
theorem lw_case_addLink {X : vX} {lo : Nat} {G : vG} {Q : State → Prop} {b L : Nat} {sc : Nat → Int32} (LC : LCx X lo G b L sc) (hL : L ≤ 2048) {it : Nat} (hit : 4 * it + 4 ≤ L) {h g : Nat → Nat} {oa : Nat} {np : Nat} {nl : Nat} {len : Nat} {fd : Nat} {lu : Nat} {tu : Nat} {T : Nat → Int32} {C : Nat → Int32} {F : Nat → Int32} {LT : Nat → Int32} {VV : Nat → Int32} {BB : Nat → Int32} {lt : Nat → Int32} {ph : Nat → Int32} {lh : Nat → Int32} {ks : Nat → Int64} {wd : Nat → Int32} {gr : Nat → Int32} {gs : Nat → Int32} {bl : Nat → Int32} {ie : Nat → Int32} {tw : Nat → Int32} {th2 : Nat} {np2 : Nat} {nl2 : Nat} {ld2 : Nat} {ll2 : Nat} {mn2 : Int32} {sp2 : Nat} {T2 : Nat → Int32} {S2 : Nat → Int32} {C2 : Nat → Int32} {F2 : Nat → Int32} {LT2 : Nat → Int32} {LS2 : Nat → Int32} {VE2 : Nat → Int32} {BA2 : Nat → Int32} {wd2 : Nat → Int32} {mo2 : Nat → Int32} {lt2 : Nat → Int32} {op2 : Nat → Int32} {pl2 : Nat → Int32} {pt2 : Nat → Int32} {ks2 : Nat → Int64} {ov : Nat → Int64} {x : LX} (hI : INV x np nl lu tu T C F LT VV BB wd gr gs bl ie np2 nl2 ld2 T2 S2 C2 F2 LT2 LS2 VE2 BA2 wd2 mo2) {k n : Nat} (hk : k + 2 ≤ 601024) (hn : n + 12 ≤ 7293034) (LJ : ∀ (np : Nat) (nl : Nat) (len : Nat) (fd : Nat) (lu : Nat) (tu : Nat) (T : Nat → Int32) (C : Nat → Int32) (F : Nat → Int32) (LT : Nat → Int32) (VV : Nat → Int32) (BB : Nat → Int32) (lt : Nat → Int32) (ph : Nat → Int32) (lh : Nat → Int32) (ks : Nat → Int64) (wd : Nat → Int32) (gr : Nat → Int32) (gs : Nat → Int32) (bl : Nat → Int32) (ie : Nat → Int32) (tw : Nat → Int32) (th2 : Nat) (np2 : Nat) (nl2 : Nat) (ld2 : Nat) (ll2 : Nat) (mn2 : Int32) (sp2 : Nat) (T2 : Nat → Int32) (S2 : Nat → Int32) (C2 : Nat → Int32) (F2 : Nat → Int32) (LT2 : Nat → Int32) (LS2 : Nat → Int32) (VE2 : Nat → Int32) (BA2 : Nat → Int32) (wd2 : Nat → Int32) (mo2 : Nat → Int32) (lt2 : Nat → Int32) (op2 : Nat → Int32) (pl2 : Nat → Int32) (pt2 : Nat → Int32) (ks2 : Nat → Int64) (ov : Nat → Int64) (x : LX), INV x np nl lu tu T C F LT VV BB wd gr gs bl ie np2 nl2 ld2 T2 S2 C2 F2 LT2 LS2 VE2 BA2 wd2 mo2 → V X lo 7 G Q (k + 2) (n + 12) (cW G h np nl len fd lu tu T C F LT VV BB lt ph lh ks wd gr gs bl ie tw ++ ([(oa, .inl (G.2.2.1, 1, .inr (.inl ov)))] ++ mW G g th2 np2 nl2 ld2 ll2 mn2 sp2 T2 S2 C2 F2 LT2 LS2 VE2 BA2 wd2 mo2 lt2 op2 pl2 pt2 ks2)) [(4, .int (nI (4 * it))), (0, .ref b), (1, .ref (h 0)), (2, .ref (g 0)), (3, .ref oa)] [] 1236) : V X lo 7 G Q k n (cW G h np nl len fd lu tu T C F LT VV BB lt ph lh ks wd gr gs bl ie tw ++ ([(oa, .inl (G.2.2.1, 1, .inr (.inl ov)))] ++ mW G g th2 np2 nl2 ld2 ll2 mn2 sp2 T2 S2 C2 F2 LT2 LS2 VE2 BA2 wd2 mo2 lt2 op2 pl2 pt2 ks2)) [(4, .int (nI (4 * it))), (0, .ref b), (1, .ref (h 0)), (2, .ref (g 0)), (3, .ref oa)] [] 276 := by
  obtain ⟨cx, hX, hst, hsc, hbl, hbA⟩ := id LC
  obtain ⟨hnp1, hnp2, hnp, hnl1, hnl2, hnl, hld, hlu⟩ := inv_np hI
  have hnp22 : np2 ≤ 16 := by omega
  have hnl22 : nl2 ≤ 6 := by omega
  have hld50 : ld2 ≤ 50 := by omega
  refine V_aload_n cx 277 rfl dL_law_276 2 rfl ?_
  refine V_aload_n cx 278 rfl dL_law_277 1 rfl ?_
  refine V_iload cx 280 rfl dL_law_278 0 rfl ?_
  refine V_iconst (v := nI 1) cx 281 rfl dL_law_280 (by decide) ?_
  refine V_iadd cx 282 rfl dL_law_281 ?_
  refine V_toi (nI (4 * it + 1)) (nI_add _ _) ?_
  refine V_sld LC (4 * it + 1) rfl (by omega) hL 283 rfl dL_law_282 ?_
  refine V_aload_n cx 284 rfl dL_law_283 4 rfl ?_
  refine V_calli (V_runSW (As := [.ref (h 0), .int (sc (4 * it + 1)), .ref oa]) (rest := []) (nA := 3) cx (kL_addLink (xl X) lo G _ h np nl len fd lu tu T C F LT VV BB lt ph lh ks wd gr gs bl ie tw oa ov (sc (4 * it + 1)) hst hnl) ⟨ml_L_86, sm_L_addLink, ii_L, co_L_addLink⟩ ⟨by decide, by decide, by decide +kernel⟩ (lw_rm hX (by decide) (by decide)) rfl rfl (Nat.le_of_ble_eq_true rfl) ⟨Nat.le_trans (by omega) hX.2.2.1, Nat.le_trans (by omega) hX.2.2.2⟩ dL_law_284) 287 (k + 2) (n + 12) rfl rfl rfl (fun v u hw => ?_)
  rcases u with _ | ⟨v1, z⟩
  · skip
    dsimp only at hw
    obtain ⟨E, hx, hcode⟩ := hw
    refine V_istore (lc1 := [(5, .int v), (4, .int (nI (4 * it))), (0, .ref b), (1, .ref (h 0)), (2, .ref (g 0)), (3, .ref oa)]) cx 289 rfl dL_law_287 (by decide) rfl ?_
    refine V.toM ?_
    refine V_aload_n cx 290 rfl dL_law_289 4 rfl ?_
    refine V_aload_n cx 291 rfl dL_law_290 2 rfl ?_
    refine V_iload cx 293 rfl dL_law_291 1 rfl ?_
    refine V_iconst (v := nI 1) cx 294 rfl dL_law_293 (by decide) ?_
    refine V_iadd cx 295 rfl dL_law_294 ?_
    refine V_toi (nI (4 * it + 1)) (nI_add _ _) ?_
    refine V_sld LC (4 * it + 1) rfl (by omega) hL 296 rfl dL_law_295 ?_
    refine KL_89 (As := [.int (sc (4 * it + 1))]) (rest := []) cx (kX5_addLink (xl X) lo G _ g th2 np2 nl2 ld2 ll2 mn2 sp2 T2 S2 C2 F2 LT2 LS2 VE2 BA2 wd2 mo2 lt2 op2 pl2 pt2 ks2 (sc (4 * it + 1)) hnl22) hX (by omega) 0 rfl rfl rfl (Nat.le_of_ble_eq_true rfl) 299 (k + 2) (n + 12) rfl rfl rfl (by omega) (by omega) dL_law_296 ?_
    intro r u2 hw2
    obtain ⟨th1', nl1', LT1', LS1'⟩ := u2
    try dsimp only at hw2
    refine V_istore (lc1 := [(6, .int r), (5, .int v), (4, .int (nI (4 * it))), (0, .ref b), (1, .ref (h 0)), (2, .ref (g 0)), (3, .ref oa)]) cx 301 rfl dL_law_299 (by decide) rfl ?_
    refine V_aload_n cx 302 rfl dL_law_301 5 rfl ?_
    refine KL_79 (As := []) (rest := []) cx (kX5_thrown (xl X) lo G _ g _ _ _ _ _ _ _ _ _ _ _ _ _ _ _ _ _ _ _ _ _ _) hX (by omega) 0 rfl rfl rfl (Nat.le_of_ble_eq_true rfl) 305 (k + 2) (n + 12) rfl rfl rfl (by omega) (by omega) dL_law_302 ?_
    intro rt _ hrt
    try dsimp only at hrt
    subst hrt
    refine V_iload cx 307 rfl dL_law_305 1 rfl ?_
    obtain ⟨hth, rfl, rfl, rfl⟩ := st_addLink_x hI hx hw2
    obtain ⟨rfl, hne⟩ := exc2 (by decide) hcode hth
    refine V_icmp_eq cx 310 312 rfl dL_law_307 (by decide) (fun c0 => ?_) (fun c0 => absurd rfl c0)
    refine V_iload cx 314 rfl dL_law_312 1 rfl ?_
    refine V_if_ne cx 317 329 rfl dL_law_314 (by decide) (fun c0 => ?_) (fun c0 => absurd c0 hne)
    refine V_goto cx 1236 dL_law_329 (by decide) ?_
    refine V.widen (k' := k + 2) (n' := n + 12) (by omega) (by omega) ?_
    refine V.toC ?_
    refine V.locs (lc' := [(4, .int (nI (4 * it))), (0, .ref b), (1, .ref (h 0)), (2, .ref (g 0)), (3, .ref oa)]) [2, 3, 4, 5, 6] rfl ?_
    exact LJ _ _ _ _ _ _ _ _ _ _ _ _ _ _ _ _ _ _ _ _ _ _ _ _ _ _ _ _ _ _ _ _ _ _ _ _ _ _ _ _ _ _ _ _ _ x hI
  · skip
    dsimp only at hw
    obtain ⟨hx, hv, hz⟩ := hw
    subst hv
    refine V_istore (lc1 := [(5, .int (nI 0)), (4, .int (nI (4 * it))), (0, .ref b), (1, .ref (h 0)), (2, .ref (g 0)), (3, .ref oa)]) cx 289 rfl dL_law_287 (by decide) rfl ?_
    refine V.toM ?_
    refine V_aload_n cx 290 rfl dL_law_289 4 rfl ?_
    refine V_aload_n cx 291 rfl dL_law_290 2 rfl ?_
    refine V_iload cx 293 rfl dL_law_291 1 rfl ?_
    refine V_iconst (v := nI 1) cx 294 rfl dL_law_293 (by decide) ?_
    refine V_iadd cx 295 rfl dL_law_294 ?_
    refine V_toi (nI (4 * it + 1)) (nI_add _ _) ?_
    refine V_sld LC (4 * it + 1) rfl (by omega) hL 296 rfl dL_law_295 ?_
    refine KL_89 (As := [.int (sc (4 * it + 1))]) (rest := []) cx (kX5_addLink (xl X) lo G _ g th2 np2 nl2 ld2 ll2 mn2 sp2 T2 S2 C2 F2 LT2 LS2 VE2 BA2 wd2 mo2 lt2 op2 pl2 pt2 ks2 (sc (4 * it + 1)) hnl22) hX (by omega) 0 rfl rfl rfl (Nat.le_of_ble_eq_true rfl) 299 (k + 2) (n + 12) rfl rfl rfl (by omega) (by omega) dL_law_296 ?_
    intro r u2 hw2
    obtain ⟨th1', nl1', LT1', LS1'⟩ := u2
    try dsimp only at hw2
    refine V_istore (lc1 := [(6, .int r), (5, .int (nI 0)), (4, .int (nI (4 * it))), (0, .ref b), (1, .ref (h 0)), (2, .ref (g 0)), (3, .ref oa)]) cx 301 rfl dL_law_299 (by decide) rfl ?_
    refine V_aload_n cx 302 rfl dL_law_301 5 rfl ?_
    refine KL_79 (As := []) (rest := []) cx (kX5_thrown (xl X) lo G _ g _ _ _ _ _ _ _ _ _ _ _ _ _ _ _ _ _ _ _ _ _ _) hX (by omega) 0 rfl rfl rfl (Nat.le_of_ble_eq_true rfl) 305 (k + 2) (n + 12) rfl rfl rfl (by omega) (by omega) dL_law_302 ?_
    intro rt _ hrt
    try dsimp only at hrt
    subst hrt
    refine V_iload cx 307 rfl dL_law_305 1 rfl ?_
    obtain ⟨rfl, rfl, x', hI'⟩ := st_addLink_n hI hx hw2
    refine V_icmp_eq cx 310 312 rfl dL_law_307 (by decide) (fun c0 => ?_) (fun c0 => absurd rfl c0)
    refine V_iload cx 314 rfl dL_law_312 1 rfl ?_
    refine V_if_ne cx 317 329 rfl dL_law_314 (by decide) (fun c0 => absurd rfl c0) (fun c0 => ?_)
    refine V_aload_n cx 318 rfl dL_law_317 6 rfl ?_
    refine V_iconst (v := nI 0) cx 319 rfl dL_law_318 (by decide) ?_
    refine V_laldN cx 0 rfl (by decide) (by decide) 37 rfl 320 rfl dL_law_319 ?_
    refine V_tol z rfl ?_
    refine V_iload cx 322 rfl dL_law_320 0 rfl ?_
    refine V_i2l cx 323 rfl dL_law_322 ?_
    refine V_tol z hz.symm ?_
    refine V_lcmp cx 324 rfl dL_law_323 ?_
    refine V_if_eq cx 327 329 rfl dL_law_324 (by decide) (fun c0 => ?_) (fun c0 => absurd (lg_cmp_self z) c0)
    refine V_goto cx 1236 dL_law_329 (by decide) ?_
    refine V.widen (k' := k + 2) (n' := n + 12) (by omega) (by omega) ?_
    refine V.toC ?_
    refine V.locs (lc' := [(4, .int (nI (4 * it))), (0, .ref b), (1, .ref (h 0)), (2, .ref (g 0)), (3, .ref oa)]) [2, 3, 4, 5, 6] rfl ?_
    exact LJ _ _ _ _ _ _ _ _ _ _ _ _ _ _ _ _ _ _ _ _ _ _ _ _ _ _ _ _ _ _ _ _ _ _ _ _ _ _ _ _ _ _ _ _ _ x' hI'
set_option maxHeartbeats 4000000 in
set_option maxRecDepth 100000 in
theorem lw_case_veto {X : vX} {lo : Nat} {G : vG} {Q : State → Prop} {b L : Nat} {sc : Nat → Int32} (LC : LCx X lo G b L sc) (hL : L ≤ 2048) {it : Nat} (hit : 4 * it + 4 ≤ L) {h g : Nat → Nat} {oa : Nat} {np : Nat} {nl : Nat} {len : Nat} {fd : Nat} {lu : Nat} {tu : Nat} {T : Nat → Int32} {C : Nat → Int32} {F : Nat → Int32} {LT : Nat → Int32} {VV : Nat → Int32} {BB : Nat → Int32} {lt : Nat → Int32} {ph : Nat → Int32} {lh : Nat → Int32} {ks : Nat → Int64} {wd : Nat → Int32} {gr : Nat → Int32} {gs : Nat → Int32} {bl : Nat → Int32} {ie : Nat → Int32} {tw : Nat → Int32} {th2 : Nat} {np2 : Nat} {nl2 : Nat} {ld2 : Nat} {ll2 : Nat} {mn2 : Int32} {sp2 : Nat} {T2 : Nat → Int32} {S2 : Nat → Int32} {C2 : Nat → Int32} {F2 : Nat → Int32} {LT2 : Nat → Int32} {LS2 : Nat → Int32} {VE2 : Nat → Int32} {BA2 : Nat → Int32} {wd2 : Nat → Int32} {mo2 : Nat → Int32} {lt2 : Nat → Int32} {op2 : Nat → Int32} {pl2 : Nat → Int32} {pt2 : Nat → Int32} {ks2 : Nat → Int64} {ov : Nat → Int64} {x : LX} (hI : INV x np nl lu tu T C F LT VV BB wd gr gs bl ie np2 nl2 ld2 T2 S2 C2 F2 LT2 LS2 VE2 BA2 wd2 mo2) {k n : Nat} (hk : k + 2 ≤ 601024) (hn : n + 12 ≤ 7293034) (LJ : ∀ (np : Nat) (nl : Nat) (len : Nat) (fd : Nat) (lu : Nat) (tu : Nat) (T : Nat → Int32) (C : Nat → Int32) (F : Nat → Int32) (LT : Nat → Int32) (VV : Nat → Int32) (BB : Nat → Int32) (lt : Nat → Int32) (ph : Nat → Int32) (lh : Nat → Int32) (ks : Nat → Int64) (wd : Nat → Int32) (gr : Nat → Int32) (gs : Nat → Int32) (bl : Nat → Int32) (ie : Nat → Int32) (tw : Nat → Int32) (th2 : Nat) (np2 : Nat) (nl2 : Nat) (ld2 : Nat) (ll2 : Nat) (mn2 : Int32) (sp2 : Nat) (T2 : Nat → Int32) (S2 : Nat → Int32) (C2 : Nat → Int32) (F2 : Nat → Int32) (LT2 : Nat → Int32) (LS2 : Nat → Int32) (VE2 : Nat → Int32) (BA2 : Nat → Int32) (wd2 : Nat → Int32) (mo2 : Nat → Int32) (lt2 : Nat → Int32) (op2 : Nat → Int32) (pl2 : Nat → Int32) (pt2 : Nat → Int32) (ks2 : Nat → Int64) (ov : Nat → Int64) (x : LX), INV x np nl lu tu T C F LT VV BB wd gr gs bl ie np2 nl2 ld2 T2 S2 C2 F2 LT2 LS2 VE2 BA2 wd2 mo2 → V X lo 7 G Q (k + 2) (n + 12) (cW G h np nl len fd lu tu T C F LT VV BB lt ph lh ks wd gr gs bl ie tw ++ ([(oa, .inl (G.2.2.1, 1, .inr (.inl ov)))] ++ mW G g th2 np2 nl2 ld2 ll2 mn2 sp2 T2 S2 C2 F2 LT2 LS2 VE2 BA2 wd2 mo2 lt2 op2 pl2 pt2 ks2)) [(4, .int (nI (4 * it))), (0, .ref b), (1, .ref (h 0)), (2, .ref (g 0)), (3, .ref oa)] [] 1236) : V X lo 7 G Q k n (cW G h np nl len fd lu tu T C F LT VV BB lt ph lh ks wd gr gs bl ie tw ++ ([(oa, .inl (G.2.2.1, 1, .inr (.inl ov)))] ++ mW G g th2 np2 nl2 ld2 ll2 mn2 sp2 T2 S2 C2 F2 LT2 LS2 VE2 BA2 wd2 mo2 lt2 op2 pl2 pt2 ks2)) [(4, .int (nI (4 * it))), (0, .ref b), (1, .ref (h 0)), (2, .ref (g 0)), (3, .ref oa)] [] 332 := by
  obtain ⟨cx, hX, hst, hsc, hbl, hbA⟩ := id LC
  obtain ⟨hnp1, hnp2, hnp, hnl1, hnl2, hnl, hld, hlu⟩ := inv_np hI
  have hnp22 : np2 ≤ 16 := by omega
  have hnl22 : nl2 ≤ 6 := by omega
  have hld50 : ld2 ≤ 50 := by omega
  obtain ⟨bb, hbb⟩ : ∃ bb : Bool, (bb = true → ¬ sc (4 * it + 3) = 0) ∧ (bb = false → sc (4 * it + 3) = 0) := by
    by_cases hq : sc (4 * it + 3) = 0
    · exact ⟨false, (fun z => by cases z), fun _ => hq⟩
    · exact ⟨true, (fun _ => hq), fun z => by cases z⟩
  refine V_aload_n cx 333 rfl dL_law_332 2 rfl ?_
  refine V_aload_n cx 334 rfl dL_law_333 1 rfl ?_
  refine V_iload cx 336 rfl dL_law_334 0 rfl ?_
  refine V_iconst (v := nI 1) cx 337 rfl dL_law_336 (by decide) ?_
  refine V_iadd cx 338 rfl dL_law_337 ?_
  refine V_toi (nI (4 * it + 1)) (nI_add _ _) ?_
  refine V_sld LC (4 * it + 1) rfl (by omega) hL 339 rfl dL_law_338 ?_
  refine V_aload_n cx 340 rfl dL_law_339 1 rfl ?_
  refine V_iload cx 342 rfl dL_law_340 0 rfl ?_
  refine V_iconst (v := nI 2) cx 343 rfl dL_law_342 (by decide) ?_
  refine V_iadd cx 344 rfl dL_law_343 ?_
  refine V_toi (nI (4 * it + 2)) (nI_add _ _) ?_
  refine V_sld LC (4 * it + 2) rfl (by omega) hL 345 rfl dL_law_344 ?_
  refine V_aload_n cx 346 rfl dL_law_345 1 rfl ?_
  refine V_iload cx 348 rfl dL_law_346 0 rfl ?_
  refine V_iconst (v := nI 3) cx 349 rfl dL_law_348 (by decide) ?_
  refine V_iadd cx 350 rfl dL_law_349 ?_
  refine V_toi (nI (4 * it + 3)) (nI_add _ _) ?_
  refine V_sld LC (4 * it + 3) rfl (by omega) hL 351 rfl dL_law_350 ?_
  refine V_ifbool (bb := bb) cx hbb 354 355 358 359 rfl rfl rfl rfl dL_law_351 dL_law_354 dL_law_355 dL_law_358 ?_
  refine V_aload_n cx 360 rfl dL_law_359 4 rfl ?_
  refine V_calli (V_runSW (As := [.ref (h 0), .int (sc (4 * it + 1)), .int (sc (4 * it + 2)), .int (bI bb), .ref oa]) (rest := []) (nA := 5) cx (kL_veto (xl X) lo G _ h np nl len fd lu tu T C F LT VV BB lt ph lh ks wd gr gs bl ie tw oa ov (sc (4 * it + 1)) (sc (4 * it + 2)) bb hst hnp hI.2.2.2.1.1) ⟨ml_L_90, sm_L_veto, ii_L, co_L_veto⟩ ⟨by decide, by decide, by decide +kernel⟩ (lw_rm hX (by decide) (by decide)) rfl rfl (Nat.le_of_ble_eq_true rfl) ⟨Nat.le_trans (by omega) hX.2.2.1, Nat.le_trans (by omega) hX.2.2.2⟩ dL_law_360) 363 (k + 2) (n + 12) rfl rfl rfl (fun v u hw => ?_)
  rcases u with _ | ⟨VV1, v1, z⟩
  · skip
    dsimp only at hw
    obtain ⟨E, hx, hcode⟩ := hw
    refine V_istore (lc1 := [(5, .int v), (4, .int (nI (4 * it))), (0, .ref b), (1, .ref (h 0)), (2, .ref (g 0)), (3, .ref oa)]) cx 365 rfl dL_law_363 (by decide) rfl ?_
    refine V.toM ?_
    refine V_aload_n cx 366 rfl dL_law_365 4 rfl ?_
    refine V_aload_n cx 367 rfl dL_law_366 2 rfl ?_
    refine V_iload cx 369 rfl dL_law_367 1 rfl ?_
    refine V_iconst (v := nI 1) cx 370 rfl dL_law_369 (by decide) ?_
    refine V_iadd cx 371 rfl dL_law_370 ?_
    refine V_toi (nI (4 * it + 1)) (nI_add _ _) ?_
    refine V_sld LC (4 * it + 1) rfl (by omega) hL 372 rfl dL_law_371 ?_
    refine V_aload_n cx 373 rfl dL_law_372 2 rfl ?_
    refine V_iload cx 375 rfl dL_law_373 1 rfl ?_
    refine V_iconst (v := nI 2) cx 376 rfl dL_law_375 (by decide) ?_
    refine V_iadd cx 377 rfl dL_law_376 ?_
    refine V_toi (nI (4 * it + 2)) (nI_add _ _) ?_
    refine V_sld LC (4 * it + 2) rfl (by omega) hL 378 rfl dL_law_377 ?_
    refine V_aload_n cx 379 rfl dL_law_378 2 rfl ?_
    refine V_iload cx 381 rfl dL_law_379 1 rfl ?_
    refine V_iconst (v := nI 3) cx 382 rfl dL_law_381 (by decide) ?_
    refine V_iadd cx 383 rfl dL_law_382 ?_
    refine V_toi (nI (4 * it + 3)) (nI_add _ _) ?_
    refine V_sld LC (4 * it + 3) rfl (by omega) hL 384 rfl dL_law_383 ?_
    refine V_ifbool (bb := bb) cx hbb 387 388 391 392 rfl rfl rfl rfl dL_law_384 dL_law_387 dL_law_388 dL_law_391 ?_
    refine KL_93 (As := [.int (sc (4 * it + 1)), .int (sc (4 * it + 2)), .int (bI bb)]) (rest := []) cx (kX5_veto (xl X) lo G _ g th2 np2 nl2 ld2 ll2 mn2 sp2 T2 S2 C2 F2 LT2 LS2 VE2 BA2 wd2 mo2 lt2 op2 pl2 pt2 ks2 (sc (4 * it + 1)) (sc (4 * it + 2)) bb hnp22) hX (by omega) 0 rfl rfl rfl (Nat.le_of_ble_eq_true rfl) 395 (k + 2) (n + 12) rfl rfl rfl (by omega) (by omega) dL_law_392 ?_
    intro r u2 hw2
    obtain ⟨th1', VE1'⟩ := u2
    try dsimp only at hw2
    refine V_istore (lc1 := [(6, .int r), (5, .int v), (4, .int (nI (4 * it))), (0, .ref b), (1, .ref (h 0)), (2, .ref (g 0)), (3, .ref oa)]) cx 397 rfl dL_law_395 (by decide) rfl ?_
    refine V_aload_n cx 398 rfl dL_law_397 5 rfl ?_
    refine KL_79 (As := []) (rest := []) cx (kX5_thrown (xl X) lo G _ g _ _ _ _ _ _ _ _ _ _ _ _ _ _ _ _ _ _ _ _ _ _) hX (by omega) 0 rfl rfl rfl (Nat.le_of_ble_eq_true rfl) 401 (k + 2) (n + 12) rfl rfl rfl (by omega) (by omega) dL_law_398 ?_
    intro rt _ hrt
    try dsimp only at hrt
    subst hrt
    refine V_iload cx 403 rfl dL_law_401 1 rfl ?_
    subst hnp2
    obtain ⟨hth, rfl⟩ := st_mask_x hnp hnp hx.2 hw2
    obtain ⟨rfl, hne⟩ := exc1 hcode hth
    refine V_icmp_eq cx 406 408 rfl dL_law_403 (by decide) (fun c0 => ?_) (fun c0 => absurd rfl c0)
    refine V_iload cx 410 rfl dL_law_408 1 rfl ?_
    refine V_if_ne cx 413 432 rfl dL_law_410 (by decide) (fun c0 => ?_) (fun c0 => absurd c0 hne)
    refine V_goto cx 1236 dL_law_432 (by decide) ?_
    refine V.widen (k' := k + 2) (n' := n + 12) (by omega) (by omega) ?_
    refine V.toC ?_
    refine V.locs (lc' := [(4, .int (nI (4 * it))), (0, .ref b), (1, .ref (h 0)), (2, .ref (g 0)), (3, .ref oa)]) [2, 3, 4, 5, 6] rfl ?_
    exact LJ _ _ _ _ _ _ _ _ _ _ _ _ _ _ _ _ _ _ _ _ _ _ _ _ _ _ _ _ _ _ _ _ _ _ _ _ _ _ _ _ _ _ _ _ _ x hI
  · skip
    dsimp only at hw
    obtain ⟨hx, hv, hz⟩ := hw
    subst hv
    refine V_istore (lc1 := [(5, .int (nI 0)), (4, .int (nI (4 * it))), (0, .ref b), (1, .ref (h 0)), (2, .ref (g 0)), (3, .ref oa)]) cx 365 rfl dL_law_363 (by decide) rfl ?_
    refine V.toM ?_
    refine V_aload_n cx 366 rfl dL_law_365 4 rfl ?_
    refine V_aload_n cx 367 rfl dL_law_366 2 rfl ?_
    refine V_iload cx 369 rfl dL_law_367 1 rfl ?_
    refine V_iconst (v := nI 1) cx 370 rfl dL_law_369 (by decide) ?_
    refine V_iadd cx 371 rfl dL_law_370 ?_
    refine V_toi (nI (4 * it + 1)) (nI_add _ _) ?_
    refine V_sld LC (4 * it + 1) rfl (by omega) hL 372 rfl dL_law_371 ?_
    refine V_aload_n cx 373 rfl dL_law_372 2 rfl ?_
    refine V_iload cx 375 rfl dL_law_373 1 rfl ?_
    refine V_iconst (v := nI 2) cx 376 rfl dL_law_375 (by decide) ?_
    refine V_iadd cx 377 rfl dL_law_376 ?_
    refine V_toi (nI (4 * it + 2)) (nI_add _ _) ?_
    refine V_sld LC (4 * it + 2) rfl (by omega) hL 378 rfl dL_law_377 ?_
    refine V_aload_n cx 379 rfl dL_law_378 2 rfl ?_
    refine V_iload cx 381 rfl dL_law_379 1 rfl ?_
    refine V_iconst (v := nI 3) cx 382 rfl dL_law_381 (by decide) ?_
    refine V_iadd cx 383 rfl dL_law_382 ?_
    refine V_toi (nI (4 * it + 3)) (nI_add _ _) ?_
    refine V_sld LC (4 * it + 3) rfl (by omega) hL 384 rfl dL_law_383 ?_
    refine V_ifbool (bb := bb) cx hbb 387 388 391 392 rfl rfl rfl rfl dL_law_384 dL_law_387 dL_law_388 dL_law_391 ?_
    refine KL_93 (As := [.int (sc (4 * it + 1)), .int (sc (4 * it + 2)), .int (bI bb)]) (rest := []) cx (kX5_veto (xl X) lo G _ g th2 np2 nl2 ld2 ll2 mn2 sp2 T2 S2 C2 F2 LT2 LS2 VE2 BA2 wd2 mo2 lt2 op2 pl2 pt2 ks2 (sc (4 * it + 1)) (sc (4 * it + 2)) bb hnp22) hX (by omega) 0 rfl rfl rfl (Nat.le_of_ble_eq_true rfl) 395 (k + 2) (n + 12) rfl rfl rfl (by omega) (by omega) dL_law_392 ?_
    intro r u2 hw2
    obtain ⟨th1', VE1'⟩ := u2
    try dsimp only at hw2
    refine V_istore (lc1 := [(6, .int r), (5, .int (nI 0)), (4, .int (nI (4 * it))), (0, .ref b), (1, .ref (h 0)), (2, .ref (g 0)), (3, .ref oa)]) cx 397 rfl dL_law_395 (by decide) rfl ?_
    refine V_aload_n cx 398 rfl dL_law_397 5 rfl ?_
    refine KL_79 (As := []) (rest := []) cx (kX5_thrown (xl X) lo G _ g _ _ _ _ _ _ _ _ _ _ _ _ _ _ _ _ _ _ _ _ _ _) hX (by omega) 0 rfl rfl rfl (Nat.le_of_ble_eq_true rfl) 401 (k + 2) (n + 12) rfl rfl rfl (by omega) (by omega) dL_law_398 ?_
    intro rt _ hrt
    try dsimp only at hrt
    subst hrt
    refine V_iload cx 403 rfl dL_law_401 1 rfl ?_
    obtain ⟨rfl, rfl, x', hI'⟩ := st_veto_n hI hx hw2
    refine V_icmp_eq cx 406 408 rfl dL_law_403 (by decide) (fun c0 => ?_) (fun c0 => absurd rfl c0)
    refine V_iload cx 410 rfl dL_law_408 1 rfl ?_
    refine V_if_ne cx 413 432 rfl dL_law_410 (by decide) (fun c0 => absurd rfl c0) (fun c0 => ?_)
    refine V_aload_n cx 414 rfl dL_law_413 6 rfl ?_
    refine V_iconst (v := nI 0) cx 415 rfl dL_law_414 (by decide) ?_
    refine V_laldN cx 0 rfl (by decide) (by decide) 37 rfl 416 rfl dL_law_415 ?_
    refine V_tol z rfl ?_
    refine V_iload cx 418 rfl dL_law_416 0 rfl ?_
    refine V_ifz cx hz 421 422 425 426 rfl rfl rfl rfl dL_law_418 dL_law_421 dL_law_422 dL_law_425 ?_
    refine V_lcmp cx 427 rfl dL_law_426 ?_
    refine V_if_eq cx 430 432 rfl dL_law_427 (by decide) (fun c0 => ?_) (fun c0 => absurd (lg_cmp_self z) c0)
    refine V_goto cx 1236 dL_law_432 (by decide) ?_
    refine V.widen (k' := k + 2) (n' := n + 12) (by omega) (by omega) ?_
    refine V.toC ?_
    refine V.locs (lc' := [(4, .int (nI (4 * it))), (0, .ref b), (1, .ref (h 0)), (2, .ref (g 0)), (3, .ref oa)]) [2, 3, 4, 5, 6] rfl ?_
    exact LJ _ _ _ _ _ _ _ _ _ _ _ _ _ _ _ _ _ _ _ _ _ _ _ _ _ _ _ _ _ _ _ _ _ _ _ _ _ _ _ _ _ _ _ _ _ x' hI'
set_option maxHeartbeats 4000000 in
set_option maxRecDepth 100000 in
theorem lw_case_bar {X : vX} {lo : Nat} {G : vG} {Q : State → Prop} {b L : Nat} {sc : Nat → Int32} (LC : LCx X lo G b L sc) (hL : L ≤ 2048) {it : Nat} (hit : 4 * it + 4 ≤ L) {h g : Nat → Nat} {oa : Nat} {np : Nat} {nl : Nat} {len : Nat} {fd : Nat} {lu : Nat} {tu : Nat} {T : Nat → Int32} {C : Nat → Int32} {F : Nat → Int32} {LT : Nat → Int32} {VV : Nat → Int32} {BB : Nat → Int32} {lt : Nat → Int32} {ph : Nat → Int32} {lh : Nat → Int32} {ks : Nat → Int64} {wd : Nat → Int32} {gr : Nat → Int32} {gs : Nat → Int32} {bl : Nat → Int32} {ie : Nat → Int32} {tw : Nat → Int32} {th2 : Nat} {np2 : Nat} {nl2 : Nat} {ld2 : Nat} {ll2 : Nat} {mn2 : Int32} {sp2 : Nat} {T2 : Nat → Int32} {S2 : Nat → Int32} {C2 : Nat → Int32} {F2 : Nat → Int32} {LT2 : Nat → Int32} {LS2 : Nat → Int32} {VE2 : Nat → Int32} {BA2 : Nat → Int32} {wd2 : Nat → Int32} {mo2 : Nat → Int32} {lt2 : Nat → Int32} {op2 : Nat → Int32} {pl2 : Nat → Int32} {pt2 : Nat → Int32} {ks2 : Nat → Int64} {ov : Nat → Int64} {x : LX} (hI : INV x np nl lu tu T C F LT VV BB wd gr gs bl ie np2 nl2 ld2 T2 S2 C2 F2 LT2 LS2 VE2 BA2 wd2 mo2) {k n : Nat} (hk : k + 2 ≤ 601024) (hn : n + 12 ≤ 7293034) (LJ : ∀ (np : Nat) (nl : Nat) (len : Nat) (fd : Nat) (lu : Nat) (tu : Nat) (T : Nat → Int32) (C : Nat → Int32) (F : Nat → Int32) (LT : Nat → Int32) (VV : Nat → Int32) (BB : Nat → Int32) (lt : Nat → Int32) (ph : Nat → Int32) (lh : Nat → Int32) (ks : Nat → Int64) (wd : Nat → Int32) (gr : Nat → Int32) (gs : Nat → Int32) (bl : Nat → Int32) (ie : Nat → Int32) (tw : Nat → Int32) (th2 : Nat) (np2 : Nat) (nl2 : Nat) (ld2 : Nat) (ll2 : Nat) (mn2 : Int32) (sp2 : Nat) (T2 : Nat → Int32) (S2 : Nat → Int32) (C2 : Nat → Int32) (F2 : Nat → Int32) (LT2 : Nat → Int32) (LS2 : Nat → Int32) (VE2 : Nat → Int32) (BA2 : Nat → Int32) (wd2 : Nat → Int32) (mo2 : Nat → Int32) (lt2 : Nat → Int32) (op2 : Nat → Int32) (pl2 : Nat → Int32) (pt2 : Nat → Int32) (ks2 : Nat → Int64) (ov : Nat → Int64) (x : LX), INV x np nl lu tu T C F LT VV BB wd gr gs bl ie np2 nl2 ld2 T2 S2 C2 F2 LT2 LS2 VE2 BA2 wd2 mo2 → V X lo 7 G Q (k + 2) (n + 12) (cW G h np nl len fd lu tu T C F LT VV BB lt ph lh ks wd gr gs bl ie tw ++ ([(oa, .inl (G.2.2.1, 1, .inr (.inl ov)))] ++ mW G g th2 np2 nl2 ld2 ll2 mn2 sp2 T2 S2 C2 F2 LT2 LS2 VE2 BA2 wd2 mo2 lt2 op2 pl2 pt2 ks2)) [(4, .int (nI (4 * it))), (0, .ref b), (1, .ref (h 0)), (2, .ref (g 0)), (3, .ref oa)] [] 1236) : V X lo 7 G Q k n (cW G h np nl len fd lu tu T C F LT VV BB lt ph lh ks wd gr gs bl ie tw ++ ([(oa, .inl (G.2.2.1, 1, .inr (.inl ov)))] ++ mW G g th2 np2 nl2 ld2 ll2 mn2 sp2 T2 S2 C2 F2 LT2 LS2 VE2 BA2 wd2 mo2 lt2 op2 pl2 pt2 ks2)) [(4, .int (nI (4 * it))), (0, .ref b), (1, .ref (h 0)), (2, .ref (g 0)), (3, .ref oa)] [] 435 := by
  obtain ⟨cx, hX, hst, hsc, hbl, hbA⟩ := id LC
  obtain ⟨hnp1, hnp2, hnp, hnl1, hnl2, hnl, hld, hlu⟩ := inv_np hI
  have hnp22 : np2 ≤ 16 := by omega
  have hnl22 : nl2 ≤ 6 := by omega
  have hld50 : ld2 ≤ 50 := by omega
  obtain ⟨bb, hbb⟩ : ∃ bb : Bool, (bb = true → ¬ sc (4 * it + 3) = 0) ∧ (bb = false → sc (4 * it + 3) = 0) := by
    by_cases hq : sc (4 * it + 3) = 0
    · exact ⟨false, (fun z => by cases z), fun _ => hq⟩
    · exact ⟨true, (fun _ => hq), fun z => by cases z⟩
  refine V_aload_n cx 436 rfl dL_law_435 2 rfl ?_
  refine V_aload_n cx 437 rfl dL_law_436 1 rfl ?_
  refine V_iload cx 439 rfl dL_law_437 0 rfl ?_
  refine V_iconst (v := nI 1) cx 440 rfl dL_law_439 (by decide) ?_
  refine V_iadd cx 441 rfl dL_law_440 ?_
  refine V_toi (nI (4 * it + 1)) (nI_add _ _) ?_
  refine V_sld LC (4 * it + 1) rfl (by omega) hL 442 rfl dL_law_441 ?_
  refine V_aload_n cx 443 rfl dL_law_442 1 rfl ?_
  refine V_iload cx 445 rfl dL_law_443 0 rfl ?_
  refine V_iconst (v := nI 2) cx 446 rfl dL_law_445 (by decide) ?_
  refine V_iadd cx 447 rfl dL_law_446 ?_
  refine V_toi (nI (4 * it + 2)) (nI_add _ _) ?_
  refine V_sld LC (4 * it + 2) rfl (by omega) hL 448 rfl dL_law_447 ?_
  refine V_aload_n cx 449 rfl dL_law_448 1 rfl ?_
  refine V_iload cx 451 rfl dL_law_449 0 rfl ?_
  refine V_iconst (v := nI 3) cx 452 rfl dL_law_451 (by decide) ?_
  refine V_iadd cx 453 rfl dL_law_452 ?_
  refine V_toi (nI (4 * it + 3)) (nI_add _ _) ?_
  refine V_sld LC (4 * it + 3) rfl (by omega) hL 454 rfl dL_law_453 ?_
  refine V_ifbool (bb := bb) cx hbb 457 458 461 462 rfl rfl rfl rfl dL_law_454 dL_law_457 dL_law_458 dL_law_461 ?_
  refine V_aload_n cx 463 rfl dL_law_462 4 rfl ?_
  refine V_calli (V_runSW (As := [.ref (h 0), .int (sc (4 * it + 1)), .int (sc (4 * it + 2)), .int (bI bb), .ref oa]) (rest := []) (nA := 5) cx (kL_bar (xl X) lo G _ h np nl len fd lu tu T C F LT VV BB lt ph lh ks wd gr gs bl ie tw oa ov (sc (4 * it + 1)) (sc (4 * it + 2)) bb hst hnp hnl hI.2.2.2.1.2.1) ⟨ml_L_94, sm_L_bar, ii_L, co_L_bar⟩ ⟨by decide, by decide, by decide +kernel⟩ (lw_rm hX (by decide) (by decide)) rfl rfl (Nat.le_of_ble_eq_true rfl) ⟨Nat.le_trans (by omega) hX.2.2.1, Nat.le_trans (by omega) hX.2.2.2⟩ dL_law_463) 466 (k + 2) (n + 12) rfl rfl rfl (fun v u hw => ?_)
  rcases u with _ | ⟨BB1, v1, z⟩
  · skip
    dsimp only at hw
    obtain ⟨E, hx, hcode⟩ := hw
    refine V_istore (lc1 := [(5, .int v), (4, .int (nI (4 * it))), (0, .ref b), (1, .ref (h 0)), (2, .ref (g 0)), (3, .ref oa)]) cx 468 rfl dL_law_466 (by decide) rfl ?_
    refine V.toM ?_
    refine V_aload_n cx 469 rfl dL_law_468 4 rfl ?_
    refine V_aload_n cx 470 rfl dL_law_469 2 rfl ?_
    refine V_iload cx 472 rfl dL_law_470 1 rfl ?_
    refine V_iconst (v := nI 1) cx 473 rfl dL_law_472 (by decide) ?_
    refine V_iadd cx 474 rfl dL_law_473 ?_
    refine V_toi (nI (4 * it + 1)) (nI_add _ _) ?_
    refine V_sld LC (4 * it + 1) rfl (by omega) hL 475 rfl dL_law_474 ?_
    refine V_aload_n cx 476 rfl dL_law_475 2 rfl ?_
    refine V_iload cx 478 rfl dL_law_476 1 rfl ?_
    refine V_iconst (v := nI 2) cx 479 rfl dL_law_478 (by decide) ?_
    refine V_iadd cx 480 rfl dL_law_479 ?_
    refine V_toi (nI (4 * it + 2)) (nI_add _ _) ?_
    refine V_sld LC (4 * it + 2) rfl (by omega) hL 481 rfl dL_law_480 ?_
    refine V_aload_n cx 482 rfl dL_law_481 2 rfl ?_
    refine V_iload cx 484 rfl dL_law_482 1 rfl ?_
    refine V_iconst (v := nI 3) cx 485 rfl dL_law_484 (by decide) ?_
    refine V_iadd cx 486 rfl dL_law_485 ?_
    refine V_toi (nI (4 * it + 3)) (nI_add _ _) ?_
    refine V_sld LC (4 * it + 3) rfl (by omega) hL 487 rfl dL_law_486 ?_
    refine V_ifbool (bb := bb) cx hbb 490 491 494 495 rfl rfl rfl rfl dL_law_487 dL_law_490 dL_law_491 dL_law_494 ?_
    refine KL_96 (As := [.int (sc (4 * it + 1)), .int (sc (4 * it + 2)), .int (bI bb)]) (rest := []) cx (kX5_bar (xl X) lo G _ g th2 np2 nl2 ld2 ll2 mn2 sp2 T2 S2 C2 F2 LT2 LS2 VE2 BA2 wd2 mo2 lt2 op2 pl2 pt2 ks2 (sc (4 * it + 1)) (sc (4 * it + 2)) bb hnp22 hnl22) hX (by omega) 0 rfl rfl rfl (Nat.le_of_ble_eq_true rfl) 498 (k + 2) (n + 12) rfl rfl rfl (by omega) (by omega) dL_law_495 ?_
    intro r u2 hw2
    obtain ⟨th1', VE1'⟩ := u2
    try dsimp only at hw2
    refine V_istore (lc1 := [(6, .int r), (5, .int v), (4, .int (nI (4 * it))), (0, .ref b), (1, .ref (h 0)), (2, .ref (g 0)), (3, .ref oa)]) cx 500 rfl dL_law_498 (by decide) rfl ?_
    refine V_aload_n cx 501 rfl dL_law_500 5 rfl ?_
    refine KL_79 (As := []) (rest := []) cx (kX5_thrown (xl X) lo G _ g _ _ _ _ _ _ _ _ _ _ _ _ _ _ _ _ _ _ _ _ _ _) hX (by omega) 0 rfl rfl rfl (Nat.le_of_ble_eq_true rfl) 504 (k + 2) (n + 12) rfl rfl rfl (by omega) (by omega) dL_law_501 ?_
    intro rt _ hrt
    try dsimp only at hrt
    subst hrt
    refine V_iload cx 506 rfl dL_law_504 1 rfl ?_
    subst hnp2
    subst hnl2
    obtain ⟨hth, rfl⟩ := st_mask_x hnp (by omega) hx.2 hw2
    obtain ⟨rfl, hne⟩ := exc1 hcode hth
    refine V_icmp_eq cx 509 511 rfl dL_law_506 (by decide) (fun c0 => ?_) (fun c0 => absurd rfl c0)
    refine V_iload cx 513 rfl dL_law_511 1 rfl ?_
    refine V_if_ne cx 516 535 rfl dL_law_513 (by decide) (fun c0 => ?_) (fun c0 => absurd c0 hne)
    refine V_goto cx 1236 dL_law_535 (by decide) ?_
    refine V.widen (k' := k + 2) (n' := n + 12) (by omega) (by omega) ?_
    refine V.toC ?_
    refine V.locs (lc' := [(4, .int (nI (4 * it))), (0, .ref b), (1, .ref (h 0)), (2, .ref (g 0)), (3, .ref oa)]) [2, 3, 4, 5, 6] rfl ?_
    exact LJ _ _ _ _ _ _ _ _ _ _ _ _ _ _ _ _ _ _ _ _ _ _ _ _ _ _ _ _ _ _ _ _ _ _ _ _ _ _ _ _ _ _ _ _ _ x hI
  · skip
    dsimp only at hw
    obtain ⟨hx, hv, hz⟩ := hw
    subst hv
    refine V_istore (lc1 := [(5, .int (nI 0)), (4, .int (nI (4 * it))), (0, .ref b), (1, .ref (h 0)), (2, .ref (g 0)), (3, .ref oa)]) cx 468 rfl dL_law_466 (by decide) rfl ?_
    refine V.toM ?_
    refine V_aload_n cx 469 rfl dL_law_468 4 rfl ?_
    refine V_aload_n cx 470 rfl dL_law_469 2 rfl ?_
    refine V_iload cx 472 rfl dL_law_470 1 rfl ?_
    refine V_iconst (v := nI 1) cx 473 rfl dL_law_472 (by decide) ?_
    refine V_iadd cx 474 rfl dL_law_473 ?_
    refine V_toi (nI (4 * it + 1)) (nI_add _ _) ?_
    refine V_sld LC (4 * it + 1) rfl (by omega) hL 475 rfl dL_law_474 ?_
    refine V_aload_n cx 476 rfl dL_law_475 2 rfl ?_
    refine V_iload cx 478 rfl dL_law_476 1 rfl ?_
    refine V_iconst (v := nI 2) cx 479 rfl dL_law_478 (by decide) ?_
    refine V_iadd cx 480 rfl dL_law_479 ?_
    refine V_toi (nI (4 * it + 2)) (nI_add _ _) ?_
    refine V_sld LC (4 * it + 2) rfl (by omega) hL 481 rfl dL_law_480 ?_
    refine V_aload_n cx 482 rfl dL_law_481 2 rfl ?_
    refine V_iload cx 484 rfl dL_law_482 1 rfl ?_
    refine V_iconst (v := nI 3) cx 485 rfl dL_law_484 (by decide) ?_
    refine V_iadd cx 486 rfl dL_law_485 ?_
    refine V_toi (nI (4 * it + 3)) (nI_add _ _) ?_
    refine V_sld LC (4 * it + 3) rfl (by omega) hL 487 rfl dL_law_486 ?_
    refine V_ifbool (bb := bb) cx hbb 490 491 494 495 rfl rfl rfl rfl dL_law_487 dL_law_490 dL_law_491 dL_law_494 ?_
    refine KL_96 (As := [.int (sc (4 * it + 1)), .int (sc (4 * it + 2)), .int (bI bb)]) (rest := []) cx (kX5_bar (xl X) lo G _ g th2 np2 nl2 ld2 ll2 mn2 sp2 T2 S2 C2 F2 LT2 LS2 VE2 BA2 wd2 mo2 lt2 op2 pl2 pt2 ks2 (sc (4 * it + 1)) (sc (4 * it + 2)) bb hnp22 hnl22) hX (by omega) 0 rfl rfl rfl (Nat.le_of_ble_eq_true rfl) 498 (k + 2) (n + 12) rfl rfl rfl (by omega) (by omega) dL_law_495 ?_
    intro r u2 hw2
    obtain ⟨th1', VE1'⟩ := u2
    try dsimp only at hw2
    refine V_istore (lc1 := [(6, .int r), (5, .int (nI 0)), (4, .int (nI (4 * it))), (0, .ref b), (1, .ref (h 0)), (2, .ref (g 0)), (3, .ref oa)]) cx 500 rfl dL_law_498 (by decide) rfl ?_
    refine V_aload_n cx 501 rfl dL_law_500 5 rfl ?_
    refine KL_79 (As := []) (rest := []) cx (kX5_thrown (xl X) lo G _ g _ _ _ _ _ _ _ _ _ _ _ _ _ _ _ _ _ _ _ _ _ _) hX (by omega) 0 rfl rfl rfl (Nat.le_of_ble_eq_true rfl) 504 (k + 2) (n + 12) rfl rfl rfl (by omega) (by omega) dL_law_501 ?_
    intro rt _ hrt
    try dsimp only at hrt
    subst hrt
    refine V_iload cx 506 rfl dL_law_504 1 rfl ?_
    obtain ⟨rfl, rfl, x', hI'⟩ := st_bar_n hI hx hw2
    refine V_icmp_eq cx 509 511 rfl dL_law_506 (by decide) (fun c0 => ?_) (fun c0 => absurd rfl c0)
    refine V_iload cx 513 rfl dL_law_511 1 rfl ?_
    refine V_if_ne cx 516 535 rfl dL_law_513 (by decide) (fun c0 => absurd rfl c0) (fun c0 => ?_)
    refine V_aload_n cx 517 rfl dL_law_516 6 rfl ?_
    refine V_iconst (v := nI 0) cx 518 rfl dL_law_517 (by decide) ?_
    refine V_laldN cx 0 rfl (by decide) (by decide) 37 rfl 519 rfl dL_law_518 ?_
    refine V_tol z rfl ?_
    refine V_iload cx 521 rfl dL_law_519 0 rfl ?_
    refine V_ifz cx hz 524 525 528 529 rfl rfl rfl rfl dL_law_521 dL_law_524 dL_law_525 dL_law_528 ?_
    refine V_lcmp cx 530 rfl dL_law_529 ?_
    refine V_if_eq cx 533 535 rfl dL_law_530 (by decide) (fun c0 => ?_) (fun c0 => absurd (lg_cmp_self z) c0)
    refine V_goto cx 1236 dL_law_535 (by decide) ?_
    refine V.widen (k' := k + 2) (n' := n + 12) (by omega) (by omega) ?_
    refine V.toC ?_
    refine V.locs (lc' := [(4, .int (nI (4 * it))), (0, .ref b), (1, .ref (h 0)), (2, .ref (g 0)), (3, .ref oa)]) [2, 3, 4, 5, 6] rfl ?_
    exact LJ _ _ _ _ _ _ _ _ _ _ _ _ _ _ _ _ _ _ _ _ _ _ _ _ _ _ _ _ _ _ _ _ _ _ _ _ _ _ _ _ _ _ _ _ _ x' hI'
set_option maxHeartbeats 4000000 in
set_option maxRecDepth 100000 in
theorem lw_case_parts {X : vX} {lo : Nat} {G : vG} {Q : State → Prop} {b L : Nat} {sc : Nat → Int32} (LC : LCx X lo G b L sc) (hL : L ≤ 2048) {it : Nat} (hit : 4 * it + 4 ≤ L) {h g : Nat → Nat} {oa : Nat} {np : Nat} {nl : Nat} {len : Nat} {fd : Nat} {lu : Nat} {tu : Nat} {T : Nat → Int32} {C : Nat → Int32} {F : Nat → Int32} {LT : Nat → Int32} {VV : Nat → Int32} {BB : Nat → Int32} {lt : Nat → Int32} {ph : Nat → Int32} {lh : Nat → Int32} {ks : Nat → Int64} {wd : Nat → Int32} {gr : Nat → Int32} {gs : Nat → Int32} {bl : Nat → Int32} {ie : Nat → Int32} {tw : Nat → Int32} {th2 : Nat} {np2 : Nat} {nl2 : Nat} {ld2 : Nat} {ll2 : Nat} {mn2 : Int32} {sp2 : Nat} {T2 : Nat → Int32} {S2 : Nat → Int32} {C2 : Nat → Int32} {F2 : Nat → Int32} {LT2 : Nat → Int32} {LS2 : Nat → Int32} {VE2 : Nat → Int32} {BA2 : Nat → Int32} {wd2 : Nat → Int32} {mo2 : Nat → Int32} {lt2 : Nat → Int32} {op2 : Nat → Int32} {pl2 : Nat → Int32} {pt2 : Nat → Int32} {ks2 : Nat → Int64} {ov : Nat → Int64} {x : LX} (hI : INV x np nl lu tu T C F LT VV BB wd gr gs bl ie np2 nl2 ld2 T2 S2 C2 F2 LT2 LS2 VE2 BA2 wd2 mo2) {k n : Nat} (hk : k + 2 ≤ 601024) (hn : n + 12 ≤ 7293034) (LJ : ∀ (np : Nat) (nl : Nat) (len : Nat) (fd : Nat) (lu : Nat) (tu : Nat) (T : Nat → Int32) (C : Nat → Int32) (F : Nat → Int32) (LT : Nat → Int32) (VV : Nat → Int32) (BB : Nat → Int32) (lt : Nat → Int32) (ph : Nat → Int32) (lh : Nat → Int32) (ks : Nat → Int64) (wd : Nat → Int32) (gr : Nat → Int32) (gs : Nat → Int32) (bl : Nat → Int32) (ie : Nat → Int32) (tw : Nat → Int32) (th2 : Nat) (np2 : Nat) (nl2 : Nat) (ld2 : Nat) (ll2 : Nat) (mn2 : Int32) (sp2 : Nat) (T2 : Nat → Int32) (S2 : Nat → Int32) (C2 : Nat → Int32) (F2 : Nat → Int32) (LT2 : Nat → Int32) (LS2 : Nat → Int32) (VE2 : Nat → Int32) (BA2 : Nat → Int32) (wd2 : Nat → Int32) (mo2 : Nat → Int32) (lt2 : Nat → Int32) (op2 : Nat → Int32) (pl2 : Nat → Int32) (pt2 : Nat → Int32) (ks2 : Nat → Int64) (ov : Nat → Int64) (x : LX), INV x np nl lu tu T C F LT VV BB wd gr gs bl ie np2 nl2 ld2 T2 S2 C2 F2 LT2 LS2 VE2 BA2 wd2 mo2 → V X lo 7 G Q (k + 2) (n + 12) (cW G h np nl len fd lu tu T C F LT VV BB lt ph lh ks wd gr gs bl ie tw ++ ([(oa, .inl (G.2.2.1, 1, .inr (.inl ov)))] ++ mW G g th2 np2 nl2 ld2 ll2 mn2 sp2 T2 S2 C2 F2 LT2 LS2 VE2 BA2 wd2 mo2 lt2 op2 pl2 pt2 ks2)) [(4, .int (nI (4 * it))), (0, .ref b), (1, .ref (h 0)), (2, .ref (g 0)), (3, .ref oa)] [] 1236) : V X lo 7 G Q k n (cW G h np nl len fd lu tu T C F LT VV BB lt ph lh ks wd gr gs bl ie tw ++ ([(oa, .inl (G.2.2.1, 1, .inr (.inl ov)))] ++ mW G g th2 np2 nl2 ld2 ll2 mn2 sp2 T2 S2 C2 F2 LT2 LS2 VE2 BA2 wd2 mo2 lt2 op2 pl2 pt2 ks2)) [(4, .int (nI (4 * it))), (0, .ref b), (1, .ref (h 0)), (2, .ref (g 0)), (3, .ref oa)] [] 538 := by
  obtain ⟨cx, hX, hst, hsc, hbl, hbA⟩ := id LC
  obtain ⟨hnp1, hnp2, hnp, hnl1, hnl2, hnl, hld, hlu⟩ := inv_np hI
  refine V_aload_n cx 539 rfl dL_law_538 2 rfl ?_
  refine KL_97 (As := []) (rest := []) cx (kX4_parts (xl X) lo G _ h np nl len fd lu tu T C F LT VV BB lt ph lh ks wd gr gs bl ie tw) hX (by omega) 0 rfl rfl rfl (Nat.le_of_ble_eq_true rfl) 542 k n rfl rfl rfl (by omega) (by omega) dL_law_539 ?_
  intro rc u hw
  try dsimp only at hw
  refine V.toM ?_
  refine V_aload_n cx 543 rfl dL_law_542 3 rfl ?_
  refine KL_100 (As := []) (rest := [.int rc]) cx (kX5_parts (xl X) lo G _ g th2 np2 nl2 ld2 ll2 mn2 sp2 T2 S2 C2 F2 LT2 LS2 VE2 BA2 wd2 mo2 lt2 op2 pl2 pt2 ks2) hX (by omega) 0 rfl rfl rfl (Nat.le_of_ble_eq_true rfl) 546 k n rfl rfl rfl (by omega) (by omega) dL_law_543 ?_
  intro r u2 hw2
  try dsimp only at hw2
  have he : rc = r := by rw [hw, hw2, hnp2]
  refine V_icmp_eq cx 549 1236 rfl dL_law_546 (by decide) (fun c0 => ?_) (fun c0 => absurd (by rw [he]) c0)
  refine V.widen (k' := k + 2) (n' := n + 12) (by omega) (by omega) ?_
  refine V.toC ?_
  exact LJ _ _ _ _ _ _ _ _ _ _ _ _ _ _ _ _ _ _ _ _ _ _ _ _ _ _ _ _ _ _ _ _ _ _ _ _ _ _ _ _ _ _ _ _ _ x hI
set_option maxHeartbeats 4000000 in
set_option maxRecDepth 100000 in
theorem lw_case_count {X : vX} {lo : Nat} {G : vG} {Q : State → Prop} {b L : Nat} {sc : Nat → Int32} (LC : LCx X lo G b L sc) (hL : L ≤ 2048) {it : Nat} (hit : 4 * it + 4 ≤ L) {h g : Nat → Nat} {oa : Nat} {np : Nat} {nl : Nat} {len : Nat} {fd : Nat} {lu : Nat} {tu : Nat} {T : Nat → Int32} {C : Nat → Int32} {F : Nat → Int32} {LT : Nat → Int32} {VV : Nat → Int32} {BB : Nat → Int32} {lt : Nat → Int32} {ph : Nat → Int32} {lh : Nat → Int32} {ks : Nat → Int64} {wd : Nat → Int32} {gr : Nat → Int32} {gs : Nat → Int32} {bl : Nat → Int32} {ie : Nat → Int32} {tw : Nat → Int32} {th2 : Nat} {np2 : Nat} {nl2 : Nat} {ld2 : Nat} {ll2 : Nat} {mn2 : Int32} {sp2 : Nat} {T2 : Nat → Int32} {S2 : Nat → Int32} {C2 : Nat → Int32} {F2 : Nat → Int32} {LT2 : Nat → Int32} {LS2 : Nat → Int32} {VE2 : Nat → Int32} {BA2 : Nat → Int32} {wd2 : Nat → Int32} {mo2 : Nat → Int32} {lt2 : Nat → Int32} {op2 : Nat → Int32} {pl2 : Nat → Int32} {pt2 : Nat → Int32} {ks2 : Nat → Int64} {ov : Nat → Int64} {x : LX} (hI : INV x np nl lu tu T C F LT VV BB wd gr gs bl ie np2 nl2 ld2 T2 S2 C2 F2 LT2 LS2 VE2 BA2 wd2 mo2) {k n : Nat} (hk : k + 2 ≤ 601024) (hn : n + 12 ≤ 7293034) (LJ : ∀ (np : Nat) (nl : Nat) (len : Nat) (fd : Nat) (lu : Nat) (tu : Nat) (T : Nat → Int32) (C : Nat → Int32) (F : Nat → Int32) (LT : Nat → Int32) (VV : Nat → Int32) (BB : Nat → Int32) (lt : Nat → Int32) (ph : Nat → Int32) (lh : Nat → Int32) (ks : Nat → Int64) (wd : Nat → Int32) (gr : Nat → Int32) (gs : Nat → Int32) (bl : Nat → Int32) (ie : Nat → Int32) (tw : Nat → Int32) (th2 : Nat) (np2 : Nat) (nl2 : Nat) (ld2 : Nat) (ll2 : Nat) (mn2 : Int32) (sp2 : Nat) (T2 : Nat → Int32) (S2 : Nat → Int32) (C2 : Nat → Int32) (F2 : Nat → Int32) (LT2 : Nat → Int32) (LS2 : Nat → Int32) (VE2 : Nat → Int32) (BA2 : Nat → Int32) (wd2 : Nat → Int32) (mo2 : Nat → Int32) (lt2 : Nat → Int32) (op2 : Nat → Int32) (pl2 : Nat → Int32) (pt2 : Nat → Int32) (ks2 : Nat → Int64) (ov : Nat → Int64) (x : LX), INV x np nl lu tu T C F LT VV BB wd gr gs bl ie np2 nl2 ld2 T2 S2 C2 F2 LT2 LS2 VE2 BA2 wd2 mo2 → V X lo 7 G Q (k + 2) (n + 12) (cW G h np nl len fd lu tu T C F LT VV BB lt ph lh ks wd gr gs bl ie tw ++ ([(oa, .inl (G.2.2.1, 1, .inr (.inl ov)))] ++ mW G g th2 np2 nl2 ld2 ll2 mn2 sp2 T2 S2 C2 F2 LT2 LS2 VE2 BA2 wd2 mo2 lt2 op2 pl2 pt2 ks2)) [(4, .int (nI (4 * it))), (0, .ref b), (1, .ref (h 0)), (2, .ref (g 0)), (3, .ref oa)] [] 1236) : V X lo 7 G Q k n (cW G h np nl len fd lu tu T C F LT VV BB lt ph lh ks wd gr gs bl ie tw ++ ([(oa, .inl (G.2.2.1, 1, .inr (.inl ov)))] ++ mW G g th2 np2 nl2 ld2 ll2 mn2 sp2 T2 S2 C2 F2 LT2 LS2 VE2 BA2 wd2 mo2 lt2 op2 pl2 pt2 ks2)) [(4, .int (nI (4 * it))), (0, .ref b), (1, .ref (h 0)), (2, .ref (g 0)), (3, .ref oa)] [] 551 := by
  obtain ⟨cx, hX, hst, hsc, hbl, hbA⟩ := id LC
  obtain ⟨hnp1, hnp2, hnp, hnl1, hnl2, hnl, hld, hlu⟩ := inv_np hI
  have hnp22 : np2 ≤ 16 := by omega
  have hnl22 : nl2 ≤ 6 := by omega
  have hld50 : ld2 ≤ 50 := by omega
  refine V_aload_n cx 552 rfl dL_law_551 2 rfl ?_
  refine V_aload_n cx 553 rfl dL_law_552 1 rfl ?_
  refine V_iload cx 555 rfl dL_law_553 0 rfl ?_
  refine V_iconst (v := nI 1) cx 556 rfl dL_law_555 (by decide) ?_
  refine V_iadd cx 557 rfl dL_law_556 ?_
  refine V_toi (nI (4 * it + 1)) (nI_add _ _) ?_
  refine V_sld LC (4 * it + 1) rfl (by omega) hL 558 rfl dL_law_557 ?_
  refine V_aload_n cx 559 rfl dL_law_558 4 rfl ?_
  refine V_calli (V_runSW (As := [.ref (h 0), .int (sc (4 * it + 1)), .ref oa]) (rest := []) (nA := 3) cx (kL_count (xl X) lo G _ h np nl len fd lu tu T C F LT VV BB lt ph lh ks wd gr gs bl ie tw oa ov (sc (4 * it + 1)) hst hnp) ⟨ml_L_101, sm_L_count, ii_L, co_L_count⟩ ⟨by decide, by decide, by decide +kernel⟩ (lw_rm hX (by decide) (by decide)) rfl rfl (Nat.le_of_ble_eq_true rfl) ⟨Nat.le_trans (by omega) hX.2.2.1, Nat.le_trans (by omega) hX.2.2.2⟩ dL_law_559) 562 (k + 1) (n + 6) rfl rfl rfl (fun v u hw => ?_)
  rcases u with _ | ⟨v1, z⟩
  · skip
    dsimp only at hw
    obtain ⟨E, hx, hcode⟩ := hw
    refine V_istore (lc1 := [(5, .int v), (4, .int (nI (4 * it))), (0, .ref b), (1, .ref (h 0)), (2, .ref (g 0)), (3, .ref oa)]) cx 564 rfl dL_law_562 (by decide) rfl ?_
    refine V.toM ?_
    refine V_aload_n cx 565 rfl dL_law_564 4 rfl ?_
    refine V_aload_n cx 566 rfl dL_law_565 2 rfl ?_
    refine V_iload cx 568 rfl dL_law_566 1 rfl ?_
    refine V_iconst (v := nI 1) cx 569 rfl dL_law_568 (by decide) ?_
    refine V_iadd cx 570 rfl dL_law_569 ?_
    refine V_toi (nI (4 * it + 1)) (nI_add _ _) ?_
    refine V_sld LC (4 * it + 1) rfl (by omega) hL 571 rfl dL_law_570 ?_
    refine KL_103 (As := [.int (sc (4 * it + 1))]) (rest := []) cx (kX5_count (xl X) lo G _ g th2 np2 nl2 ld2 ll2 mn2 sp2 T2 S2 C2 F2 LT2 LS2 VE2 BA2 wd2 mo2 lt2 op2 pl2 pt2 ks2 (sc (4 * it + 1)) hnp22) hX (by omega) 0 rfl rfl rfl (Nat.le_of_ble_eq_true rfl) 574 (k + 1) (n + 6) rfl rfl rfl (by omega) (by omega) dL_law_571 ?_
    intro r u2 hw2
    obtain ⟨th1', rfl⟩ : ∃ z, z = u2 := ⟨_, rfl⟩
    try dsimp only at hw2
    refine V_istore (lc1 := [(6, .int r), (5, .int v), (4, .int (nI (4 * it))), (0, .ref b), (1, .ref (h 0)), (2, .ref (g 0)), (3, .ref oa)]) cx 576 rfl dL_law_574 (by decide) rfl ?_
    refine V_aload_n cx 577 rfl dL_law_576 5 rfl ?_
    refine KL_79 (As := []) (rest := []) cx (kX5_thrown (xl X) lo G _ g _ _ _ _ _ _ _ _ _ _ _ _ _ _ _ _ _ _ _ _ _ _) hX (by omega) 0 rfl rfl rfl (Nat.le_of_ble_eq_true rfl) 580 (k + 1) (n + 6) rfl rfl rfl (by omega) (by omega) dL_law_577 ?_
    intro rt _ hrt
    try dsimp only at hrt
    subst hrt
    refine V_iload cx 582 rfl dL_law_580 1 rfl ?_
    subst hnp2
    have hth := st_isP_x2 (P := fun p => r = C2 p) hx.2 hw2
    obtain ⟨rfl, hne⟩ := exc1 hcode hth
    refine V_icmp_eq cx 585 587 rfl dL_law_582 (by decide) (fun c0 => ?_) (fun c0 => absurd rfl c0)
    refine V_iload cx 589 rfl dL_law_587 1 rfl ?_
    refine V_if_ne cx 592 604 rfl dL_law_589 (by decide) (fun c0 => ?_) (fun c0 => absurd c0 hne)
    refine V_goto cx 1236 dL_law_604 (by decide) ?_
    refine V.widen (k' := k + 2) (n' := n + 12) (by omega) (by omega) ?_
    refine V.toC ?_
    refine V.locs (lc' := [(4, .int (nI (4 * it))), (0, .ref b), (1, .ref (h 0)), (2, .ref (g 0)), (3, .ref oa)]) [2, 3, 4, 5, 6] rfl ?_
    exact LJ _ _ _ _ _ _ _ _ _ _ _ _ _ _ _ _ _ _ _ _ _ _ _ _ _ _ _ _ _ _ _ _ _ _ _ _ _ _ _ _ _ _ _ _ _ x hI
  · skip
    dsimp only at hw
    obtain ⟨hx, hv, hz⟩ := hw
    subst hv
    refine V_istore (lc1 := [(5, .int (nI 0)), (4, .int (nI (4 * it))), (0, .ref b), (1, .ref (h 0)), (2, .ref (g 0)), (3, .ref oa)]) cx 564 rfl dL_law_562 (by decide) rfl ?_
    refine V.toM ?_
    refine V_aload_n cx 565 rfl dL_law_564 4 rfl ?_
    refine V_aload_n cx 566 rfl dL_law_565 2 rfl ?_
    refine V_iload cx 568 rfl dL_law_566 1 rfl ?_
    refine V_iconst (v := nI 1) cx 569 rfl dL_law_568 (by decide) ?_
    refine V_iadd cx 570 rfl dL_law_569 ?_
    refine V_toi (nI (4 * it + 1)) (nI_add _ _) ?_
    refine V_sld LC (4 * it + 1) rfl (by omega) hL 571 rfl dL_law_570 ?_
    refine KL_103 (As := [.int (sc (4 * it + 1))]) (rest := []) cx (kX5_count (xl X) lo G _ g th2 np2 nl2 ld2 ll2 mn2 sp2 T2 S2 C2 F2 LT2 LS2 VE2 BA2 wd2 mo2 lt2 op2 pl2 pt2 ks2 (sc (4 * it + 1)) hnp22) hX (by omega) 0 rfl rfl rfl (Nat.le_of_ble_eq_true rfl) 574 (k + 1) (n + 6) rfl rfl rfl (by omega) (by omega) dL_law_571 ?_
    intro r u2 hw2
    obtain ⟨th1', rfl⟩ : ∃ z, z = u2 := ⟨_, rfl⟩
    try dsimp only at hw2
    refine V_istore (lc1 := [(6, .int r), (5, .int (nI 0)), (4, .int (nI (4 * it))), (0, .ref b), (1, .ref (h 0)), (2, .ref (g 0)), (3, .ref oa)]) cx 576 rfl dL_law_574 (by decide) rfl ?_
    refine V_aload_n cx 577 rfl dL_law_576 5 rfl ?_
    refine KL_79 (As := []) (rest := []) cx (kX5_thrown (xl X) lo G _ g _ _ _ _ _ _ _ _ _ _ _ _ _ _ _ _ _ _ _ _ _ _) hX (by omega) 0 rfl rfl rfl (Nat.le_of_ble_eq_true rfl) 580 (k + 1) (n + 6) rfl rfl rfl (by omega) (by omega) dL_law_577 ?_
    intro rt _ hrt
    try dsimp only at hrt
    subst hrt
    refine V_iload cx 582 rfl dL_law_580 1 rfl ?_
    obtain ⟨rfl, rfl⟩ := st_count_n hI hx hw2
    refine V_icmp_eq cx 585 587 rfl dL_law_582 (by decide) (fun c0 => ?_) (fun c0 => absurd rfl c0)
    refine V_iload cx 589 rfl dL_law_587 1 rfl ?_
    refine V_if_ne cx 592 604 rfl dL_law_589 (by decide) (fun c0 => absurd rfl c0) (fun c0 => ?_)
    refine V_aload_n cx 593 rfl dL_law_592 6 rfl ?_
    refine V_iconst (v := nI 0) cx 594 rfl dL_law_593 (by decide) ?_
    refine V_laldN cx 0 rfl (by decide) (by decide) 37 rfl 595 rfl dL_law_594 ?_
    refine V_tol z rfl ?_
    refine V_iload cx 597 rfl dL_law_595 0 rfl ?_
    refine V_i2l cx 598 rfl dL_law_597 ?_
    refine V_tol z hz.symm ?_
    refine V_lcmp cx 599 rfl dL_law_598 ?_
    refine V_if_eq cx 602 604 rfl dL_law_599 (by decide) (fun c0 => ?_) (fun c0 => absurd (lg_cmp_self z) c0)
    refine V_goto cx 1236 dL_law_604 (by decide) ?_
    refine V.widen (k' := k + 2) (n' := n + 12) (by omega) (by omega) ?_
    refine V.toC ?_
    refine V.locs (lc' := [(4, .int (nI (4 * it))), (0, .ref b), (1, .ref (h 0)), (2, .ref (g 0)), (3, .ref oa)]) [2, 3, 4, 5, 6] rfl ?_
    exact LJ _ _ _ _ _ _ _ _ _ _ _ _ _ _ _ _ _ _ _ _ _ _ _ _ _ _ _ _ _ _ _ _ _ _ _ _ _ _ _ _ _ _ _ _ _ x hI
set_option maxHeartbeats 4000000 in
set_option maxRecDepth 100000 in
theorem lw_case_costOf {X : vX} {lo : Nat} {G : vG} {Q : State → Prop} {b L : Nat} {sc : Nat → Int32} (LC : LCx X lo G b L sc) (hL : L ≤ 2048) {it : Nat} (hit : 4 * it + 4 ≤ L) {h g : Nat → Nat} {oa : Nat} {np : Nat} {nl : Nat} {len : Nat} {fd : Nat} {lu : Nat} {tu : Nat} {T : Nat → Int32} {C : Nat → Int32} {F : Nat → Int32} {LT : Nat → Int32} {VV : Nat → Int32} {BB : Nat → Int32} {lt : Nat → Int32} {ph : Nat → Int32} {lh : Nat → Int32} {ks : Nat → Int64} {wd : Nat → Int32} {gr : Nat → Int32} {gs : Nat → Int32} {bl : Nat → Int32} {ie : Nat → Int32} {tw : Nat → Int32} {th2 : Nat} {np2 : Nat} {nl2 : Nat} {ld2 : Nat} {ll2 : Nat} {mn2 : Int32} {sp2 : Nat} {T2 : Nat → Int32} {S2 : Nat → Int32} {C2 : Nat → Int32} {F2 : Nat → Int32} {LT2 : Nat → Int32} {LS2 : Nat → Int32} {VE2 : Nat → Int32} {BA2 : Nat → Int32} {wd2 : Nat → Int32} {mo2 : Nat → Int32} {lt2 : Nat → Int32} {op2 : Nat → Int32} {pl2 : Nat → Int32} {pt2 : Nat → Int32} {ks2 : Nat → Int64} {ov : Nat → Int64} {x : LX} (hI : INV x np nl lu tu T C F LT VV BB wd gr gs bl ie np2 nl2 ld2 T2 S2 C2 F2 LT2 LS2 VE2 BA2 wd2 mo2) {k n : Nat} (hk : k + 2 ≤ 601024) (hn : n + 12 ≤ 7293034) (LJ : ∀ (np : Nat) (nl : Nat) (len : Nat) (fd : Nat) (lu : Nat) (tu : Nat) (T : Nat → Int32) (C : Nat → Int32) (F : Nat → Int32) (LT : Nat → Int32) (VV : Nat → Int32) (BB : Nat → Int32) (lt : Nat → Int32) (ph : Nat → Int32) (lh : Nat → Int32) (ks : Nat → Int64) (wd : Nat → Int32) (gr : Nat → Int32) (gs : Nat → Int32) (bl : Nat → Int32) (ie : Nat → Int32) (tw : Nat → Int32) (th2 : Nat) (np2 : Nat) (nl2 : Nat) (ld2 : Nat) (ll2 : Nat) (mn2 : Int32) (sp2 : Nat) (T2 : Nat → Int32) (S2 : Nat → Int32) (C2 : Nat → Int32) (F2 : Nat → Int32) (LT2 : Nat → Int32) (LS2 : Nat → Int32) (VE2 : Nat → Int32) (BA2 : Nat → Int32) (wd2 : Nat → Int32) (mo2 : Nat → Int32) (lt2 : Nat → Int32) (op2 : Nat → Int32) (pl2 : Nat → Int32) (pt2 : Nat → Int32) (ks2 : Nat → Int64) (ov : Nat → Int64) (x : LX), INV x np nl lu tu T C F LT VV BB wd gr gs bl ie np2 nl2 ld2 T2 S2 C2 F2 LT2 LS2 VE2 BA2 wd2 mo2 → V X lo 7 G Q (k + 2) (n + 12) (cW G h np nl len fd lu tu T C F LT VV BB lt ph lh ks wd gr gs bl ie tw ++ ([(oa, .inl (G.2.2.1, 1, .inr (.inl ov)))] ++ mW G g th2 np2 nl2 ld2 ll2 mn2 sp2 T2 S2 C2 F2 LT2 LS2 VE2 BA2 wd2 mo2 lt2 op2 pl2 pt2 ks2)) [(4, .int (nI (4 * it))), (0, .ref b), (1, .ref (h 0)), (2, .ref (g 0)), (3, .ref oa)] [] 1236) : V X lo 7 G Q k n (cW G h np nl len fd lu tu T C F LT VV BB lt ph lh ks wd gr gs bl ie tw ++ ([(oa, .inl (G.2.2.1, 1, .inr (.inl ov)))] ++ mW G g th2 np2 nl2 ld2 ll2 mn2 sp2 T2 S2 C2 F2 LT2 LS2 VE2 BA2 wd2 mo2 lt2 op2 pl2 pt2 ks2)) [(4, .int (nI (4 * it))), (0, .ref b), (1, .ref (h 0)), (2, .ref (g 0)), (3, .ref oa)] [] 607 := by
  obtain ⟨cx, hX, hst, hsc, hbl, hbA⟩ := id LC
  obtain ⟨hnp1, hnp2, hnp, hnl1, hnl2, hnl, hld, hlu⟩ := inv_np hI
  have hnp22 : np2 ≤ 16 := by omega
  have hnl22 : nl2 ≤ 6 := by omega
  have hld50 : ld2 ≤ 50 := by omega
  have hCc := lw_cOK hI.1 hI.2.1
  have hCm := lw_mOK hI.1 hI.2.2.1
  refine V_aload_n cx 608 rfl dL_law_607 2 rfl ?_
  refine V_aload_n cx 609 rfl dL_law_608 1 rfl ?_
  refine V_iload cx 611 rfl dL_law_609 0 rfl ?_
  refine V_iconst (v := nI 1) cx 612 rfl dL_law_611 (by decide) ?_
  refine V_iadd cx 613 rfl dL_law_612 ?_
  refine V_toi (nI (4 * it + 1)) (nI_add _ _) ?_
  refine V_sld LC (4 * it + 1) rfl (by omega) hL 614 rfl dL_law_613 ?_
  refine V_aload_n cx 615 rfl dL_law_614 4 rfl ?_
  refine V_calli (V_runSW (As := [.ref (h 0), .int (sc (4 * it + 1)), .ref oa]) (rest := []) (nA := 3) cx (kL_costOf (xl X) lo G _ h np nl len fd lu tu T C F LT VV BB lt ph lh ks wd gr gs bl ie tw oa ov (sc (4 * it + 1)) (lC x) hst hnp hCc) ⟨ml_L_104, sm_L_costOf, ii_L, co_L_costOf⟩ ⟨by decide, by decide, by decide +kernel⟩ (lw_rm hX (by decide) (by decide)) rfl rfl (Nat.le_of_ble_eq_true rfl) ⟨Nat.le_trans (by omega) hX.2.2.1, Nat.le_trans (by omega) hX.2.2.2⟩ dL_law_615) 618 (k + 1) (n + 6) rfl rfl rfl (fun v u hw => ?_)
  rcases u with _ | ⟨v1, z⟩
  · skip
    dsimp only at hw
    obtain ⟨E, hx, hcode⟩ := hw
    refine V_istore (lc1 := [(5, .int v), (4, .int (nI (4 * it))), (0, .ref b), (1, .ref (h 0)), (2, .ref (g 0)), (3, .ref oa)]) cx 620 rfl dL_law_618 (by decide) rfl ?_
    refine V.toM ?_
    refine V_aload_n cx 621 rfl dL_law_620 4 rfl ?_
    refine V_aload_n cx 622 rfl dL_law_621 2 rfl ?_
    refine V_iload cx 624 rfl dL_law_622 1 rfl ?_
    refine V_iconst (v := nI 1) cx 625 rfl dL_law_624 (by decide) ?_
    refine V_iadd cx 626 rfl dL_law_625 ?_
    refine V_toi (nI (4 * it + 1)) (nI_add _ _) ?_
    refine V_sld LC (4 * it + 1) rfl (by omega) hL 627 rfl dL_law_626 ?_
    refine KL_106 (As := [.int (sc (4 * it + 1))]) (rest := []) cx (kX5_costOf (xl X) lo G _ g th2 np2 nl2 ld2 ll2 mn2 sp2 T2 S2 C2 F2 LT2 LS2 VE2 BA2 wd2 mo2 lt2 op2 pl2 pt2 ks2 (sc (4 * it + 1)) (lC x) hnp22 hCm) hX (by omega) 0 rfl rfl rfl (Nat.le_of_ble_eq_true rfl) 630 (k + 1) (n + 6) rfl rfl rfl (by omega) (by omega) dL_law_627 ?_
    intro r u2 hw2
    obtain ⟨th1', rfl⟩ : ∃ z, z = u2 := ⟨_, rfl⟩
    try dsimp only at hw2
    refine V_istore (lc1 := [(6, .int r), (5, .int v), (4, .int (nI (4 * it))), (0, .ref b), (1, .ref (h 0)), (2, .ref (g 0)), (3, .ref oa)]) cx 632 rfl dL_law_630 (by decide) rfl ?_
    refine V_aload_n cx 633 rfl dL_law_632 5 rfl ?_
    refine KL_79 (As := []) (rest := []) cx (kX5_thrown (xl X) lo G _ g _ _ _ _ _ _ _ _ _ _ _ _ _ _ _ _ _ _ _ _ _ _) hX (by omega) 0 rfl rfl rfl (Nat.le_of_ble_eq_true rfl) 636 (k + 1) (n + 6) rfl rfl rfl (by omega) (by omega) dL_law_633 ?_
    intro rt _ hrt
    try dsimp only at hrt
    subst hrt
    refine V_iload cx 638 rfl dL_law_636 1 rfl ?_
    subst hnp2
    have hth := st_isP_x2 (P := fun p => r = nI (ko (lC x p))) hx.2 hw2
    obtain ⟨rfl, hne⟩ := exc1 hcode hth
    refine V_icmp_eq cx 641 643 rfl dL_law_638 (by decide) (fun c0 => ?_) (fun c0 => absurd rfl c0)
    refine V_iload cx 645 rfl dL_law_643 1 rfl ?_
    refine V_if_ne cx 648 660 rfl dL_law_645 (by decide) (fun c0 => ?_) (fun c0 => absurd c0 hne)
    refine V_goto cx 1236 dL_law_660 (by decide) ?_
    refine V.widen (k' := k + 2) (n' := n + 12) (by omega) (by omega) ?_
    refine V.toC ?_
    refine V.locs (lc' := [(4, .int (nI (4 * it))), (0, .ref b), (1, .ref (h 0)), (2, .ref (g 0)), (3, .ref oa)]) [2, 3, 4, 5, 6] rfl ?_
    exact LJ _ _ _ _ _ _ _ _ _ _ _ _ _ _ _ _ _ _ _ _ _ _ _ _ _ _ _ _ _ _ _ _ _ _ _ _ _ _ _ _ _ _ _ _ _ x hI
  · skip
    dsimp only at hw
    obtain ⟨hx, hv, hz⟩ := hw
    subst hv
    refine V_istore (lc1 := [(5, .int (nI 0)), (4, .int (nI (4 * it))), (0, .ref b), (1, .ref (h 0)), (2, .ref (g 0)), (3, .ref oa)]) cx 620 rfl dL_law_618 (by decide) rfl ?_
    refine V.toM ?_
    refine V_aload_n cx 621 rfl dL_law_620 4 rfl ?_
    refine V_aload_n cx 622 rfl dL_law_621 2 rfl ?_
    refine V_iload cx 624 rfl dL_law_622 1 rfl ?_
    refine V_iconst (v := nI 1) cx 625 rfl dL_law_624 (by decide) ?_
    refine V_iadd cx 626 rfl dL_law_625 ?_
    refine V_toi (nI (4 * it + 1)) (nI_add _ _) ?_
    refine V_sld LC (4 * it + 1) rfl (by omega) hL 627 rfl dL_law_626 ?_
    refine KL_106 (As := [.int (sc (4 * it + 1))]) (rest := []) cx (kX5_costOf (xl X) lo G _ g th2 np2 nl2 ld2 ll2 mn2 sp2 T2 S2 C2 F2 LT2 LS2 VE2 BA2 wd2 mo2 lt2 op2 pl2 pt2 ks2 (sc (4 * it + 1)) (lC x) hnp22 hCm) hX (by omega) 0 rfl rfl rfl (Nat.le_of_ble_eq_true rfl) 630 (k + 1) (n + 6) rfl rfl rfl (by omega) (by omega) dL_law_627 ?_
    intro r u2 hw2
    obtain ⟨th1', rfl⟩ : ∃ z, z = u2 := ⟨_, rfl⟩
    try dsimp only at hw2
    refine V_istore (lc1 := [(6, .int r), (5, .int (nI 0)), (4, .int (nI (4 * it))), (0, .ref b), (1, .ref (h 0)), (2, .ref (g 0)), (3, .ref oa)]) cx 632 rfl dL_law_630 (by decide) rfl ?_
    refine V_aload_n cx 633 rfl dL_law_632 5 rfl ?_
    refine KL_79 (As := []) (rest := []) cx (kX5_thrown (xl X) lo G _ g _ _ _ _ _ _ _ _ _ _ _ _ _ _ _ _ _ _ _ _ _ _) hX (by omega) 0 rfl rfl rfl (Nat.le_of_ble_eq_true rfl) 636 (k + 1) (n + 6) rfl rfl rfl (by omega) (by omega) dL_law_633 ?_
    intro rt _ hrt
    try dsimp only at hrt
    subst hrt
    refine V_iload cx 638 rfl dL_law_636 1 rfl ?_
    subst hnp2
    obtain ⟨rfl, rfl⟩ := st_costOf_n hnp22 hx hw2
    refine V_icmp_eq cx 641 643 rfl dL_law_638 (by decide) (fun c0 => ?_) (fun c0 => absurd rfl c0)
    refine V_iload cx 645 rfl dL_law_643 1 rfl ?_
    refine V_if_ne cx 648 660 rfl dL_law_645 (by decide) (fun c0 => absurd rfl c0) (fun c0 => ?_)
    refine V_aload_n cx 649 rfl dL_law_648 6 rfl ?_
    refine V_iconst (v := nI 0) cx 650 rfl dL_law_649 (by decide) ?_
    refine V_laldN cx 0 rfl (by decide) (by decide) 37 rfl 651 rfl dL_law_650 ?_
    refine V_tol z rfl ?_
    refine V_iload cx 653 rfl dL_law_651 0 rfl ?_
    refine V_i2l cx 654 rfl dL_law_653 ?_
    refine V_tol z hz.symm ?_
    refine V_lcmp cx 655 rfl dL_law_654 ?_
    refine V_if_eq cx 658 660 rfl dL_law_655 (by decide) (fun c0 => ?_) (fun c0 => absurd (lg_cmp_self z) c0)
    refine V_goto cx 1236 dL_law_660 (by decide) ?_
    refine V.widen (k' := k + 2) (n' := n + 12) (by omega) (by omega) ?_
    refine V.toC ?_
    refine V.locs (lc' := [(4, .int (nI (4 * it))), (0, .ref b), (1, .ref (h 0)), (2, .ref (g 0)), (3, .ref oa)]) [2, 3, 4, 5, 6] rfl ?_
    exact LJ _ _ _ _ _ _ _ _ _ _ _ _ _ _ _ _ _ _ _ _ _ _ _ _ _ _ _ _ _ _ _ _ _ _ _ _ _ _ _ _ _ _ _ _ _ x hI
set_option maxHeartbeats 4000000 in
set_option maxRecDepth 100000 in
theorem lw_case_find {X : vX} {lo : Nat} {G : vG} {Q : State → Prop} {b L : Nat} {sc : Nat → Int32} (LC : LCx X lo G b L sc) (hL : L ≤ 2048) {it : Nat} (hit : 4 * it + 4 ≤ L) {h g : Nat → Nat} {oa : Nat} {np : Nat} {nl : Nat} {len : Nat} {fd : Nat} {lu : Nat} {tu : Nat} {T : Nat → Int32} {C : Nat → Int32} {F : Nat → Int32} {LT : Nat → Int32} {VV : Nat → Int32} {BB : Nat → Int32} {lt : Nat → Int32} {ph : Nat → Int32} {lh : Nat → Int32} {ks : Nat → Int64} {wd : Nat → Int32} {gr : Nat → Int32} {gs : Nat → Int32} {bl : Nat → Int32} {ie : Nat → Int32} {tw : Nat → Int32} {th2 : Nat} {np2 : Nat} {nl2 : Nat} {ld2 : Nat} {ll2 : Nat} {mn2 : Int32} {sp2 : Nat} {T2 : Nat → Int32} {S2 : Nat → Int32} {C2 : Nat → Int32} {F2 : Nat → Int32} {LT2 : Nat → Int32} {LS2 : Nat → Int32} {VE2 : Nat → Int32} {BA2 : Nat → Int32} {wd2 : Nat → Int32} {mo2 : Nat → Int32} {lt2 : Nat → Int32} {op2 : Nat → Int32} {pl2 : Nat → Int32} {pt2 : Nat → Int32} {ks2 : Nat → Int64} {ov : Nat → Int64} {x : LX} (hI : INV x np nl lu tu T C F LT VV BB wd gr gs bl ie np2 nl2 ld2 T2 S2 C2 F2 LT2 LS2 VE2 BA2 wd2 mo2) {k n : Nat} (hk : k + 2 ≤ 601024) (hn : n + 12 ≤ 7293034) (LJ : ∀ (np : Nat) (nl : Nat) (len : Nat) (fd : Nat) (lu : Nat) (tu : Nat) (T : Nat → Int32) (C : Nat → Int32) (F : Nat → Int32) (LT : Nat → Int32) (VV : Nat → Int32) (BB : Nat → Int32) (lt : Nat → Int32) (ph : Nat → Int32) (lh : Nat → Int32) (ks : Nat → Int64) (wd : Nat → Int32) (gr : Nat → Int32) (gs : Nat → Int32) (bl : Nat → Int32) (ie : Nat → Int32) (tw : Nat → Int32) (th2 : Nat) (np2 : Nat) (nl2 : Nat) (ld2 : Nat) (ll2 : Nat) (mn2 : Int32) (sp2 : Nat) (T2 : Nat → Int32) (S2 : Nat → Int32) (C2 : Nat → Int32) (F2 : Nat → Int32) (LT2 : Nat → Int32) (LS2 : Nat → Int32) (VE2 : Nat → Int32) (BA2 : Nat → Int32) (wd2 : Nat → Int32) (mo2 : Nat → Int32) (lt2 : Nat → Int32) (op2 : Nat → Int32) (pl2 : Nat → Int32) (pt2 : Nat → Int32) (ks2 : Nat → Int64) (ov : Nat → Int64) (x : LX), INV x np nl lu tu T C F LT VV BB wd gr gs bl ie np2 nl2 ld2 T2 S2 C2 F2 LT2 LS2 VE2 BA2 wd2 mo2 → V X lo 7 G Q (k + 2) (n + 12) (cW G h np nl len fd lu tu T C F LT VV BB lt ph lh ks wd gr gs bl ie tw ++ ([(oa, .inl (G.2.2.1, 1, .inr (.inl ov)))] ++ mW G g th2 np2 nl2 ld2 ll2 mn2 sp2 T2 S2 C2 F2 LT2 LS2 VE2 BA2 wd2 mo2 lt2 op2 pl2 pt2 ks2)) [(4, .int (nI (4 * it))), (0, .ref b), (1, .ref (h 0)), (2, .ref (g 0)), (3, .ref oa)] [] 1236) : V X lo 7 G Q k n (cW G h np nl len fd lu tu T C F LT VV BB lt ph lh ks wd gr gs bl ie tw ++ ([(oa, .inl (G.2.2.1, 1, .inr (.inl ov)))] ++ mW G g th2 np2 nl2 ld2 ll2 mn2 sp2 T2 S2 C2 F2 LT2 LS2 VE2 BA2 wd2 mo2 lt2 op2 pl2 pt2 ks2)) [(4, .int (nI (4 * it))), (0, .ref b), (1, .ref (h 0)), (2, .ref (g 0)), (3, .ref oa)] [] 663 := by
  obtain ⟨cx, hX, hst, hsc, hbl, hbA⟩ := id LC
  obtain ⟨hnp1, hnp2, hnp, hnl1, hnl2, hnl, hld, hlu⟩ := inv_np hI
  have hnp22 : np2 ≤ 16 := by omega
  have hnl22 : nl2 ≤ 6 := by omega
  have hld50 : ld2 ≤ 50 := by omega
  refine V_aload_n cx 664 rfl dL_law_663 2 rfl ?_
  refine V_aload_n cx 665 rfl dL_law_664 1 rfl ?_
  refine V_iload cx 667 rfl dL_law_665 0 rfl ?_
  refine V_iconst (v := nI 1) cx 668 rfl dL_law_667 (by decide) ?_
  refine V_iadd cx 669 rfl dL_law_668 ?_
  refine V_toi (nI (4 * it + 1)) (nI_add _ _) ?_
  refine V_sld LC (4 * it + 1) rfl (by omega) hL 670 rfl dL_law_669 ?_
  refine V_aload_n cx 671 rfl dL_law_670 4 rfl ?_
  refine V_calli (V_runSW (As := [.ref (h 0), .int (sc (4 * it + 1)), .ref oa]) (rest := []) (nA := 3) cx (kL_find (xl X) lo G _ h np nl len fd lu tu T C F LT VV BB lt ph lh ks wd gr gs bl ie tw oa ov (sc (4 * it + 1)) hst hnp) ⟨ml_L_107, sm_L_find, ii_L, co_L_find⟩ ⟨by decide, by decide, by decide +kernel⟩ (lw_rm hX (by decide) (by decide)) rfl rfl (Nat.le_of_ble_eq_true rfl) ⟨Nat.le_trans (by omega) hX.2.2.1, Nat.le_trans (by omega) hX.2.2.2⟩ dL_law_671) 674 (k + 1) (n + 6) rfl rfl rfl (fun v u hw => ?_)
  rcases u with _ | ⟨v1, z⟩
  · skip
    dsimp only at hw
    obtain ⟨E, hx, hcode⟩ := hw
    refine V_istore (lc1 := [(5, .int v), (4, .int (nI (4 * it))), (0, .ref b), (1, .ref (h 0)), (2, .ref (g 0)), (3, .ref oa)]) cx 676 rfl dL_law_674 (by decide) rfl ?_
    refine V.toM ?_
    refine V_aload_n cx 677 rfl dL_law_676 4 rfl ?_
    refine V_aload_n cx 678 rfl dL_law_677 2 rfl ?_
    refine V_iload cx 680 rfl dL_law_678 1 rfl ?_
    refine V_iconst (v := nI 1) cx 681 rfl dL_law_680 (by decide) ?_
    refine V_iadd cx 682 rfl dL_law_681 ?_
    refine V_toi (nI (4 * it + 1)) (nI_add _ _) ?_
    refine V_sld LC (4 * it + 1) rfl (by omega) hL 683 rfl dL_law_682 ?_
    refine KL_109 (As := [.int (sc (4 * it + 1))]) (rest := []) cx (kX5_find (xl X) lo G _ g th2 np2 nl2 ld2 ll2 mn2 sp2 T2 S2 C2 F2 LT2 LS2 VE2 BA2 wd2 mo2 lt2 op2 pl2 pt2 ks2 (sc (4 * it + 1)) hnp22) hX (by omega) 0 rfl rfl rfl (Nat.le_of_ble_eq_true rfl) 686 (k + 1) (n + 6) rfl rfl rfl (by omega) (by omega) dL_law_683 ?_
    intro r u2 hw2
    obtain ⟨th1', rfl⟩ : ∃ z, z = u2 := ⟨_, rfl⟩
    try dsimp only at hw2
    refine V_istore (lc1 := [(6, .int r), (5, .int v), (4, .int (nI (4 * it))), (0, .ref b), (1, .ref (h 0)), (2, .ref (g 0)), (3, .ref oa)]) cx 688 rfl dL_law_686 (by decide) rfl ?_
    refine V_aload_n cx 689 rfl dL_law_688 5 rfl ?_
    refine KL_79 (As := []) (rest := []) cx (kX5_thrown (xl X) lo G _ g _ _ _ _ _ _ _ _ _ _ _ _ _ _ _ _ _ _ _ _ _ _) hX (by omega) 0 rfl rfl rfl (Nat.le_of_ble_eq_true rfl) 692 (k + 1) (n + 6) rfl rfl rfl (by omega) (by omega) dL_law_689 ?_
    intro rt _ hrt
    try dsimp only at hrt
    subst hrt
    refine V_iload cx 694 rfl dL_law_692 1 rfl ?_
    have hth := st_find_x hx.2 hw2
    obtain ⟨rfl, hne⟩ := exc1 hcode hth
    refine V_icmp_eq cx 697 699 rfl dL_law_694 (by decide) (fun c0 => ?_) (fun c0 => absurd rfl c0)
    refine V_iload cx 701 rfl dL_law_699 1 rfl ?_
    refine V_if_ne cx 704 716 rfl dL_law_701 (by decide) (fun c0 => ?_) (fun c0 => absurd c0 hne)
    refine V_goto cx 1236 dL_law_716 (by decide) ?_
    refine V.widen (k' := k + 2) (n' := n + 12) (by omega) (by omega) ?_
    refine V.toC ?_
    refine V.locs (lc' := [(4, .int (nI (4 * it))), (0, .ref b), (1, .ref (h 0)), (2, .ref (g 0)), (3, .ref oa)]) [2, 3, 4, 5, 6] rfl ?_
    exact LJ _ _ _ _ _ _ _ _ _ _ _ _ _ _ _ _ _ _ _ _ _ _ _ _ _ _ _ _ _ _ _ _ _ _ _ _ _ _ _ _ _ _ _ _ _ x hI
  · skip
    dsimp only at hw
    obtain ⟨hx, hv, hz⟩ := hw
    subst hv
    refine V_istore (lc1 := [(5, .int (nI 0)), (4, .int (nI (4 * it))), (0, .ref b), (1, .ref (h 0)), (2, .ref (g 0)), (3, .ref oa)]) cx 676 rfl dL_law_674 (by decide) rfl ?_
    refine V.toM ?_
    refine V_aload_n cx 677 rfl dL_law_676 4 rfl ?_
    refine V_aload_n cx 678 rfl dL_law_677 2 rfl ?_
    refine V_iload cx 680 rfl dL_law_678 1 rfl ?_
    refine V_iconst (v := nI 1) cx 681 rfl dL_law_680 (by decide) ?_
    refine V_iadd cx 682 rfl dL_law_681 ?_
    refine V_toi (nI (4 * it + 1)) (nI_add _ _) ?_
    refine V_sld LC (4 * it + 1) rfl (by omega) hL 683 rfl dL_law_682 ?_
    refine KL_109 (As := [.int (sc (4 * it + 1))]) (rest := []) cx (kX5_find (xl X) lo G _ g th2 np2 nl2 ld2 ll2 mn2 sp2 T2 S2 C2 F2 LT2 LS2 VE2 BA2 wd2 mo2 lt2 op2 pl2 pt2 ks2 (sc (4 * it + 1)) hnp22) hX (by omega) 0 rfl rfl rfl (Nat.le_of_ble_eq_true rfl) 686 (k + 1) (n + 6) rfl rfl rfl (by omega) (by omega) dL_law_683 ?_
    intro r u2 hw2
    obtain ⟨th1', rfl⟩ : ∃ z, z = u2 := ⟨_, rfl⟩
    try dsimp only at hw2
    refine V_istore (lc1 := [(6, .int r), (5, .int (nI 0)), (4, .int (nI (4 * it))), (0, .ref b), (1, .ref (h 0)), (2, .ref (g 0)), (3, .ref oa)]) cx 688 rfl dL_law_686 (by decide) rfl ?_
    refine V_aload_n cx 689 rfl dL_law_688 5 rfl ?_
    refine KL_79 (As := []) (rest := []) cx (kX5_thrown (xl X) lo G _ g _ _ _ _ _ _ _ _ _ _ _ _ _ _ _ _ _ _ _ _ _ _) hX (by omega) 0 rfl rfl rfl (Nat.le_of_ble_eq_true rfl) 692 (k + 1) (n + 6) rfl rfl rfl (by omega) (by omega) dL_law_689 ?_
    intro rt _ hrt
    try dsimp only at hrt
    subst hrt
    refine V_iload cx 694 rfl dL_law_692 1 rfl ?_
    obtain ⟨rfl, rfl⟩ := st_find_n hI hx hw2
    refine V_icmp_eq cx 697 699 rfl dL_law_694 (by decide) (fun c0 => ?_) (fun c0 => absurd rfl c0)
    refine V_iload cx 701 rfl dL_law_699 1 rfl ?_
    refine V_if_ne cx 704 716 rfl dL_law_701 (by decide) (fun c0 => absurd rfl c0) (fun c0 => ?_)
    refine V_aload_n cx 705 rfl dL_law_704 6 rfl ?_
    refine V_iconst (v := nI 0) cx 706 rfl dL_law_705 (by decide) ?_
    refine V_laldN cx 0 rfl (by decide) (by decide) 37 rfl 707 rfl dL_law_706 ?_
    refine V_tol z rfl ?_
    refine V_iload cx 709 rfl dL_law_707 0 rfl ?_
    refine V_i2l cx 710 rfl dL_law_709 ?_
    refine V_tol z hz.symm ?_
    refine V_lcmp cx 711 rfl dL_law_710 ?_
    refine V_if_eq cx 714 716 rfl dL_law_711 (by decide) (fun c0 => ?_) (fun c0 => absurd (lg_cmp_self z) c0)
    refine V_goto cx 1236 dL_law_716 (by decide) ?_
    refine V.widen (k' := k + 2) (n' := n + 12) (by omega) (by omega) ?_
    refine V.toC ?_
    refine V.locs (lc' := [(4, .int (nI (4 * it))), (0, .ref b), (1, .ref (h 0)), (2, .ref (g 0)), (3, .ref oa)]) [2, 3, 4, 5, 6] rfl ?_
    exact LJ _ _ _ _ _ _ _ _ _ _ _ _ _ _ _ _ _ _ _ _ _ _ _ _ _ _ _ _ _ _ _ _ _ _ _ _ _ _ _ _ _ _ _ _ _ x hI
set_option maxHeartbeats 4000000 in
set_option maxRecDepth 100000 in
theorem lw_case_nodes {X : vX} {lo : Nat} {G : vG} {Q : State → Prop} {b L : Nat} {sc : Nat → Int32} (LC : LCx X lo G b L sc) (hL : L ≤ 2048) {it : Nat} (hit : 4 * it + 4 ≤ L) {h g : Nat → Nat} {oa : Nat} {np : Nat} {nl : Nat} {len : Nat} {fd : Nat} {lu : Nat} {tu : Nat} {T : Nat → Int32} {C : Nat → Int32} {F : Nat → Int32} {LT : Nat → Int32} {VV : Nat → Int32} {BB : Nat → Int32} {lt : Nat → Int32} {ph : Nat → Int32} {lh : Nat → Int32} {ks : Nat → Int64} {wd : Nat → Int32} {gr : Nat → Int32} {gs : Nat → Int32} {bl : Nat → Int32} {ie : Nat → Int32} {tw : Nat → Int32} {th2 : Nat} {np2 : Nat} {nl2 : Nat} {ld2 : Nat} {ll2 : Nat} {mn2 : Int32} {sp2 : Nat} {T2 : Nat → Int32} {S2 : Nat → Int32} {C2 : Nat → Int32} {F2 : Nat → Int32} {LT2 : Nat → Int32} {LS2 : Nat → Int32} {VE2 : Nat → Int32} {BA2 : Nat → Int32} {wd2 : Nat → Int32} {mo2 : Nat → Int32} {lt2 : Nat → Int32} {op2 : Nat → Int32} {pl2 : Nat → Int32} {pt2 : Nat → Int32} {ks2 : Nat → Int64} {ov : Nat → Int64} {x : LX} (hI : INV x np nl lu tu T C F LT VV BB wd gr gs bl ie np2 nl2 ld2 T2 S2 C2 F2 LT2 LS2 VE2 BA2 wd2 mo2) {k n : Nat} (hk : k + 2 ≤ 601024) (hn : n + 12 ≤ 7293034) (LJ : ∀ (np : Nat) (nl : Nat) (len : Nat) (fd : Nat) (lu : Nat) (tu : Nat) (T : Nat → Int32) (C : Nat → Int32) (F : Nat → Int32) (LT : Nat → Int32) (VV : Nat → Int32) (BB : Nat → Int32) (lt : Nat → Int32) (ph : Nat → Int32) (lh : Nat → Int32) (ks : Nat → Int64) (wd : Nat → Int32) (gr : Nat → Int32) (gs : Nat → Int32) (bl : Nat → Int32) (ie : Nat → Int32) (tw : Nat → Int32) (th2 : Nat) (np2 : Nat) (nl2 : Nat) (ld2 : Nat) (ll2 : Nat) (mn2 : Int32) (sp2 : Nat) (T2 : Nat → Int32) (S2 : Nat → Int32) (C2 : Nat → Int32) (F2 : Nat → Int32) (LT2 : Nat → Int32) (LS2 : Nat → Int32) (VE2 : Nat → Int32) (BA2 : Nat → Int32) (wd2 : Nat → Int32) (mo2 : Nat → Int32) (lt2 : Nat → Int32) (op2 : Nat → Int32) (pl2 : Nat → Int32) (pt2 : Nat → Int32) (ks2 : Nat → Int64) (ov : Nat → Int64) (x : LX), INV x np nl lu tu T C F LT VV BB wd gr gs bl ie np2 nl2 ld2 T2 S2 C2 F2 LT2 LS2 VE2 BA2 wd2 mo2 → V X lo 7 G Q (k + 2) (n + 12) (cW G h np nl len fd lu tu T C F LT VV BB lt ph lh ks wd gr gs bl ie tw ++ ([(oa, .inl (G.2.2.1, 1, .inr (.inl ov)))] ++ mW G g th2 np2 nl2 ld2 ll2 mn2 sp2 T2 S2 C2 F2 LT2 LS2 VE2 BA2 wd2 mo2 lt2 op2 pl2 pt2 ks2)) [(4, .int (nI (4 * it))), (0, .ref b), (1, .ref (h 0)), (2, .ref (g 0)), (3, .ref oa)] [] 1236) : V X lo 7 G Q k n (cW G h np nl len fd lu tu T C F LT VV BB lt ph lh ks wd gr gs bl ie tw ++ ([(oa, .inl (G.2.2.1, 1, .inr (.inl ov)))] ++ mW G g th2 np2 nl2 ld2 ll2 mn2 sp2 T2 S2 C2 F2 LT2 LS2 VE2 BA2 wd2 mo2 lt2 op2 pl2 pt2 ks2)) [(4, .int (nI (4 * it))), (0, .ref b), (1, .ref (h 0)), (2, .ref (g 0)), (3, .ref oa)] [] 719 := by
  obtain ⟨cx, hX, hst, hsc, hbl, hbA⟩ := id LC
  obtain ⟨hnp1, hnp2, hnp, hnl1, hnl2, hnl, hld, hlu⟩ := inv_np hI
  have hnp22 : np2 ≤ 16 := by omega
  obtain ⟨⟨ch, nd, hT⟩, htu⟩ := hI.2.2.2.2.1
  refine V_aload_n cx 720 rfl dL_law_719 2 rfl ?_
  refine KL_110 (As := []) (rest := []) cx (kX4_nodes (xl X) lo G _ h np nl len fd lu tu T C F LT VV BB lt ph lh ks wd gr gs bl ie tw ch hnp (by omega) hT.1.2 hT.1.1) hX (by omega) 0 rfl rfl rfl (Nat.le_of_ble_eq_true rfl) 723 k n rfl rfl rfl (by omega) (by omega) dL_law_720 ?_
  intro rc u hw
  try dsimp only at hw
  obtain ⟨tw1, rfl⟩ : ∃ z, z = u := ⟨_, rfl⟩
  refine V.toM ?_
  refine V_aload_n cx 724 rfl dL_law_723 3 rfl ?_
  refine KL_113 (As := []) (rest := [.int rc]) cx (kX5_nodes (xl X) lo G _ g th2 np2 nl2 ld2 ll2 mn2 sp2 T2 S2 C2 F2 LT2 LS2 VE2 BA2 wd2 mo2 lt2 op2 pl2 pt2 ks2 (lT x) (fun i => szN (lT x i)) hnp22 (lw_ts hI.1 hI.2.2.1)) hX (by omega) 0 rfl rfl rfl (Nat.le_of_ble_eq_true rfl) 727 k n rfl rfl rfl (by omega) (by omega) dL_law_724 ?_
  intro r u2 hw2
  try dsimp only at hw2
  have he : rc = r := by rw [hw2]; exact st_nodes hI hT hw
  refine V_icmp_eq cx 730 1236 rfl dL_law_727 (by decide) (fun c0 => ?_) (fun c0 => absurd (by rw [he]) c0)
  refine V.widen (k' := k + 2) (n' := n + 12) (by omega) (by omega) ?_
  refine V.toC ?_
  exact LJ _ _ _ _ _ _ _ _ _ _ _ _ _ _ _ _ _ _ _ _ _ _ _ _ _ _ _ _ _ _ _ _ _ _ _ _ _ _ _ _ _ _ _ _ _ x hI
set_option maxHeartbeats 4000000 in
set_option maxRecDepth 100000 in
theorem lw_case_splits {X : vX} {lo : Nat} {G : vG} {Q : State → Prop} {b L : Nat} {sc : Nat → Int32} (LC : LCx X lo G b L sc) (hL : L ≤ 2048) {it : Nat} (hit : 4 * it + 4 ≤ L) {h g : Nat → Nat} {oa : Nat} {np : Nat} {nl : Nat} {len : Nat} {fd : Nat} {lu : Nat} {tu : Nat} {T : Nat → Int32} {C : Nat → Int32} {F : Nat → Int32} {LT : Nat → Int32} {VV : Nat → Int32} {BB : Nat → Int32} {lt : Nat → Int32} {ph : Nat → Int32} {lh : Nat → Int32} {ks : Nat → Int64} {wd : Nat → Int32} {gr : Nat → Int32} {gs : Nat → Int32} {bl : Nat → Int32} {ie : Nat → Int32} {tw : Nat → Int32} {th2 : Nat} {np2 : Nat} {nl2 : Nat} {ld2 : Nat} {ll2 : Nat} {mn2 : Int32} {sp2 : Nat} {T2 : Nat → Int32} {S2 : Nat → Int32} {C2 : Nat → Int32} {F2 : Nat → Int32} {LT2 : Nat → Int32} {LS2 : Nat → Int32} {VE2 : Nat → Int32} {BA2 : Nat → Int32} {wd2 : Nat → Int32} {mo2 : Nat → Int32} {lt2 : Nat → Int32} {op2 : Nat → Int32} {pl2 : Nat → Int32} {pt2 : Nat → Int32} {ks2 : Nat → Int64} {ov : Nat → Int64} {x : LX} (hI : INV x np nl lu tu T C F LT VV BB wd gr gs bl ie np2 nl2 ld2 T2 S2 C2 F2 LT2 LS2 VE2 BA2 wd2 mo2) {k n : Nat} (hk : k + 2 ≤ 601024) (hn : n + 12 ≤ 7293034) (LJ : ∀ (np : Nat) (nl : Nat) (len : Nat) (fd : Nat) (lu : Nat) (tu : Nat) (T : Nat → Int32) (C : Nat → Int32) (F : Nat → Int32) (LT : Nat → Int32) (VV : Nat → Int32) (BB : Nat → Int32) (lt : Nat → Int32) (ph : Nat → Int32) (lh : Nat → Int32) (ks : Nat → Int64) (wd : Nat → Int32) (gr : Nat → Int32) (gs : Nat → Int32) (bl : Nat → Int32) (ie : Nat → Int32) (tw : Nat → Int32) (th2 : Nat) (np2 : Nat) (nl2 : Nat) (ld2 : Nat) (ll2 : Nat) (mn2 : Int32) (sp2 : Nat) (T2 : Nat → Int32) (S2 : Nat → Int32) (C2 : Nat → Int32) (F2 : Nat → Int32) (LT2 : Nat → Int32) (LS2 : Nat → Int32) (VE2 : Nat → Int32) (BA2 : Nat → Int32) (wd2 : Nat → Int32) (mo2 : Nat → Int32) (lt2 : Nat → Int32) (op2 : Nat → Int32) (pl2 : Nat → Int32) (pt2 : Nat → Int32) (ks2 : Nat → Int64) (ov : Nat → Int64) (x : LX), INV x np nl lu tu T C F LT VV BB wd gr gs bl ie np2 nl2 ld2 T2 S2 C2 F2 LT2 LS2 VE2 BA2 wd2 mo2 → V X lo 7 G Q (k + 2) (n + 12) (cW G h np nl len fd lu tu T C F LT VV BB lt ph lh ks wd gr gs bl ie tw ++ ([(oa, .inl (G.2.2.1, 1, .inr (.inl ov)))] ++ mW G g th2 np2 nl2 ld2 ll2 mn2 sp2 T2 S2 C2 F2 LT2 LS2 VE2 BA2 wd2 mo2 lt2 op2 pl2 pt2 ks2)) [(4, .int (nI (4 * it))), (0, .ref b), (1, .ref (h 0)), (2, .ref (g 0)), (3, .ref oa)] [] 1236) : V X lo 7 G Q k n (cW G h np nl len fd lu tu T C F LT VV BB lt ph lh ks wd gr gs bl ie tw ++ ([(oa, .inl (G.2.2.1, 1, .inr (.inl ov)))] ++ mW G g th2 np2 nl2 ld2 ll2 mn2 sp2 T2 S2 C2 F2 LT2 LS2 VE2 BA2 wd2 mo2 lt2 op2 pl2 pt2 ks2)) [(4, .int (nI (4 * it))), (0, .ref b), (1, .ref (h 0)), (2, .ref (g 0)), (3, .ref oa)] [] 732 := by
  obtain ⟨cx, hX, hst, hsc, hbl, hbA⟩ := id LC
  have hR := rkOK_of hI.1
  have hok := hI.1
  have hck := hI.2.1
  have hmk := hI.2.2.1
  refine V_aload_n cx 733 rfl dL_law_732 2 rfl ?_
  refine V_aload_n cx 734 rfl dL_law_733 1 rfl ?_
  refine V_iload cx 736 rfl dL_law_734 0 rfl ?_
  refine V_iconst (v := nI 1) cx 737 rfl dL_law_736 (by decide) ?_
  refine V_iadd cx 738 rfl dL_law_737 ?_
  refine V_toi (nI (4 * it + 1)) (nI_add _ _) ?_
  refine V_sld LC (4 * it + 1) rfl (by omega) hL 739 rfl dL_law_738 ?_
  refine V_aload_n cx 740 rfl dL_law_739 4 rfl ?_
  refine V_calli (V_runSW (As := [.ref (h 0), .int (sc (4 * it + 1)), .ref oa]) (rest := []) (nA := 3) cx (kL_splits (xl X) lo G _ h np nl len fd lu tu T C F LT VV BB lt ph lh ks wd gr gs bl ie tw oa ov (sc (4 * it + 1)) x hst hok hck) ⟨ml_L_114, sm_L_splits, ii_L, co_L_splits⟩ ⟨by decide, by decide, by decide +kernel⟩ (lw_rm hX (by decide) (by decide)) rfl rfl (Nat.le_of_ble_eq_true rfl) ⟨Nat.le_trans (by omega) hX.2.2.1, Nat.le_trans (by omega) hX.2.2.2⟩ dL_law_740) 743 (k + 1) (n + 6) rfl rfl rfl (fun v u hw => ?_)
  rcases u with _ | ⟨fd1, lt1, ph1, lh1, ks1, v1, z⟩
  · skip
    dsimp only at hw
    obtain ⟨E, hx, hcode⟩ := hw
    refine V_istore (lc1 := [(5, .int v), (4, .int (nI (4 * it))), (0, .ref b), (1, .ref (h 0)), (2, .ref (g 0)), (3, .ref oa)]) cx 745 rfl dL_law_743 (by decide) rfl ?_
    refine V.toM ?_
    refine V_aload_n cx 746 rfl dL_law_745 4 rfl ?_
    refine V_aload_n cx 747 rfl dL_law_746 2 rfl ?_
    refine V_iload cx 749 rfl dL_law_747 1 rfl ?_
    refine V_iconst (v := nI 1) cx 750 rfl dL_law_749 (by decide) ?_
    refine V_iadd cx 751 rfl dL_law_750 ?_
    refine V_toi (nI (4 * it + 1)) (nI_add _ _) ?_
    refine V_sld LC (4 * it + 1) rfl (by omega) hL 752 rfl dL_law_751 ?_
    refine KL_116 (As := [.int (sc (4 * it + 1))]) (rest := []) cx (kX5_splits (xl X) lo G _ g th2 np2 nl2 ld2 ll2 mn2 sp2 T2 S2 C2 F2 LT2 LS2 VE2 BA2 wd2 mo2 lt2 op2 pl2 pt2 ks2 (sc (4 * it + 1)) x hok hmk hR) hX (by omega) 0 rfl rfl rfl (Nat.le_of_ble_eq_true rfl) 755 (k + 1) (n + 6) rfl rfl rfl (by omega) (by omega) dL_law_752 ?_
    intro r u2 hw2
    obtain ⟨th1', ll1', mn1', sp1', lt1', op1', pl1', pt1', ks1'⟩ := u2
    try dsimp only at hw2
    refine V_istore (lc1 := [(6, .int r), (5, .int v), (4, .int (nI (4 * it))), (0, .ref b), (1, .ref (h 0)), (2, .ref (g 0)), (3, .ref oa)]) cx 757 rfl dL_law_755 (by decide) rfl ?_
    refine V_aload_n cx 758 rfl dL_law_757 5 rfl ?_
    refine KL_79 (As := []) (rest := []) cx (kX5_thrown (xl X) lo G _ g _ _ _ _ _ _ _ _ _ _ _ _ _ _ _ _ _ _ _ _ _ _) hX (by omega) 0 rfl rfl rfl (Nat.le_of_ble_eq_true rfl) 761 (k + 1) (n + 6) rfl rfl rfl (by omega) (by omega) dL_law_758 ?_
    intro rt _ hrt
    try dsimp only at hrt
    subst hrt
    refine V_iload cx 763 rfl dL_law_761 1 rfl ?_
    have hth := st_word_x hx.2 hw2
    obtain ⟨rfl, hne⟩ := exc1 hcode hth
    refine V_icmp_eq cx 766 768 rfl dL_law_763 (by decide) (fun c0 => ?_) (fun c0 => absurd rfl c0)
    refine V_iload cx 770 rfl dL_law_768 1 rfl ?_
    refine V_if_ne cx 773 785 rfl dL_law_770 (by decide) (fun c0 => ?_) (fun c0 => absurd c0 hne)
    refine V_goto cx 1236 dL_law_785 (by decide) ?_
    refine V.widen (k' := k + 2) (n' := n + 12) (by omega) (by omega) ?_
    refine V.toC ?_
    refine V.locs (lc' := [(4, .int (nI (4 * it))), (0, .ref b), (1, .ref (h 0)), (2, .ref (g 0)), (3, .ref oa)]) [2, 3, 4, 5, 6] rfl ?_
    exact LJ _ _ _ _ _ _ _ _ _ _ _ _ _ _ _ _ _ _ _ _ _ _ _ _ _ _ _ _ _ _ _ _ _ _ _ _ _ _ _ _ _ _ _ _ _ x hI
  · skip
    dsimp only at hw
    obtain ⟨hx, hv, hz⟩ := hw
    subst hv
    refine V_istore (lc1 := [(5, .int (nI 0)), (4, .int (nI (4 * it))), (0, .ref b), (1, .ref (h 0)), (2, .ref (g 0)), (3, .ref oa)]) cx 745 rfl dL_law_743 (by decide) rfl ?_
    refine V.toM ?_
    refine V_aload_n cx 746 rfl dL_law_745 4 rfl ?_
    refine V_aload_n cx 747 rfl dL_law_746 2 rfl ?_
    refine V_iload cx 749 rfl dL_law_747 1 rfl ?_
    refine V_iconst (v := nI 1) cx 750 rfl dL_law_749 (by decide) ?_
    refine V_iadd cx 751 rfl dL_law_750 ?_
    refine V_toi (nI (4 * it + 1)) (nI_add _ _) ?_
    refine V_sld LC (4 * it + 1) rfl (by omega) hL 752 rfl dL_law_751 ?_
    refine KL_116 (As := [.int (sc (4 * it + 1))]) (rest := []) cx (kX5_splits (xl X) lo G _ g th2 np2 nl2 ld2 ll2 mn2 sp2 T2 S2 C2 F2 LT2 LS2 VE2 BA2 wd2 mo2 lt2 op2 pl2 pt2 ks2 (sc (4 * it + 1)) x hok hmk hR) hX (by omega) 0 rfl rfl rfl (Nat.le_of_ble_eq_true rfl) 755 (k + 1) (n + 6) rfl rfl rfl (by omega) (by omega) dL_law_752 ?_
    intro r u2 hw2
    obtain ⟨th1', ll1', mn1', sp1', lt1', op1', pl1', pt1', ks1'⟩ := u2
    try dsimp only at hw2
    refine V_istore (lc1 := [(6, .int r), (5, .int (nI 0)), (4, .int (nI (4 * it))), (0, .ref b), (1, .ref (h 0)), (2, .ref (g 0)), (3, .ref oa)]) cx 757 rfl dL_law_755 (by decide) rfl ?_
    refine V_aload_n cx 758 rfl dL_law_757 5 rfl ?_
    refine KL_79 (As := []) (rest := []) cx (kX5_thrown (xl X) lo G _ g _ _ _ _ _ _ _ _ _ _ _ _ _ _ _ _ _ _ _ _ _ _) hX (by omega) 0 rfl rfl rfl (Nat.le_of_ble_eq_true rfl) 761 (k + 1) (n + 6) rfl rfl rfl (by omega) (by omega) dL_law_758 ?_
    intro rt _ hrt
    try dsimp only at hrt
    subst hrt
    refine V_iload cx 763 rfl dL_law_761 1 rfl ?_
    obtain ⟨rfl, rfl⟩ := st_word_n hx hw2
    refine V_icmp_eq cx 766 768 rfl dL_law_763 (by decide) (fun c0 => ?_) (fun c0 => absurd rfl c0)
    refine V_iload cx 770 rfl dL_law_768 1 rfl ?_
    refine V_if_ne cx 773 785 rfl dL_law_770 (by decide) (fun c0 => absurd rfl c0) (fun c0 => ?_)
    refine V_aload_n cx 774 rfl dL_law_773 6 rfl ?_
    refine V_iconst (v := nI 0) cx 775 rfl dL_law_774 (by decide) ?_
    refine V_laldN cx 0 rfl (by decide) (by decide) 37 rfl 776 rfl dL_law_775 ?_
    refine V_tol z rfl ?_
    refine V_iload cx 778 rfl dL_law_776 0 rfl ?_
    refine V_i2l cx 779 rfl dL_law_778 ?_
    refine V_tol z hz.symm ?_
    refine V_lcmp cx 780 rfl dL_law_779 ?_
    refine V_if_eq cx 783 785 rfl dL_law_780 (by decide) (fun c0 => ?_) (fun c0 => absurd (lg_cmp_self z) c0)
    refine V_goto cx 1236 dL_law_785 (by decide) ?_
    refine V.widen (k' := k + 2) (n' := n + 12) (by omega) (by omega) ?_
    refine V.toC ?_
    refine V.locs (lc' := [(4, .int (nI (4 * it))), (0, .ref b), (1, .ref (h 0)), (2, .ref (g 0)), (3, .ref oa)]) [2, 3, 4, 5, 6] rfl ?_
    exact LJ _ _ _ _ _ _ _ _ _ _ _ _ _ _ _ _ _ _ _ _ _ _ _ _ _ _ _ _ _ _ _ _ _ _ _ _ _ _ _ _ _ _ _ _ _ x hI
set_option maxHeartbeats 4000000 in
set_option maxRecDepth 100000 in
theorem lw_case_cost {X : vX} {lo : Nat} {G : vG} {Q : State → Prop} {b L : Nat} {sc : Nat → Int32} (LC : LCx X lo G b L sc) (hL : L ≤ 2048) {it : Nat} (hit : 4 * it + 4 ≤ L) {h g : Nat → Nat} {oa : Nat} {np : Nat} {nl : Nat} {len : Nat} {fd : Nat} {lu : Nat} {tu : Nat} {T : Nat → Int32} {C : Nat → Int32} {F : Nat → Int32} {LT : Nat → Int32} {VV : Nat → Int32} {BB : Nat → Int32} {lt : Nat → Int32} {ph : Nat → Int32} {lh : Nat → Int32} {ks : Nat → Int64} {wd : Nat → Int32} {gr : Nat → Int32} {gs : Nat → Int32} {bl : Nat → Int32} {ie : Nat → Int32} {tw : Nat → Int32} {th2 : Nat} {np2 : Nat} {nl2 : Nat} {ld2 : Nat} {ll2 : Nat} {mn2 : Int32} {sp2 : Nat} {T2 : Nat → Int32} {S2 : Nat → Int32} {C2 : Nat → Int32} {F2 : Nat → Int32} {LT2 : Nat → Int32} {LS2 : Nat → Int32} {VE2 : Nat → Int32} {BA2 : Nat → Int32} {wd2 : Nat → Int32} {mo2 : Nat → Int32} {lt2 : Nat → Int32} {op2 : Nat → Int32} {pl2 : Nat → Int32} {pt2 : Nat → Int32} {ks2 : Nat → Int64} {ov : Nat → Int64} {x : LX} (hI : INV x np nl lu tu T C F LT VV BB wd gr gs bl ie np2 nl2 ld2 T2 S2 C2 F2 LT2 LS2 VE2 BA2 wd2 mo2) {k n : Nat} (hk : k + 2 ≤ 601024) (hn : n + 12 ≤ 7293034) (LJ : ∀ (np : Nat) (nl : Nat) (len : Nat) (fd : Nat) (lu : Nat) (tu : Nat) (T : Nat → Int32) (C : Nat → Int32) (F : Nat → Int32) (LT : Nat → Int32) (VV : Nat → Int32) (BB : Nat → Int32) (lt : Nat → Int32) (ph : Nat → Int32) (lh : Nat → Int32) (ks : Nat → Int64) (wd : Nat → Int32) (gr : Nat → Int32) (gs : Nat → Int32) (bl : Nat → Int32) (ie : Nat → Int32) (tw : Nat → Int32) (th2 : Nat) (np2 : Nat) (nl2 : Nat) (ld2 : Nat) (ll2 : Nat) (mn2 : Int32) (sp2 : Nat) (T2 : Nat → Int32) (S2 : Nat → Int32) (C2 : Nat → Int32) (F2 : Nat → Int32) (LT2 : Nat → Int32) (LS2 : Nat → Int32) (VE2 : Nat → Int32) (BA2 : Nat → Int32) (wd2 : Nat → Int32) (mo2 : Nat → Int32) (lt2 : Nat → Int32) (op2 : Nat → Int32) (pl2 : Nat → Int32) (pt2 : Nat → Int32) (ks2 : Nat → Int64) (ov : Nat → Int64) (x : LX), INV x np nl lu tu T C F LT VV BB wd gr gs bl ie np2 nl2 ld2 T2 S2 C2 F2 LT2 LS2 VE2 BA2 wd2 mo2 → V X lo 7 G Q (k + 2) (n + 12) (cW G h np nl len fd lu tu T C F LT VV BB lt ph lh ks wd gr gs bl ie tw ++ ([(oa, .inl (G.2.2.1, 1, .inr (.inl ov)))] ++ mW G g th2 np2 nl2 ld2 ll2 mn2 sp2 T2 S2 C2 F2 LT2 LS2 VE2 BA2 wd2 mo2 lt2 op2 pl2 pt2 ks2)) [(4, .int (nI (4 * it))), (0, .ref b), (1, .ref (h 0)), (2, .ref (g 0)), (3, .ref oa)] [] 1236) : V X lo 7 G Q k n (cW G h np nl len fd lu tu T C F LT VV BB lt ph lh ks wd gr gs bl ie tw ++ ([(oa, .inl (G.2.2.1, 1, .inr (.inl ov)))] ++ mW G g th2 np2 nl2 ld2 ll2 mn2 sp2 T2 S2 C2 F2 LT2 LS2 VE2 BA2 wd2 mo2 lt2 op2 pl2 pt2 ks2)) [(4, .int (nI (4 * it))), (0, .ref b), (1, .ref (h 0)), (2, .ref (g 0)), (3, .ref oa)] [] 788 := by
  obtain ⟨cx, hX, hst, hsc, hbl, hbA⟩ := id LC
  have hR := rkOK_of hI.1
  have hok := hI.1
  have hck := hI.2.1
  have hmk := hI.2.2.1
  refine V_aload_n cx 789 rfl dL_law_788 2 rfl ?_
  refine V_aload_n cx 790 rfl dL_law_789 1 rfl ?_
  refine V_iload cx 792 rfl dL_law_790 0 rfl ?_
  refine V_iconst (v := nI 1) cx 793 rfl dL_law_792 (by decide) ?_
  refine V_iadd cx 794 rfl dL_law_793 ?_
  refine V_toi (nI (4 * it + 1)) (nI_add _ _) ?_
  refine V_sld LC (4 * it + 1) rfl (by omega) hL 795 rfl dL_law_794 ?_
  refine V_aload_n cx 796 rfl dL_law_795 1 rfl ?_
  refine V_iload cx 798 rfl dL_law_796 0 rfl ?_
  refine V_iconst (v := nI 2) cx 799 rfl dL_law_798 (by decide) ?_
  refine V_iadd cx 800 rfl dL_law_799 ?_
  refine V_toi (nI (4 * it + 2)) (nI_add _ _) ?_
  refine V_sld LC (4 * it + 2) rfl (by omega) hL 801 rfl dL_law_800 ?_
  refine V_aload_n cx 802 rfl dL_law_801 4 rfl ?_
  refine V_calli (V_runSW (As := [.ref (h 0), .int (sc (4 * it + 1)), .int (sc (4 * it + 2)), .ref oa]) (rest := []) (nA := 4) cx (kL_cost (xl X) lo G _ h np nl len fd lu tu T C F LT VV BB lt ph lh ks wd gr gs bl ie tw oa ov (sc (4 * it + 1)) (sc (4 * it + 2)) x hst hok hck) ⟨ml_L_117, sm_L_cost, ii_L, co_L_cost⟩ ⟨by decide, by decide, by decide +kernel⟩ (lw_rm hX (by decide) (by decide)) rfl rfl (Nat.le_of_ble_eq_true rfl) ⟨Nat.le_trans (by omega) hX.2.2.1, Nat.le_trans (by omega) hX.2.2.2⟩ dL_law_802) 805 (k + 2) (n + 12) rfl rfl rfl (fun v u hw => ?_)
  rcases u with _ | ⟨fd1, lt1, ph1, lh1, ks1, v1, z⟩
  · skip
    dsimp only at hw
    obtain ⟨E, hx, hcode⟩ := hw
    refine V_istore (lc1 := [(5, .int v), (4, .int (nI (4 * it))), (0, .ref b), (1, .ref (h 0)), (2, .ref (g 0)), (3, .ref oa)]) cx 807 rfl dL_law_805 (by decide) rfl ?_
    refine V.toM ?_
    refine V_aload_n cx 808 rfl dL_law_807 4 rfl ?_
    refine V_aload_n cx 809 rfl dL_law_808 2 rfl ?_
    refine V_iload cx 811 rfl dL_law_809 1 rfl ?_
    refine V_iconst (v := nI 1) cx 812 rfl dL_law_811 (by decide) ?_
    refine V_iadd cx 813 rfl dL_law_812 ?_
    refine V_toi (nI (4 * it + 1)) (nI_add _ _) ?_
    refine V_sld LC (4 * it + 1) rfl (by omega) hL 814 rfl dL_law_813 ?_
    refine V_aload_n cx 815 rfl dL_law_814 2 rfl ?_
    refine V_iload cx 817 rfl dL_law_815 1 rfl ?_
    refine V_iconst (v := nI 2) cx 818 rfl dL_law_817 (by decide) ?_
    refine V_iadd cx 819 rfl dL_law_818 ?_
    refine V_toi (nI (4 * it + 2)) (nI_add _ _) ?_
    refine V_sld LC (4 * it + 2) rfl (by omega) hL 820 rfl dL_law_819 ?_
    refine KL_119 (As := [.int (sc (4 * it + 1)), .int (sc (4 * it + 2))]) (rest := []) cx (kX5_cost (xl X) lo G _ g th2 np2 nl2 ld2 ll2 mn2 sp2 T2 S2 C2 F2 LT2 LS2 VE2 BA2 wd2 mo2 lt2 op2 pl2 pt2 ks2 (sc (4 * it + 1)) (sc (4 * it + 2)) x hok hmk hR) hX (by omega) 0 rfl rfl rfl (Nat.le_of_ble_eq_true rfl) 823 (k + 2) (n + 12) rfl rfl rfl (by omega) (by omega) dL_law_820 ?_
    intro r u2 hw2
    obtain ⟨th1', ll1', mn1', sp1', lt1', op1', pl1', pt1', ks1'⟩ := u2
    try dsimp only at hw2
    refine V_istore (lc1 := [(6, .int r), (5, .int v), (4, .int (nI (4 * it))), (0, .ref b), (1, .ref (h 0)), (2, .ref (g 0)), (3, .ref oa)]) cx 825 rfl dL_law_823 (by decide) rfl ?_
    refine V_aload_n cx 826 rfl dL_law_825 5 rfl ?_
    refine KL_79 (As := []) (rest := []) cx (kX5_thrown (xl X) lo G _ g _ _ _ _ _ _ _ _ _ _ _ _ _ _ _ _ _ _ _ _ _ _) hX (by omega) 0 rfl rfl rfl (Nat.le_of_ble_eq_true rfl) 829 (k + 2) (n + 12) rfl rfl rfl (by omega) (by omega) dL_law_826 ?_
    intro rt _ hrt
    try dsimp only at hrt
    subst hrt
    refine V_iload cx 831 rfl dL_law_829 1 rfl ?_
    have hth := ask_x hx.2 hw2
    obtain ⟨rfl, hne⟩ := exc1 hcode hth
    refine V_icmp_eq cx 834 836 rfl dL_law_831 (by decide) (fun c0 => ?_) (fun c0 => absurd rfl c0)
    refine V_iload cx 838 rfl dL_law_836 1 rfl ?_
    refine V_if_ne cx 841 853 rfl dL_law_838 (by decide) (fun c0 => ?_) (fun c0 => absurd c0 hne)
    refine V_goto cx 1236 dL_law_853 (by decide) ?_
    refine V.widen (k' := k + 2) (n' := n + 12) (by omega) (by omega) ?_
    refine V.toC ?_
    refine V.locs (lc' := [(4, .int (nI (4 * it))), (0, .ref b), (1, .ref (h 0)), (2, .ref (g 0)), (3, .ref oa)]) [2, 3, 4, 5, 6] rfl ?_
    exact LJ _ _ _ _ _ _ _ _ _ _ _ _ _ _ _ _ _ _ _ _ _ _ _ _ _ _ _ _ _ _ _ _ _ _ _ _ _ _ _ _ _ _ _ _ _ x hI
  · skip
    dsimp only at hw
    obtain ⟨hx, hv, hz⟩ := hw
    subst hv
    refine V_istore (lc1 := [(5, .int (nI 0)), (4, .int (nI (4 * it))), (0, .ref b), (1, .ref (h 0)), (2, .ref (g 0)), (3, .ref oa)]) cx 807 rfl dL_law_805 (by decide) rfl ?_
    refine V.toM ?_
    refine V_aload_n cx 808 rfl dL_law_807 4 rfl ?_
    refine V_aload_n cx 809 rfl dL_law_808 2 rfl ?_
    refine V_iload cx 811 rfl dL_law_809 1 rfl ?_
    refine V_iconst (v := nI 1) cx 812 rfl dL_law_811 (by decide) ?_
    refine V_iadd cx 813 rfl dL_law_812 ?_
    refine V_toi (nI (4 * it + 1)) (nI_add _ _) ?_
    refine V_sld LC (4 * it + 1) rfl (by omega) hL 814 rfl dL_law_813 ?_
    refine V_aload_n cx 815 rfl dL_law_814 2 rfl ?_
    refine V_iload cx 817 rfl dL_law_815 1 rfl ?_
    refine V_iconst (v := nI 2) cx 818 rfl dL_law_817 (by decide) ?_
    refine V_iadd cx 819 rfl dL_law_818 ?_
    refine V_toi (nI (4 * it + 2)) (nI_add _ _) ?_
    refine V_sld LC (4 * it + 2) rfl (by omega) hL 820 rfl dL_law_819 ?_
    refine KL_119 (As := [.int (sc (4 * it + 1)), .int (sc (4 * it + 2))]) (rest := []) cx (kX5_cost (xl X) lo G _ g th2 np2 nl2 ld2 ll2 mn2 sp2 T2 S2 C2 F2 LT2 LS2 VE2 BA2 wd2 mo2 lt2 op2 pl2 pt2 ks2 (sc (4 * it + 1)) (sc (4 * it + 2)) x hok hmk hR) hX (by omega) 0 rfl rfl rfl (Nat.le_of_ble_eq_true rfl) 823 (k + 2) (n + 12) rfl rfl rfl (by omega) (by omega) dL_law_820 ?_
    intro r u2 hw2
    obtain ⟨th1', ll1', mn1', sp1', lt1', op1', pl1', pt1', ks1'⟩ := u2
    try dsimp only at hw2
    refine V_istore (lc1 := [(6, .int r), (5, .int (nI 0)), (4, .int (nI (4 * it))), (0, .ref b), (1, .ref (h 0)), (2, .ref (g 0)), (3, .ref oa)]) cx 825 rfl dL_law_823 (by decide) rfl ?_
    refine V_aload_n cx 826 rfl dL_law_825 5 rfl ?_
    refine KL_79 (As := []) (rest := []) cx (kX5_thrown (xl X) lo G _ g _ _ _ _ _ _ _ _ _ _ _ _ _ _ _ _ _ _ _ _ _ _) hX (by omega) 0 rfl rfl rfl (Nat.le_of_ble_eq_true rfl) 829 (k + 2) (n + 12) rfl rfl rfl (by omega) (by omega) dL_law_826 ?_
    intro rt _ hrt
    try dsimp only at hrt
    subst hrt
    refine V_iload cx 831 rfl dL_law_829 1 rfl ?_
    obtain ⟨rfl, o1, ho1, ho2⟩ := ask_n hok hx hw2
    try dsimp only at ho1 ho2
    have hrr : r = v1 := ho2.trans ho1.symm
    subst hrr
    refine V_icmp_eq cx 834 836 rfl dL_law_831 (by decide) (fun c0 => ?_) (fun c0 => absurd rfl c0)
    refine V_iload cx 838 rfl dL_law_836 1 rfl ?_
    refine V_if_ne cx 841 853 rfl dL_law_838 (by decide) (fun c0 => absurd rfl c0) (fun c0 => ?_)
    refine V_aload_n cx 842 rfl dL_law_841 6 rfl ?_
    refine V_iconst (v := nI 0) cx 843 rfl dL_law_842 (by decide) ?_
    refine V_laldN cx 0 rfl (by decide) (by decide) 37 rfl 844 rfl dL_law_843 ?_
    refine V_tol z rfl ?_
    refine V_iload cx 846 rfl dL_law_844 0 rfl ?_
    refine V_i2l cx 847 rfl dL_law_846 ?_
    refine V_tol z hz.symm ?_
    refine V_lcmp cx 848 rfl dL_law_847 ?_
    refine V_if_eq cx 851 853 rfl dL_law_848 (by decide) (fun c0 => ?_) (fun c0 => absurd (lg_cmp_self z) c0)
    refine V_goto cx 1236 dL_law_853 (by decide) ?_
    refine V.widen (k' := k + 2) (n' := n + 12) (by omega) (by omega) ?_
    refine V.toC ?_
    refine V.locs (lc' := [(4, .int (nI (4 * it))), (0, .ref b), (1, .ref (h 0)), (2, .ref (g 0)), (3, .ref oa)]) [2, 3, 4, 5, 6] rfl ?_
    exact LJ _ _ _ _ _ _ _ _ _ _ _ _ _ _ _ _ _ _ _ _ _ _ _ _ _ _ _ _ _ _ _ _ _ _ _ _ _ _ _ _ _ _ _ _ _ x hI
set_option maxHeartbeats 4000000 in
set_option maxRecDepth 100000 in
theorem lw_case_size {X : vX} {lo : Nat} {G : vG} {Q : State → Prop} {b L : Nat} {sc : Nat → Int32} (LC : LCx X lo G b L sc) (hL : L ≤ 2048) {it : Nat} (hit : 4 * it + 4 ≤ L) {h g : Nat → Nat} {oa : Nat} {np : Nat} {nl : Nat} {len : Nat} {fd : Nat} {lu : Nat} {tu : Nat} {T : Nat → Int32} {C : Nat → Int32} {F : Nat → Int32} {LT : Nat → Int32} {VV : Nat → Int32} {BB : Nat → Int32} {lt : Nat → Int32} {ph : Nat → Int32} {lh : Nat → Int32} {ks : Nat → Int64} {wd : Nat → Int32} {gr : Nat → Int32} {gs : Nat → Int32} {bl : Nat → Int32} {ie : Nat → Int32} {tw : Nat → Int32} {th2 : Nat} {np2 : Nat} {nl2 : Nat} {ld2 : Nat} {ll2 : Nat} {mn2 : Int32} {sp2 : Nat} {T2 : Nat → Int32} {S2 : Nat → Int32} {C2 : Nat → Int32} {F2 : Nat → Int32} {LT2 : Nat → Int32} {LS2 : Nat → Int32} {VE2 : Nat → Int32} {BA2 : Nat → Int32} {wd2 : Nat → Int32} {mo2 : Nat → Int32} {lt2 : Nat → Int32} {op2 : Nat → Int32} {pl2 : Nat → Int32} {pt2 : Nat → Int32} {ks2 : Nat → Int64} {ov : Nat → Int64} {x : LX} (hI : INV x np nl lu tu T C F LT VV BB wd gr gs bl ie np2 nl2 ld2 T2 S2 C2 F2 LT2 LS2 VE2 BA2 wd2 mo2) {k n : Nat} (hk : k + 2 ≤ 601024) (hn : n + 12 ≤ 7293034) (LJ : ∀ (np : Nat) (nl : Nat) (len : Nat) (fd : Nat) (lu : Nat) (tu : Nat) (T : Nat → Int32) (C : Nat → Int32) (F : Nat → Int32) (LT : Nat → Int32) (VV : Nat → Int32) (BB : Nat → Int32) (lt : Nat → Int32) (ph : Nat → Int32) (lh : Nat → Int32) (ks : Nat → Int64) (wd : Nat → Int32) (gr : Nat → Int32) (gs : Nat → Int32) (bl : Nat → Int32) (ie : Nat → Int32) (tw : Nat → Int32) (th2 : Nat) (np2 : Nat) (nl2 : Nat) (ld2 : Nat) (ll2 : Nat) (mn2 : Int32) (sp2 : Nat) (T2 : Nat → Int32) (S2 : Nat → Int32) (C2 : Nat → Int32) (F2 : Nat → Int32) (LT2 : Nat → Int32) (LS2 : Nat → Int32) (VE2 : Nat → Int32) (BA2 : Nat → Int32) (wd2 : Nat → Int32) (mo2 : Nat → Int32) (lt2 : Nat → Int32) (op2 : Nat → Int32) (pl2 : Nat → Int32) (pt2 : Nat → Int32) (ks2 : Nat → Int64) (ov : Nat → Int64) (x : LX), INV x np nl lu tu T C F LT VV BB wd gr gs bl ie np2 nl2 ld2 T2 S2 C2 F2 LT2 LS2 VE2 BA2 wd2 mo2 → V X lo 7 G Q (k + 2) (n + 12) (cW G h np nl len fd lu tu T C F LT VV BB lt ph lh ks wd gr gs bl ie tw ++ ([(oa, .inl (G.2.2.1, 1, .inr (.inl ov)))] ++ mW G g th2 np2 nl2 ld2 ll2 mn2 sp2 T2 S2 C2 F2 LT2 LS2 VE2 BA2 wd2 mo2 lt2 op2 pl2 pt2 ks2)) [(4, .int (nI (4 * it))), (0, .ref b), (1, .ref (h 0)), (2, .ref (g 0)), (3, .ref oa)] [] 1236) : V X lo 7 G Q k n (cW G h np nl len fd lu tu T C F LT VV BB lt ph lh ks wd gr gs bl ie tw ++ ([(oa, .inl (G.2.2.1, 1, .inr (.inl ov)))] ++ mW G g th2 np2 nl2 ld2 ll2 mn2 sp2 T2 S2 C2 F2 LT2 LS2 VE2 BA2 wd2 mo2 lt2 op2 pl2 pt2 ks2)) [(4, .int (nI (4 * it))), (0, .ref b), (1, .ref (h 0)), (2, .ref (g 0)), (3, .ref oa)] [] 856 := by
  obtain ⟨cx, hX, hst, hsc, hbl, hbA⟩ := id LC
  have hR := rkOK_of hI.1
  have hok := hI.1
  have hck := hI.2.1
  have hmk := hI.2.2.1
  refine V_aload_n cx 857 rfl dL_law_856 2 rfl ?_
  refine V_aload_n cx 858 rfl dL_law_857 1 rfl ?_
  refine V_iload cx 860 rfl dL_law_858 0 rfl ?_
  refine V_iconst (v := nI 1) cx 861 rfl dL_law_860 (by decide) ?_
  refine V_iadd cx 862 rfl dL_law_861 ?_
  refine V_toi (nI (4 * it + 1)) (nI_add _ _) ?_
  refine V_sld LC (4 * it + 1) rfl (by omega) hL 863 rfl dL_law_862 ?_
  refine V_aload_n cx 864 rfl dL_law_863 1 rfl ?_
  refine V_iload cx 866 rfl dL_law_864 0 rfl ?_
  refine V_iconst (v := nI 2) cx 867 rfl dL_law_866 (by decide) ?_
  refine V_iadd cx 868 rfl dL_law_867 ?_
  refine V_toi (nI (4 * it + 2)) (nI_add _ _) ?_
  refine V_sld LC (4 * it + 2) rfl (by omega) hL 869 rfl dL_law_868 ?_
  refine V_aload_n cx 870 rfl dL_law_869 4 rfl ?_
  refine V_calli (V_runSW (As := [.ref (h 0), .int (sc (4 * it + 1)), .int (sc (4 * it + 2)), .ref oa]) (rest := []) (nA := 4) cx (kL_size (xl X) lo G _ h np nl len fd lu tu T C F LT VV BB lt ph lh ks wd gr gs bl ie tw oa ov (sc (4 * it + 1)) (sc (4 * it + 2)) x hst hok hck) ⟨ml_L_120, sm_L_size, ii_L, co_L_size⟩ ⟨by decide, by decide, by decide +kernel⟩ (lw_rm hX (by decide) (by decide)) rfl rfl (Nat.le_of_ble_eq_true rfl) ⟨Nat.le_trans (by omega) hX.2.2.1, Nat.le_trans (by omega) hX.2.2.2⟩ dL_law_870) 873 (k + 2) (n + 12) rfl rfl rfl (fun v u hw => ?_)
  rcases u with _ | ⟨fd1, lt1, ph1, lh1, ks1, v1, z⟩
  · skip
    dsimp only at hw
    obtain ⟨E, hx, hcode⟩ := hw
    refine V_istore (lc1 := [(5, .int v), (4, .int (nI (4 * it))), (0, .ref b), (1, .ref (h 0)), (2, .ref (g 0)), (3, .ref oa)]) cx 875 rfl dL_law_873 (by decide) rfl ?_
    refine V.toM ?_
    refine V_aload_n cx 876 rfl dL_law_875 4 rfl ?_
    refine V_aload_n cx 877 rfl dL_law_876 2 rfl ?_
    refine V_iload cx 879 rfl dL_law_877 1 rfl ?_
    refine V_iconst (v := nI 1) cx 880 rfl dL_law_879 (by decide) ?_
    refine V_iadd cx 881 rfl dL_law_880 ?_
    refine V_toi (nI (4 * it + 1)) (nI_add _ _) ?_
    refine V_sld LC (4 * it + 1) rfl (by omega) hL 882 rfl dL_law_881 ?_
    refine V_aload_n cx 883 rfl dL_law_882 2 rfl ?_
    refine V_iload cx 885 rfl dL_law_883 1 rfl ?_
    refine V_iconst (v := nI 2) cx 886 rfl dL_law_885 (by decide) ?_
    refine V_iadd cx 887 rfl dL_law_886 ?_
    refine V_toi (nI (4 * it + 2)) (nI_add _ _) ?_
    refine V_sld LC (4 * it + 2) rfl (by omega) hL 888 rfl dL_law_887 ?_
    refine KL_122 (As := [.int (sc (4 * it + 1)), .int (sc (4 * it + 2))]) (rest := []) cx (kX5_size (xl X) lo G _ g th2 np2 nl2 ld2 ll2 mn2 sp2 T2 S2 C2 F2 LT2 LS2 VE2 BA2 wd2 mo2 lt2 op2 pl2 pt2 ks2 (sc (4 * it + 1)) (sc (4 * it + 2)) x hok hmk hR) hX (by omega) 0 rfl rfl rfl (Nat.le_of_ble_eq_true rfl) 891 (k + 2) (n + 12) rfl rfl rfl (by omega) (by omega) dL_law_888 ?_
    intro r u2 hw2
    obtain ⟨th1', ll1', mn1', sp1', lt1', op1', pl1', pt1', ks1'⟩ := u2
    try dsimp only at hw2
    refine V_istore (lc1 := [(6, .int r), (5, .int v), (4, .int (nI (4 * it))), (0, .ref b), (1, .ref (h 0)), (2, .ref (g 0)), (3, .ref oa)]) cx 893 rfl dL_law_891 (by decide) rfl ?_
    refine V_aload_n cx 894 rfl dL_law_893 5 rfl ?_
    refine KL_79 (As := []) (rest := []) cx (kX5_thrown (xl X) lo G _ g _ _ _ _ _ _ _ _ _ _ _ _ _ _ _ _ _ _ _ _ _ _) hX (by omega) 0 rfl rfl rfl (Nat.le_of_ble_eq_true rfl) 897 (k + 2) (n + 12) rfl rfl rfl (by omega) (by omega) dL_law_894 ?_
    intro rt _ hrt
    try dsimp only at hrt
    subst hrt
    refine V_iload cx 899 rfl dL_law_897 1 rfl ?_
    have hth := ask_x hx.2 hw2
    obtain ⟨rfl, hne⟩ := exc1 hcode hth
    refine V_icmp_eq cx 902 904 rfl dL_law_899 (by decide) (fun c0 => ?_) (fun c0 => absurd rfl c0)
    refine V_iload cx 906 rfl dL_law_904 1 rfl ?_
    refine V_if_ne cx 909 921 rfl dL_law_906 (by decide) (fun c0 => ?_) (fun c0 => absurd c0 hne)
    refine V_goto cx 1236 dL_law_921 (by decide) ?_
    refine V.widen (k' := k + 2) (n' := n + 12) (by omega) (by omega) ?_
    refine V.toC ?_
    refine V.locs (lc' := [(4, .int (nI (4 * it))), (0, .ref b), (1, .ref (h 0)), (2, .ref (g 0)), (3, .ref oa)]) [2, 3, 4, 5, 6] rfl ?_
    exact LJ _ _ _ _ _ _ _ _ _ _ _ _ _ _ _ _ _ _ _ _ _ _ _ _ _ _ _ _ _ _ _ _ _ _ _ _ _ _ _ _ _ _ _ _ _ x hI
  · skip
    dsimp only at hw
    obtain ⟨hx, hv, hz⟩ := hw
    subst hv
    refine V_istore (lc1 := [(5, .int (nI 0)), (4, .int (nI (4 * it))), (0, .ref b), (1, .ref (h 0)), (2, .ref (g 0)), (3, .ref oa)]) cx 875 rfl dL_law_873 (by decide) rfl ?_
    refine V.toM ?_
    refine V_aload_n cx 876 rfl dL_law_875 4 rfl ?_
    refine V_aload_n cx 877 rfl dL_law_876 2 rfl ?_
    refine V_iload cx 879 rfl dL_law_877 1 rfl ?_
    refine V_iconst (v := nI 1) cx 880 rfl dL_law_879 (by decide) ?_
    refine V_iadd cx 881 rfl dL_law_880 ?_
    refine V_toi (nI (4 * it + 1)) (nI_add _ _) ?_
    refine V_sld LC (4 * it + 1) rfl (by omega) hL 882 rfl dL_law_881 ?_
    refine V_aload_n cx 883 rfl dL_law_882 2 rfl ?_
    refine V_iload cx 885 rfl dL_law_883 1 rfl ?_
    refine V_iconst (v := nI 2) cx 886 rfl dL_law_885 (by decide) ?_
    refine V_iadd cx 887 rfl dL_law_886 ?_
    refine V_toi (nI (4 * it + 2)) (nI_add _ _) ?_
    refine V_sld LC (4 * it + 2) rfl (by omega) hL 888 rfl dL_law_887 ?_
    refine KL_122 (As := [.int (sc (4 * it + 1)), .int (sc (4 * it + 2))]) (rest := []) cx (kX5_size (xl X) lo G _ g th2 np2 nl2 ld2 ll2 mn2 sp2 T2 S2 C2 F2 LT2 LS2 VE2 BA2 wd2 mo2 lt2 op2 pl2 pt2 ks2 (sc (4 * it + 1)) (sc (4 * it + 2)) x hok hmk hR) hX (by omega) 0 rfl rfl rfl (Nat.le_of_ble_eq_true rfl) 891 (k + 2) (n + 12) rfl rfl rfl (by omega) (by omega) dL_law_888 ?_
    intro r u2 hw2
    obtain ⟨th1', ll1', mn1', sp1', lt1', op1', pl1', pt1', ks1'⟩ := u2
    try dsimp only at hw2
    refine V_istore (lc1 := [(6, .int r), (5, .int (nI 0)), (4, .int (nI (4 * it))), (0, .ref b), (1, .ref (h 0)), (2, .ref (g 0)), (3, .ref oa)]) cx 893 rfl dL_law_891 (by decide) rfl ?_
    refine V_aload_n cx 894 rfl dL_law_893 5 rfl ?_
    refine KL_79 (As := []) (rest := []) cx (kX5_thrown (xl X) lo G _ g _ _ _ _ _ _ _ _ _ _ _ _ _ _ _ _ _ _ _ _ _ _) hX (by omega) 0 rfl rfl rfl (Nat.le_of_ble_eq_true rfl) 897 (k + 2) (n + 12) rfl rfl rfl (by omega) (by omega) dL_law_894 ?_
    intro rt _ hrt
    try dsimp only at hrt
    subst hrt
    refine V_iload cx 899 rfl dL_law_897 1 rfl ?_
    obtain ⟨rfl, o1, ho1, ho2⟩ := ask_n hok hx hw2
    try dsimp only at ho1 ho2
    have hrr : r = v1 := ho2.trans ho1.symm
    subst hrr
    refine V_icmp_eq cx 902 904 rfl dL_law_899 (by decide) (fun c0 => ?_) (fun c0 => absurd rfl c0)
    refine V_iload cx 906 rfl dL_law_904 1 rfl ?_
    refine V_if_ne cx 909 921 rfl dL_law_906 (by decide) (fun c0 => absurd rfl c0) (fun c0 => ?_)
    refine V_aload_n cx 910 rfl dL_law_909 6 rfl ?_
    refine V_iconst (v := nI 0) cx 911 rfl dL_law_910 (by decide) ?_
    refine V_laldN cx 0 rfl (by decide) (by decide) 37 rfl 912 rfl dL_law_911 ?_
    refine V_tol z rfl ?_
    refine V_iload cx 914 rfl dL_law_912 0 rfl ?_
    refine V_i2l cx 915 rfl dL_law_914 ?_
    refine V_tol z hz.symm ?_
    refine V_lcmp cx 916 rfl dL_law_915 ?_
    refine V_if_eq cx 919 921 rfl dL_law_916 (by decide) (fun c0 => ?_) (fun c0 => absurd (lg_cmp_self z) c0)
    refine V_goto cx 1236 dL_law_921 (by decide) ?_
    refine V.widen (k' := k + 2) (n' := n + 12) (by omega) (by omega) ?_
    refine V.toC ?_
    refine V.locs (lc' := [(4, .int (nI (4 * it))), (0, .ref b), (1, .ref (h 0)), (2, .ref (g 0)), (3, .ref oa)]) [2, 3, 4, 5, 6] rfl ?_
    exact LJ _ _ _ _ _ _ _ _ _ _ _ _ _ _ _ _ _ _ _ _ _ _ _ _ _ _ _ _ _ _ _ _ _ _ _ _ _ _ _ _ _ _ _ _ _ x hI
set_option maxHeartbeats 4000000 in
set_option maxRecDepth 100000 in
theorem lw_case_partAt {X : vX} {lo : Nat} {G : vG} {Q : State → Prop} {b L : Nat} {sc : Nat → Int32} (LC : LCx X lo G b L sc) (hL : L ≤ 2048) {it : Nat} (hit : 4 * it + 4 ≤ L) {h g : Nat → Nat} {oa : Nat} {np : Nat} {nl : Nat} {len : Nat} {fd : Nat} {lu : Nat} {tu : Nat} {T : Nat → Int32} {C : Nat → Int32} {F : Nat → Int32} {LT : Nat → Int32} {VV : Nat → Int32} {BB : Nat → Int32} {lt : Nat → Int32} {ph : Nat → Int32} {lh : Nat → Int32} {ks : Nat → Int64} {wd : Nat → Int32} {gr : Nat → Int32} {gs : Nat → Int32} {bl : Nat → Int32} {ie : Nat → Int32} {tw : Nat → Int32} {th2 : Nat} {np2 : Nat} {nl2 : Nat} {ld2 : Nat} {ll2 : Nat} {mn2 : Int32} {sp2 : Nat} {T2 : Nat → Int32} {S2 : Nat → Int32} {C2 : Nat → Int32} {F2 : Nat → Int32} {LT2 : Nat → Int32} {LS2 : Nat → Int32} {VE2 : Nat → Int32} {BA2 : Nat → Int32} {wd2 : Nat → Int32} {mo2 : Nat → Int32} {lt2 : Nat → Int32} {op2 : Nat → Int32} {pl2 : Nat → Int32} {pt2 : Nat → Int32} {ks2 : Nat → Int64} {ov : Nat → Int64} {x : LX} (hI : INV x np nl lu tu T C F LT VV BB wd gr gs bl ie np2 nl2 ld2 T2 S2 C2 F2 LT2 LS2 VE2 BA2 wd2 mo2) {k n : Nat} (hk : k + 2 ≤ 601024) (hn : n + 12 ≤ 7293034) (LJ : ∀ (np : Nat) (nl : Nat) (len : Nat) (fd : Nat) (lu : Nat) (tu : Nat) (T : Nat → Int32) (C : Nat → Int32) (F : Nat → Int32) (LT : Nat → Int32) (VV : Nat → Int32) (BB : Nat → Int32) (lt : Nat → Int32) (ph : Nat → Int32) (lh : Nat → Int32) (ks : Nat → Int64) (wd : Nat → Int32) (gr : Nat → Int32) (gs : Nat → Int32) (bl : Nat → Int32) (ie : Nat → Int32) (tw : Nat → Int32) (th2 : Nat) (np2 : Nat) (nl2 : Nat) (ld2 : Nat) (ll2 : Nat) (mn2 : Int32) (sp2 : Nat) (T2 : Nat → Int32) (S2 : Nat → Int32) (C2 : Nat → Int32) (F2 : Nat → Int32) (LT2 : Nat → Int32) (LS2 : Nat → Int32) (VE2 : Nat → Int32) (BA2 : Nat → Int32) (wd2 : Nat → Int32) (mo2 : Nat → Int32) (lt2 : Nat → Int32) (op2 : Nat → Int32) (pl2 : Nat → Int32) (pt2 : Nat → Int32) (ks2 : Nat → Int64) (ov : Nat → Int64) (x : LX), INV x np nl lu tu T C F LT VV BB wd gr gs bl ie np2 nl2 ld2 T2 S2 C2 F2 LT2 LS2 VE2 BA2 wd2 mo2 → V X lo 7 G Q (k + 2) (n + 12) (cW G h np nl len fd lu tu T C F LT VV BB lt ph lh ks wd gr gs bl ie tw ++ ([(oa, .inl (G.2.2.1, 1, .inr (.inl ov)))] ++ mW G g th2 np2 nl2 ld2 ll2 mn2 sp2 T2 S2 C2 F2 LT2 LS2 VE2 BA2 wd2 mo2 lt2 op2 pl2 pt2 ks2)) [(4, .int (nI (4 * it))), (0, .ref b), (1, .ref (h 0)), (2, .ref (g 0)), (3, .ref oa)] [] 1236) : V X lo 7 G Q k n (cW G h np nl len fd lu tu T C F LT VV BB lt ph lh ks wd gr gs bl ie tw ++ ([(oa, .inl (G.2.2.1, 1, .inr (.inl ov)))] ++ mW G g th2 np2 nl2 ld2 ll2 mn2 sp2 T2 S2 C2 F2 LT2 LS2 VE2 BA2 wd2 mo2 lt2 op2 pl2 pt2 ks2)) [(4, .int (nI (4 * it))), (0, .ref b), (1, .ref (h 0)), (2, .ref (g 0)), (3, .ref oa)] [] 924 := by
  obtain ⟨cx, hX, hst, hsc, hbl, hbA⟩ := id LC
  have hR := rkOK_of hI.1
  have hok := hI.1
  have hck := hI.2.1
  have hmk := hI.2.2.1
  refine V_aload_n cx 925 rfl dL_law_924 2 rfl ?_
  refine V_aload_n cx 926 rfl dL_law_925 1 rfl ?_
  refine V_iload cx 928 rfl dL_law_926 0 rfl ?_
  refine V_iconst (v := nI 1) cx 929 rfl dL_law_928 (by decide) ?_
  refine V_iadd cx 930 rfl dL_law_929 ?_
  refine V_toi (nI (4 * it + 1)) (nI_add _ _) ?_
  refine V_sld LC (4 * it + 1) rfl (by omega) hL 931 rfl dL_law_930 ?_
  refine V_aload_n cx 932 rfl dL_law_931 1 rfl ?_
  refine V_iload cx 934 rfl dL_law_932 0 rfl ?_
  refine V_iconst (v := nI 2) cx 935 rfl dL_law_934 (by decide) ?_
  refine V_iadd cx 936 rfl dL_law_935 ?_
  refine V_toi (nI (4 * it + 2)) (nI_add _ _) ?_
  refine V_sld LC (4 * it + 2) rfl (by omega) hL 937 rfl dL_law_936 ?_
  refine V_aload_n cx 938 rfl dL_law_937 1 rfl ?_
  refine V_iload cx 940 rfl dL_law_938 0 rfl ?_
  refine V_iconst (v := nI 3) cx 941 rfl dL_law_940 (by decide) ?_
  refine V_iadd cx 942 rfl dL_law_941 ?_
  refine V_toi (nI (4 * it + 3)) (nI_add _ _) ?_
  refine V_sld LC (4 * it + 3) rfl (by omega) hL 943 rfl dL_law_942 ?_
  refine V_aload_n cx 944 rfl dL_law_943 4 rfl ?_
  refine V_calli (V_runSW (As := [.ref (h 0), .int (sc (4 * it + 1)), .int (sc (4 * it + 2)), .int (sc (4 * it + 3)), .ref oa]) (rest := []) (nA := 5) cx (kL_partAt (xl X) lo G _ h np nl len fd lu tu T C F LT VV BB lt ph lh ks wd gr gs bl ie tw oa ov (sc (4 * it + 1)) (sc (4 * it + 2)) (sc (4 * it + 3)) x hst hok hck) ⟨ml_L_123, sm_L_partAt, ii_L, co_L_partAt⟩ ⟨by decide, by decide, by decide +kernel⟩ (lw_rm hX (by decide) (by decide)) rfl rfl (Nat.le_of_ble_eq_true rfl) ⟨Nat.le_trans (by omega) hX.2.2.1, Nat.le_trans (by omega) hX.2.2.2⟩ dL_law_944) 947 (k + 2) (n + 12) rfl rfl rfl (fun v u hw => ?_)
  rcases u with _ | ⟨fd1, lt1, ph1, lh1, ks1, v1, z⟩
  · skip
    dsimp only at hw
    obtain ⟨E, hx, hcode⟩ := hw
    refine V_istore (lc1 := [(5, .int v), (4, .int (nI (4 * it))), (0, .ref b), (1, .ref (h 0)), (2, .ref (g 0)), (3, .ref oa)]) cx 949 rfl dL_law_947 (by decide) rfl ?_
    refine V.toM ?_
    refine V_aload_n cx 950 rfl dL_law_949 4 rfl ?_
    refine V_aload_n cx 951 rfl dL_law_950 2 rfl ?_
    refine V_iload cx 953 rfl dL_law_951 1 rfl ?_
    refine V_iconst (v := nI 1) cx 954 rfl dL_law_953 (by decide) ?_
    refine V_iadd cx 955 rfl dL_law_954 ?_
    refine V_toi (nI (4 * it + 1)) (nI_add _ _) ?_
    refine V_sld LC (4 * it + 1) rfl (by omega) hL 956 rfl dL_law_955 ?_
    refine V_aload_n cx 957 rfl dL_law_956 2 rfl ?_
    refine V_iload cx 959 rfl dL_law_957 1 rfl ?_
    refine V_iconst (v := nI 2) cx 960 rfl dL_law_959 (by decide) ?_
    refine V_iadd cx 961 rfl dL_law_960 ?_
    refine V_toi (nI (4 * it + 2)) (nI_add _ _) ?_
    refine V_sld LC (4 * it + 2) rfl (by omega) hL 962 rfl dL_law_961 ?_
    refine V_aload_n cx 963 rfl dL_law_962 2 rfl ?_
    refine V_iload cx 965 rfl dL_law_963 1 rfl ?_
    refine V_iconst (v := nI 3) cx 966 rfl dL_law_965 (by decide) ?_
    refine V_iadd cx 967 rfl dL_law_966 ?_
    refine V_toi (nI (4 * it + 3)) (nI_add _ _) ?_
    refine V_sld LC (4 * it + 3) rfl (by omega) hL 968 rfl dL_law_967 ?_
    refine KL_125 (As := [.int (sc (4 * it + 1)), .int (sc (4 * it + 2)), .int (sc (4 * it + 3))]) (rest := []) cx (kX5_partAt (xl X) lo G _ g th2 np2 nl2 ld2 ll2 mn2 sp2 T2 S2 C2 F2 LT2 LS2 VE2 BA2 wd2 mo2 lt2 op2 pl2 pt2 ks2 (sc (4 * it + 1)) (sc (4 * it + 2)) (sc (4 * it + 3)) x hok hmk hR) hX (by omega) 0 rfl rfl rfl (Nat.le_of_ble_eq_true rfl) 971 (k + 2) (n + 12) rfl rfl rfl (by omega) (by omega) dL_law_968 ?_
    intro r u2 hw2
    obtain ⟨th1', ll1', mn1', sp1', lt1', op1', pl1', pt1', ks1'⟩ := u2
    try dsimp only at hw2
    refine V_istore (lc1 := [(6, .int r), (5, .int v), (4, .int (nI (4 * it))), (0, .ref b), (1, .ref (h 0)), (2, .ref (g 0)), (3, .ref oa)]) cx 973 rfl dL_law_971 (by decide) rfl ?_
    refine V_aload_n cx 974 rfl dL_law_973 5 rfl ?_
    refine KL_79 (As := []) (rest := []) cx (kX5_thrown (xl X) lo G _ g _ _ _ _ _ _ _ _ _ _ _ _ _ _ _ _ _ _ _ _ _ _) hX (by omega) 0 rfl rfl rfl (Nat.le_of_ble_eq_true rfl) 977 (k + 2) (n + 12) rfl rfl rfl (by omega) (by omega) dL_law_974 ?_
    intro rt _ hrt
    try dsimp only at hrt
    subst hrt
    refine V_iload cx 979 rfl dL_law_977 1 rfl ?_
    have hth : th1' = 1 := by
      rcases hw2 with q | q
      · exact q.2
      · rcases hx.2 with z | z
        · exact absurd z q.1
        · exact ask_x z q.2
    obtain ⟨rfl, hne⟩ := exc1 hcode hth
    refine V_icmp_eq cx 982 984 rfl dL_law_979 (by decide) (fun c0 => ?_) (fun c0 => absurd rfl c0)
    refine V_iload cx 986 rfl dL_law_984 1 rfl ?_
    refine V_if_ne cx 989 1001 rfl dL_law_986 (by decide) (fun c0 => ?_) (fun c0 => absurd c0 hne)
    refine V_goto cx 1236 dL_law_1001 (by decide) ?_
    refine V.widen (k' := k + 2) (n' := n + 12) (by omega) (by omega) ?_
    refine V.toC ?_
    refine V.locs (lc' := [(4, .int (nI (4 * it))), (0, .ref b), (1, .ref (h 0)), (2, .ref (g 0)), (3, .ref oa)]) [2, 3, 4, 5, 6] rfl ?_
    exact LJ _ _ _ _ _ _ _ _ _ _ _ _ _ _ _ _ _ _ _ _ _ _ _ _ _ _ _ _ _ _ _ _ _ _ _ _ _ _ _ _ _ _ _ _ _ x hI
  · skip
    dsimp only at hw
    obtain ⟨hx, hv, hz⟩ := hw
    subst hv
    refine V_istore (lc1 := [(5, .int (nI 0)), (4, .int (nI (4 * it))), (0, .ref b), (1, .ref (h 0)), (2, .ref (g 0)), (3, .ref oa)]) cx 949 rfl dL_law_947 (by decide) rfl ?_
    refine V.toM ?_
    refine V_aload_n cx 950 rfl dL_law_949 4 rfl ?_
    refine V_aload_n cx 951 rfl dL_law_950 2 rfl ?_
    refine V_iload cx 953 rfl dL_law_951 1 rfl ?_
    refine V_iconst (v := nI 1) cx 954 rfl dL_law_953 (by decide) ?_
    refine V_iadd cx 955 rfl dL_law_954 ?_
    refine V_toi (nI (4 * it + 1)) (nI_add _ _) ?_
    refine V_sld LC (4 * it + 1) rfl (by omega) hL 956 rfl dL_law_955 ?_
    refine V_aload_n cx 957 rfl dL_law_956 2 rfl ?_
    refine V_iload cx 959 rfl dL_law_957 1 rfl ?_
    refine V_iconst (v := nI 2) cx 960 rfl dL_law_959 (by decide) ?_
    refine V_iadd cx 961 rfl dL_law_960 ?_
    refine V_toi (nI (4 * it + 2)) (nI_add _ _) ?_
    refine V_sld LC (4 * it + 2) rfl (by omega) hL 962 rfl dL_law_961 ?_
    refine V_aload_n cx 963 rfl dL_law_962 2 rfl ?_
    refine V_iload cx 965 rfl dL_law_963 1 rfl ?_
    refine V_iconst (v := nI 3) cx 966 rfl dL_law_965 (by decide) ?_
    refine V_iadd cx 967 rfl dL_law_966 ?_
    refine V_toi (nI (4 * it + 3)) (nI_add _ _) ?_
    refine V_sld LC (4 * it + 3) rfl (by omega) hL 968 rfl dL_law_967 ?_
    refine KL_125 (As := [.int (sc (4 * it + 1)), .int (sc (4 * it + 2)), .int (sc (4 * it + 3))]) (rest := []) cx (kX5_partAt (xl X) lo G _ g th2 np2 nl2 ld2 ll2 mn2 sp2 T2 S2 C2 F2 LT2 LS2 VE2 BA2 wd2 mo2 lt2 op2 pl2 pt2 ks2 (sc (4 * it + 1)) (sc (4 * it + 2)) (sc (4 * it + 3)) x hok hmk hR) hX (by omega) 0 rfl rfl rfl (Nat.le_of_ble_eq_true rfl) 971 (k + 2) (n + 12) rfl rfl rfl (by omega) (by omega) dL_law_968 ?_
    intro r u2 hw2
    obtain ⟨th1', ll1', mn1', sp1', lt1', op1', pl1', pt1', ks1'⟩ := u2
    try dsimp only at hw2
    refine V_istore (lc1 := [(6, .int r), (5, .int (nI 0)), (4, .int (nI (4 * it))), (0, .ref b), (1, .ref (h 0)), (2, .ref (g 0)), (3, .ref oa)]) cx 973 rfl dL_law_971 (by decide) rfl ?_
    refine V_aload_n cx 974 rfl dL_law_973 5 rfl ?_
    refine KL_79 (As := []) (rest := []) cx (kX5_thrown (xl X) lo G _ g _ _ _ _ _ _ _ _ _ _ _ _ _ _ _ _ _ _ _ _ _ _) hX (by omega) 0 rfl rfl rfl (Nat.le_of_ble_eq_true rfl) 977 (k + 2) (n + 12) rfl rfl rfl (by omega) (by omega) dL_law_974 ?_
    intro rt _ hrt
    try dsimp only at hrt
    subst hrt
    refine V_iload cx 979 rfl dL_law_977 1 rfl ?_
    have hw3 : askK x (sc (4 * it + 1)) (sc (4 * it + 2)) th1' (patP (sc (4 * it + 3)) r) := by
      rcases hw2 with q | q
      · exact absurd q.1 hx.1
      · exact q.2
    obtain ⟨rfl, o1, ⟨ho1, ho8⟩, ho2⟩ := ask_n hok (ask_8 hx.2) hw3
    have hrr : r = v1 := pat_eq ho8 ho1 ho2
    subst hrr
    refine V_icmp_eq cx 982 984 rfl dL_law_979 (by decide) (fun c0 => ?_) (fun c0 => absurd rfl c0)
    refine V_iload cx 986 rfl dL_law_984 1 rfl ?_
    refine V_if_ne cx 989 1001 rfl dL_law_986 (by decide) (fun c0 => absurd rfl c0) (fun c0 => ?_)
    refine V_aload_n cx 990 rfl dL_law_989 6 rfl ?_
    refine V_iconst (v := nI 0) cx 991 rfl dL_law_990 (by decide) ?_
    refine V_laldN cx 0 rfl (by decide) (by decide) 37 rfl 992 rfl dL_law_991 ?_
    refine V_tol z rfl ?_
    refine V_iload cx 994 rfl dL_law_992 0 rfl ?_
    refine V_i2l cx 995 rfl dL_law_994 ?_
    refine V_tol z hz.symm ?_
    refine V_lcmp cx 996 rfl dL_law_995 ?_
    refine V_if_eq cx 999 1001 rfl dL_law_996 (by decide) (fun c0 => ?_) (fun c0 => absurd (lg_cmp_self z) c0)
    refine V_goto cx 1236 dL_law_1001 (by decide) ?_
    refine V.widen (k' := k + 2) (n' := n + 12) (by omega) (by omega) ?_
    refine V.toC ?_
    refine V.locs (lc' := [(4, .int (nI (4 * it))), (0, .ref b), (1, .ref (h 0)), (2, .ref (g 0)), (3, .ref oa)]) [2, 3, 4, 5, 6] rfl ?_
    exact LJ _ _ _ _ _ _ _ _ _ _ _ _ _ _ _ _ _ _ _ _ _ _ _ _ _ _ _ _ _ _ _ _ _ _ _ _ _ _ _ _ _ _ _ _ _ x hI
set_option maxHeartbeats 4000000 in
set_option maxRecDepth 100000 in
theorem lw_case_head {X : vX} {lo : Nat} {G : vG} {Q : State → Prop} {b L : Nat} {sc : Nat → Int32} (LC : LCx X lo G b L sc) (hL : L ≤ 2048) {it : Nat} (hit : 4 * it + 4 ≤ L) {h g : Nat → Nat} {oa : Nat} {np : Nat} {nl : Nat} {len : Nat} {fd : Nat} {lu : Nat} {tu : Nat} {T : Nat → Int32} {C : Nat → Int32} {F : Nat → Int32} {LT : Nat → Int32} {VV : Nat → Int32} {BB : Nat → Int32} {lt : Nat → Int32} {ph : Nat → Int32} {lh : Nat → Int32} {ks : Nat → Int64} {wd : Nat → Int32} {gr : Nat → Int32} {gs : Nat → Int32} {bl : Nat → Int32} {ie : Nat → Int32} {tw : Nat → Int32} {th2 : Nat} {np2 : Nat} {nl2 : Nat} {ld2 : Nat} {ll2 : Nat} {mn2 : Int32} {sp2 : Nat} {T2 : Nat → Int32} {S2 : Nat → Int32} {C2 : Nat → Int32} {F2 : Nat → Int32} {LT2 : Nat → Int32} {LS2 : Nat → Int32} {VE2 : Nat → Int32} {BA2 : Nat → Int32} {wd2 : Nat → Int32} {mo2 : Nat → Int32} {lt2 : Nat → Int32} {op2 : Nat → Int32} {pl2 : Nat → Int32} {pt2 : Nat → Int32} {ks2 : Nat → Int64} {ov : Nat → Int64} {x : LX} (hI : INV x np nl lu tu T C F LT VV BB wd gr gs bl ie np2 nl2 ld2 T2 S2 C2 F2 LT2 LS2 VE2 BA2 wd2 mo2) {k n : Nat} (hk : k + 2 ≤ 601024) (hn : n + 12 ≤ 7293034) (LJ : ∀ (np : Nat) (nl : Nat) (len : Nat) (fd : Nat) (lu : Nat) (tu : Nat) (T : Nat → Int32) (C : Nat → Int32) (F : Nat → Int32) (LT : Nat → Int32) (VV : Nat → Int32) (BB : Nat → Int32) (lt : Nat → Int32) (ph : Nat → Int32) (lh : Nat → Int32) (ks : Nat → Int64) (wd : Nat → Int32) (gr : Nat → Int32) (gs : Nat → Int32) (bl : Nat → Int32) (ie : Nat → Int32) (tw : Nat → Int32) (th2 : Nat) (np2 : Nat) (nl2 : Nat) (ld2 : Nat) (ll2 : Nat) (mn2 : Int32) (sp2 : Nat) (T2 : Nat → Int32) (S2 : Nat → Int32) (C2 : Nat → Int32) (F2 : Nat → Int32) (LT2 : Nat → Int32) (LS2 : Nat → Int32) (VE2 : Nat → Int32) (BA2 : Nat → Int32) (wd2 : Nat → Int32) (mo2 : Nat → Int32) (lt2 : Nat → Int32) (op2 : Nat → Int32) (pl2 : Nat → Int32) (pt2 : Nat → Int32) (ks2 : Nat → Int64) (ov : Nat → Int64) (x : LX), INV x np nl lu tu T C F LT VV BB wd gr gs bl ie np2 nl2 ld2 T2 S2 C2 F2 LT2 LS2 VE2 BA2 wd2 mo2 → V X lo 7 G Q (k + 2) (n + 12) (cW G h np nl len fd lu tu T C F LT VV BB lt ph lh ks wd gr gs bl ie tw ++ ([(oa, .inl (G.2.2.1, 1, .inr (.inl ov)))] ++ mW G g th2 np2 nl2 ld2 ll2 mn2 sp2 T2 S2 C2 F2 LT2 LS2 VE2 BA2 wd2 mo2 lt2 op2 pl2 pt2 ks2)) [(4, .int (nI (4 * it))), (0, .ref b), (1, .ref (h 0)), (2, .ref (g 0)), (3, .ref oa)] [] 1236) : V X lo 7 G Q k n (cW G h np nl len fd lu tu T C F LT VV BB lt ph lh ks wd gr gs bl ie tw ++ ([(oa, .inl (G.2.2.1, 1, .inr (.inl ov)))] ++ mW G g th2 np2 nl2 ld2 ll2 mn2 sp2 T2 S2 C2 F2 LT2 LS2 VE2 BA2 wd2 mo2 lt2 op2 pl2 pt2 ks2)) [(4, .int (nI (4 * it))), (0, .ref b), (1, .ref (h 0)), (2, .ref (g 0)), (3, .ref oa)] [] 1004 := by
  obtain ⟨cx, hX, hst, hsc, hbl, hbA⟩ := id LC
  have hR := rkOK_of hI.1
  have hok := hI.1
  have hck := hI.2.1
  have hmk := hI.2.2.1
  refine V_aload_n cx 1005 rfl dL_law_1004 2 rfl ?_
  refine V_aload_n cx 1006 rfl dL_law_1005 1 rfl ?_
  refine V_iload cx 1008 rfl dL_law_1006 0 rfl ?_
  refine V_iconst (v := nI 1) cx 1009 rfl dL_law_1008 (by decide) ?_
  refine V_iadd cx 1010 rfl dL_law_1009 ?_
  refine V_toi (nI (4 * it + 1)) (nI_add _ _) ?_
  refine V_sld LC (4 * it + 1) rfl (by omega) hL 1011 rfl dL_law_1010 ?_
  refine V_aload_n cx 1012 rfl dL_law_1011 4 rfl ?_
  refine V_calli (V_runSW (As := [.ref (h 0), .int (sc (4 * it + 1)), .ref oa]) (rest := []) (nA := 3) cx (kL_head (xl X) lo G _ h np nl len fd lu tu T C F LT VV BB lt ph lh ks wd gr gs bl ie tw oa ov (sc (4 * it + 1)) x hst hok hck) ⟨ml_L_126, sm_L_head, ii_L, co_L_head⟩ ⟨by decide, by decide, by decide +kernel⟩ (lw_rm hX (by decide) (by decide)) rfl rfl (Nat.le_of_ble_eq_true rfl) ⟨Nat.le_trans (by omega) hX.2.2.1, Nat.le_trans (by omega) hX.2.2.2⟩ dL_law_1012) 1015 (k + 2) (n + 12) rfl rfl rfl (fun v u hw => ?_)
  rcases u with _ | ⟨fd1, lt1, ph1, lh1, ks1, v1, z⟩
  · skip
    dsimp only at hw
    obtain ⟨E, hx, hcode⟩ := hw
    refine V_istore (lc1 := [(5, .int v), (4, .int (nI (4 * it))), (0, .ref b), (1, .ref (h 0)), (2, .ref (g 0)), (3, .ref oa)]) cx 1017 rfl dL_law_1015 (by decide) rfl ?_
    refine V.toM ?_
    refine V_aload_n cx 1018 rfl dL_law_1017 4 rfl ?_
    refine V_aload_n cx 1019 rfl dL_law_1018 2 rfl ?_
    refine V_iload cx 1021 rfl dL_law_1019 1 rfl ?_
    refine V_iconst (v := nI 1) cx 1022 rfl dL_law_1021 (by decide) ?_
    refine V_iadd cx 1023 rfl dL_law_1022 ?_
    refine V_toi (nI (4 * it + 1)) (nI_add _ _) ?_
    refine V_sld LC (4 * it + 1) rfl (by omega) hL 1024 rfl dL_law_1023 ?_
    refine KL_128 (As := [.int (sc (4 * it + 1))]) (rest := []) cx (kX5_head (xl X) lo G _ g th2 np2 nl2 ld2 ll2 mn2 sp2 T2 S2 C2 F2 LT2 LS2 VE2 BA2 wd2 mo2 lt2 op2 pl2 pt2 ks2 (sc (4 * it + 1)) x hok hmk hR) hX (by omega) 0 rfl rfl rfl (Nat.le_of_ble_eq_true rfl) 1027 (k + 2) (n + 12) rfl rfl rfl (by omega) (by omega) dL_law_1024 ?_
    intro r u2 hw2
    obtain ⟨th1', ll1', mn1', sp1', lt1', op1', pl1', pt1', ks1'⟩ := u2
    try dsimp only at hw2
    refine V_istore (lc1 := [(6, .int r), (5, .int v), (4, .int (nI (4 * it))), (0, .ref b), (1, .ref (h 0)), (2, .ref (g 0)), (3, .ref oa)]) cx 1029 rfl dL_law_1027 (by decide) rfl ?_
    refine V_aload_n cx 1030 rfl dL_law_1029 5 rfl ?_
    refine KL_79 (As := []) (rest := []) cx (kX5_thrown (xl X) lo G _ g _ _ _ _ _ _ _ _ _ _ _ _ _ _ _ _ _ _ _ _ _ _) hX (by omega) 0 rfl rfl rfl (Nat.le_of_ble_eq_true rfl) 1033 (k + 2) (n + 12) rfl rfl rfl (by omega) (by omega) dL_law_1030 ?_
    intro rt _ hrt
    try dsimp only at hrt
    subst hrt
    refine V_iload cx 1035 rfl dL_law_1033 1 rfl ?_
    have hth := ask_x (Or.inl hx.2) hw2
    obtain ⟨rfl, hne⟩ := exc1 hcode hth
    refine V_icmp_eq cx 1038 1040 rfl dL_law_1035 (by decide) (fun c0 => ?_) (fun c0 => absurd rfl c0)
    refine V_iload cx 1042 rfl dL_law_1040 1 rfl ?_
    refine V_if_ne cx 1045 1057 rfl dL_law_1042 (by decide) (fun c0 => ?_) (fun c0 => absurd c0 hne)
    refine V_goto cx 1236 dL_law_1057 (by decide) ?_
    refine V.widen (k' := k + 2) (n' := n + 12) (by omega) (by omega) ?_
    refine V.toC ?_
    refine V.locs (lc' := [(4, .int (nI (4 * it))), (0, .ref b), (1, .ref (h 0)), (2, .ref (g 0)), (3, .ref oa)]) [2, 3, 4, 5, 6] rfl ?_
    exact LJ _ _ _ _ _ _ _ _ _ _ _ _ _ _ _ _ _ _ _ _ _ _ _ _ _ _ _ _ _ _ _ _ _ _ _ _ _ _ _ _ _ _ _ _ _ x hI
  · skip
    dsimp only at hw
    obtain ⟨hx, hv, hz⟩ := hw
    subst hv
    refine V_istore (lc1 := [(5, .int (nI 0)), (4, .int (nI (4 * it))), (0, .ref b), (1, .ref (h 0)), (2, .ref (g 0)), (3, .ref oa)]) cx 1017 rfl dL_law_1015 (by decide) rfl ?_
    refine V.toM ?_
    refine V_aload_n cx 1018 rfl dL_law_1017 4 rfl ?_
    refine V_aload_n cx 1019 rfl dL_law_1018 2 rfl ?_
    refine V_iload cx 1021 rfl dL_law_1019 1 rfl ?_
    refine V_iconst (v := nI 1) cx 1022 rfl dL_law_1021 (by decide) ?_
    refine V_iadd cx 1023 rfl dL_law_1022 ?_
    refine V_toi (nI (4 * it + 1)) (nI_add _ _) ?_
    refine V_sld LC (4 * it + 1) rfl (by omega) hL 1024 rfl dL_law_1023 ?_
    refine KL_128 (As := [.int (sc (4 * it + 1))]) (rest := []) cx (kX5_head (xl X) lo G _ g th2 np2 nl2 ld2 ll2 mn2 sp2 T2 S2 C2 F2 LT2 LS2 VE2 BA2 wd2 mo2 lt2 op2 pl2 pt2 ks2 (sc (4 * it + 1)) x hok hmk hR) hX (by omega) 0 rfl rfl rfl (Nat.le_of_ble_eq_true rfl) 1027 (k + 2) (n + 12) rfl rfl rfl (by omega) (by omega) dL_law_1024 ?_
    intro r u2 hw2
    obtain ⟨th1', ll1', mn1', sp1', lt1', op1', pl1', pt1', ks1'⟩ := u2
    try dsimp only at hw2
    refine V_istore (lc1 := [(6, .int r), (5, .int (nI 0)), (4, .int (nI (4 * it))), (0, .ref b), (1, .ref (h 0)), (2, .ref (g 0)), (3, .ref oa)]) cx 1029 rfl dL_law_1027 (by decide) rfl ?_
    refine V_aload_n cx 1030 rfl dL_law_1029 5 rfl ?_
    refine KL_79 (As := []) (rest := []) cx (kX5_thrown (xl X) lo G _ g _ _ _ _ _ _ _ _ _ _ _ _ _ _ _ _ _ _ _ _ _ _) hX (by omega) 0 rfl rfl rfl (Nat.le_of_ble_eq_true rfl) 1033 (k + 2) (n + 12) rfl rfl rfl (by omega) (by omega) dL_law_1030 ?_
    intro rt _ hrt
    try dsimp only at hrt
    subst hrt
    refine V_iload cx 1035 rfl dL_law_1033 1 rfl ?_
    obtain ⟨rfl, o1, ho1, ho2⟩ := ask_n hok hx hw2
    try dsimp only at ho1 ho2
    have hrr : r = v1 := ho2.trans ho1.symm
    subst hrr
    refine V_icmp_eq cx 1038 1040 rfl dL_law_1035 (by decide) (fun c0 => ?_) (fun c0 => absurd rfl c0)
    refine V_iload cx 1042 rfl dL_law_1040 1 rfl ?_
    refine V_if_ne cx 1045 1057 rfl dL_law_1042 (by decide) (fun c0 => absurd rfl c0) (fun c0 => ?_)
    refine V_aload_n cx 1046 rfl dL_law_1045 6 rfl ?_
    refine V_iconst (v := nI 0) cx 1047 rfl dL_law_1046 (by decide) ?_
    refine V_laldN cx 0 rfl (by decide) (by decide) 37 rfl 1048 rfl dL_law_1047 ?_
    refine V_tol z rfl ?_
    refine V_iload cx 1050 rfl dL_law_1048 0 rfl ?_
    refine V_i2l cx 1051 rfl dL_law_1050 ?_
    refine V_tol z hz.symm ?_
    refine V_lcmp cx 1052 rfl dL_law_1051 ?_
    refine V_if_eq cx 1055 1057 rfl dL_law_1052 (by decide) (fun c0 => ?_) (fun c0 => absurd (lg_cmp_self z) c0)
    refine V_goto cx 1236 dL_law_1057 (by decide) ?_
    refine V.widen (k' := k + 2) (n' := n + 12) (by omega) (by omega) ?_
    refine V.toC ?_
    refine V.locs (lc' := [(4, .int (nI (4 * it))), (0, .ref b), (1, .ref (h 0)), (2, .ref (g 0)), (3, .ref oa)]) [2, 3, 4, 5, 6] rfl ?_
    exact LJ _ _ _ _ _ _ _ _ _ _ _ _ _ _ _ _ _ _ _ _ _ _ _ _ _ _ _ _ _ _ _ _ _ _ _ _ _ _ _ _ _ _ _ _ _ x hI
set_option maxHeartbeats 4000000 in
set_option maxRecDepth 100000 in
theorem lw_case_readings {X : vX} {lo : Nat} {G : vG} {Q : State → Prop} {b L : Nat} {sc : Nat → Int32} (LC : LCx X lo G b L sc) (hL : L ≤ 2048) {it : Nat} (hit : 4 * it + 4 ≤ L) {h g : Nat → Nat} {oa : Nat} {np : Nat} {nl : Nat} {len : Nat} {fd : Nat} {lu : Nat} {tu : Nat} {T : Nat → Int32} {C : Nat → Int32} {F : Nat → Int32} {LT : Nat → Int32} {VV : Nat → Int32} {BB : Nat → Int32} {lt : Nat → Int32} {ph : Nat → Int32} {lh : Nat → Int32} {ks : Nat → Int64} {wd : Nat → Int32} {gr : Nat → Int32} {gs : Nat → Int32} {bl : Nat → Int32} {ie : Nat → Int32} {tw : Nat → Int32} {th2 : Nat} {np2 : Nat} {nl2 : Nat} {ld2 : Nat} {ll2 : Nat} {mn2 : Int32} {sp2 : Nat} {T2 : Nat → Int32} {S2 : Nat → Int32} {C2 : Nat → Int32} {F2 : Nat → Int32} {LT2 : Nat → Int32} {LS2 : Nat → Int32} {VE2 : Nat → Int32} {BA2 : Nat → Int32} {wd2 : Nat → Int32} {mo2 : Nat → Int32} {lt2 : Nat → Int32} {op2 : Nat → Int32} {pl2 : Nat → Int32} {pt2 : Nat → Int32} {ks2 : Nat → Int64} {ov : Nat → Int64} {x : LX} (hI : INV x np nl lu tu T C F LT VV BB wd gr gs bl ie np2 nl2 ld2 T2 S2 C2 F2 LT2 LS2 VE2 BA2 wd2 mo2) {k n : Nat} (hk : k + 2 ≤ 601024) (hn : n + 12 ≤ 7293034) (LJ : ∀ (np : Nat) (nl : Nat) (len : Nat) (fd : Nat) (lu : Nat) (tu : Nat) (T : Nat → Int32) (C : Nat → Int32) (F : Nat → Int32) (LT : Nat → Int32) (VV : Nat → Int32) (BB : Nat → Int32) (lt : Nat → Int32) (ph : Nat → Int32) (lh : Nat → Int32) (ks : Nat → Int64) (wd : Nat → Int32) (gr : Nat → Int32) (gs : Nat → Int32) (bl : Nat → Int32) (ie : Nat → Int32) (tw : Nat → Int32) (th2 : Nat) (np2 : Nat) (nl2 : Nat) (ld2 : Nat) (ll2 : Nat) (mn2 : Int32) (sp2 : Nat) (T2 : Nat → Int32) (S2 : Nat → Int32) (C2 : Nat → Int32) (F2 : Nat → Int32) (LT2 : Nat → Int32) (LS2 : Nat → Int32) (VE2 : Nat → Int32) (BA2 : Nat → Int32) (wd2 : Nat → Int32) (mo2 : Nat → Int32) (lt2 : Nat → Int32) (op2 : Nat → Int32) (pl2 : Nat → Int32) (pt2 : Nat → Int32) (ks2 : Nat → Int64) (ov : Nat → Int64) (x : LX), INV x np nl lu tu T C F LT VV BB wd gr gs bl ie np2 nl2 ld2 T2 S2 C2 F2 LT2 LS2 VE2 BA2 wd2 mo2 → V X lo 7 G Q (k + 2) (n + 12) (cW G h np nl len fd lu tu T C F LT VV BB lt ph lh ks wd gr gs bl ie tw ++ ([(oa, .inl (G.2.2.1, 1, .inr (.inl ov)))] ++ mW G g th2 np2 nl2 ld2 ll2 mn2 sp2 T2 S2 C2 F2 LT2 LS2 VE2 BA2 wd2 mo2 lt2 op2 pl2 pt2 ks2)) [(4, .int (nI (4 * it))), (0, .ref b), (1, .ref (h 0)), (2, .ref (g 0)), (3, .ref oa)] [] 1236) : V X lo 7 G Q k n (cW G h np nl len fd lu tu T C F LT VV BB lt ph lh ks wd gr gs bl ie tw ++ ([(oa, .inl (G.2.2.1, 1, .inr (.inl ov)))] ++ mW G g th2 np2 nl2 ld2 ll2 mn2 sp2 T2 S2 C2 F2 LT2 LS2 VE2 BA2 wd2 mo2 lt2 op2 pl2 pt2 ks2)) [(4, .int (nI (4 * it))), (0, .ref b), (1, .ref (h 0)), (2, .ref (g 0)), (3, .ref oa)] [] 1060 := by
  obtain ⟨cx, hX, hst, hsc, hbl, hbA⟩ := id LC
  have hR := rkOK_of hI.1
  have hok := hI.1
  have hck := hI.2.1
  have hmk := hI.2.2.1
  refine V_aload_n cx 1061 rfl dL_law_1060 2 rfl ?_
  refine V_aload_n cx 1062 rfl dL_law_1061 1 rfl ?_
  refine V_iload cx 1064 rfl dL_law_1062 0 rfl ?_
  refine V_iconst (v := nI 1) cx 1065 rfl dL_law_1064 (by decide) ?_
  refine V_iadd cx 1066 rfl dL_law_1065 ?_
  refine V_toi (nI (4 * it + 1)) (nI_add _ _) ?_
  refine V_sld LC (4 * it + 1) rfl (by omega) hL 1067 rfl dL_law_1066 ?_
  refine V_aload_n cx 1068 rfl dL_law_1067 4 rfl ?_
  refine V_calli (V_runSW (As := [.ref (h 0), .int (sc (4 * it + 1)), .ref oa]) (rest := []) (nA := 3) cx (kL_readings (xl X) lo G _ h np nl len fd lu tu T C F LT VV BB lt ph lh ks wd gr gs bl ie tw oa ov (sc (4 * it + 1)) x hst hok hck) ⟨ml_L_129, sm_L_readings, ii_L, co_L_readings⟩ ⟨by decide, by decide, by decide +kernel⟩ (lw_rm hX (by decide) (by decide)) rfl rfl (Nat.le_of_ble_eq_true rfl) ⟨Nat.le_trans (by omega) hX.2.2.1, Nat.le_trans (by omega) hX.2.2.2⟩ dL_law_1068) 1071 (k + 1) (n + 6) rfl rfl rfl (fun v u hw => ?_)
  rcases u with _ | ⟨fd1, lt1, ph1, lh1, ks1, v1, z⟩
  · skip
    dsimp only at hw
    obtain ⟨E, hx, hcode⟩ := hw
    refine V_istore (lc1 := [(5, .int v), (4, .int (nI (4 * it))), (0, .ref b), (1, .ref (h 0)), (2, .ref (g 0)), (3, .ref oa)]) cx 1073 rfl dL_law_1071 (by decide) rfl ?_
    refine V.toM ?_
    refine V_aload_n cx 1074 rfl dL_law_1073 4 rfl ?_
    refine V_aload_n cx 1075 rfl dL_law_1074 2 rfl ?_
    refine V_iload cx 1077 rfl dL_law_1075 1 rfl ?_
    refine V_iconst (v := nI 1) cx 1078 rfl dL_law_1077 (by decide) ?_
    refine V_iadd cx 1079 rfl dL_law_1078 ?_
    refine V_toi (nI (4 * it + 1)) (nI_add _ _) ?_
    refine V_sld LC (4 * it + 1) rfl (by omega) hL 1080 rfl dL_law_1079 ?_
    refine KL_131 (As := [.int (sc (4 * it + 1))]) (rest := []) cx (kX5_readings (xl X) lo G _ g th2 np2 nl2 ld2 ll2 mn2 sp2 T2 S2 C2 F2 LT2 LS2 VE2 BA2 wd2 mo2 lt2 op2 pl2 pt2 ks2 (sc (4 * it + 1)) x hok hmk hR) hX (by omega) 0 rfl rfl rfl (Nat.le_of_ble_eq_true rfl) 1083 (k + 1) (n + 6) rfl rfl rfl (by omega) (by omega) dL_law_1080 ?_
    intro r u2 hw2
    obtain ⟨th1', ll1', mn1', sp1', lt1', op1', pl1', pt1', ks1'⟩ := u2
    try dsimp only at hw2
    refine V_istore (lc1 := [(6, .int r), (5, .int v), (4, .int (nI (4 * it))), (0, .ref b), (1, .ref (h 0)), (2, .ref (g 0)), (3, .ref oa)]) cx 1085 rfl dL_law_1083 (by decide) rfl ?_
    refine V_aload_n cx 1086 rfl dL_law_1085 5 rfl ?_
    refine KL_79 (As := []) (rest := []) cx (kX5_thrown (xl X) lo G _ g _ _ _ _ _ _ _ _ _ _ _ _ _ _ _ _ _ _ _ _ _ _) hX (by omega) 0 rfl rfl rfl (Nat.le_of_ble_eq_true rfl) 1089 (k + 1) (n + 6) rfl rfl rfl (by omega) (by omega) dL_law_1086 ?_
    intro rt _ hrt
    try dsimp only at hrt
    subst hrt
    refine V_iload cx 1091 rfl dL_law_1089 1 rfl ?_
    have hth := st_word_x hx.2 hw2
    obtain ⟨rfl, hne⟩ := exc1 hcode hth
    refine V_icmp_eq cx 1094 1096 rfl dL_law_1091 (by decide) (fun c0 => ?_) (fun c0 => absurd rfl c0)
    refine V_iload cx 1098 rfl dL_law_1096 1 rfl ?_
    refine V_if_ne cx 1101 1113 rfl dL_law_1098 (by decide) (fun c0 => ?_) (fun c0 => absurd c0 hne)
    refine V_goto cx 1236 dL_law_1113 (by decide) ?_
    refine V.widen (k' := k + 2) (n' := n + 12) (by omega) (by omega) ?_
    refine V.toC ?_
    refine V.locs (lc' := [(4, .int (nI (4 * it))), (0, .ref b), (1, .ref (h 0)), (2, .ref (g 0)), (3, .ref oa)]) [2, 3, 4, 5, 6] rfl ?_
    exact LJ _ _ _ _ _ _ _ _ _ _ _ _ _ _ _ _ _ _ _ _ _ _ _ _ _ _ _ _ _ _ _ _ _ _ _ _ _ _ _ _ _ _ _ _ _ x hI
  · skip
    dsimp only at hw
    obtain ⟨hx, hv, hz⟩ := hw
    subst hv
    refine V_istore (lc1 := [(5, .int (nI 0)), (4, .int (nI (4 * it))), (0, .ref b), (1, .ref (h 0)), (2, .ref (g 0)), (3, .ref oa)]) cx 1073 rfl dL_law_1071 (by decide) rfl ?_
    refine V.toM ?_
    refine V_aload_n cx 1074 rfl dL_law_1073 4 rfl ?_
    refine V_aload_n cx 1075 rfl dL_law_1074 2 rfl ?_
    refine V_iload cx 1077 rfl dL_law_1075 1 rfl ?_
    refine V_iconst (v := nI 1) cx 1078 rfl dL_law_1077 (by decide) ?_
    refine V_iadd cx 1079 rfl dL_law_1078 ?_
    refine V_toi (nI (4 * it + 1)) (nI_add _ _) ?_
    refine V_sld LC (4 * it + 1) rfl (by omega) hL 1080 rfl dL_law_1079 ?_
    refine KL_131 (As := [.int (sc (4 * it + 1))]) (rest := []) cx (kX5_readings (xl X) lo G _ g th2 np2 nl2 ld2 ll2 mn2 sp2 T2 S2 C2 F2 LT2 LS2 VE2 BA2 wd2 mo2 lt2 op2 pl2 pt2 ks2 (sc (4 * it + 1)) x hok hmk hR) hX (by omega) 0 rfl rfl rfl (Nat.le_of_ble_eq_true rfl) 1083 (k + 1) (n + 6) rfl rfl rfl (by omega) (by omega) dL_law_1080 ?_
    intro r u2 hw2
    obtain ⟨th1', ll1', mn1', sp1', lt1', op1', pl1', pt1', ks1'⟩ := u2
    try dsimp only at hw2
    refine V_istore (lc1 := [(6, .int r), (5, .int (nI 0)), (4, .int (nI (4 * it))), (0, .ref b), (1, .ref (h 0)), (2, .ref (g 0)), (3, .ref oa)]) cx 1085 rfl dL_law_1083 (by decide) rfl ?_
    refine V_aload_n cx 1086 rfl dL_law_1085 5 rfl ?_
    refine KL_79 (As := []) (rest := []) cx (kX5_thrown (xl X) lo G _ g _ _ _ _ _ _ _ _ _ _ _ _ _ _ _ _ _ _ _ _ _ _) hX (by omega) 0 rfl rfl rfl (Nat.le_of_ble_eq_true rfl) 1089 (k + 1) (n + 6) rfl rfl rfl (by omega) (by omega) dL_law_1086 ?_
    intro rt _ hrt
    try dsimp only at hrt
    subst hrt
    refine V_iload cx 1091 rfl dL_law_1089 1 rfl ?_
    obtain ⟨rfl, rfl⟩ := st_word_n hx hw2
    refine V_icmp_eq cx 1094 1096 rfl dL_law_1091 (by decide) (fun c0 => ?_) (fun c0 => absurd rfl c0)
    refine V_iload cx 1098 rfl dL_law_1096 1 rfl ?_
    refine V_if_ne cx 1101 1113 rfl dL_law_1098 (by decide) (fun c0 => absurd rfl c0) (fun c0 => ?_)
    refine V_aload_n cx 1102 rfl dL_law_1101 6 rfl ?_
    refine V_iconst (v := nI 0) cx 1103 rfl dL_law_1102 (by decide) ?_
    refine V_laldN cx 0 rfl (by decide) (by decide) 37 rfl 1104 rfl dL_law_1103 ?_
    refine V_tol z rfl ?_
    refine V_iload cx 1106 rfl dL_law_1104 0 rfl ?_
    refine V_i2l cx 1107 rfl dL_law_1106 ?_
    refine V_tol z hz.symm ?_
    refine V_lcmp cx 1108 rfl dL_law_1107 ?_
    refine V_if_eq cx 1111 1113 rfl dL_law_1108 (by decide) (fun c0 => ?_) (fun c0 => absurd (lg_cmp_self z) c0)
    refine V_goto cx 1236 dL_law_1113 (by decide) ?_
    refine V.widen (k' := k + 2) (n' := n + 12) (by omega) (by omega) ?_
    refine V.toC ?_
    refine V.locs (lc' := [(4, .int (nI (4 * it))), (0, .ref b), (1, .ref (h 0)), (2, .ref (g 0)), (3, .ref oa)]) [2, 3, 4, 5, 6] rfl ?_
    exact LJ _ _ _ _ _ _ _ _ _ _ _ _ _ _ _ _ _ _ _ _ _ _ _ _ _ _ _ _ _ _ _ _ _ _ _ _ _ _ _ _ _ _ _ _ _ x hI
set_option maxHeartbeats 4000000 in
set_option maxRecDepth 100000 in
theorem lw_case_learn {X : vX} {lo : Nat} {G : vG} {Q : State → Prop} {b L : Nat} {sc : Nat → Int32} (LC : LCx X lo G b L sc) (hL : L ≤ 2048) {it : Nat} (hit : 4 * it + 4 ≤ L) {h g : Nat → Nat} {oa : Nat} {np : Nat} {nl : Nat} {len : Nat} {fd : Nat} {lu : Nat} {tu : Nat} {T : Nat → Int32} {C : Nat → Int32} {F : Nat → Int32} {LT : Nat → Int32} {VV : Nat → Int32} {BB : Nat → Int32} {lt : Nat → Int32} {ph : Nat → Int32} {lh : Nat → Int32} {ks : Nat → Int64} {wd : Nat → Int32} {gr : Nat → Int32} {gs : Nat → Int32} {bl : Nat → Int32} {ie : Nat → Int32} {tw : Nat → Int32} {th2 : Nat} {np2 : Nat} {nl2 : Nat} {ld2 : Nat} {ll2 : Nat} {mn2 : Int32} {sp2 : Nat} {T2 : Nat → Int32} {S2 : Nat → Int32} {C2 : Nat → Int32} {F2 : Nat → Int32} {LT2 : Nat → Int32} {LS2 : Nat → Int32} {VE2 : Nat → Int32} {BA2 : Nat → Int32} {wd2 : Nat → Int32} {mo2 : Nat → Int32} {lt2 : Nat → Int32} {op2 : Nat → Int32} {pl2 : Nat → Int32} {pt2 : Nat → Int32} {ks2 : Nat → Int64} {ov : Nat → Int64} {x : LX} (hI : INV x np nl lu tu T C F LT VV BB wd gr gs bl ie np2 nl2 ld2 T2 S2 C2 F2 LT2 LS2 VE2 BA2 wd2 mo2) {k n : Nat} (hk : k + 2 ≤ 601024) (hn : n + 12 ≤ 7293034) (LJ : ∀ (np : Nat) (nl : Nat) (len : Nat) (fd : Nat) (lu : Nat) (tu : Nat) (T : Nat → Int32) (C : Nat → Int32) (F : Nat → Int32) (LT : Nat → Int32) (VV : Nat → Int32) (BB : Nat → Int32) (lt : Nat → Int32) (ph : Nat → Int32) (lh : Nat → Int32) (ks : Nat → Int64) (wd : Nat → Int32) (gr : Nat → Int32) (gs : Nat → Int32) (bl : Nat → Int32) (ie : Nat → Int32) (tw : Nat → Int32) (th2 : Nat) (np2 : Nat) (nl2 : Nat) (ld2 : Nat) (ll2 : Nat) (mn2 : Int32) (sp2 : Nat) (T2 : Nat → Int32) (S2 : Nat → Int32) (C2 : Nat → Int32) (F2 : Nat → Int32) (LT2 : Nat → Int32) (LS2 : Nat → Int32) (VE2 : Nat → Int32) (BA2 : Nat → Int32) (wd2 : Nat → Int32) (mo2 : Nat → Int32) (lt2 : Nat → Int32) (op2 : Nat → Int32) (pl2 : Nat → Int32) (pt2 : Nat → Int32) (ks2 : Nat → Int64) (ov : Nat → Int64) (x : LX), INV x np nl lu tu T C F LT VV BB wd gr gs bl ie np2 nl2 ld2 T2 S2 C2 F2 LT2 LS2 VE2 BA2 wd2 mo2 → V X lo 7 G Q (k + 2) (n + 12) (cW G h np nl len fd lu tu T C F LT VV BB lt ph lh ks wd gr gs bl ie tw ++ ([(oa, .inl (G.2.2.1, 1, .inr (.inl ov)))] ++ mW G g th2 np2 nl2 ld2 ll2 mn2 sp2 T2 S2 C2 F2 LT2 LS2 VE2 BA2 wd2 mo2 lt2 op2 pl2 pt2 ks2)) [(4, .int (nI (4 * it))), (0, .ref b), (1, .ref (h 0)), (2, .ref (g 0)), (3, .ref oa)] [] 1236) : V X lo 7 G Q k n (cW G h np nl len fd lu tu T C F LT VV BB lt ph lh ks wd gr gs bl ie tw ++ ([(oa, .inl (G.2.2.1, 1, .inr (.inl ov)))] ++ mW G g th2 np2 nl2 ld2 ll2 mn2 sp2 T2 S2 C2 F2 LT2 LS2 VE2 BA2 wd2 mo2 lt2 op2 pl2 pt2 ks2)) [(4, .int (nI (4 * it))), (0, .ref b), (1, .ref (h 0)), (2, .ref (g 0)), (3, .ref oa)] [] 1116 := by
  obtain ⟨cx, hX, hst, hsc, hbl, hbA⟩ := id LC
  obtain ⟨hnp1, hnp2, hnp, hnl1, hnl2, hnl, hld, hlu⟩ := inv_np hI
  have hnp22 : np2 ≤ 16 := by omega
  have hnl22 : nl2 ≤ 6 := by omega
  have hld50 : ld2 ≤ 50 := by omega
  have hR := rkOK_of hI.1
  have hok := hI.1
  have hck := hI.2.1
  have hmk := hI.2.2.1
  refine V_aload_n cx 1117 rfl dL_law_1116 2 rfl ?_
  refine V_aload_n cx 1118 rfl dL_law_1117 1 rfl ?_
  refine V_iload cx 1120 rfl dL_law_1118 0 rfl ?_
  refine V_iconst (v := nI 1) cx 1121 rfl dL_law_1120 (by decide) ?_
  refine V_iadd cx 1122 rfl dL_law_1121 ?_
  refine V_toi (nI (4 * it + 1)) (nI_add _ _) ?_
  refine V_sld LC (4 * it + 1) rfl (by omega) hL 1123 rfl dL_law_1122 ?_
  refine V_aload_n cx 1124 rfl dL_law_1123 4 rfl ?_
  refine V_calli (V_runSW (As := [.ref (h 0), .int (sc (4 * it + 1)), .ref oa]) (rest := []) (nA := 3) cx (kL_learn (xl X) lo G _ h np nl len fd lu tu T C F LT VV BB lt ph lh ks wd gr gs bl ie tw oa ov (sc (4 * it + 1)) x hst hok hck hlu) ⟨ml_L_132, sm_L_learn, ii_L, co_L_learn⟩ ⟨by decide, by decide, by decide +kernel⟩ (lw_rm hX (by decide) (by decide)) rfl rfl (Nat.le_of_ble_eq_true rfl) ⟨Nat.le_trans (by omega) hX.2.2.1, Nat.le_trans (by omega) hX.2.2.2⟩ dL_law_1124) 1127 (k + 2) (n + 12) rfl rfl rfl (fun v u hw => ?_)
  rcases u with _ | ⟨lu1, C1, gr1, gs1, wd1, fd1, lt1, ph1, lh1, ks1, v1, z⟩
  · skip
    dsimp only at hw
    obtain ⟨E, hx, hcode⟩ := hw
    refine V_istore (lc1 := [(5, .int v), (4, .int (nI (4 * it))), (0, .ref b), (1, .ref (h 0)), (2, .ref (g 0)), (3, .ref oa)]) cx 1129 rfl dL_law_1127 (by decide) rfl ?_
    refine V.toM ?_
    refine V_aload_n cx 1130 rfl dL_law_1129 4 rfl ?_
    refine V_aload_n cx 1131 rfl dL_law_1130 2 rfl ?_
    refine V_iload cx 1133 rfl dL_law_1131 1 rfl ?_
    refine V_iconst (v := nI 1) cx 1134 rfl dL_law_1133 (by decide) ?_
    refine V_iadd cx 1135 rfl dL_law_1134 ?_
    refine V_toi (nI (4 * it + 1)) (nI_add _ _) ?_
    refine V_sld LC (4 * it + 1) rfl (by omega) hL 1136 rfl dL_law_1135 ?_
    refine KL_134 (As := [.int (sc (4 * it + 1))]) (rest := []) cx (kX5_learn (xl X) lo G _ g th2 np2 nl2 ld2 ll2 mn2 sp2 T2 S2 C2 F2 LT2 LS2 VE2 BA2 wd2 mo2 lt2 op2 pl2 pt2 ks2 (sc (4 * it + 1)) x hok hmk hR hld50) hX (by omega) 0 rfl rfl rfl (Nat.le_of_ble_eq_true rfl) 1139 (k + 2) (n + 12) rfl rfl rfl (by omega) (by omega) dL_law_1136 ?_
    intro r u2 hw2
    obtain ⟨th1', ld1', C1', mo1', wd1', ll1', mn1', sp1', lt1', op1', pl1', pt1', ks1'⟩ := u2
    try dsimp only at hw2
    refine V_istore (lc1 := [(6, .int r), (5, .int v), (4, .int (nI (4 * it))), (0, .ref b), (1, .ref (h 0)), (2, .ref (g 0)), (3, .ref oa)]) cx 1141 rfl dL_law_1139 (by decide) rfl ?_
    refine V_aload_n cx 1142 rfl dL_law_1141 5 rfl ?_
    refine KL_79 (As := []) (rest := []) cx (kX5_thrown (xl X) lo G _ g _ _ _ _ _ _ _ _ _ _ _ _ _ _ _ _ _ _ _ _ _ _) hX (by omega) 0 rfl rfl rfl (Nat.le_of_ble_eq_true rfl) 1145 (k + 2) (n + 12) rfl rfl rfl (by omega) (by omega) dL_law_1142 ?_
    intro rt _ hrt
    try dsimp only at hrt
    subst hrt
    refine V_iload cx 1147 rfl dL_law_1145 1 rfl ?_
    obtain ⟨hth, rfl, rfl, rfl, rfl⟩ := st_learn_x hI hx hw2
    obtain ⟨rfl, hne⟩ := exc2 (by decide) hcode hth
    refine V_icmp_eq cx 1150 1152 rfl dL_law_1147 (by decide) (fun c0 => ?_) (fun c0 => absurd rfl c0)
    refine V_iload cx 1154 rfl dL_law_1152 1 rfl ?_
    refine V_if_ne cx 1157 1176 rfl dL_law_1154 (by decide) (fun c0 => ?_) (fun c0 => absurd c0 hne)
    refine V_goto cx 1236 dL_law_1176 (by decide) ?_
    refine V.widen (k' := k + 2) (n' := n + 12) (by omega) (by omega) ?_
    refine V.toC ?_
    refine V.locs (lc' := [(4, .int (nI (4 * it))), (0, .ref b), (1, .ref (h 0)), (2, .ref (g 0)), (3, .ref oa)]) [2, 3, 4, 5, 6] rfl ?_
    exact LJ _ _ _ _ _ _ _ _ _ _ _ _ _ _ _ _ _ _ _ _ _ _ _ _ _ _ _ _ _ _ _ _ _ _ _ _ _ _ _ _ _ _ _ _ _ x hI
  · skip
    dsimp only at hw
    obtain ⟨hx, hv, hz⟩ := hw
    subst hv
    refine V_istore (lc1 := [(5, .int (nI 0)), (4, .int (nI (4 * it))), (0, .ref b), (1, .ref (h 0)), (2, .ref (g 0)), (3, .ref oa)]) cx 1129 rfl dL_law_1127 (by decide) rfl ?_
    refine V.toM ?_
    refine V_aload_n cx 1130 rfl dL_law_1129 4 rfl ?_
    refine V_aload_n cx 1131 rfl dL_law_1130 2 rfl ?_
    refine V_iload cx 1133 rfl dL_law_1131 1 rfl ?_
    refine V_iconst (v := nI 1) cx 1134 rfl dL_law_1133 (by decide) ?_
    refine V_iadd cx 1135 rfl dL_law_1134 ?_
    refine V_toi (nI (4 * it + 1)) (nI_add _ _) ?_
    refine V_sld LC (4 * it + 1) rfl (by omega) hL 1136 rfl dL_law_1135 ?_
    refine KL_134 (As := [.int (sc (4 * it + 1))]) (rest := []) cx (kX5_learn (xl X) lo G _ g th2 np2 nl2 ld2 ll2 mn2 sp2 T2 S2 C2 F2 LT2 LS2 VE2 BA2 wd2 mo2 lt2 op2 pl2 pt2 ks2 (sc (4 * it + 1)) x hok hmk hR hld50) hX (by omega) 0 rfl rfl rfl (Nat.le_of_ble_eq_true rfl) 1139 (k + 2) (n + 12) rfl rfl rfl (by omega) (by omega) dL_law_1136 ?_
    intro r u2 hw2
    obtain ⟨th1', ld1', C1', mo1', wd1', ll1', mn1', sp1', lt1', op1', pl1', pt1', ks1'⟩ := u2
    try dsimp only at hw2
    refine V_istore (lc1 := [(6, .int r), (5, .int (nI 0)), (4, .int (nI (4 * it))), (0, .ref b), (1, .ref (h 0)), (2, .ref (g 0)), (3, .ref oa)]) cx 1141 rfl dL_law_1139 (by decide) rfl ?_
    refine V_aload_n cx 1142 rfl dL_law_1141 5 rfl ?_
    refine KL_79 (As := []) (rest := []) cx (kX5_thrown (xl X) lo G _ g _ _ _ _ _ _ _ _ _ _ _ _ _ _ _ _ _ _ _ _ _ _) hX (by omega) 0 rfl rfl rfl (Nat.le_of_ble_eq_true rfl) 1145 (k + 2) (n + 12) rfl rfl rfl (by omega) (by omega) dL_law_1142 ?_
    intro rt _ hrt
    try dsimp only at hrt
    subst hrt
    refine V_iload cx 1147 rfl dL_law_1145 1 rfl ?_
    obtain ⟨rfl, rfl, hbo, x', hI'⟩ := st_learn_n hI hx hw2
    refine V_icmp_eq cx 1150 1152 rfl dL_law_1147 (by decide) (fun c0 => ?_) (fun c0 => absurd rfl c0)
    refine V_iload cx 1154 rfl dL_law_1152 1 rfl ?_
    refine V_if_ne cx 1157 1176 rfl dL_law_1154 (by decide) (fun c0 => absurd rfl c0) (fun c0 => ?_)
    refine V_aload_n cx 1158 rfl dL_law_1157 6 rfl ?_
    refine V_iconst (v := nI 0) cx 1159 rfl dL_law_1158 (by decide) ?_
    refine V_laldN cx 0 rfl (by decide) (by decide) 37 rfl 1160 rfl dL_law_1159 ?_
    refine V_tol z rfl ?_
    refine V_iload cx 1162 rfl dL_law_1160 0 rfl ?_
    refine V_ifz cx hz 1165 1166 1169 1170 rfl rfl rfl rfl dL_law_1162 dL_law_1165 dL_law_1166 dL_law_1169 ?_
    refine V_lcmp cx 1171 rfl dL_law_1170 ?_
    refine V_if_eq cx 1174 1176 rfl dL_law_1171 (by decide) (fun c0 => ?_) (fun c0 => absurd (lg_cmp_self z) c0)
    refine V_goto cx 1236 dL_law_1176 (by decide) ?_
    refine V.widen (k' := k + 2) (n' := n + 12) (by omega) (by omega) ?_
    refine V.toC ?_
    refine V.locs (lc' := [(4, .int (nI (4 * it))), (0, .ref b), (1, .ref (h 0)), (2, .ref (g 0)), (3, .ref oa)]) [2, 3, 4, 5, 6] rfl ?_
    exact LJ _ _ _ _ _ _ _ _ _ _ _ _ _ _ _ _ _ _ _ _ _ _ _ _ _ _ _ _ _ _ _ _ _ _ _ _ _ _ _ _ _ _ _ _ _ x' hI'
set_option maxHeartbeats 4000000 in
set_option maxRecDepth 100000 in
theorem lw_case_forget {X : vX} {lo : Nat} {G : vG} {Q : State → Prop} {b L : Nat} {sc : Nat → Int32} (LC : LCx X lo G b L sc) (hL : L ≤ 2048) {it : Nat} (hit : 4 * it + 4 ≤ L) {h g : Nat → Nat} {oa : Nat} {np : Nat} {nl : Nat} {len : Nat} {fd : Nat} {lu : Nat} {tu : Nat} {T : Nat → Int32} {C : Nat → Int32} {F : Nat → Int32} {LT : Nat → Int32} {VV : Nat → Int32} {BB : Nat → Int32} {lt : Nat → Int32} {ph : Nat → Int32} {lh : Nat → Int32} {ks : Nat → Int64} {wd : Nat → Int32} {gr : Nat → Int32} {gs : Nat → Int32} {bl : Nat → Int32} {ie : Nat → Int32} {tw : Nat → Int32} {th2 : Nat} {np2 : Nat} {nl2 : Nat} {ld2 : Nat} {ll2 : Nat} {mn2 : Int32} {sp2 : Nat} {T2 : Nat → Int32} {S2 : Nat → Int32} {C2 : Nat → Int32} {F2 : Nat → Int32} {LT2 : Nat → Int32} {LS2 : Nat → Int32} {VE2 : Nat → Int32} {BA2 : Nat → Int32} {wd2 : Nat → Int32} {mo2 : Nat → Int32} {lt2 : Nat → Int32} {op2 : Nat → Int32} {pl2 : Nat → Int32} {pt2 : Nat → Int32} {ks2 : Nat → Int64} {ov : Nat → Int64} {x : LX} (hI : INV x np nl lu tu T C F LT VV BB wd gr gs bl ie np2 nl2 ld2 T2 S2 C2 F2 LT2 LS2 VE2 BA2 wd2 mo2) {k n : Nat} (hk : k + 2 ≤ 601024) (hn : n + 12 ≤ 7293034) (LJ : ∀ (np : Nat) (nl : Nat) (len : Nat) (fd : Nat) (lu : Nat) (tu : Nat) (T : Nat → Int32) (C : Nat → Int32) (F : Nat → Int32) (LT : Nat → Int32) (VV : Nat → Int32) (BB : Nat → Int32) (lt : Nat → Int32) (ph : Nat → Int32) (lh : Nat → Int32) (ks : Nat → Int64) (wd : Nat → Int32) (gr : Nat → Int32) (gs : Nat → Int32) (bl : Nat → Int32) (ie : Nat → Int32) (tw : Nat → Int32) (th2 : Nat) (np2 : Nat) (nl2 : Nat) (ld2 : Nat) (ll2 : Nat) (mn2 : Int32) (sp2 : Nat) (T2 : Nat → Int32) (S2 : Nat → Int32) (C2 : Nat → Int32) (F2 : Nat → Int32) (LT2 : Nat → Int32) (LS2 : Nat → Int32) (VE2 : Nat → Int32) (BA2 : Nat → Int32) (wd2 : Nat → Int32) (mo2 : Nat → Int32) (lt2 : Nat → Int32) (op2 : Nat → Int32) (pl2 : Nat → Int32) (pt2 : Nat → Int32) (ks2 : Nat → Int64) (ov : Nat → Int64) (x : LX), INV x np nl lu tu T C F LT VV BB wd gr gs bl ie np2 nl2 ld2 T2 S2 C2 F2 LT2 LS2 VE2 BA2 wd2 mo2 → V X lo 7 G Q (k + 2) (n + 12) (cW G h np nl len fd lu tu T C F LT VV BB lt ph lh ks wd gr gs bl ie tw ++ ([(oa, .inl (G.2.2.1, 1, .inr (.inl ov)))] ++ mW G g th2 np2 nl2 ld2 ll2 mn2 sp2 T2 S2 C2 F2 LT2 LS2 VE2 BA2 wd2 mo2 lt2 op2 pl2 pt2 ks2)) [(4, .int (nI (4 * it))), (0, .ref b), (1, .ref (h 0)), (2, .ref (g 0)), (3, .ref oa)] [] 1236) : V X lo 7 G Q k n (cW G h np nl len fd lu tu T C F LT VV BB lt ph lh ks wd gr gs bl ie tw ++ ([(oa, .inl (G.2.2.1, 1, .inr (.inl ov)))] ++ mW G g th2 np2 nl2 ld2 ll2 mn2 sp2 T2 S2 C2 F2 LT2 LS2 VE2 BA2 wd2 mo2 lt2 op2 pl2 pt2 ks2)) [(4, .int (nI (4 * it))), (0, .ref b), (1, .ref (h 0)), (2, .ref (g 0)), (3, .ref oa)] [] 1179 := by
  obtain ⟨cx, hX, hst, hsc, hbl, hbA⟩ := id LC
  obtain ⟨hnp1, hnp2, hnp, hnl1, hnl2, hnl, hld, hlu⟩ := inv_np hI
  have hnp22 : np2 ≤ 16 := by omega
  have hnl22 : nl2 ≤ 6 := by omega
  have hld50 : ld2 ≤ 50 := by omega
  obtain ⟨nn, gv, hgs, hgr, hfo⟩ := les_last hI
  refine V_aload_n cx 1180 rfl dL_law_1179 2 rfl ?_
  refine V_aload_n cx 1181 rfl dL_law_1180 4 rfl ?_
  refine V_calli (V_runSW (As := [.ref (h 0), .ref oa]) (rest := []) (nA := 2) cx (kL_forget (xl X) lo G _ h np nl len fd lu tu T C F LT VV BB lt ph lh ks wd gr gs bl ie tw oa ov  (nn (lu - 1)) (gv (lu - 1)) hst hlu hgs hgr) ⟨ml_L_135, sm_L_forget, ii_L, co_L_forget⟩ ⟨by decide, by decide, by decide +kernel⟩ (lw_rm hX (by decide) (by decide)) rfl rfl (Nat.le_of_ble_eq_true rfl) ⟨Nat.le_trans (by omega) hX.2.2.1, Nat.le_trans (by omega) hX.2.2.2⟩ dL_law_1181) 1184 (k + 1) (n + 6) rfl rfl rfl (fun v u hw => ?_)
  rcases u with _ | ⟨v1, z⟩
  · skip
    dsimp only at hw
    obtain ⟨E, hx, hcode⟩ := hw
    refine V_istore (lc1 := [(5, .int v), (4, .int (nI (4 * it))), (0, .ref b), (1, .ref (h 0)), (2, .ref (g 0)), (3, .ref oa)]) cx 1186 rfl dL_law_1184 (by decide) rfl ?_
    refine V.toM ?_
    refine V_aload_n cx 1187 rfl dL_law_1186 4 rfl ?_
    refine KL_138 (As := []) (rest := []) cx (kX5_forget (xl X) lo G _ g th2 np2 nl2 ld2 ll2 mn2 sp2 T2 S2 C2 F2 LT2 LS2 VE2 BA2 wd2 mo2 lt2 op2 pl2 pt2 ks2  hnp22 hld50) hX (by omega) 0 rfl rfl rfl (Nat.le_of_ble_eq_true rfl) 1190 (k + 1) (n + 6) rfl rfl rfl (by omega) (by omega) dL_law_1187 ?_
    intro r u2 hw2
    obtain ⟨th1', ld1', C1'⟩ := u2
    try dsimp only at hw2
    refine V_istore (lc1 := [(6, .int r), (5, .int v), (4, .int (nI (4 * it))), (0, .ref b), (1, .ref (h 0)), (2, .ref (g 0)), (3, .ref oa)]) cx 1192 rfl dL_law_1190 (by decide) rfl ?_
    refine V_aload_n cx 1193 rfl dL_law_1192 5 rfl ?_
    refine KL_79 (As := []) (rest := []) cx (kX5_thrown (xl X) lo G _ g _ _ _ _ _ _ _ _ _ _ _ _ _ _ _ _ _ _ _ _ _ _) hX (by omega) 0 rfl rfl rfl (Nat.le_of_ble_eq_true rfl) 1196 (k + 1) (n + 6) rfl rfl rfl (by omega) (by omega) dL_law_1193 ?_
    intro rt _ hrt
    try dsimp only at hrt
    subst hrt
    refine V_iload cx 1198 rfl dL_law_1196 1 rfl ?_
    obtain ⟨hth, rfl, rfl⟩ := st_forget_x hI hx.2 hw2
    obtain ⟨rfl, hne⟩ := exc1 hcode hth
    refine V_icmp_eq cx 1201 1203 rfl dL_law_1198 (by decide) (fun c0 => ?_) (fun c0 => absurd rfl c0)
    refine V_iload cx 1205 rfl dL_law_1203 1 rfl ?_
    refine V_if_ne cx 1208 1220 rfl dL_law_1205 (by decide) (fun c0 => ?_) (fun c0 => absurd c0 hne)
    refine V_goto cx 1236 dL_law_1220 (by decide) ?_
    refine V.widen (k' := k + 2) (n' := n + 12) (by omega) (by omega) ?_
    refine V.toC ?_
    refine V.locs (lc' := [(4, .int (nI (4 * it))), (0, .ref b), (1, .ref (h 0)), (2, .ref (g 0)), (3, .ref oa)]) [2, 3, 4, 5, 6] rfl ?_
    exact LJ _ _ _ _ _ _ _ _ _ _ _ _ _ _ _ _ _ _ _ _ _ _ _ _ _ _ _ _ _ _ _ _ _ _ _ _ _ _ _ _ _ _ _ _ _ x hI
  · skip
    dsimp only at hw
    obtain ⟨hx, hv, hz⟩ := hw
    subst hv
    refine V_istore (lc1 := [(5, .int (nI 0)), (4, .int (nI (4 * it))), (0, .ref b), (1, .ref (h 0)), (2, .ref (g 0)), (3, .ref oa)]) cx 1186 rfl dL_law_1184 (by decide) rfl ?_
    refine V.toM ?_
    refine V_aload_n cx 1187 rfl dL_law_1186 4 rfl ?_
    refine KL_138 (As := []) (rest := []) cx (kX5_forget (xl X) lo G _ g th2 np2 nl2 ld2 ll2 mn2 sp2 T2 S2 C2 F2 LT2 LS2 VE2 BA2 wd2 mo2 lt2 op2 pl2 pt2 ks2  hnp22 hld50) hX (by omega) 0 rfl rfl rfl (Nat.le_of_ble_eq_true rfl) 1190 (k + 1) (n + 6) rfl rfl rfl (by omega) (by omega) dL_law_1187 ?_
    intro r u2 hw2
    obtain ⟨th1', ld1', C1'⟩ := u2
    try dsimp only at hw2
    refine V_istore (lc1 := [(6, .int r), (5, .int (nI 0)), (4, .int (nI (4 * it))), (0, .ref b), (1, .ref (h 0)), (2, .ref (g 0)), (3, .ref oa)]) cx 1192 rfl dL_law_1190 (by decide) rfl ?_
    refine V_aload_n cx 1193 rfl dL_law_1192 5 rfl ?_
    refine KL_79 (As := []) (rest := []) cx (kX5_thrown (xl X) lo G _ g _ _ _ _ _ _ _ _ _ _ _ _ _ _ _ _ _ _ _ _ _ _) hX (by omega) 0 rfl rfl rfl (Nat.le_of_ble_eq_true rfl) 1196 (k + 1) (n + 6) rfl rfl rfl (by omega) (by omega) dL_law_1193 ?_
    intro rt _ hrt
    try dsimp only at hrt
    subst hrt
    refine V_iload cx 1198 rfl dL_law_1196 1 rfl ?_
    obtain ⟨rfl, rfl, x', hI'⟩ := hfo _ _ _ _ _ hx hw2
    refine V_icmp_eq cx 1201 1203 rfl dL_law_1198 (by decide) (fun c0 => ?_) (fun c0 => absurd rfl c0)
    refine V_iload cx 1205 rfl dL_law_1203 1 rfl ?_
    refine V_if_ne cx 1208 1220 rfl dL_law_1205 (by decide) (fun c0 => absurd rfl c0) (fun c0 => ?_)
    refine V_aload_n cx 1209 rfl dL_law_1208 6 rfl ?_
    refine V_iconst (v := nI 0) cx 1210 rfl dL_law_1209 (by decide) ?_
    refine V_laldN cx 0 rfl (by decide) (by decide) 37 rfl 1211 rfl dL_law_1210 ?_
    refine V_tol z rfl ?_
    refine V_iload cx 1213 rfl dL_law_1211 0 rfl ?_
    refine V_i2l cx 1214 rfl dL_law_1213 ?_
    refine V_tol z hz.symm ?_
    refine V_lcmp cx 1215 rfl dL_law_1214 ?_
    refine V_if_eq cx 1218 1220 rfl dL_law_1215 (by decide) (fun c0 => ?_) (fun c0 => absurd (lg_cmp_self z) c0)
    refine V_goto cx 1236 dL_law_1220 (by decide) ?_
    refine V.widen (k' := k + 2) (n' := n + 12) (by omega) (by omega) ?_
    refine V.toC ?_
    refine V.locs (lc' := [(4, .int (nI (4 * it))), (0, .ref b), (1, .ref (h 0)), (2, .ref (g 0)), (3, .ref oa)]) [2, 3, 4, 5, 6] rfl ?_
    exact LJ _ _ _ _ _ _ _ _ _ _ _ _ _ _ _ _ _ _ _ _ _ _ _ _ _ _ _ _ _ _ _ _ _ _ _ _ _ _ _ _ _ _ _ _ _ x' hI'
set_option maxHeartbeats 4000000 in
set_option maxRecDepth 100000 in
theorem lw_case_learned {X : vX} {lo : Nat} {G : vG} {Q : State → Prop} {b L : Nat} {sc : Nat → Int32} (LC : LCx X lo G b L sc) (hL : L ≤ 2048) {it : Nat} (hit : 4 * it + 4 ≤ L) {h g : Nat → Nat} {oa : Nat} {np : Nat} {nl : Nat} {len : Nat} {fd : Nat} {lu : Nat} {tu : Nat} {T : Nat → Int32} {C : Nat → Int32} {F : Nat → Int32} {LT : Nat → Int32} {VV : Nat → Int32} {BB : Nat → Int32} {lt : Nat → Int32} {ph : Nat → Int32} {lh : Nat → Int32} {ks : Nat → Int64} {wd : Nat → Int32} {gr : Nat → Int32} {gs : Nat → Int32} {bl : Nat → Int32} {ie : Nat → Int32} {tw : Nat → Int32} {th2 : Nat} {np2 : Nat} {nl2 : Nat} {ld2 : Nat} {ll2 : Nat} {mn2 : Int32} {sp2 : Nat} {T2 : Nat → Int32} {S2 : Nat → Int32} {C2 : Nat → Int32} {F2 : Nat → Int32} {LT2 : Nat → Int32} {LS2 : Nat → Int32} {VE2 : Nat → Int32} {BA2 : Nat → Int32} {wd2 : Nat → Int32} {mo2 : Nat → Int32} {lt2 : Nat → Int32} {op2 : Nat → Int32} {pl2 : Nat → Int32} {pt2 : Nat → Int32} {ks2 : Nat → Int64} {ov : Nat → Int64} {x : LX} (hI : INV x np nl lu tu T C F LT VV BB wd gr gs bl ie np2 nl2 ld2 T2 S2 C2 F2 LT2 LS2 VE2 BA2 wd2 mo2) {k n : Nat} (hk : k + 2 ≤ 601024) (hn : n + 12 ≤ 7293034) (LJ : ∀ (np : Nat) (nl : Nat) (len : Nat) (fd : Nat) (lu : Nat) (tu : Nat) (T : Nat → Int32) (C : Nat → Int32) (F : Nat → Int32) (LT : Nat → Int32) (VV : Nat → Int32) (BB : Nat → Int32) (lt : Nat → Int32) (ph : Nat → Int32) (lh : Nat → Int32) (ks : Nat → Int64) (wd : Nat → Int32) (gr : Nat → Int32) (gs : Nat → Int32) (bl : Nat → Int32) (ie : Nat → Int32) (tw : Nat → Int32) (th2 : Nat) (np2 : Nat) (nl2 : Nat) (ld2 : Nat) (ll2 : Nat) (mn2 : Int32) (sp2 : Nat) (T2 : Nat → Int32) (S2 : Nat → Int32) (C2 : Nat → Int32) (F2 : Nat → Int32) (LT2 : Nat → Int32) (LS2 : Nat → Int32) (VE2 : Nat → Int32) (BA2 : Nat → Int32) (wd2 : Nat → Int32) (mo2 : Nat → Int32) (lt2 : Nat → Int32) (op2 : Nat → Int32) (pl2 : Nat → Int32) (pt2 : Nat → Int32) (ks2 : Nat → Int64) (ov : Nat → Int64) (x : LX), INV x np nl lu tu T C F LT VV BB wd gr gs bl ie np2 nl2 ld2 T2 S2 C2 F2 LT2 LS2 VE2 BA2 wd2 mo2 → V X lo 7 G Q (k + 2) (n + 12) (cW G h np nl len fd lu tu T C F LT VV BB lt ph lh ks wd gr gs bl ie tw ++ ([(oa, .inl (G.2.2.1, 1, .inr (.inl ov)))] ++ mW G g th2 np2 nl2 ld2 ll2 mn2 sp2 T2 S2 C2 F2 LT2 LS2 VE2 BA2 wd2 mo2 lt2 op2 pl2 pt2 ks2)) [(4, .int (nI (4 * it))), (0, .ref b), (1, .ref (h 0)), (2, .ref (g 0)), (3, .ref oa)] [] 1236) : V X lo 7 G Q k n (cW G h np nl len fd lu tu T C F LT VV BB lt ph lh ks wd gr gs bl ie tw ++ ([(oa, .inl (G.2.2.1, 1, .inr (.inl ov)))] ++ mW G g th2 np2 nl2 ld2 ll2 mn2 sp2 T2 S2 C2 F2 LT2 LS2 VE2 BA2 wd2 mo2 lt2 op2 pl2 pt2 ks2)) [(4, .int (nI (4 * it))), (0, .ref b), (1, .ref (h 0)), (2, .ref (g 0)), (3, .ref oa)] [] 1223 := by
  obtain ⟨cx, hX, hst, hsc, hbl, hbA⟩ := id LC
  obtain ⟨hnp1, hnp2, hnp, hnl1, hnl2, hnl, hld, hlu⟩ := inv_np hI
  refine V_aload_n cx 1224 rfl dL_law_1223 2 rfl ?_
  refine KL_139 (As := []) (rest := []) cx (kX4_learned (xl X) lo G _ h np nl len fd lu tu T C F LT VV BB lt ph lh ks wd gr gs bl ie tw) hX (by omega) 0 rfl rfl rfl (Nat.le_of_ble_eq_true rfl) 1227 k n rfl rfl rfl (by omega) (by omega) dL_law_1224 ?_
  intro rc u hw
  try dsimp only at hw
  refine V.toM ?_
  refine V_aload_n cx 1228 rfl dL_law_1227 3 rfl ?_
  refine KL_142 (As := []) (rest := [.int rc]) cx (kX5_learned (xl X) lo G _ g th2 np2 nl2 ld2 ll2 mn2 sp2 T2 S2 C2 F2 LT2 LS2 VE2 BA2 wd2 mo2 lt2 op2 pl2 pt2 ks2) hX (by omega) 0 rfl rfl rfl (Nat.le_of_ble_eq_true rfl) 1231 k n rfl rfl rfl (by omega) (by omega) dL_law_1228 ?_
  intro r u2 hw2
  try dsimp only at hw2
  have he : rc = r := by rw [hw, hw2, hld]
  refine V_icmp_eq cx 1234 1236 rfl dL_law_1231 (by decide) (fun c0 => ?_) (fun c0 => absurd (by rw [he]) c0)
  refine V.widen (k' := k + 2) (n' := n + 12) (by omega) (by omega) ?_
  refine V.toC ?_
  exact LJ _ _ _ _ _ _ _ _ _ _ _ _ _ _ _ _ _ _ _ _ _ _ _ _ _ _ _ _ _ _ _ _ _ _ _ _ _ _ _ _ _ _ _ _ _ x hI
set_option maxHeartbeats 4000000 in
set_option maxRecDepth 100000 in
theorem law_loop {X : vX} {lo : Nat} {G : vG} {Q : State → Prop} {b L : Nat} {sc : Nat → Int32} (LC : LCx X lo G b L sc) (hL : L ≤ 2048) {h g : Nat → Nat} {oa : Nat} (hend : ∀ (ws : va_W) (lc : List (Nat × Value)), V X lo 7 G Q 601024 7293034 ws lc [.int (nI 1)] 1243) : ∀ (f it : Nat), 4 * it ≤ L → L < 4 * it + 4 * f → ∀ (np : Nat) (nl : Nat) (len : Nat) (fd : Nat) (lu : Nat) (tu : Nat) (T : Nat → Int32) (C : Nat → Int32) (F : Nat → Int32) (LT : Nat → Int32) (VV : Nat → Int32) (BB : Nat → Int32) (lt : Nat → Int32) (ph : Nat → Int32) (lh : Nat → Int32) (ks : Nat → Int64) (wd : Nat → Int32) (gr : Nat → Int32) (gs : Nat → Int32) (bl : Nat → Int32) (ie : Nat → Int32) (tw : Nat → Int32) (th2 : Nat) (np2 : Nat) (nl2 : Nat) (ld2 : Nat) (ll2 : Nat) (mn2 : Int32) (sp2 : Nat) (T2 : Nat → Int32) (S2 : Nat → Int32) (C2 : Nat → Int32) (F2 : Nat → Int32) (LT2 : Nat → Int32) (LS2 : Nat → Int32) (VE2 : Nat → Int32) (BA2 : Nat → Int32) (wd2 : Nat → Int32) (mo2 : Nat → Int32) (lt2 : Nat → Int32) (op2 : Nat → Int32) (pl2 : Nat → Int32) (pt2 : Nat → Int32) (ks2 : Nat → Int64) (ov : Nat → Int64) (x : LX), INV x np nl lu tu T C F LT VV BB wd gr gs bl ie np2 nl2 ld2 T2 S2 C2 F2 LT2 LS2 VE2 BA2 wd2 mo2 → V X lo 7 G Q (38 + 2 * it) (3937 + 12 * it) (cW G h np nl len fd lu tu T C F LT VV BB lt ph lh ks wd gr gs bl ie tw ++ ([(oa, .inl (G.2.2.1, 1, .inr (.inl ov)))] ++ mW G g th2 np2 nl2 ld2 ll2 mn2 sp2 T2 S2 C2 F2 LT2 LS2 VE2 BA2 wd2 mo2 lt2 op2 pl2 pt2 ks2)) [(4, .int (nI (4 * it))), (0, .ref b), (1, .ref (h 0)), (2, .ref (g 0)), (3, .ref oa)] [] 23 := by
  obtain ⟨cx, hX, hst, hsc, hbl, hbA⟩ := id LC
  intro f
  induction f with
  | zero => intro it h1 h2; omega
  | succ f ih =>
    intro it h1 h2 np nl len fd lu tu T C F LT VV BB lt ph lh ks wd gr gs bl ie tw th2 np2 nl2 ld2 ll2 mn2 sp2 T2 S2 C2 F2 LT2 LS2 VE2 BA2 wd2 mo2 lt2 op2 pl2 pt2 ks2 ov x hI
    refine V_iload cx 25 rfl dL_law_23 0 rfl ?_
    refine V_aload_n cx 26 rfl dL_law_25 1 rfl ?_
    refine V_slen LC 27 rfl dL_law_26 ?_
    refine V_iconst (v := nI 4) cx 28 rfl dL_law_27 (by decide) ?_
    refine V_isub cx 29 rfl dL_law_28 ?_
    refine V_icmp_gt cx 32 1242 rfl dL_law_29 (by decide) (fun c0 => ?_) (fun c0 => ?_)
    · refine V_iconst (v := nI 1) cx 1243 rfl dL_law_1242 (by decide) ?_
      exact V.widen (k' := 601024) (n' := 7293034) (by omega) (by omega) (hend _ _)
    · have hit := loop_end hL h1 c0
      have LJ : ∀ (np : Nat) (nl : Nat) (len : Nat) (fd : Nat) (lu : Nat) (tu : Nat) (T : Nat → Int32) (C : Nat → Int32) (F : Nat → Int32) (LT : Nat → Int32) (VV : Nat → Int32) (BB : Nat → Int32) (lt : Nat → Int32) (ph : Nat → Int32) (lh : Nat → Int32) (ks : Nat → Int64) (wd : Nat → Int32) (gr : Nat → Int32) (gs : Nat → Int32) (bl : Nat → Int32) (ie : Nat → Int32) (tw : Nat → Int32) (th2 : Nat) (np2 : Nat) (nl2 : Nat) (ld2 : Nat) (ll2 : Nat) (mn2 : Int32) (sp2 : Nat) (T2 : Nat → Int32) (S2 : Nat → Int32) (C2 : Nat → Int32) (F2 : Nat → Int32) (LT2 : Nat → Int32) (LS2 : Nat → Int32) (VE2 : Nat → Int32) (BA2 : Nat → Int32) (wd2 : Nat → Int32) (mo2 : Nat → Int32) (lt2 : Nat → Int32) (op2 : Nat → Int32) (pl2 : Nat → Int32) (pt2 : Nat → Int32) (ks2 : Nat → Int64) (ov : Nat → Int64) (x : LX), INV x np nl lu tu T C F LT VV BB wd gr gs bl ie np2 nl2 ld2 T2 S2 C2 F2 LT2 LS2 VE2 BA2 wd2 mo2 → V X lo 7 G Q (38 + 2 * it + 2) (3937 + 12 * it + 12) (cW G h np nl len fd lu tu T C F LT VV BB lt ph lh ks wd gr gs bl ie tw ++ ([(oa, .inl (G.2.2.1, 1, .inr (.inl ov)))] ++ mW G g th2 np2 nl2 ld2 ll2 mn2 sp2 T2 S2 C2 F2 LT2 LS2 VE2 BA2 wd2 mo2 lt2 op2 pl2 pt2 ks2)) [(4, .int (nI (4 * it))), (0, .ref b), (1, .ref (h 0)), (2, .ref (g 0)), (3, .ref oa)] [] 1236 := by
        intro np nl len fd lu tu T C F LT VV BB lt ph lh ks wd gr gs bl ie tw th2 np2 nl2 ld2 ll2 mn2 sp2 T2 S2 C2 F2 LT2 LS2 VE2 BA2 wd2 mo2 lt2 op2 pl2 pt2 ks2 ov x hI
        refine V_iinc (v := nI (4 * (it + 1))) (lc1 := [(4, .int (nI (4 * (it + 1)))), (0, .ref b), (1, .ref (h 0)), (2, .ref (g 0)), (3, .ref oa)]) cx 1239 rfl dL_law_1236 0 rfl (nI_inc (4 * it) 4) (by decide) rfl ?_
        refine V_goto cx 23 dL_law_1239 (by decide) ?_
        have e1 : 38 + 2 * it + 2 = 38 + 2 * (it + 1) := by omega
        have e2 : 3937 + 12 * it + 12 = 3937 + 12 * (it + 1) := by omega
        rw [e1, e2]
        exact ih (it + 1) (by omega) (by omega) _ _ _ _ _ _ _ _ _ _ _ _ _ _ _ _ _ _ _ _ _ _ _ _ _ _ _ _ _ _ _ _ _ _ _ _ _ _ _ _ _ _ _ _ _ x hI
      refine V_aload_n cx 33 rfl dL_law_32 1 rfl ?_
      refine V_iload cx 35 rfl dL_law_33 0 rfl ?_
      refine V_sld LC (4 * it) rfl (by omega) hL 36 rfl dL_law_35 ?_
      refine V_bipush (v := nI 31) cx 38 rfl dL_law_36 (by decide) ?_
      refine V_iand cx 39 rfl dL_law_38 ?_
      obtain ⟨mm, hm, he⟩ := and31 (sc (4 * it))
      refine V_toi (nI mm) he ?_
      clear he ih
      rcases Nat.lt_or_ge mm 19 with q | q
      · rcases (by omega : mm = 0 ∨ mm = 1 ∨ mm = 2 ∨ mm = 3 ∨ mm = 4 ∨ mm = 5 ∨ mm = 6 ∨ mm = 7 ∨ mm = 8 ∨ mm = 9 ∨ mm = 10 ∨ mm = 11 ∨ mm = 12 ∨ mm = 13 ∨ mm = 14 ∨ mm = 15 ∨ mm = 16 ∨ mm = 17 ∨ mm = 18) with rfl | rfl | rfl | rfl | rfl | rfl | rfl | rfl | rfl | rfl | rfl | rfl | rfl | rfl | rfl | rfl | rfl | rfl | rfl
        · refine V_tswIn cx 128 dL_law_39 (by decide) (by decide) (off := 89) rfl (by decide) ?_
          exact lw_case_addPart LC hL hit hI (by omega) (by omega) LJ
        · refine V_tswIn cx 208 dL_law_39 (by decide) (by decide) (off := 169) rfl (by decide) ?_
          exact lw_case_setFlags LC hL hit hI (by omega) (by omega) LJ
        · refine V_tswIn cx 276 dL_law_39 (by decide) (by decide) (off := 237) rfl (by decide) ?_
          exact lw_case_addLink LC hL hit hI (by omega) (by omega) LJ
        · refine V_tswIn cx 332 dL_law_39 (by decide) (by decide) (off := 293) rfl (by decide) ?_
          exact lw_case_veto LC hL hit hI (by omega) (by omega) LJ
        · refine V_tswIn cx 435 dL_law_39 (by decide) (by decide) (off := 396) rfl (by decide) ?_
          exact lw_case_bar LC hL hit hI (by omega) (by omega) LJ
        · refine V_tswIn cx 538 dL_law_39 (by decide) (by decide) (off := 499) rfl (by decide) ?_
          exact lw_case_parts LC hL hit hI (by omega) (by omega) LJ
        · refine V_tswIn cx 551 dL_law_39 (by decide) (by decide) (off := 512) rfl (by decide) ?_
          exact lw_case_count LC hL hit hI (by omega) (by omega) LJ
        · refine V_tswIn cx 607 dL_law_39 (by decide) (by decide) (off := 568) rfl (by decide) ?_
          exact lw_case_costOf LC hL hit hI (by omega) (by omega) LJ
        · refine V_tswIn cx 663 dL_law_39 (by decide) (by decide) (off := 624) rfl (by decide) ?_
          exact lw_case_find LC hL hit hI (by omega) (by omega) LJ
        · refine V_tswIn cx 719 dL_law_39 (by decide) (by decide) (off := 680) rfl (by decide) ?_
          exact lw_case_nodes LC hL hit hI (by omega) (by omega) LJ
        · refine V_tswIn cx 732 dL_law_39 (by decide) (by decide) (off := 693) rfl (by decide) ?_
          exact lw_case_splits LC hL hit hI (by omega) (by omega) LJ
        · refine V_tswIn cx 788 dL_law_39 (by decide) (by decide) (off := 749) rfl (by decide) ?_
          exact lw_case_cost LC hL hit hI (by omega) (by omega) LJ
        · refine V_tswIn cx 856 dL_law_39 (by decide) (by decide) (off := 817) rfl (by decide) ?_
          exact lw_case_size LC hL hit hI (by omega) (by omega) LJ
        · refine V_tswIn cx 924 dL_law_39 (by decide) (by decide) (off := 885) rfl (by decide) ?_
          exact lw_case_partAt LC hL hit hI (by omega) (by omega) LJ
        · refine V_tswIn cx 1004 dL_law_39 (by decide) (by decide) (off := 965) rfl (by decide) ?_
          exact lw_case_head LC hL hit hI (by omega) (by omega) LJ
        · refine V_tswIn cx 1060 dL_law_39 (by decide) (by decide) (off := 1021) rfl (by decide) ?_
          exact lw_case_readings LC hL hit hI (by omega) (by omega) LJ
        · refine V_tswIn cx 1116 dL_law_39 (by decide) (by decide) (off := 1077) rfl (by decide) ?_
          exact lw_case_learn LC hL hit hI (by omega) (by omega) LJ
        · refine V_tswIn cx 1179 dL_law_39 (by decide) (by decide) (off := 1140) rfl (by decide) ?_
          exact lw_case_forget LC hL hit hI (by omega) (by omega) LJ
        · refine V_tswIn cx 1223 dL_law_39 (by decide) (by decide) (off := 1184) rfl (by decide) ?_
          exact lw_case_learned LC hL hit hI (by omega) (by omega) LJ
      · refine V_tswOut cx 1236 dL_law_39 (Or.inr ?_) (by decide) ?_
        · rw [nI_toInt (by omega)]
          omega
        · exact V.widen (by omega) (by omega) (LJ _ _ _ _ _ _ _ _ _ _ _ _ _ _ _ _ _ _ _ _ _ _ _ _ _ _ _ _ _ _ _ _ _ _ _ _ _ _ _ _ _ _ _ _ _ x hI)
