/-! the law's rows beside the class: what holds between two calls -/
def LM (np nl : Nat) (T2 C2 F2 LT2 VE BA : Nat → Int32) (qt qc qf qb ql : Nat → Int32) : Prop := (∀ i, i < np → qt i = T2 i) ∧ (∀ i, i < np → qc i = C2 i) ∧ (∀ i, i < np → ∃ v, qf i = nI v ∧ v < 524288 ∧ F2 i = nI (v % 8) ∧ ∀ j, j < 16 → v.testBit (3 + j) = bitI (VE i) j) ∧ (∀ i, i < 16 → ∃ v, qb i = nI v ∧ v < 64 ∧ ∀ j, j < 6 → v.testBit j = bitI (BA i) j) ∧ (∀ i, i < nl → ql i = LT2 i) ∧ (∀ i, np ≤ i → i < 16 → ∀ j, j < 16 → bitI (VE i) j = false)
def cntW (B : Nat) (ps : Nat → Nat) (p : Nat) : Nat → Nat
  | 0 => 0
  | n + 1 => cntW B ps p n + (if B.testBit n = true ∧ ps n = p then 1 else 0)
/-- the part in a byte of a lesson -/
def byP (K : Nat) (j : Nat) : Nat := K / 256 ^ j % 256 / 8 - 1
def LWk (np k : Nat) (qw : Nat → Int64) (qh wd2 mo : Nat → Int32) : Prop := qh k = wd2 k ∧ ∃ K B, qw k = lN (K + B * 1099511627776) ∧ K < 1099511627776 ∧ B < 32 ∧ (∀ j, j < 5 → B.testBit j = true → 8 ≤ K / 256 ^ j % 256 ∧ byP K j < np) ∧ ∀ p, p < 16 → mo (16 * k + p) = nI (cntW B (byP K) p 5)
def LW (np lu : Nat) (qw : Nat → Int64) (qh wd2 mo : Nat → Int32) : Prop := ∀ k, k < lu → LWk np k qw qh wd2 mo
theorem LW.mono {np np' lu : Nat} {qw : Nat → Int64} {qh wd2 mo : Nat → Int32} (hn : np ≤ np') (h : LW np lu qw qh wd2 mo) : LW np' lu qw qh wd2 mo := fun k hk => by
  obtain ⟨a1, K, B, a2, a3, a4, a5, a6⟩ := h k hk
  exact ⟨a1, K, B, a2, a3, a4, fun j hj hb => ⟨(a5 j hj hb).1, Nat.lt_of_lt_of_le (a5 j hj hb).2 hn⟩, a6⟩
def LI (x : LX) (np nl lu tu : Nat) (T C F LT VV BB wd gr gs bl ie : Nat → Int32) (qt qc qf qb ql : Nat → Int32) (qw : Nat → Int64) (qh qg : Nat → Int32) : Prop := ∃ T2 S2 C2 F2 LT2 LS2 VE BA wd2 mo, INV x np nl lu tu T C F LT VV BB wd gr gs bl ie np nl lu T2 S2 C2 F2 LT2 LS2 VE BA wd2 mo ∧ LM np nl T2 C2 F2 LT2 VE BA qt qc qf qb ql ∧ LW np lu qw qh wd2 mo ∧ qg 0 = nI np ∧ qg 1 = nI nl ∧ qg 2 = nI lu
section LIS
variable {x : LX} {np nl lu tu : Nat} {T C F LT VV BB wd gr gs bl ie : Nat → Int32} {qt qc qf qb ql : Nat → Int32} {qw : Nat → Int64} {qh qg : Nat → Int32}
theorem LI.facts (h : LI x np nl lu tu T C F LT VV BB wd gr gs bl ie qt qc qf qb ql qw qh qg) : lxOK x ∧ cOK x np nl T C F LT VV BB ∧ LQ x qt qc qf qb ql ∧ (qg 0 = nI (lNp x) ∧ qg 1 = nI (lNl x) ∧ qg 2 = nI lu) ∧ (np = lNp x ∧ nl = lNl x ∧ lu ≤ 50) ∧ (∀ i, ∃ b : Bool, VV i = bI b) ∧ (∀ i, ∃ b : Bool, BB i = bI b) ∧ TRE x np tu bl ie ∧ (∀ i j, i < 16 → j < 16 → VV (i * 16 + j) = bI (lV x i j)) ∧ (∀ i l, i < 16 → l < 6 → BB (i * 6 + l) = bI (lB x i l)) := by
  obtain ⟨T2, S2, C2, F2, LT2, LS2, VE, BA, wd2, mo, hI, ⟨m1, m2, m3, m4, m5, m6⟩, hW, g0, g1, g2⟩ := h
  obtain ⟨h1, h2, h3, ⟨h41, h42, h43, h44⟩, h5, h6, h7⟩ := hI
  have e1 := h2.1
  have e2 := h2.2.1
  have b1 := h1.1
  have b2 := h1.2.1
  subst e1 e2
  refine ⟨h1, h2, ⟨fun i hi => (m1 i hi).trans (h3.2.2.1 i hi), fun i hi => (m2 i hi).trans (h3.2.2.2.2.1 i hi), fun i hi => ?_, fun i hi => ?_, fun i hi => (m5 i hi).trans (h3.2.2.2.2.2.2.1 i hi)⟩, ⟨g0, g1, g2⟩, ⟨rfl, rfl, h7.1⟩, h41, h42, h5, fun i j hi hj => (h43 i j hi hj).1, fun i l hi hl => (h44 i l hi hl).1⟩
  · obtain ⟨v, v1, v2, v3, v4⟩ := m3 i hi
    have h8 := h1.2.2.2.2.1 i hi
    refine ⟨v, v1, v2, ?_, fun j hj => (v4 j hj).trans (h43 i j (by omega) hj).2⟩
    rw [h3.2.2.2.2.2.1 i hi] at v3
    exact (nI_inj (by omega) (by omega) v3).symm
  · obtain ⟨v, v1, v2, v3⟩ := m4 i (by omega)
    exact ⟨v, v1, v2, fun j hj => (v3 j hj).trans (h44 i j (by omega) hj).2⟩
theorem LI.same (h : LI x np nl lu tu T C F LT VV BB wd gr gs bl ie qt qc qf qb ql qw qh qg) {qg' : Nat → Int32} (h0 : qg' 0 = qg 0) (h1 : qg' 1 = qg 1) (h2 : qg' 2 = qg 2) : LI x np nl lu tu T C F LT VV BB wd gr gs bl ie qt qc qf qb ql qw qh qg' := by
  obtain ⟨T2, S2, C2, F2, LT2, LS2, VE, BA, wd2, mo, hI, hM, hW, g0, g1, g2⟩ := h
  exact ⟨T2, S2, C2, F2, LT2, LS2, VE, BA, wd2, mo, hI, hM, hW, h0.trans g0, h1.trans g1, h2.trans g2⟩
theorem LI_addPart (h : LI x np nl lu tu T C F LT VV BB wd gr gs bl ie qt qc qf qb ql qw qh qg) {text count flags rc : Int32} {tu1 : Nat} {bl1 ie1 : Nat → Int32} (hx : cAddPart np T (Wd (lT x) (lNp x)) text count flags rc tu tu1 bl1 ie1) : ∃ y, LI y (np + 1) nl lu tu1 (upd T np text) (upd C np count) (upd F np flags) LT VV BB wd gr gs bl1 ie1 (upd qt np text) (upd qc np count) (upd qf np flags) qb ql qw qh (upd qg 0 (nI (np + 1))) := by
  obtain ⟨T2, S2, C2, F2, LT2, LS2, VE, BA, wd2, mo, hI, ⟨m1, m2, m3, m4, m5, m6⟩, hW, g0, g1, g2⟩ := h
  obtain ⟨e1, e2, e3, e4, e5, e6, e7, e8⟩ := inv_np hI
  have hTT : isIn T text np = isIn T2 text np := isIn_congr (fun i hi => (hI.2.1.2.2.1 i hi).trans (hI.2.2.1.2.2.1 i hi).symm)
  have hl := lastW_isIn (x := text) (n := np) (by omega) hI.2.2.1.2.2.1
  have hp := oI_pwI (T := T) (x := text) (n := np) e3
  have hlast : lastW T2 text np = -1 := by rw [hl, ← hTT]; exact hp.mp hx.2.2.1
  obtain ⟨-, -, y, hy⟩ := st_addPart_n hI hx (Or.inr (Or.inr ⟨goodPC.mpr hx.1, hx.2.1, hlast, rfl, rfl, rfl, rfl, rfl, rfl, rfl⟩))
  obtain ⟨f, f1, f2, f3⟩ := i_range (by decide) hx.1.2.2.1 hx.1.2.2.2 (by decide)
  refine ⟨y, _, _, _, _, _, _, _, _, _, _, hy, ⟨fun i hi => ?_, fun i hi => ?_, fun i hi => ?_, m4, m5, fun i hi => m6 i (by omega)⟩, hW.mono (by omega), upd_s _ _ _, (upd_n _ _ (by decide)).trans g1, (upd_n _ _ (by decide)).trans g2⟩
  · by_cases e : i = np
    · rw [e, upd_s, upd_s]
    · rw [upd_n _ _ e, upd_n _ _ e]; exact m1 i (by omega)
  · by_cases e : i = np
    · rw [e, upd_s, upd_s]
    · rw [upd_n _ _ e, upd_n _ _ e]; exact m2 i (by omega)
  · by_cases e : i = np
    · rw [e, upd_s, upd_s]
      refine ⟨f, f1, by omega, by rw [f1, Nat.mod_eq_of_lt (by omega)], fun j hj => ?_⟩
      rw [m6 np (Nat.le_refl _) hx.2.1 j hj]
      refine Nat.testBit_lt_two_pow (Nat.lt_of_lt_of_le (show f < 2 ^ 3 by omega) (Nat.pow_le_pow_right (by decide) (by omega)))
    · rw [upd_n _ _ e, upd_n _ _ e]; exact m3 i (by omega)
theorem LI_addLink (h : LI x np nl lu tu T C F LT VV BB wd gr gs bl ie qt qc qf qb ql qw qh qg) {text rc : Int32} (hx : (1 ≤ SZ text 8 ∧ SZ text 8 ≤ 2) ∧ nl < 6 ∧ oI (pwI LT text nl) = -1 ∧ rc = nI nl) : ∃ y, LI y np (nl + 1) lu tu T C F (upd LT nl text) VV BB wd gr gs bl ie qt qc qf qb (upd ql nl text) qw qh (upd qg 1 (nI (nl + 1))) := by
  obtain ⟨T2, S2, C2, F2, LT2, LS2, VE, BA, wd2, mo, hI, ⟨m1, m2, m3, m4, m5, m6⟩, hW, g0, g1, g2⟩ := h
  obtain ⟨e1, e2, e3, e4, e5, e6, e7, e8⟩ := inv_np hI
  have hTT : isIn LT text nl = isIn LT2 text nl := isIn_congr (fun i hi => (hI.2.1.2.2.2.2.2.1 i hi).trans (hI.2.2.1.2.2.2.2.2.2.1 i hi).symm)
  have hp := oI_pwI (T := LT) (x := text) (n := nl) (by omega)
  have hs28 := SZ_mm (x := text) (m := 8) (m' := 2) (by decide) (by decide) (by omega) (by omega)
  obtain ⟨-, -, y, hy⟩ := st_addLink_n hI hx (Or.inr (Or.inr ⟨by omega, hx.2.1, by rw [← hTT]; exact hp.mp hx.2.2.1, rfl, rfl, rfl, rfl, rfl⟩))
  refine ⟨y, _, _, _, _, _, _, _, _, _, _, hy, ⟨m1, m2, m3, m4, fun i hi => ?_, m6⟩, hW, (upd_n _ _ (by decide)).trans g0, upd_s _ _ _, (upd_n _ _ (by decide)).trans g2⟩
  by_cases e : i = nl
  · rw [e, upd_s, upd_s]
  · rw [upd_n _ _ e, upd_n _ _ e]; exact m5 i (by omega)
theorem LI_setFlags (h : LI x np nl lu tu T C F LT VV BB wd gr gs bl ie qt qc qf qb ql qw qh qg) {p fl v : Nat} {rc : Int32} {Fc : Nat → Int32} (hp : p < np) (hfl : fl ≤ 7) (hv : qf p = nI v) (hv2 : v < 524288) (hx : ∃ q, q < np ∧ nI p = nI q ∧ (nI 0 ≤ nI fl ∧ nI fl ≤ nI 7) ∧ rc = F q ∧ Fc = upd F q (nI fl)) : rc = nI (v % 8) ∧ ∃ y, LI y np nl lu tu T C Fc LT VV BB wd gr gs bl ie qt qc (upd qf p (nI (v - v % 8 + fl))) qb ql qw qh qg := by
  obtain ⟨T2, S2, C2, F2, LT2, LS2, VE, BA, wd2, mo, hI, ⟨m1, m2, m3, m4, m5, m6⟩, hW, g0, g1, g2⟩ := h
  obtain ⟨e1, e2, e3, e4, e5, e6, e7, e8⟩ := inv_np hI
  obtain ⟨-, hr, y, hy⟩ := st_setFlags_n (th1 := 0) (r := F2 p) (F1 := upd F2 p (nI fl)) hI hx (Or.inr (Or.inr ⟨p, hp, rfl, ⟨nI_le (by omega) (by omega), nI_le hfl (by omega)⟩, rfl, rfl, rfl⟩))
  obtain ⟨v', w1, w2, w3, w4⟩ := m3 p hp
  have ev : v' = v := nI_inj (by omega) (by omega) (w1.symm.trans hv)
  subst ev
  refine ⟨by rw [← hr, w3], y, _, _, _, _, _, _, _, _, _, _, hy, ⟨m1, m2, fun i hi => ?_, m4, m5, m6⟩, hW, g0, g1, g2⟩
  by_cases e : i = p
  · rw [e, upd_s, upd_s]
    refine ⟨v' - v' % 8 + fl, rfl, by omega, congrArg nI (by omega), fun j hj => ?_⟩
    rw [← w4 j hj, Nat.add_comm 3 j, Nat.testBit_add, Nat.testBit_add]
    congr 1
    omega
  · rw [upd_n _ _ e, upd_n _ _ e]; exact m3 i hi
theorem LI_veto (h : LI x np nl lu tu T C F LT VV BB wd gr gs bl ie qt qc qf qb ql qw qh qg) {p q v v' : Nat} {b : Bool} {rc : Int32} {VVc : Nat → Int32} (hp : p < np) (hq : q < np) (hv : qf p = nI v) (hv2 : v < 524288) (hv' : v' < 524288) (hm : v' % 8 = v % 8) (hb : ∀ j, j < 16 → v'.testBit (3 + j) = if j = q then b else v.testBit (3 + j)) (hx : ∃ p' q', p' < np ∧ q' < np ∧ nI p = nI p' ∧ nI q = nI q' ∧ rc = VV (p' * 16 + q') ∧ VVc = upd VV (p' * 16 + q') (bI b)) : rc = bI (v.testBit (3 + q)) ∧ ∃ y, LI y np nl lu tu T C F LT VVc BB wd gr gs bl ie qt qc (upd qf p (nI v')) qb ql qw qh qg := by
  obtain ⟨T2, S2, C2, F2, LT2, LS2, VE, BA, wd2, mo, hI, ⟨m1, m2, m3, m4, m5, m6⟩, hW, g0, g1, g2⟩ := h
  obtain ⟨e1, e2, e3, e4, e5, e6, e7, e8⟩ := inv_np hI
  obtain ⟨-, hr, y, hy⟩ := st_veto_n (th1 := 0) (r := bI (bitI (VE p) q)) (VE1 := upd VE p (setI (VE p) q b)) hI hx (Or.inr ⟨p, q, hp, hq, rfl, rfl, rfl, rfl, rfl⟩)
  obtain ⟨u, w1, w2, w3, w4⟩ := m3 p hp
  have ev : u = v := nI_inj (by omega) (by omega) (w1.symm.trans hv)
  subst ev
  refine ⟨by rw [← hr, ← w4 q (by omega)], y, _, _, _, _, _, _, _, _, _, _, hy, ⟨m1, m2, fun i hi => ?_, m4, m5, fun i hi => by rw [upd_n _ _ (by omega)]; exact m6 i hi⟩, hW, g0, g1, g2⟩
  by_cases e : i = p
  · rw [e, upd_s, upd_s]
    refine ⟨v', rfl, hv', by rw [w3, hm], fun j hj => ?_⟩
    rw [setI_get (by omega) (by omega), hb j hj, w4 j hj]
  · rw [upd_n _ _ e, upd_n _ _ e]; exact m3 i hi
theorem LI_bar (h : LI x np nl lu tu T C F LT VV BB wd gr gs bl ie qt qc qf qb ql qw qh qg) {p q v v' : Nat} {b : Bool} {rc : Int32} {BBc : Nat → Int32} (hp : p < np) (hq : q < nl) (hv : qb p = nI v) (hv2 : v < 64) (hv' : v' < 64) (hb : ∀ j, j < 6 → v'.testBit j = if j = q then b else v.testBit j) (hx : ∃ p' q', p' < np ∧ q' < nl ∧ nI p = nI p' ∧ nI q = nI q' ∧ rc = BB (p' * 6 + q') ∧ BBc = upd BB (p' * 6 + q') (bI b)) : rc = bI (v.testBit q) ∧ ∃ y, LI y np nl lu tu T C F LT VV BBc wd gr gs bl ie qt qc qf (upd qb p (nI v')) ql qw qh qg := by
  obtain ⟨T2, S2, C2, F2, LT2, LS2, VE, BA, wd2, mo, hI, ⟨m1, m2, m3, m4, m5, m6⟩, hW, g0, g1, g2⟩ := h
  obtain ⟨e1, e2, e3, e4, e5, e6, e7, e8⟩ := inv_np hI
  obtain ⟨-, hr, y, hy⟩ := st_bar_n (th1 := 0) (r := bI (bitI (BA p) q)) (VE1 := upd BA p (setI (BA p) q b)) hI hx (Or.inr ⟨p, q, hp, hq, rfl, rfl, rfl, rfl, rfl⟩)
  obtain ⟨u, w1, w2, w4⟩ := m4 p (by omega)
  have ev : u = v := nI_inj (by omega) (by omega) (w1.symm.trans hv)
  subst ev
  refine ⟨by rw [← hr, ← w4 q (by omega)], y, _, _, _, _, _, _, _, _, _, _, hy, ⟨m1, m2, m3, fun i hi => ?_, m5, m6⟩, hW, g0, g1, g2⟩
  by_cases e : i = p
  · rw [e, upd_s, upd_s]
    refine ⟨v', rfl, hv', fun j hj => ?_⟩
    rw [setI_get (by omega) (by omega), hb j hj, w4 j hj]
  · rw [upd_n _ _ e, upd_n _ _ e]; exact m4 i hi
end LIS
theorem bt_nI (v : Nat) {i : Nat} (hi : i < 32) : bt (nI v) i = v.testBit i := by
  unfold bt
  show (BitVec.ofNat 32 v).getLsbD i = _
  rw [BitVec.getLsbD_ofNat, decide_eq_true hi, Bool.true_and]
theorem of_bt {R : Int32} {n : Nat} (hn : n ≤ 31) (h : ∀ i, n ≤ i → i < 32 → bt R i = false) : ∃ v, R = nI v ∧ v < 2 ^ n ∧ ∀ i, i < 32 → v.testBit i = bt R i := by
  obtain ⟨v, h1, h2⟩ := wb_of32 R
  have h3 : ∀ i, i < 32 → v.testBit i = bt R i := fun i hi => by rw [h2, bt_nI v hi]
  refine ⟨v, h2, ?_, h3⟩
  refine Nat.lt_pow_two_of_testBit v (fun i hi => ?_)
  rcases Nat.lt_or_ge i 32 with h4 | h4
  · rw [h3 i h4]; exact h i hi h4
  · exact Nat.testBit_lt_two_pow (Nat.lt_of_lt_of_le h1 (Nat.pow_le_pow_right (by decide) h4))
theorem bt_or {v s : Nat} (hs : s < 31) {i : Nat} (hi : i < 32) : bt (nI v ||| nI (2 ^ s)) i = if i = s then true else v.testBit i := by
  rw [b_or, bt_nI v hi, bt_nI _ hi, Nat.testBit_two_pow]
  by_cases h : i = s
  · rw [if_pos h, decide_eq_true (show s = i by omega), Bool.or_true]
  · rw [if_neg h, decide_eq_false (show ¬ s = i by omega), Bool.or_false]
theorem bt_andn {v s : Nat} (hs : s < 31) {i : Nat} (hi : i < 32) : bt (nI v &&& (nI (2 ^ s) ^^^ (-1))) i = if i = s then false else v.testBit i := by
  rw [b_and, b_xor, bt_nI v hi, bt_nI _ hi, b_m1 i hi, Nat.testBit_two_pow]
  by_cases h : i = s
  · rw [if_pos h, decide_eq_true (show s = i by omega)]
    exact Bool.and_false _
  · rw [if_neg h, decide_eq_false (show ¬ s = i by omega)]
    exact Bool.and_true _
theorem mask_v {v q : Nat} {b : Bool} {R : Int32} (hv : v < 524288) (hq : q < 16) (h : ∀ i, i < 32 → bt R i = if i = 3 + q then b else v.testBit i) : ∃ v', R = nI v' ∧ v' < 524288 ∧ v' % 8 = v % 8 ∧ ∀ j, j < 16 → v'.testBit (3 + j) = if j = q then b else v.testBit (3 + j) := by
  obtain ⟨v', h1, h2, h3⟩ := of_bt (R := R) (n := 19) (by decide) (fun i h4 h5 => by rw [h i h5, if_neg (by omega)]; exact Nat.testBit_lt_two_pow (Nat.lt_of_lt_of_le (show v < 2 ^ 19 by omega) (Nat.pow_le_pow_right (by decide) h4)))
  refine ⟨v', h1, by omega, ?_, fun j hj => ?_⟩
  · refine Nat.eq_of_testBit_eq (fun i => ?_)
    rw [show (8 : Nat) = 2 ^ 3 by decide, Nat.testBit_mod_two_pow, Nat.testBit_mod_two_pow]
    by_cases h4 : i < 3
    · rw [h3 i (by omega), h i (by omega), if_neg (by omega)]
    · rw [decide_eq_false h4, Bool.false_and, Bool.false_and]
  · rw [h3 _ (by omega), h _ (by omega)]
    by_cases h4 : j = q
    · rw [if_pos (by omega), if_pos h4]
    · rw [if_neg (by omega), if_neg h4]
theorem mask_b {v q : Nat} {b : Bool} {R : Int32} (hv : v < 64) (hq : q < 6) (h : ∀ i, i < 32 → bt R i = if i = q then b else v.testBit i) : ∃ v', R = nI v' ∧ v' < 64 ∧ ∀ j, j < 6 → v'.testBit j = if j = q then b else v.testBit j := by
  obtain ⟨v', h1, h2, h3⟩ := of_bt (R := R) (n := 6) (by decide) (fun i h4 h5 => by rw [h i h5, if_neg (by omega)]; exact Nat.testBit_lt_two_pow (Nat.lt_of_lt_of_le (show v < 2 ^ 6 by omega) (Nat.pow_le_pow_right (by decide) h4)))
  exact ⟨v', h1, by omega, fun j hj => by rw [h3 _ (by omega), h _ (by omega)]⟩
theorem tb_val (v k : Nat) : v / 2 ^ k &&& 1 = if v.testBit k = true then 1 else 0 := by
  by_cases h : v.testBit k = true
  · rw [if_pos h]; exact (tb_iff1 v k).mpr h
  · rw [if_neg h]
    have h1 : ¬ (v / 2 ^ k &&& 1 = 1) := fun e => h ((tb_iff1 v k).mp e)
    rw [Nat.and_one_is_mod] at h1 ⊢
    omega
