/-! learning and forgetting, as the law notes them -/
theorem cntW_mono (B : Nat) (ps : Nat → Nat) (p : Nat) {a b : Nat} (h : a ≤ b) : cntW B ps p a ≤ cntW B ps p b := by
  induction b with
  | zero => rw [show a = 0 by omega]; exact Nat.le_refl _
  | succ b ih =>
    rcases Nat.lt_or_ge a (b + 1) with h1 | h1
    · have := ih (by omega)
      show _ ≤ cntW B ps p b + _
      omega
    · rw [show a = b + 1 by omega]; exact Nat.le_refl _
theorem cntW_t {B : Nat} {ps : Nat → Nat} {k : Nat} (h : B.testBit k = true) : cntW B ps (ps k) (k + 1) = cntW B ps (ps k) k + 1 := by
  show cntW B ps (ps k) k + (if B.testBit k = true ∧ ps k = ps k then 1 else 0) = _
  rw [if_pos ⟨h, rfl⟩]
theorem cntW_n {B : Nat} {ps : Nat → Nat} {k p : Nat} (h : ¬ (B.testBit k = true ∧ ps k = p)) : cntW B ps p (k + 1) = cntW B ps p k := by
  show cntW B ps p k + (if B.testBit k = true ∧ ps k = p then 1 else 0) = _
  rw [if_neg h]
  rfl
theorem cntW_le (B : Nat) (ps : Nat → Nat) (p : Nat) : ∀ n, cntW B ps p n ≤ n := by
  intro n
  induction n with
  | zero => exact Nat.le_refl _
  | succ n ih => unfold cntW; split <;> omega
theorem cntW_congr {B : Nat} {ps ps' : Nat → Nat} {p : Nat} : ∀ n, (∀ i, i < n → B.testBit i = true → ps i = ps' i) → cntW B ps p n = cntW B ps' p n := by
  intro n
  induction n with
  | zero => intro _; rfl
  | succ n ih =>
    intro h
    unfold cntW
    rw [ih (fun i hi => h i (by omega))]
    by_cases h1 : B.testBit n = true
    · rw [h n (by omega) h1]
    · rw [if_neg (fun h2 => h1 h2.1), if_neg (fun h2 => h1 h2.1)]
theorem cntW_ext {B : Nat} {ps : Nat → Nat} {p m : Nat} (hB : B < 2 ^ m) : ∀ n, m ≤ n → cntW B ps p n = cntW B ps p m := by
  intro n
  induction n with
  | zero => intro h; rw [show m = 0 by omega]
  | succ n ih =>
    intro h
    rcases Nat.lt_or_ge n m with h1 | h1
    · rw [show m = n + 1 by omega]
    · rw [cntW_n (fun h2 => by
        have h3 := Nat.testBit_lt_two_pow (Nat.lt_of_lt_of_le hB (Nat.pow_le_pow_right (by decide) h1))
        rw [h3] at h2
        cases h2.1), ih h1]
/-- a bit more at the low end -/
theorem cntW_sh {M b : Nat} (hb : b < 2) {ps : Nat → Nat} {p : Nat} : ∀ n, cntW (2 * M + b) ps p (n + 1) = cntW M (fun i => ps (i + 1)) p n + (if b = 1 ∧ ps 0 = p then 1 else 0) := by
  intro n
  induction n with
  | zero =>
    show 0 + (if (2 * M + b).testBit 0 = true ∧ ps 0 = p then 1 else 0) = 0 + _
    congr 1
    have h : (2 * M + b).testBit 0 = true ↔ b = 1 := by
      rw [Nat.testBit_zero, decide_eq_true_iff]
      omega
    by_cases h1 : b = 1
    · rw [h.mpr h1]; simp [h1]
    · rw [if_neg (fun h2 => h1 (h.mp h2.1)), if_neg (fun h2 => h1 h2.1)]
  | succ n ih =>
    have h : (2 * M + b).testBit (n + 1) = M.testBit n := by
      rw [Nat.testBit_succ]
      congr 1
      omega
    show cntW (2 * M + b) ps p (n + 1) + (if (2 * M + b).testBit (n + 1) = true ∧ ps (n + 1) = p then 1 else 0) = cntW M (fun i => ps (i + 1)) p n + (if M.testBit n = true ∧ ps (n + 1) = p then 1 else 0) + _
    rw [ih, h]
    omega
theorem wk_byte {K B k : Nat} (hk : k < 5) : (K + B * 1099511627776) / 2 ^ (8 * k) % 256 = K / 256 ^ k % 256 := by
  rw [p2_8]
  rcases (by omega : k = 0 ∨ k = 1 ∨ k = 2 ∨ k = 3 ∨ k = 4) with rfl | rfl | rfl | rfl | rfl <;> omega
theorem wk_bit {K B k : Nat} (hK : K < 1099511627776) (hk : k < 5) : (K + B * 1099511627776) / 2 ^ (40 + k) % 2 = B / 2 ^ k % 2 := by
  rw [Nat.pow_add, ← Nat.div_div_eq_div_mul]
  congr 1
  congr 1
  rw [show (2 : Nat) ^ 40 = 1099511627776 by decide]
  omega
theorem wk_tb {K B k : Nat} (hK : K < 1099511627776) (hk : k < 5) : (K + B * 1099511627776) / 2 ^ (40 + k) % 2 = 1 ↔ B.testBit k = true := by
  rw [wk_bit hK hk, Nat.testBit_eq_decide_div_mod_eq, decide_eq_true_iff]
theorem lrx_r {P Q : Prop} {r : Int32} {E : String} (hq : ¬ Q) (h : (E = EIAE ∧ P) ∨ (E = EISE ∧ Q)) (hc : (E = EIAE ∧ r = -72) ∨ (E = EISE ∧ r = -73)) : r = -72 := by
  rcases h with ⟨h1, _⟩ | ⟨_, h1⟩
  · rcases hc with ⟨_, h2⟩ | ⟨h2, _⟩
    · exact h2
    · rw [h1] at h2
      exact absurd h2 (by decide)
  · exact absurd h1 hq
theorem lrx_s {P Q : Prop} {r : Int32} {E : String} (hp : ¬ P) (h : (E = EIAE ∧ P) ∨ (E = EISE ∧ Q)) (hc : (E = EIAE ∧ r = -72) ∨ (E = EISE ∧ r = -73)) : r = -73 := by
  rcases h with ⟨_, h1⟩ | ⟨h1, _⟩
  · exact absurd h1 hp
  · rcases hc with ⟨h2, _⟩ | ⟨_, h2⟩
    · rw [h1] at h2
      exact absurd h2 (by decide)
    · exact h2
theorem aK_pt {l : SP} (hb : bOK l) {j : Nat} (h1 : 0 < j) (h : j ≤ l.length) : aK l / 2 ^ (8 * (j - 1) + 3) % 32 = spP l (l.length - j) + 1 := by
  have h2 := aK_byte hb (show l.length - j < l.length by omega)
  rw [show l.length - 1 - (l.length - j) = j - 1 by omega] at h2
  have h3 := (bt2_P h2 (hb _ (by omega))).1
  rw [Nat.pow_add, ← Nat.div_div_eq_div_mul]
  exact h3
theorem byP_aK {l : SP} (hb : bOK l) {j : Nat} (h : j < l.length) : 8 ≤ aK l / 256 ^ j % 256 ∧ byP (aK l) j = spP l (l.length - 1 - j) := by
  have h2 := aK_byte hb (show l.length - 1 - j < l.length by omega)
  rw [show l.length - 1 - (l.length - 1 - j) = j by omega, p2_8] at h2
  have h3 := bt2_bd (hb _ (show l.length - 1 - j < l.length by omega))
  change 8 ≤ bt2 (l.getD (l.length - 1 - j) (0, 0)) ∧ _ at h3
  refine ⟨by omega, ?_⟩
  unfold byP
  rw [h2, bt2_p.1]
  rfl
section LIL
variable {x : LX} {np nl lu tu : Nat} {T C F LT VV BB wd gr gs bl ie : Nat → Int32} {qt qc qf qb ql : Nat → Int32} {qw : Nat → Int64} {qh qg : Nat → Int32}
theorem LI_last (h : LI x np nl lu tu T C F LT VV BB wd gr gs bl ie qt qc qf qb ql qw qh qg) (hlu : 0 < lu) : ∃ K B n gv, qw (lu - 1) = lN (K + B * 1099511627776) ∧ K < 1099511627776 ∧ B < 32 ∧ (∀ j, j < 5 → B.testBit j = true → 8 ≤ K / 256 ^ j % 256 ∧ byP K j < np) ∧ (∀ p, p < np → cntW B (byP K) p 5 + 1 ≤ lC x p) ∧ (gs (lu - 1) = nI n ∧ n ≤ 8) ∧ (∀ i, i < n → gr ((lu - 1) * 8 + i) = nI (gv i) ∧ gv i < 16) ∧ qh (lu - 1) = wd (lu - 1) ∧ ∃ y, ∀ qc' qg' : Nat → Int32, (∀ p, p < np → qc' p = nI (lC x p - cntW B (byP K) p 5)) → qg' 0 = nI np → qg' 1 = nI nl → qg' 2 = nI (lu - 1) → LI y np nl (lu - 1) tu T (tkb C gv n) F LT VV BB wd gr gs bl ie qt qc' qf qb ql qw qh qg' := by
  obtain ⟨T2, S2, C2, F2, LT2, LS2, VE, BA, wd2, mo, hI, ⟨m1, m2, m3, m4, m5, m6⟩, hW, g0, g1, g2⟩ := h
  obtain ⟨e1, e2, e3, e4, e5, e6, e7, e8⟩ := inv_np hI
  obtain ⟨a1, K, B, a2, a3, a4, a5, a6⟩ := hW (lu - 1) (by omega)
  obtain ⟨nf, gvf, b1, b2, b3⟩ := les_last hI
  have hcw : ∀ p, p < np → cntW B (byP K) p 5 + 1 ≤ lC x p ∧ C2 p = nI (lC x p) := by
    intro p hp
    refine ⟨?_, hI.2.2.1.2.2.2.2.1 p hp⟩
    obtain ⟨c1, n', gv', c2, c3⟩ := hI.2.2.2.2.2.2
    obtain ⟨d1, d2, d3, d4, d5⟩ := c2 (lu - 1) (by omega)
    have h1 := a6 p (by omega)
    rw [d4 p (by omega)] at h1
    have h2 := cntg_mono (g := gv' (lu - 1)) (p := p) (show n' (lu - 1) ≤ n' (lu - 1) from Nat.le_refl _)
    have h3 := cntW_le B (byP K) p 5
    have h4 : ∀ m, cntg (gv' (lu - 1)) m p ≤ m := by
      intro m
      induction m with
      | zero => exact Nat.le_refl _
      | succ m ih => unfold cntg; split <;> omega
    have h5 := h4 (n' (lu - 1))
    have h6 := nI_inj (by omega) (by omega) h1
    have h7 := c3 p (by omega)
    rw [show lu = (lu - 1) + 1 by omega] at h7
    have h8 : sumL n' gv' (lu - 1 + 1) p = sumL n' gv' (lu - 1) p + cntg (gv' (lu - 1)) (n' (lu - 1)) p := rfl
    rw [← h6]
    omega
  have hmid : ∀ r rc : Int32, _ := fun r rc => b3 r rc 0 (lu - 1) (fun p => C2 p - mo (16 * (lu - 1) + p))
  obtain ⟨-, h10, y, hy⟩ := hmid (wd2 (lu - 1)) (wd (lu - 1)) ⟨hlu, rfl⟩ (Or.inr ⟨hlu, rfl, rfl, rfl, fun p _ => rfl⟩)
  refine ⟨K, B, nf (lu - 1), gvf (lu - 1), a2, a3, a4, a5, fun p hp => (hcw p hp).1, b1 hlu, b2 hlu, a1.trans h10, y, fun qc' qg' hc h0 h1 h2 => ⟨_, _, _, _, _, _, _, _, _, _, hy, ⟨m1, fun i hi => ?_, m3, m4, m5, m6⟩, fun k hk => hW k (by omega), h0, h1, h2⟩⟩
  rw [hc i hi]
  show _ = C2 i - mo (16 * (lu - 1) + i)
  rw [(hcw i hi).2, a6 i (by omega), nI_subN (by have := (hcw i hi).1; omega)]
theorem lrn_f {x : LX} {L w : Nat} {fs : Nat → SP} {F9 lu1 : Nat} {r : Int32} {C1 gr1 gs1 wd1 : Nat → Int32} (hwb : w < 1000000000) (hSZ : SZ (nI w) 8 = L) (hL : L ≤ 8) (hSR : SR x L (dgt w L) fs F9) (hF : F9 ≤ 32) (hns : F9 = 0 ∨ (1 < F9 ∧ cS x (fs 1) - 15 < cS x (fs 0) - 15 + 20)) (h : cLearn x np (nI w) r lu C gr gs wd lu1 C1 gr1 gs1 wd1) : r = bI false ∧ lu1 = lu ∧ C1 = C ∧ gr1 = gr ∧ gs1 = gs ∧ wd1 = wd := by
  obtain ⟨w', h1, h2, h3, h4, h5⟩ := h
  rw [hSZ] at h5
  rw [← nI_inj (by omega) (by omega) h1] at h5
  rcases h5 with ⟨sl, a1, a2, _⟩ | ⟨a1, a2, a3, a4, a5, a6, _⟩
  · exfalso
    have b1 := SR_sel hL hSR hF (k := 0) (by decide) a1
    rcases hns with hns | ⟨hn1, hn2⟩
    · rw [if_neg (by omega)] at b1
      cases b1
    · rw [if_pos (by omega)] at b1
      cases b1
      rw [SR_len hL hSR] at a2
      rcases a2 with a2 | ⟨_, s2, c1, c2⟩
      · omega
      · have b2 := SR_sel hL hSR hF (k := 1) (by decide) c1
        rw [if_pos hn1] at b2
        cases b2
        rw [SR_cost hL hSR (show 0 < F9 by omega), SR_cost hL hSR hn1] at c2
        omega
  · exact ⟨a1, a2, a3, a4, a5, a6⟩
theorem LI_learn (h : LI x np nl lu tu T C F LT VV BB wd gr gs bl ie qt qc qf qb ql qw qh qg) {L w M : Nat} {fs : Nat → SP} {F9 lu1 : Nat} {r : Int32} {C1 gr1 gs1 wd1 qc' qg' : Nat → Int32} (hwb : w < 1000000000) (hSZ : SZ (nI w) 8 = L) (hL : 1 ≤ L ∧ L ≤ 5) (hSR : SR x L (dgt w L) fs F9) (hF : F9 ≤ 32) (hsr : F9 = 1 ∨ (1 < F9 ∧ cS x (fs 0) - 15 + 20 ≤ cS x (fs 1) - 15)) (hl : cLearn x np (nI w) r lu C gr gs wd lu1 C1 gr1 gs1 wd1) (hc : ∀ p, p < np → qc' p = nI ((lrn (lC x) (fs 0) (fs 0).length).1 p)) (hM : M < 2 ^ (fs 0).length) (hM2 : ∀ p, cntW M (fun i => spP (fs 0) ((fs 0).length - 1 - i)) p (fs 0).length = (lrn (lC x) (fs 0) (fs 0).length).2 p) (h0 : qg' 0 = nI np) (h1 : qg' 1 = nI nl) (h2 : qg' 2 = nI (lu + 1)) : r = bI true ∧ ∃ y, LI y np nl lu1 tu T C1 F LT VV BB wd1 gr1 gs1 bl ie qt qc' qf qb ql (vp_updL qw lu (lN (aK (fs 0) + M * 1099511627776))) (upd qh lu (nI w)) qg' := by
  obtain ⟨hok, -, -, -, ⟨hnpx, -, -⟩, -⟩ := h.facts
  obtain ⟨T2, S2, C2, F2, LT2, LS2, VE, BA, wd2, mo, hI, ⟨m1, m2, m3, m4, m5, m6⟩, hW, g0, g1, g2⟩ := h
  obtain ⟨b1, b2, b3, b4⟩ := SR_bd hok (fun k => dgt_lt w L k) hSR (show 0 < F9 by omega)
  have hl0 := hl
  obtain ⟨w', c1, c2, c3, c4, c5⟩ := hl
  have hw' : w' = w := (nI_inj (by omega) (by omega) c1).symm
  subst hw'
  rcases c5 with ⟨sl, a1, a2, a3, a4, -⟩ | ⟨-, -, -, -, -, -, a7⟩
  · have hsl : sl = fs 0 := by
      have a1' := a1
      rw [hSZ] at a1'
      have := SR_sel (by omega) hSR hF (k := 0) (by decide) a1'
      rw [if_pos (by omega)] at this
      exact Option.some.inj this
    subst hsl
    subst a4
    have hles : lesson x np lu mo (fs 0) qc' (fun j => if j < 16 * lu then mo j else nI ((lrn (lC x) (fs 0) (fs 0).length).2 (j - 16 * lu))) :=
      ⟨hc, fun p hp => by dsimp only; rw [if_neg (by omega), show 16 * lu + p - 16 * lu = p by omega], fun j hj => if_pos hj⟩
    obtain ⟨-, -, -, y, hy⟩ := st_learn_n (th1 := 0) (ld1 := lu + 1) (r := bI true) (C1 := qc') hI hl0 (Or.inr (Or.inr ⟨w', rfl, c2, c3, c4, rfl, Or.inl ⟨fs 0, a1, a2, rfl, rfl, hles, rfl⟩⟩))
    refine ⟨a3, y, _, _, _, _, _, _, _, _, _, _, hy, ⟨m1, fun i hi => rfl, m3, m4, m5, m6⟩, fun k hk => ?_, h0, h1, h2⟩
    rcases Nat.lt_or_ge k lu with hk1 | hk1
    · obtain ⟨d1, K, B, d2, d3, d4, d5, d6⟩ := hW k hk1
      refine ⟨by rw [upd_n _ _ (by omega), upd_n _ _ (by omega)]; exact d1, K, B, by rw [updL_n _ _ (by omega)]; exact d2, d3, d4, d5, fun p hp => ?_⟩
      dsimp only
      rw [if_pos (by omega)]
      exact d6 p hp
    · have hk2 : k = lu := by omega
      subst hk2
      have hKb := aK_lt b2 (fs 0).length (Nat.le_refl _)
      rw [aK_all] at hKb
      have hK5 := p256 (show (fs 0).length ≤ 5 by omega)
      rw [show (256 : Nat) ^ 5 = 1099511627776 by decide] at hK5
      have hM5 : M < 32 := Nat.lt_of_lt_of_le hM (Nat.pow_le_pow_right (n := 2) (by decide) (show (fs 0).length ≤ 5 by omega))
      have hbit : ∀ j, M.testBit j = true → j < (fs 0).length := fun j hj => by
        rcases Nat.lt_or_ge j (fs 0).length with q | q
        · exact q
        · rw [Nat.testBit_lt_two_pow (Nat.lt_of_lt_of_le hM (Nat.pow_le_pow_right (by decide) q))] at hj
          cases hj
      refine ⟨by rw [upd_s, upd_s], aK (fs 0), M, updL_s _ _ _, by omega, hM5, fun j hj hb => ?_, fun p hp => ?_⟩
      · obtain ⟨q1, q2⟩ := byP_aK b2 (hbit j hb)
        refine ⟨q1, ?_⟩
        rw [q2, hnpx]
        exact (b1 _ (by have := hbit j hb; omega)).1
      · dsimp only
        rw [if_neg (by omega), show 16 * k + p - 16 * k = p by omega, ← hM2 p, cntW_ext hM 5 (by omega)]
        congr 1
        exact cntW_congr _ (fun i hi _ => (byP_aK b2 hi).2.symm)
  · exfalso
    rw [hSZ, SR_len (by omega) hSR] at a7
    rcases a7 with a7 | ⟨sl, s2, d1, d2, d3⟩
    · omega
    · have q1 := SR_sel (by omega) hSR hF (k := 0) (by decide) d1
      have q2 := SR_sel (by omega) hSR hF (k := 1) (by decide) d2
      rw [if_pos (by omega)] at q1
      cases q1
      rcases hsr with hsr | ⟨hn1, hn2⟩
      · rw [if_neg (by omega)] at q2
        cases q2
      · rw [if_pos hn1] at q2
        cases q2
        rw [SR_cost (by omega) hSR (show 0 < F9 by omega), SR_cost (by omega) hSR hn1] at d3
        omega
end LIL
