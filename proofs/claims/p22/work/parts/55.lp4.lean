/-! one step of the queue, as the law makes it -/
def PrP (j p : Nat) : Nat → Nat × Nat → Prop := fun i z => i < j ∨ (i = j ∧ z.2 < p)
def PrL (j p k : Nat) : Nat → Nat × Nat → Prop := fun i z => i < j ∨ (i = j ∧ (z.2 < p ∨ (z.2 = p ∧ z.1 % 7 < k)))
/-- the place that a part and a link make -/
def yO (x : LX) (p c : Nat) : Nat × Nat := ((4 - szN (lT x p)) * 7 + c, p)
def fits1 (x : LX) (L : Nat) (d : Nat → Nat) (e : Nat) (pv : Option Nat) (p : Nat) : Prop := wAt x L d e (szN (lT x p)) = some p ∧ vetoed x pv p = false ∧ okF (lF x p) pv.isNone (decide (e + szN (lT x p) = L)) = true
section QBS
variable {x : LX} {L : Nat} {d : Nat → Nat} {qs : Nat → SP} {N : Nat} {fs : Nat → SP} {F : Nat} {Q : SP} {e j p : Nat} {pv : Option Nat}
theorem ext_of (hd : ∀ k, d k ≤ 9) (hP : PS x L d Q 0 none e pv) {z : Nat × Nat} {e' : Nat} {pv' : Option Nat} (h : PS x L d (Q ++ [z]) 0 none e' pv') : fits1 x L d e pv z.2 ∧ z = yO x z.2 (z.1 % 7) ∧ z.2 < lNp x ∧ ((z.1 % 7 = 0 ∧ e' = e + szN (lT x z.2)) ∨ (0 < z.1 % 7 ∧ lkOK x L d (e + szN (lT x z.2)) z.2 (z.1 % 7 - 1) = true ∧ e' < L)) := by
  obtain ⟨m, rv, h1, h2, h3, h4, h5⟩ := PS_push.mp h
  obtain ⟨rfl, rfl⟩ := PS_fun _ _ _ _ _ _ _ h1 hP
  obtain ⟨w1, w2⟩ := stp_e h4
  obtain ⟨w3, w4, w5⟩ := wAt_some w1
  have hn : szN (lT x z.2) = 4 - z.1 / 7 := by rw [w5, TA_szN hd m (by omega) (by omega)]
  have hz : z = yO x z.2 (z.1 % 7) := by
    unfold yO
    rw [hn]
    have := Nat.div_add_mod z.1 7
    exact Prod.ext (by show z.1 = (4 - (4 - z.1 / 7)) * 7 + z.1 % 7; omega) rfl
  have h0 : stp x L d m rv (4 - z.1 / 7) 0 = some (z.2, m + (4 - z.1 / 7)) := by
    rcases stp_lk.mp h4 with ⟨a1, a2⟩ | ⟨a1, a2, _⟩
    · have := stp_e a2
      rcases this.2 with ⟨_, b⟩ | ⟨b, _⟩
      · rw [b] at a2; exact a2
      · omega
    · exact a2
  have hv : vetoed x rv z.2 = false := by
    cases hv : vetoed x rv z.2 with
    | false => rfl
    | true => rw [stp_veto w1 hv] at h0; cases h0
  have hf : okF (lF x z.2) rv.isNone (decide (m + szN (lT x z.2) = L)) = true := by
    rw [stp_eq w1 hv] at h0
    rw [hn]
    cases hf : okF (lF x z.2) rv.isNone (decide (m + (4 - z.1 / 7) = L)) with
    | true => rfl
    | false => rw [hf] at h0; simp at h0
  refine ⟨⟨by rw [hn]; exact w1, hv, hf⟩, hz, w4, ?_⟩
  rcases stp_lk.mp h4 with ⟨a1, a2⟩ | ⟨a1, a2, a3, a4⟩
  · left
    rw [h0] at a2
    exact ⟨a1, by rw [hn]; exact (Prod.mk.inj (Option.some.inj a2)).2.symm⟩
  · right
    rw [hn]
    exact ⟨a1, a3, by have := (lkOK_iff.mp a3).2.2.1; omega⟩

theorem ext_mk (hok : lxOK x) (hP : PS x L d Q 0 none e pv) (he : e < L) (h : fits1 x L d e pv p) (c : Nat) (hc : c < 7) (hl : c = 0 ∨ lkOK x L d (e + szN (lT x p)) p (c - 1) = true) : ∃ e', PS x L d (Q ++ [yO x p c]) 0 none e' (some p) ∧ e' = e + szN (lT x p) + lsO x c ∧ (c = 0 ∨ e' < L) := by
  obtain ⟨w, v, f⟩ := h
  obtain ⟨w3, w4, w5⟩ := wAt_some w
  obtain ⟨t1, t2, t3, t4⟩ := hok.2.2.1 p w4
  have hn : 4 - (yO x p c).1 / 7 = szN (lT x p) := by unfold yO; dsimp only; omega
  have hm : (yO x p c).1 % 7 = c := by unfold yO; dsimp only; omega
  have h0 : stp x L d e pv (szN (lT x p)) 0 = some (p, e + szN (lT x p)) := by
    rw [stp_eq w v, if_pos f, if_pos rfl]
  rcases Nat.eq_zero_or_pos c with h1 | h1
  · refine ⟨e + szN (lT x p), PS_push.mpr ⟨e, pv, hP, by unfold yO; dsimp only; omega, he, ?_, rfl⟩, by rw [h1, show lsO x 0 = 0 from if_pos rfl, Nat.add_zero], Or.inl h1⟩
    rw [hn, hm, h1]
    exact h0
  · have hl : lkOK x L d (e + szN (lT x p)) p (c - 1) = true := by
      rcases hl with h2 | h2
      · omega
      · exact h2
    refine ⟨e + szN (lT x p) + szN (lU x (c - 1)), PS_push.mpr ⟨e, pv, hP, by unfold yO; dsimp only; omega, he, ?_, rfl⟩, by unfold lsO; rw [Nat.mod_eq_of_lt hc, if_neg (by omega)], Or.inr (lkOK_iff.mp hl).2.2.1⟩
    rw [hn, hm]
    exact stp_lk.mpr (Or.inr ⟨h1, h0, hl, rfl⟩)
theorem QB_p0 (h : QB x L d qs N fs F (fun i _ => i < j)) (hj : j < N) : QB x L d qs N fs F (PrP j 0) :=
  QB_skip h (fun i z h1 => Or.inl h1) (fun i z h1 => by rcases h1 with h1 | ⟨h1, h2⟩ <;> omega) (fun i z h1 => by
    rcases h1 with h1 | ⟨h1, h2⟩
    · exact Or.inl h1
    · omega)
theorem QB_no (hd : ∀ k, d k ≤ 9) (h : QB x L d qs N fs F (PrP j p)) (hj : j < N) (hq : qs j = Q) (hP : PS x L d Q 0 none e pv) (hno : ¬ fits1 x L d e pv p) : QB x L d qs N fs F (PrP j (p + 1)) :=
  QB_skip h (fun i z h1 => by rcases h1 with h1 | ⟨h1, h2⟩; exact Or.inl h1; exact Or.inr ⟨h1, by omega⟩) (fun i z h1 => by rcases h1 with h1 | ⟨h1, h2⟩ <;> omega) (fun i z h1 => by
    rcases h1 with h1 | ⟨h1, h2⟩
    · exact Or.inl (Or.inl h1)
    · rcases Nat.lt_or_ge z.2 p with h3 | h3
      · exact Or.inl (Or.inr ⟨h1, h3⟩)
      · right
        intro e' pv' h4
        rw [h1, hq] at h4
        have h5 := (ext_of hd hP h4).1
        rw [show z.2 = p by omega] at h5
        exact hno h5)
theorem QB_ins (hok : lxOK x) (hd : ∀ k, d k ≤ 9) (hL : L ≤ 8) (h : QB x L d qs N fs F (PrP j p)) (hj : j < N) (hq : qs j = Q) (hP : PS x L d Q 0 none e pv) (he : e < L) (hf : fits1 x L d e pv p) (hE : e + szN (lT x p) = L) {k : Nat} (hk : k ≤ F) (h1 : ∀ i, k ≤ i → i < F → ckl x (Q ++ [yO x p 0]) < ckl x (fs i)) (h2 : k = 0 ∨ ¬ ckl x (Q ++ [yO x p 0]) < ckl x (fs (k - 1))) : QB x L d qs N (insS fs k (Q ++ [yO x p 0])) (F + 1) (PrP j (p + 1)) := by
  subst hq
  obtain ⟨e', a1, a2, a3⟩ := ext_mk hok hP he hf 0 (by omega) (Or.inl rfl)
  have a4 : e' = L := by rw [a2, show lsO x 0 = 0 from if_pos rfl]; omega
  subst a4
  refine QB_f hL h hj ?_ a1 hk h1 h2 (fun i z h3 => by rcases h3 with h3 | ⟨h3, h4⟩; exact Or.inl h3; exact Or.inr ⟨h3, by omega⟩) (Or.inr ⟨rfl, by unfold yO; dsimp only; omega⟩) (fun i z h1 => by rcases h1 with h1 | ⟨h1, h2⟩ <;> omega) (fun i z h3 => ?_)
  · intro h3
    rcases h3 with h3 | ⟨_, h3⟩
    · omega
    · unfold yO at h3; dsimp only at h3; omega
  · rcases h3 with h3 | ⟨h3, h4⟩
    · exact Or.inl (Or.inl h3)
    · rcases Nat.lt_or_ge z.2 p with h5 | h5
      · exact Or.inl (Or.inr ⟨h3, h5⟩)
      · by_cases h6 : z = yO x p 0
        · exact Or.inr (Or.inl ⟨h3, h6⟩)
        · right; right
          intro e2 pv2 h7
          rw [h3] at h7
          obtain ⟨b1, b2, b3, b4⟩ := ext_of hd hP h7
          have hz : z.2 = p := by omega
          rcases b4 with ⟨b4, _⟩ | ⟨_, b4, _⟩
          · rw [hz, b4] at b2
            exact h6 b2
          · rw [hz] at b4
            have := (lkOK_iff.mp b4).2.2.1
            omega
theorem QB_l0 (hok : lxOK x) (hd : ∀ k, d k ≤ 9) (h : QB x L d qs N fs F (PrP j p)) (hj : j < N) (hq : qs j = Q) (hP : PS x L d Q 0 none e pv) (he : e < L) (hf : fits1 x L d e pv p) (hE : e + szN (lT x p) < L) : QB x L d (updS qs N (Q ++ [yO x p 0])) (N + 1) fs F (PrL j p 1) := by
  subst hq
  obtain ⟨e', a1, a2, a3⟩ := ext_mk hok hP he hf 0 (by omega) (Or.inl rfl)
  have a4 : e' = e + szN (lT x p) := by rw [a2, show lsO x 0 = 0 from if_pos rfl]; omega
  refine QB_q h hj ?_ a1 (by omega) (fun i z h3 => by rcases h3 with h3 | ⟨h3, h4⟩; exact Or.inl h3; exact Or.inr ⟨h3, Or.inl h4⟩) (Or.inr ⟨rfl, Or.inr ⟨rfl, by unfold yO; dsimp only; omega⟩⟩) (fun i z h1 => by rcases h1 with h1 | ⟨h1, h2⟩ <;> omega) (fun i z h3 => ?_)
  · intro h3
    rcases h3 with h3 | ⟨_, h3⟩
    · omega
    · unfold yO at h3; dsimp only at h3; omega
  · rcases h3 with h3 | ⟨h3, h4 | ⟨h4, h5⟩⟩
    · exact Or.inl (Or.inl h3)
    · exact Or.inl (Or.inr ⟨h3, h4⟩)
    · by_cases h6 : z = yO x p 0
      · exact Or.inr (Or.inl ⟨h3, h6⟩)
      · right; right
        intro e2 pv2 h7
        rw [h3] at h7
        obtain ⟨b1, b2, b3, b4⟩ := ext_of hd hP h7
        rw [h4, show z.1 % 7 = 0 by omega] at b2
        exact h6 b2
theorem QB_ln (hd : ∀ k, d k ≤ 9) {k : Nat} (h : QB x L d qs N fs F (PrL j p (k + 1))) (hj : j < N) (hq : qs j = Q) (hP : PS x L d Q 0 none e pv) (hno : ¬ lkOK x L d (e + szN (lT x p)) p k = true) : QB x L d qs N fs F (PrL j p (k + 1 + 1)) := by
  subst hq
  refine QB_skip h (fun i z h3 => by rcases h3 with h3 | ⟨h3, h4 | ⟨h4, h5⟩⟩; exact Or.inl h3; exact Or.inr ⟨h3, Or.inl h4⟩; exact Or.inr ⟨h3, Or.inr ⟨h4, by omega⟩⟩) (fun i z h1 => by rcases h1 with h1 | ⟨h1, h2⟩ <;> omega) (fun i z h3 => ?_)
  rcases h3 with h3 | ⟨h3, h4 | ⟨h4, h5⟩⟩
  · exact Or.inl (Or.inl h3)
  · exact Or.inl (Or.inr ⟨h3, Or.inl h4⟩)
  · rcases Nat.lt_or_ge (z.1 % 7) (k + 1) with h6 | h6
    · exact Or.inl (Or.inr ⟨h3, Or.inr ⟨h4, h6⟩⟩)
    · right
      intro e2 pv2 h7
      rw [h3] at h7
      obtain ⟨b1, b2, b3, b4⟩ := ext_of hd hP h7
      rcases b4 with ⟨b4, _⟩ | ⟨_, b4, _⟩
      · omega
      · rw [h4, show z.1 % 7 - 1 = k by omega] at b4
        exact hno b4
theorem QB_ly (hok : lxOK x) (hd : ∀ k, d k ≤ 9) {k : Nat} (h : QB x L d qs N fs F (PrL j p (k + 1))) (hj : j < N) (hq : qs j = Q) (hP : PS x L d Q 0 none e pv) (he : e < L) (hf : fits1 x L d e pv p) (hy : lkOK x L d (e + szN (lT x p)) p k = true) : QB x L d (updS qs N (Q ++ [yO x p (k + 1)])) (N + 1) fs F (PrL j p (k + 1 + 1)) := by
  subst hq
  have hk := (lkOK_iff.mp hy).1
  have hnl := hok.2.1
  obtain ⟨e', a1, a2, a3⟩ := ext_mk hok hP he hf (k + 1) (by omega) (Or.inr hy)
  refine QB_q h hj ?_ a1 (by omega) (fun i z h3 => by rcases h3 with h3 | ⟨h3, h4 | ⟨h4, h5⟩⟩; exact Or.inl h3; exact Or.inr ⟨h3, Or.inl h4⟩; exact Or.inr ⟨h3, Or.inr ⟨h4, by omega⟩⟩) (Or.inr ⟨rfl, Or.inr ⟨rfl, by unfold yO; dsimp only; omega⟩⟩) (fun i z h1 => by rcases h1 with h1 | ⟨h1, h2⟩ <;> omega) (fun i z h3 => ?_)
  · intro h3
    rcases h3 with h3 | ⟨_, h3⟩
    · omega
    · unfold yO at h3; dsimp only at h3; omega
  · rcases h3 with h3 | ⟨h3, h4 | ⟨h4, h5⟩⟩
    · exact Or.inl (Or.inl h3)
    · exact Or.inl (Or.inr ⟨h3, Or.inl h4⟩)
    · rcases Nat.lt_or_ge (z.1 % 7) (k + 1) with h6 | h6
      · exact Or.inl (Or.inr ⟨h3, Or.inr ⟨h4, h6⟩⟩)
      · by_cases h8 : z = yO x p (k + 1)
        · exact Or.inr (Or.inl ⟨h3, h8⟩)
        · right; right
          intro e2 pv2 h7
          rw [h3] at h7
          obtain ⟨b1, b2, b3, b4⟩ := ext_of hd hP h7
          rw [h4, show z.1 % 7 = k + 1 by omega] at b2
          exact h8 b2
theorem QB_le (hd : ∀ k, d k ≤ 9) (h : QB x L d qs N fs F (PrL j p (lNl x + 1))) (hj : j < N) (hq : qs j = Q) (hP : PS x L d Q 0 none e pv) : QB x L d qs N fs F (PrP j (p + 1)) := by
  subst hq
  refine QB_skip h (fun i z h3 => by rcases h3 with h3 | ⟨h3, h4 | ⟨h4, h5⟩⟩; exact Or.inl h3; exact Or.inr ⟨h3, by omega⟩; exact Or.inr ⟨h3, by omega⟩) (fun i z h1 => by rcases h1 with h1 | ⟨h1, h2⟩ <;> omega) (fun i z h3 => ?_)
  rcases h3 with h3 | ⟨h3, h4⟩
  · exact Or.inl (Or.inl h3)
  · rcases Nat.lt_or_ge z.2 p with h5 | h5
    · exact Or.inl (Or.inr ⟨h3, Or.inl h5⟩)
    · rcases Nat.lt_or_ge (z.1 % 7) (lNl x + 1) with h6 | h6
      · exact Or.inl (Or.inr ⟨h3, Or.inr ⟨by omega, h6⟩⟩)
      · right
        intro e2 pv2 h7
        rw [h3] at h7
        obtain ⟨b1, b2, b3, b4⟩ := ext_of hd hP h7
        rcases b4 with ⟨b4, _⟩ | ⟨_, b4, _⟩
        · omega
        · have := (lkOK_iff.mp b4).1
          omega
theorem QB_jn (hd : ∀ k, d k ≤ 9) (h : QB x L d qs N fs F (PrP j (lNp x))) (hj : j < N) (hq : qs j = Q) (hP : PS x L d Q 0 none e pv) : QB x L d qs N fs F (fun i _ => i < j + 1) := by
  subst hq
  refine QB_skip h (fun i z h3 => by rcases h3 with h3 | ⟨h3, h4⟩ <;> omega) (fun i z h1 => by omega) (fun i z h3 => ?_)
  rcases Nat.lt_or_ge i j with h4 | h4
  · exact Or.inl (Or.inl h4)
  · have h5 : i = j := by omega
    rcases Nat.lt_or_ge z.2 (lNp x) with h6 | h6
    · exact Or.inl (Or.inr ⟨h5, h6⟩)
    · right
      intro e2 pv2 h7
      rw [h5] at h7
      have := (ext_of hd hP h7).2.2.1
      omega
end QBS
theorem wt_iff {x : LX} (hok : lxOK x) {L : Nat} {d : Nat → Nat} {e p : Nat} (hp : p < lNp x) (hd : ∀ k, d k ≤ 9) : (if e + szN (lT x p) ≤ L then nI (TA d e (szN (lT x p))) else -1) = nI (lT x p) ↔ wAt x L d e (szN (lT x p)) = some p := by
  have hb := hok.t hp
  obtain ⟨t1, t2, t3, t4⟩ := hok.2.2.1 p hp
  unfold wAt
  split
  · constructor
    · intro h
      have h2 := nI_inj (Nat.lt_trans (TA_bd d hd e (show szN (lT x p) ≤ 8 by omega)) (by decide)) (by omega) h
      exact pw_of (fun i j hi hj e => hok.2.2.2.2.2.1 i j hi hj e) hp h2.symm
    · intro h
      rw [← (pw_some h).2]
  · constructor
    · intro h
      exact absurd h.symm (nI_nem1 (by omega))
    · intro h; cases h
theorem tb_iff1 (v k : Nat) : v / 2 ^ k &&& 1 = 1 ↔ v.testBit k = true := by
  rw [Nat.and_one_is_mod, Nat.testBit_eq_decide_div_mod_eq, decide_eq_true_iff]
theorem and_m8 {v n : Nat} (h : n < 8) : v &&& n = (v % 8) &&& n := by
  have h1 : v &&& n < 8 := Nat.lt_of_le_of_lt Nat.and_le_right h
  have h2 : (v &&& n) % 2 ^ 3 = (v % 2 ^ 3) &&& (n % 2 ^ 3) := Nat.and_mod_two_pow
  rw [Nat.mod_eq_of_lt h1, Nat.mod_eq_of_lt h] at h2
  exact h2
theorem lg_z_t {a : Nat} (h : ¬ lg_cmp (lN a) (lN 0) = 0) : a ≠ 0 := fun e => by
  subst e
  refine h ?_
  unfold lg_cmp
  rw [if_neg (Int64.lt_irrefl), if_pos rfl]
theorem lg_z_f {a : Nat} (ha : a < 9223372036854775808) (h : lg_cmp (lN a) (lN 0) = 0) : a = 0 := lN_inj ha (by decide) (lg_eq0 h)
theorem aK_z {l : SP} (hb : bOK l) : aK l = 0 ↔ l = [] := by
  constructor
  · intro h
    rcases snoc l with h1 | ⟨l', y, rfl⟩
    · exact h1
    · have h2 := hb l'.length (by rw [List.length_append, List.length_singleton]; omega)
      rw [spP_last] at h2
      rw [aK_push] at h
      have := bt2_bd h2
      omega
  · intro h
    rw [h]
    rfl
def gI (qg2 qg : Nat → Int32) (x : LX) (F N : Nat) : Prop := qg2 0 = nI (lNp x) ∧ qg2 1 = nI (lNl x) ∧ qg2 2 = qg 2 ∧ qg2 3 = nI F ∧ qg2 4 = nI N
theorem gI_3 {qg2 qg : Nat → Int32} {x : LX} {F N : Nat} (h : gI qg2 qg x F N) (F' : Nat) : gI (upd qg2 3 (nI F')) qg x F' N := ⟨h.1, h.2.1, h.2.2.1, rfl, h.2.2.2.2⟩
theorem gI_4 {qg2 qg : Nat → Int32} {x : LX} {F N : Nat} (h : gI qg2 qg x F N) (N' : Nat) : gI (upd qg2 4 (nI N')) qg x F N' := ⟨h.1, h.2.1, h.2.2.1, h.2.2.2.1, rfl⟩
/-- all splits, in their order -/
def SR (x : LX) (L : Nat) (d : Nat → Nat) (fs : Nat → SP) (F : Nat) : Prop := (∀ i, i < F → valS x L d (fs i) 0 none) ∧ (∀ i j, i < j → j < F → ckl x (fs i) < ckl x (fs j)) ∧ ∀ l, valS x L d l 0 none → ∃ m, m < F ∧ fs m = l
def spPost (x : LX) (L w : Nat) (qg : Nat → Int32) (qa1 : Nat → Int64) (qg1 : Nat → Int32) : Prop := ∃ (fs : Nat → SP) (F : Nat), SR x L (dgt w L) fs F ∧ F ≤ 32 ∧ (∀ i, i < F → qa1 i = lN (aK (fs i))) ∧ qg1 0 = qg 0 ∧ qg1 1 = qg 1 ∧ qg1 2 = qg 2 ∧ qg1 3 = nI F
theorem aK_yO (x : LX) (Q : SP) (p c : Nat) (h : c < 7) : aK (Q ++ [yO x p c]) = 256 * aK Q + (8 * (p + 1) + c) := by
  rw [aK_push]
  unfold bt2 yO
  dsimp only
  omega
theorem lastP_bd {x : LX} {Q : SP} {pv : Option Nat} {q : Nat} (hs : spOK x Q) (h : pv = lastP Q) (h2 : pv = some q) : q < lNp x := by
  rw [h] at h2
  unfold lastP at h2
  split at h2
  · cases h2
  · rename_i hn
    cases h2
    exact (hs _ (by have := List.length_pos_iff.mpr hn; omega)).1
