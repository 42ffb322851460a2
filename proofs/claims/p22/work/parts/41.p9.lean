/-! the number of nodes: class and reference count the same classes -/
theorem pig {α β : Type} [DecidableEq β] (r : α → β → Prop) : ∀ (A : List α) (B : List β), A.Pairwise (fun a a' => ∀ b, r a b → ¬ r a' b) → (∀ a, a ∈ A → ∃ b, b ∈ B ∧ r a b) → A.length ≤ B.length := by
  intro A
  induction A with
  | nil => intro B _ _; exact Nat.zero_le _
  | cons a A ih =>
    intro B hp hs
    rw [List.pairwise_cons] at hp
    obtain ⟨b, hb, hab⟩ := hs a (List.mem_cons_self ..)
    have := ih (B.erase b) hp.2 (fun a' ha' => by
      obtain ⟨b', hb', hr⟩ := hs a' (List.mem_cons_of_mem _ ha')
      exact ⟨b', (List.mem_erase_of_ne (fun e => hp.1 a' ha' b hab (by rw [← e]; exact hr))).mpr hb', hr⟩)
    rw [List.length_erase_of_mem hb] at this
    have := List.length_pos_of_mem hb
    rw [List.length_cons]
    omega
theorem pow_lt10 {a b : Nat} (h : a < b) : 2 * 10 ^ a < 10 ^ b := by
  have : 10 ^ (a + 1) ≤ 10 ^ b := p10_le h
  rw [Nat.pow_succ] at this
  have := p10_pos a
  omega
theorem exp_uni {x a b : Nat} (h1 : 10 ^ a ≤ x) (h2 : x < 2 * 10 ^ a) (h3 : 10 ^ b ≤ x) (h4 : x < 2 * 10 ^ b) : a = b := by
  rcases Nat.lt_trichotomy a b with h | h | h
  · have := pow_lt10 h; omega
  · exact h
  · have := pow_lt10 h; omega
theorem div_rng {x B n j : Nat} (h : x / 10 ^ j = B) (h1 : 10 ^ n ≤ B) (h2 : B < 2 * 10 ^ n) : 10 ^ (n + j) ≤ x ∧ x < 2 * 10 ^ (n + j) := by
  have hp := p10_pos j
  have e := Nat.div_add_mod x (10 ^ j)
  have hm := Nat.mod_lt x hp
  rw [h, Nat.mul_comm] at e
  rw [Nat.pow_add]
  have g1 : 10 ^ n * 10 ^ j ≤ B * 10 ^ j := Nat.mul_le_mul_right _ h1
  have g2 : (B + 1) * 10 ^ j ≤ (2 * 10 ^ n) * 10 ^ j := Nat.mul_le_mul_right _ h2
  rw [Nat.add_mul, Nat.one_mul, Nat.mul_assoc] at g2
  omega
section ND
variable {t s : Nat → Nat} {np : Nat}
/-- what may follow a beginning -/
def Rm (t : Nat → Nat) (np B j u : Nat) : Prop := ∃ k, k < np ∧ t k / 10 ^ j = B ∧ t k % 10 ^ j = u
def Rq (t : Nat → Nat) (np B B' : Nat) : Prop := ∀ j u, Rm t np B j u ↔ Rm t np B' j u
theorem Rq.sy {B B' : Nat} (h : Rq t np B B') : Rq t np B' B := fun j u => (h j u).symm
theorem Rq.tr {B B' B2 : Nat} (h : Rq t np B B') (h' : Rq t np B' B2) : Rq t np B B2 := fun j u => (h j u).trans (h' j u)
theorem Rm_zero {B u : Nat} : Rm t np B 0 u ↔ u = 0 ∧ ∃ k, k < np ∧ t k = B := by
  unfold Rm
  rw [Nat.pow_zero]
  constructor
  · rintro ⟨k, h1, h2, h3⟩
    rw [Nat.div_one] at h2
    rw [Nat.mod_one] at h3
    exact ⟨h3.symm, k, h1, h2⟩
  · rintro ⟨rfl, k, h1, h2⟩
    exact ⟨k, h1, by rw [Nat.div_one]; exact h2, Nat.mod_one _⟩
theorem Rm_succ {B j u : Nat} : Rm t np B (j + 1) u ↔ u / 10 ^ j < 10 ∧ Rm t np (10 * B + u / 10 ^ j) j (u % 10 ^ j) := by
  have hp := p10_pos j
  unfold Rm
  constructor
  · rintro ⟨k, h1, h2, h3⟩
    have e : t k % 10 ^ (j + 1) / 10 ^ j = t k / 10 ^ j % 10 := by rw [Nat.pow_succ, Nat.mod_mul_right_div_self]
    have hlt : u / 10 ^ j < 10 := by rw [← h3, e]; exact Nat.mod_lt _ (by decide)
    refine ⟨hlt, k, h1, ?_, ?_⟩
    · rw [← h3, e, ← h2, Nat.pow_succ, ← Nat.div_div_eq_div_mul]; omega
    · rw [← h3, Nat.pow_succ, Nat.mod_mul_right_mod]
  · rintro ⟨hlt, k, h1, h2, h3⟩
    refine ⟨k, h1, ?_, ?_⟩
    · rw [Nat.pow_succ, ← Nat.div_div_eq_div_mul, h2, Nat.mul_add_div (by decide), Nat.div_eq_of_lt hlt, Nat.add_zero]
    · rw [Nat.pow_succ, Nat.mod_mul, h3, h2, Nat.add_comm, Nat.mul_add_mod, Nat.mod_eq_of_lt hlt]
      exact Nat.div_add_mod u (10 ^ j)
theorem Rq_iff {B B' : Nat} : Rq t np B B' ↔ ((∃ k, k < np ∧ t k = B) ↔ (∃ k, k < np ∧ t k = B')) ∧ ∀ c, c < 10 → Rq t np (10 * B + c) (10 * B' + c) := by
  constructor
  · intro h
    refine ⟨?_, fun c hc j u => ?_⟩
    · have := h 0 0
      rw [Rm_zero, Rm_zero] at this
      simpa using this
    · have hp := p10_pos j
      rcases Nat.lt_or_ge u (10 ^ j) with hu | hu
      · have := h (j + 1) (c * 10 ^ j + u)
        rw [Rm_succ, Rm_succ] at this
        have e1 : (c * 10 ^ j + u) / 10 ^ j = c := by rw [Nat.mul_comm, Nat.mul_add_div hp, Nat.div_eq_of_lt hu, Nat.add_zero]
        have e2 : (c * 10 ^ j + u) % 10 ^ j = u := by rw [Nat.mul_comm, Nat.mul_add_mod, Nat.mod_eq_of_lt hu]
        rw [e1, e2] at this
        simpa [hc] using this
      · constructor
        · rintro ⟨k, _, _, h3⟩; have := Nat.mod_lt (t k) hp; omega
        · rintro ⟨k, _, _, h3⟩; have := Nat.mod_lt (t k) hp; omega
  · rintro ⟨h1, h2⟩ j u
    cases j with
    | zero => rw [Rm_zero, Rm_zero, h1]
    | succ j =>
      rw [Rm_succ, Rm_succ]
      constructor
      · rintro ⟨g1, g2⟩; exact ⟨g1, (h2 _ g1 _ _).mp g2⟩
      · rintro ⟨g1, g2⟩; exact ⟨g1, (h2 _ g1 _ _).mpr g2⟩
theorem hasR_iff {B n rr : Nat} : ∀ m, hasR t s B n rr m = true ↔ ∃ k, k < m ∧ n ≤ s k ∧ t k / 10 ^ (s k - n) = B ∧ rsN t s n k = rr := by
  intro m
  induction m with
  | zero => simp [hasR]
  | succ m ih =>
    rw [hasR, Bool.or_eq_true, ih, Bool.and_eq_true, isB, decide_eq_true_eq, decide_eq_true_eq]
    constructor
    · rintro (⟨k, h1, h2⟩ | ⟨h1, h2⟩)
      · exact ⟨k, by omega, h2⟩
      · exact ⟨m, by omega, h1.1, h1.2, h2⟩
    · rintro ⟨k, h1, h2, h3, h4⟩
      rcases Nat.lt_or_ge k m with h | h
      · exact Or.inl ⟨k, h, h2, h3, h4⟩
      · rw [show k = m by omega] at h2 h3 h4; exact Or.inr ⟨⟨h2, h3⟩, h4⟩
theorem areR_iff {B n B' m : Nat} : ∀ z, areR t s np B n B' m z = true ↔ ∀ k, k < z → n ≤ s k → t k / 10 ^ (s k - n) = B → hasR t s B' m (rsN t s n k) np = true := by
  intro z
  induction z with
  | zero => exact ⟨fun _ k hk => absurd hk (Nat.not_lt_zero k), fun _ => rfl⟩
  | succ z ih =>
    rw [areR, Bool.and_eq_true, ih, Bool.or_eq_true, Bool.not_eq_true', isB, decide_eq_false_iff_not]
    constructor
    · rintro ⟨h1, h2⟩ k hk g1 g2
      rcases Nat.lt_or_ge k z with h | h
      · exact h1 k h g1 g2
      · rw [show k = z by omega] at g1 g2 ⊢
        rcases h2 with h2 | h2
        · exact absurd ⟨g1, g2⟩ h2
        · exact h2
    · intro h
      refine ⟨fun k hk => h k (by omega), ?_⟩
      by_cases g : n ≤ s z ∧ t z / 10 ^ (s z - n) = B
      · exact Or.inr (h z (by omega) g.1 g.2)
      · exact Or.inl g
theorem areR_Rm (hw : ∀ k, k < np → 10 ^ s k ≤ t k ∧ t k < 2 * 10 ^ s k) {B n B' m : Nat} (hB : 10 ^ n ≤ B ∧ B < 2 * 10 ^ n) (hB' : 10 ^ m ≤ B' ∧ B' < 2 * 10 ^ m) : areR t s np B n B' m np = true ↔ ∀ j u, Rm t np B j u → Rm t np B' j u := by
  have hsz : ∀ {B n}, (10 ^ n ≤ B ∧ B < 2 * 10 ^ n) → ∀ k j, k < np → t k / 10 ^ j = B → s k = n + j := by
    intro B n hB k j hk e
    have h1 := div_rng e hB.1 hB.2
    exact exp_uni (hw k hk).1 (hw k hk).2 h1.1 h1.2
  rw [areR_iff]
  constructor
  · intro h j u ⟨k, h1, h2, h3⟩
    have e := hsz hB k j h1 h2
    have := h k h1 (by omega) (by rw [show s k - n = j by omega]; exact h2)
    rw [hasR_iff] at this
    obtain ⟨k', g1, g2, g3, g4⟩ := this
    unfold rsN at g4
    rw [show s k - n = j by omega, h3] at g4
    have hu : u < 10 ^ j := by rw [← h3]; exact Nat.mod_lt _ (p10_pos j)
    have hm := Nat.mod_lt (t k') (p10_pos (s k' - m))
    have ej : s k' - m = j := exp_uni (x := t k' % 10 ^ (s k' - m) + 10 ^ (s k' - m)) (by omega) (by omega) (by omega) (by omega)
    rw [ej] at g3 g4
    exact ⟨k', g1, g3, by omega⟩
  · intro h k h1 h2 h3
    rw [hasR_iff]
    obtain ⟨k', g1, g2, g3⟩ := h (s k - n) (t k % 10 ^ (s k - n)) ⟨k, h1, h3, rfl⟩
    have e := hsz hB' k' (s k - n) g1 g2
    refine ⟨k', g1, by omega, ?_, ?_⟩
    · rw [show s k' - m = s k - n by omega]; exact g2
    · unfold rsN; rw [show s k' - m = s k - n by omega, g3]
theorem bgN_rng (hw : ∀ k, k < np → 10 ^ s k ≤ t k ∧ t k < 2 * 10 ^ s k) {p n : Nat} (hp : p < np) (hn : n ≤ s p) : 10 ^ n ≤ bgN t s n p ∧ bgN t s n p < 2 * 10 ^ n := by
  have h := hw p hp
  unfold bgN
  have e : 10 ^ s p = 10 ^ n * 10 ^ (s p - n) := by rw [← Nat.pow_add]; congr 1; omega
  constructor
  · rw [Nat.le_div_iff_mul_le (p10_pos _)]; omega
  · rw [Nat.div_lt_iff_lt_mul (p10_pos _), Nat.mul_assoc]; omega
theorem eqR_Rq (hw : ∀ k, k < np → 10 ^ s k ≤ t k ∧ t k < 2 * 10 ^ s k) {p n q m : Nat} (hp : p < np) (hn : n ≤ s p) (hq : q < np) (hm : m ≤ s q) : eqR t s np p n q m = true ↔ Rq t np (bgN t s n p) (bgN t s m q) := by
  have b1 := bgN_rng hw hp hn
  have b2 := bgN_rng hw hq hm
  unfold eqR
  rw [Bool.and_eq_true, areR_Rm hw b1 b2, areR_Rm hw b2 b1]
  exact ⟨fun h j u => ⟨h.1 j u, h.2 j u⟩, fun h => ⟨fun j u => (h j u).mp, fun j u => (h j u).mpr⟩⟩
theorem nwM_iff {e : Nat → Bool} {acc : Bool} : ∀ m, nwM e acc m = true ↔ acc = true ∧ ∀ j, j < m → e j = false := by
  intro m
  induction m with
  | zero => exact ⟨fun h => ⟨h, fun j hj => absurd hj (Nat.not_lt_zero j)⟩, fun h => h.1⟩
  | succ m ih =>
    rw [nwM, Bool.and_eq_true, ih, Bool.not_eq_true']
    constructor
    · rintro ⟨⟨h1, h2⟩, h3⟩
      refine ⟨h1, fun j hj => ?_⟩
      rcases Nat.lt_or_ge j m with h | h
      · exact h2 j h
      · rw [show j = m by omega]; exact h3
    · rintro ⟨h1, h2⟩
      exact ⟨⟨h1, fun j hj => h2 j (by omega)⟩, h2 m (by omega)⟩
theorem nwQ_iff {E : Nat → Nat → Bool} {lim : Nat → Nat} : ∀ q, nwQ E lim q = true ↔ ∀ i, i < q → ∀ j, j < lim i → E i j = false := by
  intro q
  induction q with
  | zero => exact ⟨fun _ i hi => absurd hi (Nat.not_lt_zero i), fun _ => rfl⟩
  | succ q ih =>
    rw [nwQ, nwM_iff, ih]
    constructor
    · rintro ⟨h1, h2⟩ i hi
      rcases Nat.lt_or_ge i q with h | h
      · exact h1 i h
      · rw [show i = q by omega]; exact h2
    · intro h
      exact ⟨fun i hi => h i (by omega), h q (by omega)⟩
/-- the reference's representatives -/
def repL (t s : Nat → Nat) (np : Nat) : Nat → List (Nat × Nat)
  | 0 => []
  | p + 1 => repL t s np p ++ ((List.range (s p + 1)).filter (fun n => nwPN t s np p n (p + 1))).map (fun n => (p, n))
theorem cntB_len (b : Nat → Bool) : ∀ n, cntB b n = ((List.range n).filter b).length := by
  intro n
  induction n with
  | zero => rfl
  | succ n ih =>
    rw [cntB, ih, List.range_succ, List.filter_append, List.length_append]
    by_cases h : b n = true
    · rw [if_pos h, List.filter_cons, if_pos h]; rfl
    · rw [if_neg h, List.filter_cons, if_neg h]; rfl
theorem repL_len : ∀ P, (repL t s np P).length = nodesM t s np P := by
  intro P
  induction P with
  | zero => rfl
  | succ P ih =>
    rw [repL, List.length_append, ih, List.length_map, ← cntB_len]
    rfl
theorem mem_repL {p n : Nat} : ∀ P, (p, n) ∈ repL t s np P ↔ p < P ∧ n ≤ s p ∧ nwPN t s np p n (p + 1) = true := by
  intro P
  induction P with
  | zero => simp [repL]
  | succ P ih =>
    rw [repL, List.mem_append, ih]
    constructor
    · rintro (h | h)
      · exact ⟨by omega, h.2⟩
      · obtain ⟨n', h1, h2⟩ := List.mem_map.mp h
        simp only [Prod.mk.injEq] at h2
        obtain ⟨rfl, rfl⟩ := h2
        have := List.mem_filter.mp h1
        have h3 := List.mem_range.mp this.1
        exact ⟨by omega, by omega, this.2⟩
    · rintro ⟨h1, h2, h3⟩
      rcases Nat.lt_or_ge p P with h | h
      · exact Or.inl ⟨h, h2, h3⟩
      · have : p = P := by omega
        subst this
        exact Or.inr (List.mem_map.mpr ⟨n, List.mem_filter.mpr ⟨List.mem_range.mpr (by omega), h3⟩, rfl⟩)
theorem nw_iff (hw : ∀ k, k < np → 10 ^ s k ≤ t k ∧ t k < 2 * 10 ^ s k) {p n : Nat} (hp : p < np) (hn : n ≤ s p) : nwPN t s np p n (p + 1) = true ↔ ∀ q m, (q < p ∧ m ≤ s q ∨ q = p ∧ m < n) → ¬ Rq t np (bgN t s n p) (bgN t s m q) := by
  unfold nwPN
  rw [nwQ_iff]
  constructor
  · intro h q m hqm hR
    have hq : q < np ∧ m ≤ s q := by rcases hqm with h1 | h1; exact ⟨by omega, h1.2⟩; exact ⟨by omega, by rw [h1.1]; omega⟩
    have := h q (by omega) m (by rcases hqm with h1 | h1; (rw [if_pos h1.1]; omega); (rw [if_neg (by omega)]; omega))
    rw [(eqR_Rq hw hp hn hq.1 hq.2).mpr hR] at this
    cases this
  · intro h q hq m hm
    have hqm : q < p ∧ m ≤ s q ∨ q = p ∧ m < n := by
      split at hm
      · exact Or.inl ⟨by assumption, by omega⟩
      · exact Or.inr ⟨by omega, by omega⟩
    cases hc : eqR t s np p n q m with
    | false => rfl
    | true =>
      have hq2 : q < np ∧ m ≤ s q := by rcases hqm with h1 | h1; exact ⟨by omega, h1.2⟩; exact ⟨by omega, by rw [h1.1]; omega⟩
      exact absurd ((eqR_Rq hw hp hn hq2.1 hq2.2).mp hc) (h q m hqm)
theorem rep_all (hw : ∀ k, k < np → 10 ^ s k ≤ t k ∧ t k < 2 * 10 ^ s k) : ∀ p, p < np → ∀ n, n ≤ s p → ∃ q m, (q, m) ∈ repL t s np np ∧ Rq t np (bgN t s n p) (bgN t s m q) := by
  intro p
  induction p using Nat.strongRecOn with
  | ind p ihp =>
    intro hp n
    induction n using Nat.strongRecOn with
    | ind n ihn =>
      intro hn
      by_cases h : nwPN t s np p n (p + 1) = true
      · exact ⟨p, n, (mem_repL np).mpr ⟨hp, hn, h⟩, fun j u => Iff.rfl⟩
      · rw [nw_iff hw hp hn] at h
        have : ∃ q m, (q < p ∧ m ≤ s q ∨ q = p ∧ m < n) ∧ Rq t np (bgN t s n p) (bgN t s m q) := by
          refine Classical.byContradiction (fun hc => h (fun q m hqm hR => hc ⟨q, m, hqm, hR⟩))
        obtain ⟨q, m, hqm, hR⟩ := this
        rcases hqm with h1 | h1
        · obtain ⟨q2, m2, g1, g2⟩ := ihp q h1.1 (by omega) m h1.2
          exact ⟨q2, m2, g1, hR.tr g2⟩
        · obtain ⟨rfl, h2⟩ := h1
          obtain ⟨q2, m2, g1, g2⟩ := ihn m h2 (by omega)
          exact ⟨q2, m2, g1, hR.tr g2⟩
theorem rep_pw (hw : ∀ k, k < np → 10 ^ s k ≤ t k ∧ t k < 2 * 10 ^ s k) : ∀ P, P ≤ np → (repL t s np P).Pairwise (fun a b => ¬ Rq t np (bgN t s a.2 a.1) (bgN t s b.2 b.1)) := by
  intro P
  induction P with
  | zero => intro _; exact List.Pairwise.nil
  | succ P ih =>
    intro hP
    rw [repL, List.pairwise_append]
    refine ⟨ih (by omega), ?_, ?_⟩
    · rw [List.pairwise_map]
      refine List.Pairwise.imp_of_mem (R := fun a b => a < b) ?_ (List.Pairwise.filter _ List.pairwise_lt_range)
      intro a b ha hb hab hR
      have h1 := List.mem_filter.mp ha
      have h2 := List.mem_filter.mp hb
      have r1 := List.mem_range.mp h1.1
      have r2 := List.mem_range.mp h2.1
      exact (nw_iff hw (by omega) (by omega)).mp h2.2 P a (Or.inr ⟨rfl, hab⟩) hR.sy
    · intro a ha b hb hR
      obtain ⟨p, n⟩ := a
      have h1 := (mem_repL P).mp ha
      obtain ⟨n', h2, rfl⟩ := List.mem_map.mp hb
      have h3 := List.mem_filter.mp h2
      have r2 := List.mem_range.mp h3.1
      exact (nw_iff hw (by omega) (by omega)).mp h3.2 p n (Or.inl ⟨h1.1, h1.2.1⟩) hR.sy
end ND
section NC
variable {t s : Nat → Nat} {np : Nat} {ch : Nat → Nat → Nat} {nd : Nat → Nat} {bl ie tw : Nat → Int32} {tu : Nat}
def Wd (t : Nat → Nat) (np : Nat) : Nat → Prop := fun x => ∃ k, k < np ∧ t k = x
theorem node_of (h : TR ch nd bl ie tu (Wd t np) (Wd t np)) {k : Nat} (hk : k < np) : ∀ j, 1 ≤ t k / 10 ^ j → ∃ i, i < tu ∧ nd i = t k / 10 ^ j := by
  obtain ⟨h1, h2, h3, h4, h5, h6, h7, h8, h9⟩ := h
  intro j
  induction j with
  | zero =>
    intro _
    rw [Nat.pow_zero, Nat.div_one]
    exact h7 _ ⟨k, hk, rfl⟩
  | succ j ih =>
    intro hj
    have e : t k / 10 ^ (j + 1) = t k / 10 ^ j / 10 := by rw [Nat.pow_succ, Nat.div_div_eq_div_mul]
    rw [e] at hj ⊢
    obtain ⟨x, hx, ex⟩ := ih (by omega)
    rcases Nat.eq_zero_or_pos x with h0 | h0
    · rw [h0, h2] at ex; omega
    · obtain ⟨i, c, g1, g2, g3⟩ := h4 x h0 hx
      have g4 := h3 i c (by omega) g2 (by omega)
      rw [g3] at g4
      exact ⟨i, by omega, by omega⟩
theorem child_of (h : TR ch nd bl ie tu (Wd t np) (Wd t np)) {i c k j : Nat} (hi : i < tu) (hc : c < 10) (hk : k < np) (e : t k / 10 ^ j = 10 * nd i + c) : ch i c ≠ 0 := by
  have hn := node_of h hk j
  obtain ⟨h1, h2, h3, h4, h5, h6, h7, h8, h9⟩ := h
  have hp := (h9 i hi).1
  obtain ⟨x, hx, ex⟩ := hn (by omega)
  rcases Nat.eq_zero_or_pos x with h0 | h0
  · rw [h0, h2] at ex; omega
  · obtain ⟨i', c', g1, g2, g3⟩ := h4 x h0 hx
    have g4 := h3 i' c' (by omega) g2 (by omega)
    rw [g3] at g4
    have ei := h5 i' i (by omega) hi (by omega)
    rw [ei, show c' = c by omega] at g3
    omega
theorem Rm_node (h : TR ch nd bl ie tu (Wd t np) (Wd t np)) {i : Nat} (hi : i < tu) (h0 : i ≠ 0) : ∃ j u, Rm t np (nd i) j u := by
  obtain ⟨h1, h2, h3, h4, h5, h6, h7, h8, h9⟩ := h
  rcases (h9 i hi).2 with h | ⟨x, n, ⟨k, hk, rfl⟩, e⟩
  · exact absurd h h0
  · exact ⟨n, _, k, hk, e, rfl⟩
theorem tb_iff (h : TR ch nd bl ie tu (Wd t np) (Wd t np)) (htu : tu ≤ 65) {b : Nat} (hk : ∀ x y, b ≤ x → b ≤ y → x < tu → y < tu → (tw x = tw y ↔ Rq t np (nd x) (nd y))) (ht : ∀ x, b ≤ x → x < tu → ∃ o, x ≤ o ∧ o < tu ∧ tw x = nI o) {i o c : Nat} (hi : i < tu) (ho : o < tu) (hbi : b ≤ i + 1) (hbo : b ≤ o + 1) (hc : c < 10) : tbI ch tw i c = tbI ch tw o c ↔ Rq t np (10 * nd i + c) (10 * nd o + c) := by
  have hch := h.1.2
  have h3 := h.2.2.1
  have c1 := (hch i hi c hc).2
  have c2 := (hch o ho c hc).2
  unfold tbI
  by_cases e1 : ch i c = 0
  · by_cases e2 : ch o c = 0
    · rw [if_pos e1, if_pos e2]
      refine ⟨fun _ j u => ⟨fun ⟨k, g1, g2, _⟩ => absurd e1 (child_of h hi hc g1 g2), fun ⟨k, g1, g2, _⟩ => absurd e2 (child_of h ho hc g1 g2)⟩, fun _ => rfl⟩
    · rw [if_pos e1, if_neg e2]
      have hx : ch o c < tu := by omega
      obtain ⟨o', g1, g2, g3⟩ := ht (ch o c) (by omega) hx
      constructor
      · intro e
        rw [g3] at e
        have := nI_inj (by omega) (by omega) e
        omega
      · intro hR
        obtain ⟨j, u, hm⟩ := Rm_node h hx e2
        rw [h3 o c ho hc e2] at hm
        obtain ⟨k, q1, q2, _⟩ := (hR j u).mpr hm
        exact absurd e1 (child_of h hi hc q1 q2)
  · by_cases e2 : ch o c = 0
    · rw [if_neg e1, if_pos e2]
      have hx : ch i c < tu := by omega
      obtain ⟨o', g1, g2, g3⟩ := ht (ch i c) (by omega) hx
      constructor
      · intro e
        rw [g3] at e
        have := nI_inj (by omega) (by omega) e
        omega
      · intro hR
        obtain ⟨j, u, hm⟩ := Rm_node h hx e1
        rw [h3 i c hi hc e1] at hm
        obtain ⟨k, q1, q2, _⟩ := (hR j u).mp hm
        exact absurd e2 (child_of h ho hc q1 q2)
    · rw [if_neg e1, if_neg e2, hk _ _ (by omega) (by omega) (by omega) (by omega), h3 i c hi hc e1, h3 o c ho hc e2]
theorem alk_iff (h : TR ch nd bl ie tu (Wd t np) (Wd t np)) (htu : tu ≤ 65) {b : Nat} (hk : ∀ x y, b ≤ x → b ≤ y → x < tu → y < tu → (tw x = tw y ↔ Rq t np (nd x) (nd y))) (ht : ∀ x, b ≤ x → x < tu → ∃ o, x ≤ o ∧ o < tu ∧ tw x = nI o) {i o : Nat} (hi : i < tu) (ho : o < tu) (hbi : b ≤ i + 1) (hbo : b ≤ o + 1) : alk ch ie tw i o = true ↔ Rq t np (nd i) (nd o) := by
  have h6 := h.2.2.2.2.2.1
  unfold alk
  rw [Bool.and_eq_true, decide_eq_true_eq, alkN_iff, Rq_iff]
  have hie : ie i = ie o ↔ ((∃ k, k < np ∧ t k = nd i) ↔ (∃ k, k < np ∧ t k = nd o)) := by
    have q1 := h6 i hi
    have q2 := h6 o ho
    unfold Wd at q1 q2
    rcases q1 with ⟨a1, a2⟩ | ⟨a1, a2⟩ <;> rcases q2 with ⟨b1, b2⟩ | ⟨b1, b2⟩
    · rw [a2, b2]; exact ⟨fun _ => ⟨fun _ => b1, fun _ => a1⟩, fun _ => rfl⟩
    · rw [a2, b2]; exact ⟨fun e => absurd e (by decide), fun e => absurd (e.mp a1) b1⟩
    · rw [a2, b2]; exact ⟨fun e => absurd e (by decide), fun e => absurd (e.mpr b1) a1⟩
    · rw [a2, b2]; exact ⟨fun _ => ⟨fun g => absurd g a1, fun g => absurd g b1⟩, fun _ => rfl⟩
  rw [hie]
  constructor
  · rintro ⟨g1, g2⟩
    exact ⟨g1, fun c hc => (tb_iff h htu hk ht hi ho hbi hbo hc).mp (g2 c hc)⟩
  · rintro ⟨g1, g2⟩
    exact ⟨g1, fun c hc => (tb_iff h htu hk ht hi ho hbi hbo hc).mpr (g2 c hc)⟩
theorem tw_Rq (h : TR ch nd bl ie tu (Wd t np) (Wd t np)) (htu : tu ≤ 65) (htw : ∀ i, i < tu → twP ch ie tw tu i) : ∀ n b, tu = b + n → ∀ x y, b ≤ x → b ≤ y → x < tu → y < tu → (tw x = tw y ↔ Rq t np (nd x) (nd y)) := by
  have ht : ∀ x, x < tu → ∃ o, x ≤ o ∧ o < tu ∧ tw x = nI o ∧ tw o = nI o := by
    intro x hx
    rcases htw x hx with ⟨o, g1, g2, g3, g4, g5⟩ | ⟨g1, g2⟩
    · exact ⟨o, by omega, g2, g5, g3⟩
    · exact ⟨x, Nat.le_refl x, hx, g1, g1⟩
  intro n
  induction n with
  | zero => intro b hb x y h1 h2 h3 h4; omega
  | succ n ih =>
    intro b hb
    have hk := ih (b + 1) (by omega)
    have ht2 : ∀ x, b + 1 ≤ x → x < tu → ∃ o, x ≤ o ∧ o < tu ∧ tw x = nI o := fun x _ hx => by
      obtain ⟨o, g1, g2, g3, _⟩ := ht x hx
      exact ⟨o, g1, g2, g3⟩
    have key : ∀ y, b < y → y < tu → (tw b = tw y ↔ Rq t np (nd b) (nd y)) := by
      intro y hy hy2
      rcases htw b (by omega) with ⟨o, g1, g2, g3, g4, g5⟩ | ⟨g1, g2⟩
      · have hR := (alk_iff h htu hk ht2 (by omega) g2 (by omega) (by omega)).mp g4
        rw [g5, ← g3, hk o y (by omega) (by omega) g2 hy2]
        exact ⟨fun q => hR.tr q, fun q => hR.sy.tr q⟩
      · obtain ⟨o, q1, q2, q3, q4⟩ := ht y hy2
        have hyo := (hk y o (by omega) (by omega) hy2 q2).mp (q3.trans q4.symm)
        constructor
        · intro e
          rw [g1, q3] at e
          have := nI_inj (by omega) (by omega) e
          omega
        · intro hR
          have h1 := (alk_iff h htu hk ht2 (show b < tu by omega) q2 (by omega) (by omega)).mpr (hR.tr hyo)
          rw [g2 o (by omega) q2 q4] at h1
          cases h1
    intro x y hx hy hx2 hy2
    rcases Nat.lt_or_ge b x with h1 | h1
    · rcases Nat.lt_or_ge b y with h2 | h2
      · exact hk x y (by omega) (by omega) hx2 hy2
      · have e : y = b := by omega
        subst e
        have := key x h1 hx2
        exact ⟨fun q => (this.mp q.symm).sy, fun q => (this.mpr q.sy).symm⟩
    · have e : x = b := by omega
      subst e
      rcases Nat.lt_or_ge x y with h2 | h2
      · exact key y h2 hy2
      · have e : y = x := by omega
        subst e
        exact ⟨fun _ j u => Iff.rfl, fun _ => rfl⟩
theorem cntT_len (tw : Nat → Int32) : ∀ n, cntT tw 0 n = ((List.range n).filter (fun i => decide (tw i = nI i))).length := by
  intro n
  induction n with
  | zero => rfl
  | succ n ih =>
    rw [cntT, ih, List.range_succ, List.filter_append, List.length_append, Nat.zero_add]
    by_cases h : tw n = nI n
    · rw [if_pos h, List.filter_cons, if_pos (decide_eq_true h)]; rfl
    · rw [if_neg h, List.filter_cons, if_neg (by rw [decide_eq_true_eq]; exact h)]; rfl
theorem nodes_eq (hnp : 0 < np) (hw : ∀ k, k < np → 10 ^ s k ≤ t k ∧ t k < 2 * 10 ^ s k) (h : TR ch nd bl ie tu (Wd t np) (Wd t np)) (htu : tu ≤ 65) (htw : ∀ i, i < tu → twP ch ie tw tu i) : nodesM t s np np = cntT tw 0 tu := by
  have hK := fun x y hx hy => tw_Rq h htu htw tu 0 (by omega) x y (Nat.zero_le x) (Nat.zero_le y) hx hy
  have hn : ∀ p n, p < np → n ≤ s p → ∃ i, i < tu ∧ nd i = bgN t s n p := by
    intro p n hp hn
    have := (bgN_rng hw hp hn).1
    have := p10_pos n
    exact node_of h hp (s p - n) (by unfold bgN at *; omega)
  have hrep : ∀ i, i < tu → ∃ o, o < tu ∧ tw o = nI o ∧ Rq t np (nd i) (nd o) := by
    intro i hi
    rcases htw i hi with ⟨o, g1, g2, g3, g4, g5⟩ | ⟨g1, g2⟩
    · exact ⟨o, g2, g3, (hK i o hi g2).mp (g5.trans g3.symm)⟩
    · exact ⟨i, hi, g1, fun j u => Iff.rfl⟩
  rw [← repL_len, cntT_len]
  refine Nat.le_antisymm ?_ ?_
  · refine pig (fun (a : Nat × Nat) (b : Nat) => Rq t np (bgN t s a.2 a.1) (nd b)) _ _ ?_ ?_
    · refine List.Pairwise.imp ?_ (rep_pw hw np (Nat.le_refl np))
      intro a b hab c h1 h2
      exact hab (h1.tr h2.sy)
    · intro a ha
      obtain ⟨p, n⟩ := a
      have h1 := (mem_repL np).mp ha
      obtain ⟨i, hi, e⟩ := hn p n h1.1 h1.2.1
      obtain ⟨o, g1, g2, g3⟩ := hrep i hi
      exact ⟨o, List.mem_filter.mpr ⟨List.mem_range.mpr g1, decide_eq_true g2⟩, by rw [e] at g3; exact g3⟩
  · refine pig (fun (b : Nat) (a : Nat × Nat) => Rq t np (bgN t s a.2 a.1) (nd b)) _ _ ?_ ?_
    · refine List.Pairwise.imp_of_mem (R := fun a b => a < b) ?_ (List.Pairwise.filter _ List.pairwise_lt_range)
      intro x y hx hy hxy a h1 h2
      have m1 := List.mem_filter.mp hx
      have m2 := List.mem_filter.mp hy
      have r1 := List.mem_range.mp m1.1
      have r2 := List.mem_range.mp m2.1
      have e := (hK x y r1 r2).mpr (h1.sy.tr h2)
      rw [of_decide_eq_true m1.2, of_decide_eq_true m2.2] at e
      have := nI_inj (by omega) (by omega) e
      omega
    · intro i hi
      have m1 := List.mem_filter.mp hi
      have r1 := List.mem_range.mp m1.1
      obtain ⟨p, n, hp, hnn, e⟩ : ∃ p n, p < np ∧ n ≤ s p ∧ nd i = bgN t s n p := by
        obtain ⟨h1, h2, h3, h4, h5, h6, h7, h8, h9⟩ := h
        have q1 := (h9 i r1).1
        rcases (h9 i r1).2 with h0 | ⟨x, n, ⟨k, hk, rfl⟩, e⟩
        · refine ⟨0, 0, hnp, Nat.zero_le _, ?_⟩
          have := bgN_rng hw hnp (Nat.zero_le (s 0))
          rw [Nat.pow_zero] at this
          rw [h0, h2]
          omega
        · have hns : n ≤ s k := by
            rcases Nat.lt_or_ge (s k) n with hl | hl
            · exfalso
              have h10 := pow_lt10 hl
              have h11 := (hw k hk).2
              rw [Nat.div_eq_of_lt (by omega)] at e
              omega
            · exact hl
          exact ⟨k, s k - n, hk, by omega, by unfold bgN; rw [show s k - (s k - n) = n by omega]; exact e.symm⟩
      obtain ⟨q, m, g1, g2⟩ := rep_all hw p hp n hnn
      exact ⟨(q, m), g1, by rw [e]; exact g2.sy⟩
end NC
