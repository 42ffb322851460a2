/-! the order of splits, as the law has it -/
theorem valS_sz {x : LX} (hok : lxOK x) {L : Nat} {d : Nat → Nat} (hd : ∀ k, d k ≤ 9) : ∀ (l : SP) (a : Nat) (pv : Option Nat), valS x L d l a pv → ∀ k, k < l.length → spO l k / 7 = 4 - szN (lT x (spP l k)) ∧ 1 ≤ szN (lT x (spP l k)) ∧ szN (lT x (spP l k)) ≤ 4 ∧ (spO l k % 7 = 0 ∨ spO l k % 7 - 1 < lNl x)
  | [], _, _, h => absurd h (fun h => h)
  | (o, p) :: l, a, pv, h => by
    intro k hk
    obtain ⟨ho, e, hs, h⟩ := h
    cases k with
    | zero =>
      show o / 7 = 4 - szN (lT x p) ∧ 1 ≤ szN (lT x p) ∧ szN (lT x p) ≤ 4 ∧ (o % 7 = 0 ∨ o % 7 - 1 < lNl x)
      obtain ⟨h1, h2⟩ := stp_e hs
      obtain ⟨h3, h4, h5⟩ := wAt_some h1
      have h6 : szN (lT x p) = 4 - o / 7 := by rw [h5, TA_szN hd a (by omega) (by omega)]
      refine ⟨by omega, by omega, by omega, ?_⟩
      rcases h2 with ⟨h2, _⟩ | ⟨_, h2, _⟩
      · exact Or.inl h2
      · exact Or.inr h2
    | succ k =>
      rcases h with ⟨_, rfl⟩ | ⟨_, h⟩
      · simp at hk
      · exact valS_sz hok hd l e (some p) h k (by simpa using hk)
theorem valS_spOK {x : LX} (hok : lxOK x) {L : Nat} {d : Nat → Nat} (hd : ∀ k, d k ≤ 9) {l : SP} {a : Nat} {pv : Option Nat} (h : valS x L d l a pv) : spOK x l := fun k hk => ⟨(valS_bd l a pv h k hk).2, (valS_sz hok hd l a pv h k hk).2.2.2⟩
/-- where the parts differ first, their sizes do -/
theorem valS_dif {x : LX} {L : Nat} {d : Nat → Nat} : ∀ (k : Nat) (l l' : SP) (a : Nat) (pv : Option Nat), valS x L d l a pv → valS x L d l' a pv → k < l.length → k < l'.length → (∀ j, j < k → spO l j = spO l' j ∧ spP l j = spP l' j) → spO l k / 7 = spO l' k / 7 → spP l k = spP l' k
  | _, [], _, _, _, h, _, _, _, _, _ => absurd h (fun h => h)
  | _, _ :: _, [], _, _, _, h, _, _, _, _ => absurd h (fun h => h)
  | 0, (o, p) :: l, (o', p') :: l', a, pv, h, h', _, _, _, he => by
    obtain ⟨_, e, hs, _⟩ := h
    obtain ⟨_, e', hs', _⟩ := h'
    have h1 := (stp_e hs).1
    have h2 := (stp_e hs').1
    have he2 : o / 7 = o' / 7 := he
    rw [he2] at h1
    exact Option.some.inj (h1.symm.trans h2)
  | k + 1, (o, p) :: l, (o', p') :: l', a, pv, h, h', hk, hk', hp, he => by
    obtain ⟨_, e, hs, h⟩ := h
    obtain ⟨_, e', hs', h'⟩ := h'
    obtain ⟨h3, h4⟩ := hp 0 (by omega)
    have h3 : o = o' := h3
    have h4 : p = p' := h4
    subst h3 h4
    rw [hs] at hs'
    have h5 : e = e' := (Prod.mk.inj (Option.some.inj hs')).2
    subst h5
    have hk1 : k < l.length := by simpa using hk
    have hk2 : k < l'.length := by simpa using hk'
    rcases h with ⟨_, rfl⟩ | ⟨_, h⟩
    · simp at hk1
    rcases h' with ⟨_, rfl⟩ | ⟨_, h'⟩
    · simp at hk2
    exact valS_dif k l l' e (some p) h h' hk1 hk2 (fun j hj => hp (j + 1) (by omega)) he
theorem cdg_lt {o : Nat} (h : o < 28) : cdg o < 32 := by
  unfold cdg
  omega
theorem kC_up {o : Nat → Nat} : ∀ m i, i ≤ m → m ≤ 8 → (∀ k, k < m → o k < 28) → kC o i ≤ kC o m ∧ kC o m + 32 ^ (8 - m) ≤ kC o i + 32 ^ (8 - i) := by
  intro m
  induction m with
  | zero => intro i hi _ _; rw [show i = 0 by omega]; exact ⟨Nat.le_refl _, Nat.le_refl _⟩
  | succ m ih =>
    intro i hi hm ho
    rcases Nat.lt_or_ge i (m + 1) with h | h
    · obtain ⟨h1, h2⟩ := ih i (by omega) (by omega) (fun k hk => ho k (by omega))
      have h3 := cdg_lt (ho m (by omega))
      have h4 := p32_s (k := m) (by omega)
      have h5 : cdg (o m) * 32 ^ (7 - m) + 32 ^ (7 - m) ≤ 32 * 32 ^ (7 - m) := by
        have := Nat.mul_le_mul_right (32 ^ (7 - m)) (show cdg (o m) + 1 ≤ 32 by omega)
        rw [Nat.add_mul, Nat.one_mul] at this
        exact this
      rw [show 8 - (m + 1) = 7 - m by omega]
      show kC o i ≤ kC o m + cdg (o m) * 32 ^ (7 - m) ∧ kC o m + cdg (o m) * 32 ^ (7 - m) + 32 ^ (7 - m) ≤ _
      omega
    · rw [show i = m + 1 by omega]
      exact ⟨Nat.le_refl _, Nat.le_refl _⟩
theorem kC_lex {o o' : Nat → Nat} {m k : Nat} (hm : m ≤ 8) (hk : k < m) (ho : ∀ k, k < m → o k < 28) (ho' : ∀ k, k < m → o' k < 28) (he : ∀ j, j < k → o j = o' j) (h : cdg (o k) < cdg (o' k)) : kC o m < kC o' m := by
  obtain ⟨_, h1⟩ := kC_up m (k + 1) (by omega) hm ho
  obtain ⟨h2, _⟩ := kC_up m (k + 1) (by omega) hm ho'
  have h3 : kC o k = kC o' k := kC_congr k (fun j hj => he j hj)
  have h4 : kC o (k + 1) = kC o k + cdg (o k) * 32 ^ (7 - k) := rfl
  have h5 : kC o' (k + 1) = kC o' k + cdg (o' k) * 32 ^ (7 - k) := rfl
  have h6 := Nat.mul_le_mul_right (32 ^ (7 - k)) (show cdg (o k) + 1 ≤ cdg (o' k) by omega)
  rw [Nat.add_mul, Nat.one_mul] at h6
  rw [show 8 - (k + 1) = 7 - k by omega] at h1
  have h7 : 0 < 32 ^ (8 - m) := Nat.pow_pos (by decide)
  omega
section ORD
variable {x : LX} {L : Nat} {d : Nat → Nat} {s s' : SP}
theorem ord_b (hL : L ≤ 8) (h : valS x L d s 0 none) : s.length ≤ 8 ∧ 1 ≤ s.length ∧ 15 ≤ cS x s ∧ cC s < 1099511627776 := by
  have h1 := valS_len s 0 none h
  exact ⟨by omega, h1.2, kS_ge _ _ h1.2, kC_lt (by omega) (fun k hk => (valS_bd s 0 none h k hk).1)⟩
theorem ord_cost (hL : L ≤ 8) (h : valS x L d s 0 none) (h' : valS x L d s' 0 none) (hne : cS x s - 15 ≠ cS x s' - 15) : ckl x s < ckl x s' ↔ cS x s - 15 < cS x s' - 15 := by
  obtain ⟨a1, a2, a3, a4⟩ := ord_b hL h
  obtain ⟨b1, b2, b3, b4⟩ := ord_b hL h'
  rw [ckl_eq, ckl_eq]
  generalize cC s = u at a4
  generalize cC s' = v at b4
  generalize cS x s - 15 = y at hne
  generalize cS x s' - 15 = z at hne
  omega
theorem ord_len (hL : L ≤ 8) (h : valS x L d s 0 none) (h' : valS x L d s' 0 none) (he : cS x s - 15 = cS x s' - 15) (hne : s.length ≠ s'.length) : ckl x s < ckl x s' ↔ s.length < s'.length := by
  obtain ⟨a1, a2, a3, a4⟩ := ord_b hL h
  obtain ⟨b1, b2, b3, b4⟩ := ord_b hL h'
  rw [ckl_eq, ckl_eq, he]
  generalize cC s = u at a4
  generalize cC s' = v at b4
  generalize cS x s' - 15 = z
  omega
theorem ord_code (he : cS x s - 15 = cS x s' - 15) (hl : s.length = s'.length) : ckl x s < ckl x s' ↔ cC s < cC s' := by
  rw [ckl_eq, ckl_eq, he, hl]
  omega
theorem ord_dig (hL : L ≤ 8) (h : valS x L d s 0 none) (h' : valS x L d s' 0 none) (he : cS x s - 15 = cS x s' - 15) (hl : s.length = s'.length) {k : Nat} (hk : k < s.length) (hp : ∀ j, j < k → spO s j = spO s' j ∧ spP s j = spP s' j) (hne : cdg (spO s k) ≠ cdg (spO s' k)) : ckl x s < ckl x s' ↔ cdg (spO s k) < cdg (spO s' k) := by
  obtain ⟨a1, a2, a3, a4⟩ := ord_b hL h
  have ho := fun k hk => (valS_bd s 0 none h k hk).1
  have ho' := fun k hk => (valS_bd s' 0 none h' k hk).1
  rw [ord_code he hl]
  unfold cC
  rw [← hl] at ho' ⊢
  constructor
  · intro h1
    rcases Nat.lt_or_ge (cdg (spO s k)) (cdg (spO s' k)) with h2 | h2
    · exact h2
    · have := kC_lex a1 hk ho' ho (fun j hj => (hp j hj).1.symm) (show cdg (spO s' k) < cdg (spO s k) by omega)
      omega
  · intro h1
    exact kC_lex a1 hk ho ho' (fun j hj => (hp j hj).1) h1
theorem ord_part (hok : lxOK x) (hL : L ≤ 8) (hd : ∀ k, d k ≤ 9) (h : valS x L d s 0 none) (h' : valS x L d s' 0 none) (he : cS x s - 15 = cS x s' - 15) (hl : s.length = s'.length) {k : Nat} (hk : k < s.length) (hp : ∀ j, j < k → spO s j = spO s' j ∧ spP s j = spP s' j) (hne : spP s k ≠ spP s' k) : ckl x s < ckl x s' ↔ szN (lT x (spP s' k)) < szN (lT x (spP s k)) := by
  obtain ⟨a1, a2, a3, a4⟩ := valS_sz hok hd s 0 none h k hk
  obtain ⟨b1, b2, b3, b4⟩ := valS_sz hok hd s' 0 none h' k (by omega)
  have h1 : spO s k / 7 ≠ spO s' k / 7 := fun e => hne (valS_dif k s s' 0 none h h' hk (by omega) hp e)
  have h2 := Nat.mod_lt (spO s k) (show 7 > 0 by decide)
  have h3 := Nat.mod_lt (spO s' k) (show 7 > 0 by decide)
  rw [ord_dig hL h h' he hl hk hp (by unfold cdg; omega)]
  unfold cdg
  omega
theorem ord_link (hok : lxOK x) (hL : L ≤ 8) (hd : ∀ k, d k ≤ 9) (h : valS x L d s 0 none) (h' : valS x L d s' 0 none) (he : cS x s - 15 = cS x s' - 15) (hl : s.length = s'.length) {k : Nat} (hk : k < s.length) (hp : ∀ j, j < k → spO s j = spO s' j ∧ spP s j = spP s' j) (heq : spP s k = spP s' k) (hne : spO s k % 7 ≠ spO s' k % 7) : ckl x s < ckl x s' ↔ spO s k % 7 < spO s' k % 7 := by
  obtain ⟨a1, a2, a3, a4⟩ := valS_sz hok hd s 0 none h k hk
  obtain ⟨b1, b2, b3, b4⟩ := valS_sz hok hd s' 0 none h' k (by omega)
  rw [heq] at a1
  rw [ord_dig hL h h' he hl hk hp (by unfold cdg; omega)]
  unfold cdg
  omega
theorem ord_next (hok : lxOK x) (hd : ∀ k, d k ≤ 9) (h : valS x L d s 0 none) (h' : valS x L d s' 0 none) (hl : s.length = s'.length) {k : Nat} (hk : k < s.length) (hp : ∀ j, j < k → spO s j = spO s' j ∧ spP s j = spP s' j) (heq : spP s k = spP s' k) (he : spO s k % 7 = spO s' k % 7) : ∀ j, j < k + 1 → spO s j = spO s' j ∧ spP s j = spP s' j := fun j hj => by
  obtain ⟨a1, a2, a3, a4⟩ := valS_sz hok hd s 0 none h k hk
  obtain ⟨b1, b2, b3, b4⟩ := valS_sz hok hd s' 0 none h' k (by omega)
  rcases Nat.lt_or_ge j k with h1 | h1
  · exact hp j h1
  · rw [show j = k by omega]
    rw [heq] at a1
    exact ⟨by omega, heq⟩
theorem ord_end (h : valS x L d s 0 none) (h' : valS x L d s' 0 none) (hl : s.length = s'.length) (hp : ∀ j, j < s.length → spO s j = spO s' j ∧ spP s j = spP s' j) : ¬ ckl x s < ckl x s' := by
  rw [valS_inj s s' 0 none h h' hl (fun k hk => (hp k hk).1)]
  exact Nat.lt_irrefl _
end ORD
