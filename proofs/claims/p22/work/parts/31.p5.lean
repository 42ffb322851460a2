/-! what a key of the class tells -/
theorem kC_split {o : Nat → Nat} {i : Nat} (m : Nat) (hm : m ≤ 8) (him : i + 1 ≤ m) (ho : ∀ k, k < m → o k < 28) : ∃ M t, kC o m = (M * 32 + cdg (o i)) * 32 ^ (7 - i) + t ∧ t + 32 ^ (8 - m) ≤ 32 ^ (7 - i) := by
  induction m with
  | zero => omega
  | succ m ih =>
    have hdm : cdg (o m) < 32 := by have := ho m (by omega); unfold cdg; omega
    rcases Nat.lt_or_ge i m with h | h
    · obtain ⟨M, t, h1, h2⟩ := ih (by omega) (by omega) (fun k hk => ho k (by omega))
      refine ⟨M, t + cdg (o m) * 32 ^ (7 - m), by rw [kC, h1]; omega, ?_⟩
      have h3 : cdg (o m) * 32 ^ (7 - m) ≤ 31 * 32 ^ (7 - m) := Nat.mul_le_mul_right _ (by omega)
      have h4 := p32_s (show m ≤ 7 by omega)
      rw [show 8 - (m + 1) = 7 - m by omega]
      omega
    · have e : i = m := by omega
      subst e
      have hr : ∀ n, n ≤ 7 → (∀ k, k < n → o k < 28) → ∃ M, kC o n = M * 32 ^ (8 - n) := by
        intro n
        induction n with
        | zero => intro _ _; exact ⟨0, by simp [kC]⟩
        | succ n ihn =>
          intro hn hk
          obtain ⟨M, h1⟩ := ihn (by omega) (fun k hk2 => hk k (by omega))
          refine ⟨M * 32 + cdg (o n), ?_⟩
          rw [kC, h1, p32_s (show n ≤ 7 by omega), show 8 - (n + 1) = 7 - n by omega, Nat.add_mul, ← Nat.mul_assoc]
      obtain ⟨M, h1⟩ := hr i (by omega) (fun k hk => ho k (by omega))
      refine ⟨M, 0, ?_, by rw [show 8 - (i + 1) = 7 - i by omega]; omega⟩
      rw [kC, h1, p32_s (show i ≤ 7 by omega), Nat.add_zero, Nat.add_mul, ← Nat.mul_assoc]
theorem kC_lt {o : Nat → Nat} {m : Nat} (hm : m ≤ 8) (ho : ∀ k, k < m → o k < 28) : kC o m < 1099511627776 := by
  have : ∀ n, n ≤ 8 → (∀ k, k < n → o k < 28) → kC o n + 32 ^ (8 - n) ≤ 32 ^ 8 := by
    intro n
    induction n with
    | zero => intro _ _; simp [kC]
    | succ n ih =>
      intro hn hk
      have h1 := ih (by omega) (fun k hk2 => hk k (by omega))
      have h2 : cdg (o n) < 32 := by have := hk n (by omega); unfold cdg; omega
      have h3 : cdg (o n) * 32 ^ (7 - n) ≤ 31 * 32 ^ (7 - n) := Nat.mul_le_mul_right _ (by omega)
      have h4 := p32_s (show n ≤ 7 by omega)
      rw [kC, show 8 - (n + 1) = 7 - n by omega]
      omega
  have h := this m hm ho
  have hp : 0 < 32 ^ (8 - m) := Nat.pow_pos (by decide)
  have e : (32 : Nat) ^ 8 = 1099511627776 := by decide
  omega
theorem ckl_dig {x : LX} {l : SP} {i : Nat} (hl : l.length ≤ 8) (ho : ∀ k, k < l.length → spO l k < 28) (hi : i < l.length) : ckl x l / 2 ^ (5 * (7 - i)) % 32 = cdg (spO l i) := by
  obtain ⟨M, t, h1, h2⟩ := kC_split (o := spO l) (i := i) l.length hl (by omega) ho
  have hp : 0 < 32 ^ (8 - l.length) := Nat.pow_pos (by decide)
  have hp2 : 0 < 32 ^ (7 - i) := Nat.pow_pos (by decide)
  have hd : cdg (spO l i) < 32 := by have := ho i hi; unfold cdg; omega
  have e8 : (1099511627776 : Nat) = 32 ^ (i + 1) * 32 ^ (7 - i) := by rw [← Nat.pow_add, show i + 1 + (7 - i) = 8 by omega]
  rw [ckl_eq, cC, h1, ← p32, e8]
  generalize hP : 32 ^ (7 - i) = P at *
  generalize (cS x l - 15) * 16 + l.length = H
  have e9 : H * (32 ^ (i + 1) * P) + ((M * 32 + cdg (spO l i)) * P + t) = (H * 32 ^ (i + 1) + (M * 32 + cdg (spO l i))) * P + t := by
    rw [Nat.add_mul (H * 32 ^ (i + 1)), Nat.mul_assoc H (32 ^ (i + 1)) P, Nat.add_assoc]
  rw [e9, Nat.mul_comm _ P, Nat.mul_add_div (by omega), Nat.div_eq_of_lt (by omega), Nat.add_zero, Nat.pow_succ, ← Nat.mul_assoc, ← Nat.add_assoc, Nat.add_mod, ← Nat.add_mul, Nat.mul_mod_left, Nat.zero_add, Nat.mod_mod, Nat.mod_eq_of_lt hd]
theorem ckl_link {x : LX} {l : SP} {i : Nat} (hl : l.length ≤ 8) (ho : ∀ k, k < l.length → spO l k < 28) (hi : i < l.length) : ckl x l / 2 ^ (5 * (7 - i)) % 8 = spO l i % 7 := by
  have h := ckl_dig (x := x) hl ho hi
  have := ho i hi
  unfold cdg at h
  omega
theorem ckl_part {x : LX} {l : SP} {i : Nat} (hl : l.length ≤ 8) (ho : ∀ k, k < l.length → spO l k < 28) (hi : i < l.length) : ckl x l / 2 ^ (5 * (7 - i) + 3) % 4 = spO l i / 7 := by
  have h := ckl_dig (x := x) hl ho hi
  have := ho i hi
  rw [Nat.pow_add, ← Nat.div_div_eq_div_mul, show (2 : Nat) ^ 3 = 8 by decide]
  unfold cdg at h
  omega
theorem ckl_lt {x : LX} {l : SP} (hl : l.length ≤ 8) (ho : ∀ k, k < l.length → spO l k < 28) : ckl x l < 9223372036854775808 := by
  have h1 := kC_lt hl ho
  have h2 := cS_len x l
  rw [ckl_eq, cC]
  omega
theorem ckl_cost {x : LX} {l : SP} (hl : l.length ≤ 8) (ho : ∀ k, k < l.length → spO l k < 28) : ckl x l / 17592186044416 = cS x l - 15 ∧ ckl x l / 1099511627776 % 16 = l.length := by
  have h1 := kC_lt hl ho
  have h2 := cS_len x l
  rw [ckl_eq, cC]
  omega
theorem stp_e {x : LX} {L : Nat} {d : Nat → Nat} {a n c p e : Nat} {pv : Option Nat} (h : stp x L d a pv n c = some (p, e)) : wAt x L d a n = some p ∧ ((c = 0 ∧ e = a + n) ∨ (0 < c ∧ c - 1 < lNl x ∧ e = a + n + szN (lU x (c - 1)) ∧ e < L)) := by
  unfold stp at h
  split at h
  · cases h
  · rename_i q hw
    split at h
    · cases h
    · split at h
      · split at h
        · rename_i hc
          cases h
          exact ⟨hw, Or.inl ⟨hc, rfl⟩⟩
        · split at h
          · rename_i hc hl
            have := lkOK_iff.mp hl
            cases h
            exact ⟨hw, Or.inr ⟨by omega, this.1, rfl, this.2.2.1⟩⟩
          · cases h
      · cases h
