/-! the law's splits: a byte a place, the last one lowest -/
def bt2 (y : Nat × Nat) : Nat := 8 * (y.2 + 1) + y.1 % 7
def aK (l : SP) : Nat := l.foldl (fun a y => 256 * a + bt2 y) 0
theorem aK_push (l : SP) (y : Nat × Nat) : aK (l ++ [y]) = 256 * aK l + bt2 y := by
  unfold aK
  rw [List.foldl_append]
  rfl
theorem bt2_bd {y : Nat × Nat} (h : y.2 < 16) : 8 ≤ bt2 y ∧ bt2 y < 256 := by
  have := Nat.mod_lt y.1 (show 7 > 0 by decide)
  unfold bt2
  omega
/-- parts' numbers that fit -/
def bOK (l : SP) : Prop := ∀ k, k < l.length → spP l k < 16
theorem take_s {l : SP} {k : Nat} (h : k < l.length) : l.take (k + 1) = l.take k ++ [l.getD k (0, 0)] := by
  rw [List.take_succ, List.getD_eq_getElem?_getD, List.getElem?_eq_getElem h]
  rfl
theorem aK_take {l : SP} {k : Nat} (hb : bOK l) (h : k < l.length) : aK (l.take (k + 1)) / 256 = aK (l.take k) ∧ aK (l.take (k + 1)) % 256 = bt2 (l.getD k (0, 0)) ∧ 0 < aK (l.take (k + 1)) := by
  rw [take_s h, aK_push]
  have := bt2_bd (hb k h)
  change 8 ≤ bt2 (l.getD k (0, 0)) ∧ bt2 (l.getD k (0, 0)) < 256 at this
  omega
theorem aK_0 (l : SP) : aK (l.take 0) = 0 := by rw [List.take_zero]; rfl
theorem aK_all (l : SP) : aK (l.take l.length) = aK l := by rw [List.take_length]
theorem aK_lt {l : SP} (hb : bOK l) : ∀ k, k ≤ l.length → aK (l.take k) < 256 ^ k := by
  intro k
  induction k with
  | zero => intro _; rw [aK_0]; exact Nat.one_pos
  | succ k ih =>
    intro h
    have h1 := ih (by omega)
    have h2 := aK_take hb (show k < l.length by omega)
    have h3 := Nat.div_add_mod (aK (l.take (k + 1))) 256
    have h4 := Nat.mod_lt (aK (l.take (k + 1))) (show 256 > 0 by decide)
    rw [h2.1] at h3
    rw [Nat.pow_succ]
    omega
theorem p256 {a b : Nat} (h : a ≤ b) : 256 ^ a ≤ 256 ^ b := Nat.pow_le_pow_right (by decide) h
theorem aK_bd {l : SP} (hb : bOK l) {k : Nat} (h : k ≤ l.length) (h7 : k ≤ 7) : aK (l.take k) < 72057594037927936 := by
  have h1 := aK_lt hb k h
  have h2 := p256 h7
  rw [show (256 : Nat) ^ 7 = 72057594037927936 by decide] at h2
  omega
theorem aK_div {l : SP} (hb : bOK l) : ∀ i k, k + i ≤ l.length → aK (l.take (k + i)) / 256 ^ i = aK (l.take k) := by
  intro i
  induction i with
  | zero => intro k _; rw [Nat.pow_zero, Nat.div_one]; rfl
  | succ i ih =>
    intro k h
    rw [Nat.pow_succ, Nat.mul_comm, ← Nat.div_div_eq_div_mul, show k + (i + 1) = (k + i) + 1 by omega, (aK_take hb (by omega)).1]
    exact ih k (by omega)
theorem p2_8 (i : Nat) : 2 ^ (8 * i) = 256 ^ i := by rw [Nat.pow_mul]
/-- the byte of a place -/
theorem aK_byte {l : SP} (hb : bOK l) {j : Nat} (h : j < l.length) : aK l / 2 ^ (8 * (l.length - 1 - j)) % 256 = bt2 (l.getD j (0, 0)) := by
  have h1 := aK_div hb (l.length - 1 - j) (j + 1) (by omega)
  rw [show j + 1 + (l.length - 1 - j) = l.length by omega, aK_all] at h1
  rw [p2_8, h1]
  exact (aK_take hb h).2.1
theorem bt2_p {y : Nat × Nat} : bt2 y / 8 = y.2 + 1 ∧ bt2 y % 8 = y.1 % 7 := by
  have := Nat.mod_lt y.1 (show 7 > 0 by decide)
  unfold bt2
  omega
theorem bt2_P {y : Nat × Nat} {K : Nat} (h : K % 256 = bt2 y) (hp : y.2 < 16) : K / 8 % 32 = y.2 + 1 ∧ K % 8 = y.1 % 7 := by
  have := Nat.mod_lt y.1 (show 7 > 0 by decide)
  unfold bt2 at h
  omega
theorem sz_end {w m j : Nat} (h1 : 10 ^ m ≤ w) (hj : j ≤ m) (h : w / 10 ^ j ≤ 9) : j = m := by
  rcases Nat.lt_or_ge j m with h2 | h2
  · exfalso
    have h3 := (Nat.div_lt_iff_lt_mul (p10_pos j)).mp (Nat.lt_succ_of_le h)
    have h4 := p10_le (show j + 1 ≤ m by omega)
    rw [Nat.pow_succ] at h4
    omega
  · omega
theorem sz_go {w m j : Nat} (h2 : w < 10 ^ (m + 1)) (hj : j ≤ m) (h : 9 < w / 10 ^ j) : j + 1 ≤ m := by
  rcases Nat.lt_or_ge j m with h3 | h3
  · exact h3
  · exfalso
    have e : j = m := by omega
    subst e
    have := (Nat.div_lt_iff_lt_mul (p10_pos j)).mpr (show w < 10 * 10 ^ j by rw [Nat.pow_succ] at h2; omega)
    omega
/-- how many letters a split has, links with them -/
def lnS (x : LX) (l : SP) : Nat → Nat
  | 0 => 0
  | k + 1 => lnS x l k + (szN (lT x (spP l k)) + (if spO l k % 7 = 0 then 0 else szN (lU x (spO l k % 7 - 1))))
/-- a split's parts and links are there -/
def spOK (x : LX) (l : SP) : Prop := ∀ k, k < l.length → spP l k < lNp x ∧ (spO l k % 7 = 0 ∨ spO l k % 7 - 1 < lNl x)
theorem spOK.b {x : LX} {l : SP} (hok : lxOK x) (h : spOK x l) : bOK l := fun k hk => Nat.lt_of_lt_of_le (h k hk).1 hok.1
theorem szN_le (x : Nat) : szN x ≤ 8 := SZ_le _ _
theorem lnS_le (x : LX) (l : SP) : ∀ k, lnS x l k ≤ 16 * k := by
  intro k
  induction k with
  | zero => exact Nat.le_refl _
  | succ k ih =>
    have h1 := szN_le (lT x (spP l k))
    have h2 := szN_le (lU x (spO l k % 7 - 1))
    unfold lnS
    split <;> omega
/-- the part of lnS from a place on -/
theorem lnS_mono (x : LX) (l : SP) {a b : Nat} (h : a ≤ b) : lnS x l a ≤ lnS x l b := by
  induction b with
  | zero => rw [show a = 0 by omega]; exact Nat.le_refl _
  | succ b ih =>
    rcases Nat.lt_or_ge a (b + 1) with h1 | h1
    · have := ih (by omega)
      show _ ≤ lnS x l b + _
      omega
    · rw [show a = b + 1 by omega]; exact Nat.le_refl _
/-- the law's own rows hold the lexicon -/
def LQ (x : LX) (qt qc qf qb ql : Nat → Int32) : Prop := (∀ i, i < lNp x → qt i = nI (lT x i)) ∧ (∀ i, i < lNp x → qc i = nI (lC x i)) ∧ (∀ i, i < lNp x → ∃ v, qf i = nI v ∧ v < 524288 ∧ v % 8 = lF x i ∧ ∀ j, j < 16 → v.testBit (3 + j) = lV x i j) ∧ (∀ i, i < lNp x → ∃ v, qb i = nI v ∧ v < 64 ∧ ∀ j, j < 6 → v.testBit j = lB x i j) ∧ (∀ i, i < lNl x → ql i = nI (lU x i))
theorem sub_val {w n : Nat} (a : Nat) : ∀ m, a + m ≤ n → w / 10 ^ (n - a - m) % 10 ^ m + 10 ^ m = TA (dgt w n) a m := by
  intro m
  induction m with
  | zero => intro _; rw [Nat.pow_zero, Nat.mod_one]; rfl
  | succ m ih =>
    intro h
    have ih := ih (by omega)
    show _ = 10 * TA (dgt w n) a m + w / 10 ^ (n - 1 - (a + m)) % 10
    rw [← ih, show n - a - m = (n - a - (m + 1)) + 1 by omega, show n - 1 - (a + m) = n - a - (m + 1) by omega]
    generalize n - a - (m + 1) = e
    rw [Nat.pow_succ (n := 10) (m := e), ← Nat.div_div_eq_div_mul]
    generalize w / 10 ^ e = v
    rw [Nat.pow_succ, Nat.mul_comm (10 ^ m) 10, Nat.mod_mul]
    omega
theorem sx_bd {w n : Nat} (h : n ≤ 8) (h2 : w < 10 ^ (n + 1)) : w < 1000000000 := by
  have := p10_le (show n + 1 ≤ 9 by omega)
  rw [show (10 : Nat) ^ 9 = 1000000000 by decide] at this
  omega
theorem ld_bd {n m v : Nat} (h1 : n ≤ m) (h2 : v < 2 * 10 ^ n) : v < 10 ^ (n + 1) := by rw [Nat.pow_succ]; omega
theorem text_step {v n k b : Nat} (h1 : 10 ^ k ≤ v) (h2 : v < 2 * 10 ^ k) (hb : b < 10) : 10 ^ (k + 1) ≤ 10 * v + b ∧ 10 * v + b < 2 * 10 ^ (k + 1) := by
  rw [Nat.pow_succ]
  omega
theorem cst_end {v q f k : Nat} (hk : k + 10 * dbl f q = v) (h : 10000 < q) : k = v := by
  rw [dbl_hi _ h] at hk
  omega
theorem cst_step {v q f k : Nat} (hk : k + 10 * dbl f q = v) (hf : 10000 < 2 ^ f * q) (h : q ≤ 10000) : ∃ f1, f = f1 + 1 ∧ k + 10 + 10 * dbl f1 (q + q) = v ∧ 10000 < 2 ^ f1 * (q + q) := by
  cases f with
  | zero => rw [Nat.pow_zero] at hf; omega
  | succ f =>
    refine ⟨f, rfl, ?_, ?_⟩
    · unfold dbl at hk
      rw [if_pos h, Nat.mul_two] at hk
      omega
    · rw [Nat.pow_succ, Nat.mul_assoc, Nat.two_mul] at hf
      exact hf
theorem k_zero {sp : SP} {k q : Nat} (hs : bOK sp) (h : k ≤ sp.length) (hq : q = aK (sp.take k)) (h0 : q ≤ 0) : k = 0 := by
  rcases Nat.eq_zero_or_pos k with e | e
  · exact e
  · exfalso
    have := (aK_take (k := k - 1) hs (by omega)).2.2
    rw [show k - 1 + 1 = k by omega, ← hq] at this
    omega
theorem k_pos {sp : SP} {k q : Nat} (hq : q = aK (sp.take k)) (h0 : q > 0) : 0 < k := by
  rcases Nat.eq_zero_or_pos k with e | e
  · subst e
    rw [aK_0] at hq
    omega
  · exact e
theorem nI_sadd (a b : Nat) : nI a - nI 15 + nI b = nI (a + b) - nI 15 := by
  rw [← nI_add, Int32.sub_eq_add_neg, Int32.sub_eq_add_neg]
  ac_rfl
