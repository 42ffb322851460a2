/-! worlds; natural numbers among the Int32s -/
abbrev cW (G : vG) (h : Nat → Nat) (np : Nat) (nl : Nat) (len : Nat) (fd : Nat) (lu : Nat) (tu : Nat) (T : Nat → Int32) (C : Nat → Int32) (F : Nat → Int32) (LT : Nat → Int32) (VV : Nat → Int32) (BB : Nat → Int32) (lt : Nat → Int32) (ph : Nat → Int32) (lh : Nat → Int32) (ks : Nat → Int64) (wd : Nat → Int32) (gr : Nat → Int32) (gs : Nat → Int32) (bl : Nat → Int32) (ie : Nat → Int32) (tw : Nat → Int32) : va_W := [(h 0, .inr (4, [.ref (h 1), .ref (h 2), .ref (h 3)])), (h 1, .inr (1, [.ref (h 5), .ref (h 6), .ref (h 7), .ref (h 8), .ref (h 9), .ref (h 10), .ref (h 4), .int (nI np), .int (nI nl)])), (h 2, .inr (2, [.ref (h 1), .ref (h 11), .ref (h 12), .ref (h 13), .ref (h 14), .int (nI len), .int (nI fd)])), (h 3, .inr (0, [.ref (h 1), .ref (h 15), .ref (h 16), .ref (h 17), .int (nI lu)])), (h 4, .inr (3, [.ref (h 18), .ref (h 19), .ref (h 20), .int (nI tu)])), (h 5, .inl (G.2.1, 16, .inl T)), (h 6, .inl (G.2.1, 16, .inl C)), (h 7, .inl (G.2.1, 16, .inl F)), (h 8, .inl (G.2.1, 6, .inl LT)), (h 9, .inl (G.2.2.2, 256, .inl VV)), (h 10, .inl (G.2.2.2, 96, .inl BB)), (h 11, .inl (G.2.1, 8, .inl lt)), (h 12, .inl (G.2.1, 32, .inl ph)), (h 13, .inl (G.2.1, 16, .inl lh)), (h 14, .inl (G.2.2.1, 513, .inr (.inl ks))), (h 15, .inl (G.2.1, 50, .inl wd)), (h 16, .inl (G.2.1, 400, .inl gr)), (h 17, .inl (G.2.1, 50, .inl gs)), (h 18, .inl (G.2.1, 650, .inl bl)), (h 19, .inl (G.2.2.2, 65, .inl ie)), (h 20, .inl (G.2.1, 65, .inl tw))]
theorem nI_inc (a k : Nat) : nI a + Int32.ofInt (k : Int) = nI (a + k) := nI_add a k
theorem nI_mulN (a b : Nat) : nI a * nI b = nI (a * b) := (Int32.ofNat_mul a b).symm
theorem nI_subN {a b : Nat} (h : b ≤ a) : nI a - nI b = nI (a - b) := (Int32.ofNat_sub a b h).symm
theorem nI_dec (a k : Nat) (h : k ≤ a) : nI a + Int32.ofInt (-(k : Int)) = nI (a - k) := by
  rw [← nI_subN h, Int32.sub_eq_add_neg, Int32.ofInt_neg]
  rfl
theorem nI_div {a b : Nat} (ha : a < 2147483648) (hb : b < 2147483648) : nI a / nI b = nI (a / b) := by
  have h := Nat.div_le_self a b
  refine Int32.toInt_inj.mp ?_
  rw [Int32.toInt_div, nI_toInt ha, nI_toInt hb, nI_toInt (show a / b < 2 ^ 31 by omega)]
  rw [← Int.ofNat_tdiv]
  generalize a / b = q at h ⊢
  refine Int.bmod_eq_of_le ?_ ?_ <;> omega
theorem nI_mod {a b : Nat} (ha : a < 2147483648) (hb : b < 2147483648) : nI a - nI a / nI b * nI b = nI (a % b) := by
  rw [nI_div ha hb, nI_mulN, nI_subN (Nat.div_mul_le_self a b)]
  congr 1
  have := Nat.div_add_mod a b
  rw [Nat.mul_comm] at this
  omega
theorem p10_bd {n : Nat} (h : n ≤ 9) : 10 ^ n ≤ 1000000000 := Nat.pow_le_pow_right (by decide) h
def bI (b : Bool) : Int32 := if b then 1 else 0
theorem bI_z (b : Bool) : narrow .boolean (.int (bI b)) = .int (bI b) := by cases b <;> rfl
theorem bI_t {p : Prop} [Decidable p] (h : p) : nI 1 = bI (decide p) := by rw [decide_eq_true h]; rfl
theorem bI_f {p : Prop} [Decidable p] (h : ¬ p) : nI 0 = bI (decide p) := by rw [decide_eq_false h]; rfl
theorem bI_tt {b : Bool} (h : b = true) : nI 1 = bI b := by rw [h]; rfl
theorem bI_ff {b : Bool} (h : b = false) : nI 0 = bI b := by rw [h]; rfl
theorem B_eq_t {b : Bool} (h : bI b = 0) : b = false := by cases b; rfl; exact absurd h (by decide)
theorem B_eq_f {b : Bool} (h : ¬ bI b = 0) : b = true := by cases b; exact absurd rfl h; rfl
theorem B_ne_t {b : Bool} (h : ¬ bI b = 0) : b = true := B_eq_f h
theorem B_ne_f {b : Bool} (h : bI b = 0) : b = false := B_eq_t h
theorem bI_nar (b : Bool) : vp_nar .boolean (bI b) = bI b := by cases b <;> rfl
theorem N_eq_t {a b : Nat} (ha : a < 2147483648) (hb : b < 2147483648) (h : nI a = nI b) : a = b := by simp only [nI_eq ha hb, nI_leI ha hb, nI_leI hb ha, nI_ltI ha hb, nI_ltI hb ha] at h; omega
theorem N_eq_f {a b : Nat} (ha : a < 2147483648) (hb : b < 2147483648) (h : ¬ nI a = nI b) : a ≠ b := by simp only [nI_eq ha hb, nI_leI ha hb, nI_leI hb ha, nI_ltI ha hb, nI_ltI hb ha] at h; omega
theorem Z_eq_t {a : Nat} (ha : a < 2147483648) (h : nI a = 0) : a = 0 := N_eq_t ha (by decide) h
theorem Z_eq_f {a : Nat} (ha : a < 2147483648) (h : ¬ nI a = 0) : a ≠ 0 := N_eq_f ha (by decide) h
theorem N_ne_t {a b : Nat} (ha : a < 2147483648) (hb : b < 2147483648) (h : ¬ nI a = nI b) : a ≠ b := by simp only [nI_eq ha hb, nI_leI ha hb, nI_leI hb ha, nI_ltI ha hb, nI_ltI hb ha] at h; omega
theorem N_ne_f {a b : Nat} (ha : a < 2147483648) (hb : b < 2147483648) (h : nI a = nI b) : a = b := by simp only [nI_eq ha hb, nI_leI ha hb, nI_leI hb ha, nI_ltI ha hb, nI_ltI hb ha] at h; omega
theorem Z_ne_t {a : Nat} (ha : a < 2147483648) (h : ¬ nI a = 0) : a ≠ 0 := N_ne_t ha (by decide) h
theorem Z_ne_f {a : Nat} (ha : a < 2147483648) (h : nI a = 0) : a = 0 := N_ne_f ha (by decide) h
theorem N_lt_t {a b : Nat} (ha : a < 2147483648) (hb : b < 2147483648) (h : nI a < nI b) : a < b := by simp only [nI_eq ha hb, nI_leI ha hb, nI_leI hb ha, nI_ltI ha hb, nI_ltI hb ha] at h; omega
theorem N_lt_f {a b : Nat} (ha : a < 2147483648) (hb : b < 2147483648) (h : ¬ nI a < nI b) : a ≥ b := by simp only [nI_eq ha hb, nI_leI ha hb, nI_leI hb ha, nI_ltI ha hb, nI_ltI hb ha] at h; omega
theorem Z_lt_t {a : Nat} (ha : a < 2147483648) (h : nI a < 0) : a < 0 := N_lt_t ha (by decide) h
theorem Z_lt_f {a : Nat} (ha : a < 2147483648) (h : ¬ nI a < 0) : a ≥ 0 := N_lt_f ha (by decide) h
theorem N_ge_t {a b : Nat} (ha : a < 2147483648) (hb : b < 2147483648) (h : nI b ≤ nI a) : a ≥ b := by simp only [nI_eq ha hb, nI_leI ha hb, nI_leI hb ha, nI_ltI ha hb, nI_ltI hb ha] at h; omega
theorem N_ge_f {a b : Nat} (ha : a < 2147483648) (hb : b < 2147483648) (h : ¬ nI b ≤ nI a) : a < b := by simp only [nI_eq ha hb, nI_leI ha hb, nI_leI hb ha, nI_ltI ha hb, nI_ltI hb ha] at h; omega
theorem Z_ge_t {a : Nat} (ha : a < 2147483648) (h : 0 ≤ nI a) : a ≥ 0 := N_ge_t ha (by decide) h
theorem Z_ge_f {a : Nat} (ha : a < 2147483648) (h : ¬ 0 ≤ nI a) : a < 0 := N_ge_f ha (by decide) h
theorem N_gt_t {a b : Nat} (ha : a < 2147483648) (hb : b < 2147483648) (h : nI b < nI a) : a > b := by simp only [nI_eq ha hb, nI_leI ha hb, nI_leI hb ha, nI_ltI ha hb, nI_ltI hb ha] at h; omega
theorem N_gt_f {a b : Nat} (ha : a < 2147483648) (hb : b < 2147483648) (h : ¬ nI b < nI a) : a ≤ b := by simp only [nI_eq ha hb, nI_leI ha hb, nI_leI hb ha, nI_ltI ha hb, nI_ltI hb ha] at h; omega
theorem Z_gt_t {a : Nat} (ha : a < 2147483648) (h : 0 < nI a) : a > 0 := N_gt_t ha (by decide) h
theorem Z_gt_f {a : Nat} (ha : a < 2147483648) (h : ¬ 0 < nI a) : a ≤ 0 := N_gt_f ha (by decide) h
theorem N_le_t {a b : Nat} (ha : a < 2147483648) (hb : b < 2147483648) (h : nI a ≤ nI b) : a ≤ b := by simp only [nI_eq ha hb, nI_leI ha hb, nI_leI hb ha, nI_ltI ha hb, nI_ltI hb ha] at h; omega
theorem N_le_f {a b : Nat} (ha : a < 2147483648) (hb : b < 2147483648) (h : ¬ nI a ≤ nI b) : a > b := by simp only [nI_eq ha hb, nI_leI ha hb, nI_leI hb ha, nI_ltI ha hb, nI_ltI hb ha] at h; omega
theorem Z_le_t {a : Nat} (ha : a < 2147483648) (h : nI a ≤ 0) : a ≤ 0 := N_le_t ha (by decide) h
theorem Z_le_f {a : Nat} (ha : a < 2147483648) (h : ¬ nI a ≤ 0) : a > 0 := N_le_f ha (by decide) h
theorem p10_pos (k : Nat) : 1 ≤ 10 ^ k := Nat.one_le_pow _ _ (by decide)
theorem p10_le {a b : Nat} (h : a ≤ b) : 10 ^ a ≤ 10 ^ b := Nat.pow_le_pow_right (by decide) h
/-- how many letters a text has, of m at most -/
def SZ (x : Int32) : Nat → Nat
  | 0 => 0
  | m + 1 => if nI (10 ^ (m + 1)) ≤ x ∧ x ≤ nI (2 * 10 ^ (m + 1) - 1) then m + 1 else SZ x m
theorem SZ_le (x : Int32) (m : Nat) : SZ x m ≤ m := by
  induction m with
  | zero => exact Nat.le_refl _
  | succ m ih => unfold SZ; split <;> omega
def isP (np : Nat) (x : Int32) : Bool := decide (0 ≤ x ∧ x ≤ nI np - 1)
/-- the last place of x among the first n -/
def lastW (T : Nat → Int32) (x : Int32) : Nat → Int32
  | 0 => -1
  | i + 1 => if T i = x then nI i else lastW T x i
