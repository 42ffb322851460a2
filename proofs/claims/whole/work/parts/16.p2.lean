/-! the keys of splits in the reference, and the order in which it goes through them -/
theorem lN_toIntB {n : Nat} (h : n < 9223372036854775808) : (lN n).toInt = (n : Int) := lg_ofNat_toInt (by omega)
theorem lN_div {a b : Nat} (ha : a < 9223372036854775808) (hb : b < 9223372036854775808) : lN a / lN b = lN (a / b) := by
  have h := Nat.div_le_self a b
  refine Int64.toInt_inj.mp ?_
  rw [Int64.toInt_div, lN_toIntB ha, lN_toIntB hb, lN_toIntB (show a / b < 9223372036854775808 by omega)]
  rw [← Int.ofNat_tdiv]
  generalize a / b = q at h ⊢
  refine Int.bmod_eq_of_le ?_ ?_ <;> omega
theorem lN_mod {a b : Nat} (ha : a < 9223372036854775808) (hb : b < 9223372036854775808) : lN a - lN a / lN b * lN b = lN (a % b) := by
  rw [lN_div ha hb, lN_mul, lN_sub (Nat.div_mul_le_self a b)]
  congr 1
  have := Nat.div_add_mod a b
  rw [Nat.mul_comm] at this
  omega
theorem lN_sadd (a b : Nat) : lN a - lN 15 + lN b = lN (a + b) - lN 15 := by
  rw [← lN_add, Int64.sub_eq_add_neg, Int64.sub_eq_add_neg]
  ac_rfl
theorem lN_inj {a b : Nat} (ha : a < 9223372036854775808) (hb : b < 9223372036854775808) (h : lN a = lN b) : a = b := by
  have h1 := congrArg Int64.toInt h
  rw [lN_toIntB ha, lN_toIntB hb] at h1
  omega
theorem lN_ltB {a b : Nat} (ha : a < 9223372036854775808) (hb : b < 9223372036854775808) : lN a < lN b ↔ a < b := by
  rw [Int64.lt_iff_toInt_lt, lN_toIntB ha, lN_toIntB hb]
  omega
theorem lg_ge {a b : Int64} (h : 0 ≤ lg_cmp a b) : ¬ a < b := by
  intro h1
  unfold lg_cmp at h
  rw [if_neg (fun h2 => Int64.lt_irrefl (Int64.lt_trans h1 h2)), if_neg (fun e => by rw [e] at h1; exact Int64.lt_irrefl h1)] at h
  exact absurd h (by decide)
theorem lg_lt {a b : Int64} (h : ¬ 0 ≤ lg_cmp a b) : a < b := by
  unfold lg_cmp at h
  split at h
  · exact absurd (by decide) h
  · rename_i h1
    split at h
    · exact absurd (by decide) h
    · rename_i h2
      have h3 : a.toInt ≠ b.toInt := fun e => h2 (Int64.toInt_inj.mp e)
      have h4 : ¬ b.toInt < a.toInt := fun e => h1 (Int64.lt_iff_toInt_lt.mpr e)
      exact Int64.lt_iff_toInt_lt.mpr (by omega)
/-- what the places of a split cost, each with 15 -/
def kS (kc o : Nat → Nat) : Nat → Nat
  | 0 => 0
  | k + 1 => kS kc o k + (kc k + 15 + (if o k % 7 > 0 then 3 else 0))
def kCd (o : Nat → Nat) (m : Nat) : Nat → Nat
  | 0 => 0
  | k + 1 => 28 * kCd o m k + (if k < m then o k else 0)
def mkey (kc o : Nat → Nat) (m : Nat) : Nat := (16 * (kS kc o m - 15) + m) * 377801998336 + kCd o m 8
theorem kS_ge (kc o : Nat → Nat) {m : Nat} (h : 1 ≤ m) : 15 ≤ kS kc o m := by
  cases m with
  | zero => omega
  | succ m => unfold kS; split <;> omega
theorem kS_le (kc o : Nat → Nat) (h : ∀ k, kc k ≤ 140) (m : Nat) : kS kc o m ≤ 158 * m := by
  induction m with
  | zero => exact Nat.le_refl _
  | succ m ih => have := h m; unfold kS; split <;> omega
theorem kCd_lt (o : Nat → Nat) (m : Nat) (h : ∀ k, k < m → o k < 28) (n : Nat) : kCd o m n < 28 ^ n := by
  induction n with
  | zero => exact (by decide : 0 < 1)
  | succ n ih =>
    unfold kCd
    rw [Nat.pow_succ]
    split
    · rename_i h1
      have := h n h1
      omega
    · omega
theorem mkey_lt (kc o : Nat → Nat) (hk : ∀ k, kc k ≤ 140) {m : Nat} (hm : m ≤ 8) (h : ∀ k, k < m → o k < 28) : mkey kc o m < 9223372036854775808 := by
  have h1 := kS_le kc o hk m
  have h2 := kCd_lt o m h 8
  unfold mkey
  rw [show (28 : Nat) ^ 8 = 377801998336 by decide] at h2
  generalize kCd o m 8 = u at h2 ⊢
  generalize kS kc o m = v at h1 ⊢
  omega
theorem mkey_div (kc o : Nat → Nat) (m : Nat) (h : ∀ k, k < m → o k < 28) : mkey kc o m / 377801998336 = 16 * (kS kc o m - 15) + m ∧ mkey kc o m % 377801998336 = kCd o m 8 := by
  have h2 := kCd_lt o m h 8
  rw [show (28 : Nat) ^ 8 = 377801998336 by decide] at h2
  unfold mkey
  generalize kCd o m 8 = u at h2 ⊢
  generalize 16 * (kS kc o m - 15) + m = v
  omega
/-- a split: its places' options (7 times what the part lacks of 4 letters, and the link) with their parts -/
abbrev SP : Type := List (Nat × Nat)
def spO (l : SP) (k : Nat) : Nat := (l.getD k (0, 0)).1
def spP (l : SP) (k : Nat) : Nat := (l.getD k (0, 0)).2
def mkl (x : LX) (l : SP) : Nat := mkey (fun k => ko (lC x (spP l k))) (spO l) l.length
def enO (F : Nat → List SP) : Nat → List SP
  | 0 => []
  | z + 1 => F (28 - (z + 1)) ++ enO F z
/-- all splits from letter a on, behind the part pv, in the reference's order -/
def en (x : LX) (L : Nat) (d : Nat → Nat) : Nat → Nat → Option Nat → List SP
  | 0, _, _ => []
  | f + 1, a, pv => enO (fun o => match stp x L d a pv (4 - o / 7) (o % 7) with
    | none => []
    | some (p, e) => if e = L then [[(o, p)]] else (en x L d f e (some p)).map (fun l => (o, p) :: l)) 28
def enF (x : LX) (L : Nat) (d : Nat → Nat) (f a : Nat) (pv : Option Nat) (o : Nat) : List SP := match stp x L d a pv (4 - o / 7) (o % 7) with
    | none => []
    | some (p, e) => if e = L then [[(o, p)]] else (en x L d f e (some p)).map (fun l => (o, p) :: l)
theorem en_succ (x : LX) (L : Nat) (d : Nat → Nat) (f a : Nat) (pv : Option Nat) : en x L d (f + 1) a pv = enO (enF x L d f a pv) 28 := rfl
def mEn (x : LX) (d : Nat → Nat) (L : Nat) : List SP := en x L d 8 0 none
def KS (x : LX) (pre : SP) (ks : Nat → Int64) (sp : Nat) (outs : List SP) : Prop := ∀ (i : Nat) (l : SP), outs[i]? = some l → ks (sp + i) = lN (mkl x (pre ++ l))
theorem KS_nil (x : LX) (pre : SP) (ks : Nat → Int64) (sp : Nat) : KS x pre ks sp [] := fun i l h => by simp at h
theorem KS_app {x : LX} {pre : SP} {ks : Nat → Int64} {sp : Nat} {A B : List SP} (hA : KS x pre ks sp A) (hB : KS x pre ks (sp + A.length) B) : KS x pre ks sp (A ++ B) := fun i l h => by
  rcases Nat.lt_or_ge i A.length with h1 | h1
  · rw [List.getElem?_append_left h1] at h
    exact hA i l h
  · rw [List.getElem?_append_right h1] at h
    have := hB (i - A.length) l h
    rw [show sp + A.length + (i - A.length) = sp + i by omega] at this
    exact this
theorem KS_keep {x : LX} {pre : SP} {ks ks' : Nat → Int64} {sp n : Nat} {A : List SP} (hA : KS x pre ks sp A) (hk : ∀ i, i < n → ks' i = ks i) (hn : sp + A.length ≤ n) : KS x pre ks' sp A := fun i l h => by
  have hi := (List.getElem?_eq_some_iff.mp h).1
  rw [hk _ (by omega)]
  exact hA i l h
theorem KS_map {x : LX} {pre : SP} {y : Nat × Nat} {ks : Nat → Int64} {sp : Nat} {A : List SP} (hA : KS x (pre ++ [y]) ks sp A) : KS x pre ks sp (A.map (fun l => y :: l)) := fun i l h => by
  rw [List.getElem?_map] at h
  cases hq : A[i]? with
  | none => rw [hq] at h; cases h
  | some q =>
    rw [hq] at h
    cases h
    have := hA i q hq
    rw [List.append_assoc] at this
    exact this
theorem KS_one {x : LX} {pre : SP} {y : Nat × Nat} {ks : Nat → Int64} {sp : Nat} (h : ks sp = lN (mkl x (pre ++ [y]))) : KS x pre ks sp [[y]] := fun i l hl => by
  cases i with
  | zero => cases hl; exact h
  | succ i => simp at hl
theorem spO_pre (pre : SP) (y : Nat × Nat) {k : Nat} (h : k < pre.length) : spO (pre ++ [y]) k = spO pre k := by
  unfold spO
  rw [List.getD_eq_getElem?_getD, List.getD_eq_getElem?_getD, List.getElem?_append_left h]
theorem spP_pre (pre : SP) (y : Nat × Nat) {k : Nat} (h : k < pre.length) : spP (pre ++ [y]) k = spP pre k := by
  unfold spP
  rw [List.getD_eq_getElem?_getD, List.getD_eq_getElem?_getD, List.getElem?_append_left h]
theorem spO_last (pre : SP) (y : Nat × Nat) : spO (pre ++ [y]) pre.length = y.1 := by
  unfold spO
  rw [List.getD_eq_getElem?_getD, List.getElem?_append_right (Nat.le_refl _), Nat.sub_self]
  rfl
theorem spP_last (pre : SP) (y : Nat × Nat) : spP (pre ++ [y]) pre.length = y.2 := by
  unfold spP
  rw [List.getD_eq_getElem?_getD, List.getElem?_append_right (Nat.le_refl _), Nat.sub_self]
  rfl
/-- the arrays hold a split's places -/
def holds (l : SP) (op pt : Nat → Int32) (np : Nat) : Prop := ∀ k, k < l.length → op k = nI (spO l k) ∧ spO l k < 28 ∧ pt k = nI (spP l k) ∧ spP l k < np
theorem holds_push {l : SP} {op pt op1 pt1 : Nat → Int32} {np o p : Nat} (h : holds l op pt np) (ho : o < 28) (hp : p < np) (h1 : ∀ k, k < l.length → op1 k = op k ∧ pt1 k = pt k) (h2 : op1 l.length = nI o ∧ pt1 l.length = nI p) : holds (l ++ [(o, p)]) op1 pt1 np := fun k hk => by
  rw [List.length_append, List.length_singleton] at hk
  rcases Nat.lt_or_ge k l.length with h3 | h3
  · rw [spO_pre _ _ h3, spP_pre _ _ h3, (h1 k h3).1, (h1 k h3).2]
    exact h k h3
  · have e : k = l.length := by omega
    subst e
    rw [spO_last, spP_last]
    exact ⟨h2.1, ho, h2.2, hp⟩
theorem holds_keep {l : SP} {op pt op1 pt1 : Nat → Int32} {np : Nat} (h : holds l op pt np) (h1 : ∀ k, k < l.length → op1 k = op k ∧ pt1 k = pt k) : holds l op1 pt1 np := fun k hk => by
  rw [(h1 k hk).1, (h1 k hk).2]
  exact h k hk
def cntLt (ks : Nat → Int64) (v : Int64) : Nat → Nat
  | 0 => 0
  | n + 1 => cntLt ks v n + (if ks n < v then 1 else 0)
theorem cntLt_le (ks : Nat → Int64) (v : Int64) (n : Nat) : cntLt ks v n ≤ n := by
  induction n with
  | zero => exact Nat.le_refl _
  | succ n ih => unfold cntLt; split <;> omega
def selK (ks : Nat → Int64) (sp : Nat) (k : Int32) : Nat → Int64
  | 0 => -1
  | s + 1 => if nI (cntLt ks (ks s) sp) = k then ks s else selK ks sp k s
