/-! the class's keys, and the order in which it goes through the splits of a word -/
def cS (x : LX) (l : SP) : Nat := kS (fun k => ko (lC x (spP l k))) (spO l) l.length
def cC (l : SP) : Nat := kC (spO l) l.length
theorem ckl_eq (x : LX) (l : SP) : ckl x l = ((cS x l - 15) * 16 + l.length) * 1099511627776 + cC l := rfl
theorem kS_congr {kc kc1 o o1 : Nat → Nat} : ∀ n, (∀ k, k < n → kc k = kc1 k ∧ o k = o1 k) → kS kc o n = kS kc1 o1 n := by
  intro n
  induction n with
  | zero => intro _; rfl
  | succ n ih =>
    intro h
    unfold kS
    rw [ih (fun k hk => h k (by omega)), (h n (by omega)).1, (h n (by omega)).2]
theorem kC_congr {o o1 : Nat → Nat} : ∀ n, (∀ k, k < n → o k = o1 k) → kC o n = kC o1 n := by
  intro n
  induction n with
  | zero => intro _; rfl
  | succ n ih =>
    intro h
    unfold kC
    rw [ih (fun k hk => h k (by omega)), h n (by omega)]
theorem cS_push (x : LX) (l : SP) (y : Nat × Nat) : cS x (l ++ [y]) = cS x l + (ko (lC x y.2) + 15 + (if y.1 % 7 > 0 then 3 else 0)) := by
  unfold cS
  rw [List.length_append, List.length_singleton, kS, spP_last, spO_last]
  congr 1
  exact kS_congr _ (fun k hk => ⟨by rw [spP_pre _ _ hk], spO_pre _ _ hk⟩)
theorem cC_push (l : SP) (y : Nat × Nat) : cC (l ++ [y]) = cC l + cdg y.1 * 32 ^ (7 - l.length) := by
  unfold cC
  rw [List.length_append, List.length_singleton, kC, spO_last]
  congr 1
  exact kC_congr _ (fun k hk => spO_pre _ _ hk)
theorem p32 (k : Nat) : 32 ^ k = 2 ^ (5 * k) := by rw [Nat.pow_mul]
theorem p32_s {k : Nat} (h : k ≤ 7) : 32 ^ (8 - k) = 32 * 32 ^ (7 - k) := by rw [show 8 - k = (7 - k) + 1 by omega, Nat.pow_succ, Nat.mul_comm]
/-- a code's low end is free, and it has room -/
def cRm (K n : Nat) : Prop := (∃ M, K = M * 32 ^ (8 - n)) ∧ K + 32 ^ (8 - n) ≤ 1099511627776
theorem cRm_0 : cRm 0 0 := ⟨⟨0, (Nat.zero_mul _).symm⟩, by decide⟩
theorem cRm_push {K n v : Nat} (hn : n ≤ 7) (hv : v < 32) (h : cRm K n) : cRm (K + v * 32 ^ (7 - n)) (n + 1) := by
  obtain ⟨⟨M, hM⟩, hb⟩ := h
  have e := p32_s hn
  have e2 : 8 - (n + 1) = 7 - n := by omega
  unfold cRm
  rw [e2]
  rw [e] at hM hb
  generalize 32 ^ (7 - n) = P at *
  refine ⟨⟨M * 32 + v, by rw [hM, Nat.add_mul]; congr 1; rw [Nat.mul_assoc]⟩, ?_⟩
  have : v * P ≤ 31 * P := Nat.mul_le_mul_right _ (by omega)
  omega
theorem or_code {M s b : Nat} (hb : b < 2 ^ s) (h : M * 2 ^ s + b < 1099511627776) : lN (M * 2 ^ s) ||| lN b = lN (M * 2 ^ s + b) := g_or (k := s) rfl hb (by omega)
/-- a part's digit goes into the code -/
theorem or_part {K n v : Nat} (hn : n ≤ 7) (hv : v < 4) (h : cRm K n) : lN K ||| lN (v * 2 ^ (5 * (7 - n) + 3)) = lN (K + v * 8 * 32 ^ (7 - n)) := by
  obtain ⟨⟨M, hM⟩, hb⟩ := h
  have e : 32 ^ (8 - n) = 2 ^ (5 * (8 - n)) := p32 _
  have e1 : v * 2 ^ (5 * (7 - n) + 3) = v * 8 * 32 ^ (7 - n) := by rw [Nat.pow_add, p32, Nat.mul_comm (2 ^ (5 * (7 - n))), ← Nat.mul_assoc]
  have hs := p32_s hn
  have hlt : v * 8 * 32 ^ (7 - n) < 32 ^ (8 - n) := by
    rw [hs]
    exact Nat.mul_lt_mul_of_pos_right (by omega) (Nat.pow_pos (by decide))
  rw [e1, hM, e]
  rw [hM] at hb
  rw [e] at hb hlt
  exact or_code hlt (by omega)
/-- a link's digit goes into the code behind a part -/
theorem or_link {K n v c : Nat} (hn : n ≤ 7) (hv : v < 4) (hc : c < 8) (h : cRm K n) : lN (K + v * 8 * 32 ^ (7 - n)) ||| lN (c * 2 ^ (5 * (7 - n))) = lN (K + (v * 8 + c) * 32 ^ (7 - n)) := by
  obtain ⟨⟨M, hM⟩, hb⟩ := h
  have hs := p32_s hn
  have e : 32 ^ (7 - n) = 2 ^ (5 * (7 - n)) := p32 _
  have h1 : K + v * 8 * 32 ^ (7 - n) = (M * 4 + v) * 2 ^ (5 * (7 - n) + 3) := by
    rw [hM, hs, e, Nat.pow_add, Nat.add_mul]
    generalize 2 ^ (5 * (7 - n)) = P
    show M * (32 * P) + v * 8 * P = M * 4 * (P * 8) + v * (P * 8)
    have : M * (32 * P) = M * 4 * (P * 8) := by rw [Nat.mul_assoc, show 4 * (P * 8) = 32 * P by omega]
    have : v * 8 * P = v * (P * 8) := by rw [Nat.mul_assoc, Nat.mul_comm 8 P]
    omega
  have hpos : 0 < 2 ^ (5 * (7 - n)) := Nat.pow_pos (by decide)
  have hlt : c * 2 ^ (5 * (7 - n)) < 2 ^ (5 * (7 - n) + 3) := by
    rw [Nat.pow_add, Nat.mul_comm (2 ^ (5 * (7 - n)))]
    exact Nat.mul_lt_mul_of_pos_right (by omega) hpos
  have h2 : K + (v * 8 + c) * 32 ^ (7 - n) = (M * 4 + v) * 2 ^ (5 * (7 - n) + 3) + c * 2 ^ (5 * (7 - n)) := by
    rw [← h1, e, Nat.add_mul]
    omega
  rw [h1, h2]
  refine or_code hlt ?_
  rw [← h2]
  rw [hs] at hb
  have : (v * 8 + c) * 32 ^ (7 - n) ≤ 31 * 32 ^ (7 - n) := Nat.mul_le_mul_right _ (by omega)
  have : 0 < 32 ^ (7 - n) := Nat.pow_pos (by decide)
  omega
def ecS (F : Nat → List SP) : Nat → List SP
  | 0 => []
  | n + 1 => ecS F n ++ F (n + 1)
/-- behind a part of n letters that ends at e: nothing, and each link -/
def ecG (x : LX) (L : Nat) (d : Nat → Nat) (E : Nat → List SP) (e p n s : Nat) : List SP := if e + s < L then (match lwAt x d e s with
  | none => []
  | some l => if lB x p l = true then [] else (E (e + s)).map (fun q => ((4 - n) * 7 + (l + 1), p) :: q)) else []
def ecL (x : LX) (L : Nat) (d : Nat → Nat) (E : Nat → List SP) (e p n : Nat) : List SP := (E e).map (fun q => ((4 - n) * 7, p) :: q) ++ ecS (ecG x L d E e p n) 2
def ecP (x : LX) (L : Nat) (d : Nat → Nat) (E : Nat → Nat → List SP) (a : Nat) (pv : Option Nat) (n : Nat) : List SP := match stp x L d a pv n 0 with
  | none => []
  | some (p, e) => if e = L then [[((4 - n) * 7, p)]] else ecL x L d (fun i => E i p) e p n
/-- all splits from letter a on, behind the part pv, in the class's order -/
def ec (x : LX) (L : Nat) (d : Nat → Nat) : Nat → Nat → Option Nat → List SP
  | 0, _, _ => []
  | f + 1, a, pv => ecS (ecP x L d (fun i p => ec x L d f i (some p)) a pv) 4
theorem ecP_far {x : LX} {L : Nat} {d : Nat → Nat} {E : Nat → Nat → List SP} {a n : Nat} {pv : Option Nat} (h : L < a + n) : ecP x L d E a pv n = [] := by
  unfold ecP
  rw [stp_none (by unfold wAt; rw [if_neg (by omega)])]
theorem ecS_far {F : Nat → List SP} {n m : Nat} (hnm : n ≤ m) (h : ∀ k, n < k → k ≤ m → F k = []) : ecS F m = ecS F n := by
  induction m with
  | zero => rw [show n = 0 by omega]
  | succ m ih =>
    rcases Nat.lt_or_ge n (m + 1) with h1 | h1
    · rw [ecS, ih (by omega) (fun k a b => h k a (by omega)), h (m + 1) h1 (Nat.le_refl _), List.append_nil]
    · rw [show n = m + 1 by omega]
def CS (x : LX) (pre : SP) (ks : Nat → Int64) (sp : Nat) (outs : List SP) : Prop := ∀ (i : Nat) (l : SP), outs[i]? = some l → ks (sp + i) = lN (ckl x (pre ++ l))
theorem CS_nil (x : LX) (pre : SP) (ks : Nat → Int64) (sp : Nat) : CS x pre ks sp [] := fun i l h => by simp at h
theorem CS_app {x : LX} {pre : SP} {ks : Nat → Int64} {sp : Nat} {A B : List SP} (hA : CS x pre ks sp A) (hB : CS x pre ks (sp + A.length) B) : CS x pre ks sp (A ++ B) := fun i l h => by
  rcases Nat.lt_or_ge i A.length with h1 | h1
  · rw [List.getElem?_append_left h1] at h
    exact hA i l h
  · rw [List.getElem?_append_right h1] at h
    have := hB (i - A.length) l h
    rw [show sp + A.length + (i - A.length) = sp + i by omega] at this
    exact this
theorem CS_keep {x : LX} {pre : SP} {ks ks' : Nat → Int64} {sp n : Nat} {A : List SP} (hA : CS x pre ks sp A) (hk : ∀ i, i < n → ks' i = ks i) (hn : sp + A.length ≤ n) : CS x pre ks' sp A := fun i l h => by
  have hi := (List.getElem?_eq_some_iff.mp h).1
  rw [hk _ (by omega)]
  exact hA i l h
theorem CS_map {x : LX} {pre : SP} {y : Nat × Nat} {ks : Nat → Int64} {sp : Nat} {A : List SP} (hA : CS x (pre ++ [y]) ks sp A) : CS x pre ks sp (A.map (fun l => y :: l)) := fun i l h => by
  rw [List.getElem?_map] at h
  cases hq : A[i]? with
  | none => rw [hq] at h; cases h
  | some q =>
    rw [hq] at h
    cases h
    have := hA i q hq
    rw [List.append_assoc] at this
    exact this
theorem CS_one {x : LX} {pre : SP} {y : Nat × Nat} {ks : Nat → Int64} {sp : Nat} (h : ks sp = lN (ckl x (pre ++ [y]))) : CS x pre ks sp [[y]] := fun i l hl => by
  cases i with
  | zero => cases hl; exact h
  | succ i => simp at hl
