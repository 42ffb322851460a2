/-! nodes, as the law counts them -/
def exN (t : Nat → Nat) (v : Nat) : Nat → Bool
  | 0 => false
  | i + 1 => exN t v i || decide (t i = v)
def inR (t s : Nat → Nat) (np P n Q m : Nat) : Nat → Bool
  | 0 => true
  | k + 1 => inR t s np P n Q m k && (!(decide (n ≤ s k ∧ bgN t s n k = bgN t s n P)) || exN t (bgN t s m Q * 10 ^ (s k - n) + t k % 10 ^ (s k - n)) np)
def frL (R : Nat → Nat → Bool) (v : Nat → Bool) (p : Nat) : Nat → Bool
  | 0 => true
  | q + 1 => frL R v p q && !(v q && (R p q && R q p))
theorem exN_iff {t : Nat → Nat} {v : Nat} : ∀ n, exN t v n = true ↔ ∃ k, k < n ∧ t k = v := by
  intro n
  induction n with
  | zero => exact ⟨fun h => (by cases h), fun ⟨k, h, _⟩ => absurd h (Nat.not_lt_zero k)⟩
  | succ n ih =>
    unfold exN
    rw [Bool.or_eq_true, ih, decide_eq_true_iff]
    constructor
    · rintro (⟨k, h1, h2⟩ | h)
      · exact ⟨k, by omega, h2⟩
      · exact ⟨n, by omega, h⟩
    · rintro ⟨k, h1, h2⟩
      rcases Nat.lt_or_ge k n with h3 | h3
      · exact Or.inl ⟨k, h3, h2⟩
      · right
        rw [← show k = n by omega]
        exact h2
section IN
variable {t s : Nat → Nat} {np P n Q m : Nat}
theorem inR_iff : ∀ z, inR t s np P n Q m z = true ↔ ∀ k, k < z → n ≤ s k → bgN t s n k = bgN t s n P → ∃ i, i < np ∧ t i = bgN t s m Q * 10 ^ (s k - n) + t k % 10 ^ (s k - n) := by
  intro z
  induction z with
  | zero => exact ⟨fun _ k hk => absurd hk (Nat.not_lt_zero k), fun _ => rfl⟩
  | succ z ih =>
    unfold inR
    rw [Bool.and_eq_true, ih, Bool.or_eq_true, exN_iff]
    constructor
    · rintro ⟨h1, h2⟩ k hk hn hb
      rcases Nat.lt_or_ge k z with h3 | h3
      · exact h1 k h3 hn hb
      · have h4 : k = z := by omega
        subst h4
        rcases h2 with h2 | h2
        · rw [decide_eq_true (show n ≤ s k ∧ bgN t s n k = bgN t s n P from ⟨hn, hb⟩)] at h2
          cases h2
        · exact h2
    · intro h
      refine ⟨fun k hk => h k (by omega), ?_⟩
      by_cases h1 : n ≤ s z ∧ bgN t s n z = bgN t s n P
      · exact Or.inr (h z (by omega) h1.1 h1.2)
      · left
        rw [decide_eq_false h1]
        rfl
theorem inR_f {k : Nat} (hk : k < np) (h1 : n ≤ s k ∧ bgN t s n k = bgN t s n P) (h2 : exN t (bgN t s m Q * 10 ^ (s k - n) + t k % 10 ^ (s k - n)) np = false) : inR t s np P n Q m np = false := by
  cases h : inR t s np P n Q m np with
  | false => rfl
  | true =>
    have := (exN_iff np).mpr ((inR_iff np).mp h k hk h1.1 h1.2)
    rw [h2] at this
    cases this
theorem inR_s {k : Nat} (h : inR t s np P n Q m k = true) (h1 : (n ≤ s k ∧ bgN t s n k = bgN t s n P) → exN t (bgN t s m Q * 10 ^ (s k - n) + t k % 10 ^ (s k - n)) np = true) : inR t s np P n Q m (k + 1) = true := by
  unfold inR
  rw [h, Bool.true_and, Bool.or_eq_true]
  by_cases h2 : n ≤ s k ∧ bgN t s n k = bgN t s n P
  · exact Or.inr (h1 h2)
  · left
    rw [decide_eq_false h2]
    rfl
theorem inR_Rm (hw : ∀ k, k < np → 10 ^ s k ≤ t k ∧ t k < 2 * 10 ^ s k) (hP : P < np) (hn : n ≤ s P) (hQ : Q < np) (hm : m ≤ s Q) : inR t s np P n Q m np = true ↔ ∀ j u, Rm t np (bgN t s n P) j u → Rm t np (bgN t s m Q) j u := by
  rw [inR_iff]
  have hb := bgN_rng hw hP hn
  constructor
  · rintro h j u ⟨k, h1, h2, h3⟩
    have h4 := div_rng h2 hb.1 hb.2
    have h5 := hw k h1
    have h6 : s k = n + j := exp_uni h5.1 h5.2 h4.1 h4.2
    obtain ⟨i, h7, h8⟩ := h k h1 (by omega) (by unfold bgN; rw [show s k - n = j by omega]; exact h2)
    rw [show s k - n = j by omega, h3] at h8
    have h9 : u < 10 ^ j := by rw [← h3]; exact Nat.mod_lt _ (p10_pos j)
    refine ⟨i, h7, ?_, ?_⟩
    · rw [h8, Nat.mul_comm, Nat.mul_add_div (p10_pos j), Nat.div_eq_of_lt h9, Nat.add_zero]
    · rw [h8, Nat.mul_comm, Nat.mul_add_mod, Nat.mod_eq_of_lt h9]
  · intro h k hk hn2 hb2
    obtain ⟨i, h1, h2, h3⟩ := h (s k - n) (t k % 10 ^ (s k - n)) ⟨k, hk, hb2, rfl⟩
    refine ⟨i, h1, ?_⟩
    rw [← h2, ← h3, Nat.mul_comm]
    exact (Nat.div_add_mod _ _).symm
theorem frL_iff {R : Nat → Nat → Bool} {v : Nat → Bool} {p : Nat} : ∀ q, frL R v p q = true ↔ ∀ j, j < q → v j = true → ¬ (R p j = true ∧ R j p = true) := by
  intro q
  induction q with
  | zero => exact ⟨fun _ j hj => absurd hj (Nat.not_lt_zero j), fun _ => rfl⟩
  | succ q ih =>
    unfold frL
    rw [Bool.and_eq_true, ih]
    constructor
    · rintro ⟨h1, h2⟩ j hj hv ⟨h3, h4⟩
      rcases Nat.lt_or_ge j q with h5 | h5
      · exact h1 j h5 hv ⟨h3, h4⟩
      · have h6 : j = q := by omega
        subst h6
        rw [hv, h3, h4] at h2
        cases h2
    · intro h
      refine ⟨fun j hj => h j (by omega), ?_⟩
      have := h q (by omega)
      cases hv : v q with
      | false => rfl
      | true =>
        cases h1 : R p q with
        | false => rfl
        | true =>
          cases h2 : R q p with
          | false => rfl
          | true => exact absurd ⟨h1, h2⟩ (this hv)
theorem frL_f {R : Nat → Nat → Bool} {v : Nat → Bool} {p q z : Nat} (hq : q ≤ z) (h : frL R v p q = false) : frL R v p z = false := by
  cases h1 : frL R v p z with
  | false => rfl
  | true =>
    have h2 := (frL_iff z).mp h1
    have h3 := (frL_iff q).mpr (fun j hj => h2 j (by omega))
    rw [h] at h3
    cases h3
theorem cntB_add (b : Nat → Bool) (a : Nat) : ∀ m, cntB b (a + m) = cntB b a + cntB (fun i => b (a + i)) m := by
  intro m
  induction m with
  | zero => rfl
  | succ m ih =>
    show cntB b (a + m) + _ = _
    rw [ih, Nat.add_assoc]
    rfl
theorem cntB_cut (e : Nat → Bool) (S : Nat) : ∀ m, cntB (fun n => decide (n ≤ S) && e n) m = cntB e (if m ≤ S + 1 then m else S + 1) := by
  intro m
  induction m with
  | zero => rfl
  | succ m ih =>
    show cntB (fun n => decide (n ≤ S) && e n) m + (if (decide (m ≤ S) && e m) = true then 1 else 0) = _
    rw [ih]
    by_cases h1 : m ≤ S
    · rw [if_pos (show m ≤ S + 1 by omega), if_pos (show m + 1 ≤ S + 1 by omega), decide_eq_true h1, Bool.true_and]
      rfl
    · rw [decide_eq_false h1, Bool.false_and, if_neg (show ¬ false = true by decide)]
      by_cases h2 : m ≤ S + 1
      · rw [if_pos h2, if_neg (show ¬ m + 1 ≤ S + 1 by omega), show m = S + 1 by omega, Nat.add_zero]
      · rw [if_neg h2, if_neg (show ¬ m + 1 ≤ S + 1 by omega), Nat.add_zero]
theorem cntB_congr {b b' : Nat → Bool} : ∀ m, (∀ i, i < m → b i = b' i) → cntB b m = cntB b' m := by
  intro m
  induction m with
  | zero => intro _; rfl
  | succ m ih =>
    intro h
    unfold cntB
    rw [ih (fun i hi => h i (by omega)), h m (by omega)]
def lvV (s : Nat → Nat) (q : Nat) : Bool := decide (q % 5 ≤ s (q / 5))
def lvR (t s : Nat → Nat) (np p q : Nat) : Bool := inR t s np (p / 5) (p % 5) (q / 5) (q % 5) np
def lvB (t s : Nat → Nat) (np p : Nat) : Bool := lvV s p && frL (lvR t s np) (lvV s) p p
theorem lv_fr (hw : ∀ k, k < np → 10 ^ s k ≤ t k ∧ t k < 2 * 10 ^ s k) (hs : ∀ k, k < np → s k ≤ 4) (hP : P < np) (hn : n ≤ s P) : frL (lvR t s np) (lvV s) (5 * P + n) (5 * P + n) = nwPN t s np P n (P + 1) := by
  have hn4 := hs P hP
  have key : ∀ {q : Nat}, q < 5 * P + n → lvV s q = true → ((lvR t s np (5 * P + n) q = true ∧ lvR t s np q (5 * P + n) = true) ↔ Rq t np (bgN t s n P) (bgN t s (q % 5) (q / 5))) := by
    intro q hq hv
    have hv := of_decide_eq_true hv
    unfold lvR
    rw [show (5 * P + n) / 5 = P by omega, show (5 * P + n) % 5 = n by omega, inR_Rm hw hP hn (show q / 5 < np by omega) hv, inR_Rm hw (show q / 5 < np by omega) hv hP hn]
    exact ⟨fun ⟨h1, h2⟩ j u => ⟨h1 j u, h2 j u⟩, fun h => ⟨fun j u => (h j u).mp, fun j u => (h j u).mpr⟩⟩
  have h1 : frL (lvR t s np) (lvV s) (5 * P + n) (5 * P + n) = true ↔ nwPN t s np P n (P + 1) = true := by
    rw [frL_iff, nw_iff hw hP hn]
    constructor
    · intro h q m hqm hr
      have hq : q < np := by rcases hqm with ⟨h1, _⟩ | ⟨h1, _⟩ <;> omega
      have hm : m ≤ s q := by
        rcases hqm with ⟨_, h2⟩ | ⟨h1, h2⟩
        · exact h2
        · rw [h1]; omega
      have hm4 := hs q hq
      have hlt : 5 * q + m < 5 * P + n := by rcases hqm with ⟨h1, _⟩ | ⟨h1, h2⟩ <;> omega
      have hv : lvV s (5 * q + m) = true := decide_eq_true (by rw [show (5 * q + m) % 5 = m by omega, show (5 * q + m) / 5 = q by omega]; exact hm)
      refine h (5 * q + m) hlt hv ((key hlt hv).mpr ?_)
      rw [show (5 * q + m) % 5 = m by omega, show (5 * q + m) / 5 = q by omega]
      exact hr
    · intro h j hj hv hr
      have hv2 := of_decide_eq_true hv
      refine h (j / 5) (j % 5) ?_ ((key hj hv).mp hr)
      rcases Nat.lt_or_ge (j / 5) P with h1 | h1
      · exact Or.inl ⟨h1, hv2⟩
      · exact Or.inr ⟨by omega, by omega⟩
  cases h2 : frL (lvR t s np) (lvV s) (5 * P + n) (5 * P + n) with
  | true => exact (h1.mp h2).symm
  | false =>
    cases h3 : nwPN t s np P n (P + 1) with
    | false => rfl
    | true => rw [h1.mpr h3] at h2; cases h2
theorem lv_nodes (hw : ∀ k, k < np → 10 ^ s k ≤ t k ∧ t k < 2 * 10 ^ s k) (hs : ∀ k, k < np → s k ≤ 4) : ∀ P, P ≤ np → cntB (lvB t s np) (5 * P) = nodesM t s np P := by
  intro P
  induction P with
  | zero => intro _; rfl
  | succ P ih =>
    intro hP
    rw [show 5 * (P + 1) = 5 * P + 5 by omega, cntB_add, ih (by omega)]
    show _ = nodesM t s np P + cntP t s np P (s P + 1)
    congr 1
    have hs4 := hs P (by omega)
    have h1 : cntB (fun i => lvB t s np (5 * P + i)) 5 = cntB (fun n => decide (n ≤ s P) && nwPN t s np P n (P + 1)) 5 := by
      refine cntB_congr 5 (fun i hi => ?_)
      unfold lvB
      have h2 : lvV s (5 * P + i) = decide (i ≤ s P) := by
        unfold lvV
        rw [show (5 * P + i) % 5 = i by omega, show (5 * P + i) / 5 = P by omega]
      rw [h2]
      by_cases h3 : i ≤ s P
      · rw [lv_fr hw hs (by omega) h3]
      · rw [decide_eq_false h3]
        rfl
    rw [h1, cntB_cut]
    unfold cntP
    congr 1
    split <;> omega
end IN
section INL
variable {x : LX} {k n : Nat}
theorem bg_val {w z m : Nat} (h1 : 10 ^ z ≤ w) (h2 : w < 2 * 10 ^ z) (hm : m ≤ z) : w / 10 ^ (z - m) % 10 ^ m + 10 ^ m = w / 10 ^ (z - m) := by
  have e : 10 ^ z = 10 ^ (z - m) * 10 ^ m := by rw [← Nat.pow_add]; congr 1; omega
  have hp := p10_pos (z - m)
  have h3 : 10 ^ m ≤ w / 10 ^ (z - m) := (Nat.le_div_iff_mul_le hp).mpr (by rw [Nat.mul_comm, ← e]; exact h1)
  have h4 : w / 10 ^ (z - m) < 2 * 10 ^ m := (Nat.div_lt_iff_lt_mul hp).mpr (by rw [Nat.mul_assoc, Nat.mul_comm (10 ^ m), ← e]; exact h2)
  generalize w / 10 ^ (z - m) = v at h3 h4
  rw [Nat.mod_eq_sub_mod h3, Nat.mod_eq_of_lt (by omega)]
  omega
theorem bg_sub (hok : lxOK x) (hk : k < lNp x) (hn : n ≤ szN (lT x k)) : (if 0 + n ≤ szN (lT x k) then nI (TA (dgt (lT x k) (szN (lT x k))) 0 n) else -1) = nI (bgN (lT x) (fun i => szN (lT x i)) n k) := by
  obtain ⟨t1, t2, t3, t4⟩ := hok.2.2.1 k hk
  rw [if_pos (by omega), ← sub_val 0 n (by omega), Nat.sub_zero, bg_val t3 t4 hn]
  rfl
theorem rs_sub (hn : n ≤ szN (lT x k)) : (if n + (szN (lT x k) - n) ≤ szN (lT x k) then nI (TA (dgt (lT x k) (szN (lT x k))) n (szN (lT x k) - n)) else -1) = nI (lT x k % 10 ^ (szN (lT x k) - n) + 10 ^ (szN (lT x k) - n)) := by
  rw [if_pos (by omega), ← sub_val n _ (by omega), Nat.sub_self, Nat.pow_zero, Nat.div_one]
theorem bg_le (t s : Nat → Nat) (n k : Nat) : bgN t s n k ≤ t k := Nat.div_le_self _ _
theorem nI_sneg {a b : Nat} (hb : b < 2147483648) (h : a < b) : nI a - nI b < 0 := by
  refine Int32.lt_iff_toInt_lt.mpr ?_
  rw [Int32.toInt_sub, nI_toInt (show a < 2 ^ 31 by omega), nI_toInt (show b < 2 ^ 31 by omega)]
  rw [Int.bmod_eq_of_le (by omega) (by omega)]
  show _ < (0 : Int32).toInt
  rw [show (0 : Int32).toInt = 0 by decide]
  omega
theorem bI_or (a b : Bool) : bI a ||| bI b = bI (a || b) := by cases a <;> cases b <;> decide
end INL
