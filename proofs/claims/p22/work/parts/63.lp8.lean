/-! calls that must throw, and those that must not -/
theorem ng_t {a b c : Int32} (h : ¬ (1 ≤ SZ a 8 ∧ SZ a 8 ≤ 4)) : ¬ goodC a b c := fun g => h g.1
theorem ng_c {a b c : Int32} (h : ¬ (nI 1 ≤ b ∧ b ≤ nI 9999)) : ¬ goodC a b c := fun g => h g.2.1
theorem ng_f {a b c : Int32} (h : ¬ (nI 1 ≤ c ∧ c ≤ nI 7)) : ¬ goodC a b c := fun g => h g.2.2
theorem sz_2 : SZ (nI 2) 8 = 0 := by decide +kernel
theorem sz_5 : SZ (nI 100000) 8 = 5 := by decide +kernel
theorem sz_m12 : SZ (-12) 8 = 0 := by decide +kernel
theorem sz_1000 : SZ (nI 1000) 8 = 3 := by decide +kernel
theorem sz_20 : SZ (nI 20) 8 = 0 := by decide +kernel
theorem sz_8m {v : Nat} (h : v < 20000) : SZ (nI (v + 8000000)) 8 = 0 := by
  refine SZ_zero (fun j h1 h2 ⟨h3, h4⟩ => ?_)
  have h3 := (nI_leI (show 10 ^ j < 2 ^ 31 by have := p10_le h2; omega) (by omega)).mp h3
  have h4 := (nI_ltI (show v + 8000000 < 2 ^ 31 by omega) (show 2 * 10 ^ j < 2 ^ 31 by have := p10_le h2; omega)).mp h4
  rcases (by omega : j ≤ 6 ∨ 7 ≤ j) with h5 | h5
  · have := p10_le h5
    omega
  · have := p10_le h5
    omega
theorem addx_r {np : Nat} {T : Nat → Int32} {a b c r : Int32} {E : String} (hn : ¬ goodC a b c) (h : xAddPart np T a b c E) (hc : (E = EIAE ∧ r = -72) ∨ (E = EISE ∧ r = -73)) : r = -72 := by
  rcases h with ⟨h1, _⟩ | ⟨_, h1, _⟩
  · rcases hc with ⟨_, h2⟩ | ⟨h2, _⟩
    · exact h2
    · rw [h1] at h2
      exact absurd h2 (by decide)
  · exact absurd h1 hn
theorem addx_s {np : Nat} {T : Nat → Int32} {a b c r : Int32} {E : String} (hg : goodC a b c) (h : xAddPart np T a b c E) (hc : (E = EIAE ∧ r = -72) ∨ (E = EISE ∧ r = -73)) : r = -73 := by
  rcases h with ⟨_, h1⟩ | ⟨h1, _⟩
  · exact absurd hg h1
  · rcases hc with ⟨h2, _⟩ | ⟨_, h2⟩
    · rw [h1] at h2
      exact absurd h2 (by decide)
    · exact h2
theorem lkx_r {P Q : Prop} {r : Int32} {E : String} (hn : ¬ P) (h : (E = EIAE ∧ ¬ P) ∨ (E = EISE ∧ P ∧ Q)) (hc : (E = EIAE ∧ r = -72) ∨ (E = EISE ∧ r = -73)) : r = -72 := by
  rcases h with ⟨h1, _⟩ | ⟨_, h1, _⟩
  · rcases hc with ⟨_, h2⟩ | ⟨h2, _⟩
    · exact h2
    · rw [h1] at h2
      exact absurd h2 (by decide)
  · exact absurd h1 hn
theorem lkx_s {P Q : Prop} {r : Int32} {E : String} (hg : P) (h : (E = EIAE ∧ ¬ P) ∨ (E = EISE ∧ P ∧ Q)) (hc : (E = EIAE ∧ r = -72) ∨ (E = EISE ∧ r = -73)) : r = -73 := by
  rcases h with ⟨_, h1⟩ | ⟨h1, _⟩
  · exact absurd hg h1
  · rcases hc with ⟨h2, _⟩ | ⟨_, h2⟩
    · rw [h1] at h2
      exact absurd h2 (by decide)
    · exact h2
theorem flx_p {P Q : Prop} {r : Int32} {E : String} (hn : ¬ P) (h : (E = EIOB ∧ ¬ P) ∨ (E = EIAE ∧ P ∧ Q)) (hc : (E = EIOB ∧ r = -71) ∨ (E = EIAE ∧ r = -72)) : r = -71 := by
  rcases h with ⟨h1, _⟩ | ⟨_, h1, _⟩
  · rcases hc with ⟨_, h2⟩ | ⟨h2, _⟩
    · exact h2
    · rw [h1] at h2
      exact absurd h2 (by decide)
  · exact absurd h1 hn
theorem flx_f {P Q : Prop} {r : Int32} {E : String} (hg : P) (h : (E = EIOB ∧ ¬ P) ∨ (E = EIAE ∧ P ∧ Q)) (hc : (E = EIOB ∧ r = -71) ∨ (E = EIAE ∧ r = -72)) : r = -72 := by
  rcases h with ⟨_, h1⟩ | ⟨h1, _⟩
  · exact absurd hg h1
  · rcases hc with ⟨h2, _⟩ | ⟨_, h2⟩
    · rw [h1] at h2
      exact absurd h2 (by decide)
    · exact h2
theorem pw_ex {x : LX} {np nl : Nat} {T C F LT VV BB : Nat → Int32} (hok : lxOK x) (h : cOK x np nl T C F LT VV BB) {w : Nat} (hw : w < 2147483648) : oI (pwI T (nI w) np) = -1 ↔ exN (lT x) w np = false := by
  have ht : ∀ i, i < lNp x → lT x i < 2147483648 := fun i hi => Nat.lt_trans (hok.t hi) (by decide)
  have h1 := pwI_pw (T := T) (t := lT x) (y := w) (n := np) hw (fun i hi => ⟨h.2.2.1 i hi, ht i (h.1 ▸ hi)⟩)
  have hb := hok.1
  rw [h1]
  cases hp : pw (lT x) w np with
  | none =>
    refine ⟨fun _ => ?_, fun _ => rfl⟩
    cases he : exN (lT x) w np with
    | false => rfl
    | true =>
      obtain ⟨k, h2, h3⟩ := (exN_iff np).mp he
      exact absurd h3 (pw_none hp k h2)
  | some p =>
    obtain ⟨a1, a2⟩ := pw_some hp
    have h0 := h.1
    refine ⟨fun h2 => absurd h2 (nI_nem1 (by omega)), fun h2 => ?_⟩
    rw [(exN_iff np).mpr ⟨p, a1, a2⟩] at h2
    cases h2
theorem pu_ex {x : LX} {np nl : Nat} {T C F LT VV BB : Nat → Int32} (hok : lxOK x) (h : cOK x np nl T C F LT VV BB) {w : Nat} (hw : w < 2147483648) : oI (pwI LT (nI w) nl) = -1 ↔ exN (lU x) w nl = false := by
  have ht : ∀ i, i < lNl x → lU x i < 2147483648 := fun i hi => Nat.lt_trans (hok.u hi) (by decide)
  have h1 := pwI_pw (T := LT) (t := lU x) (y := w) (n := nl) hw (fun i hi => ⟨h.2.2.2.2.2.1 i hi, ht i (h.2.1 ▸ hi)⟩)
  have hb := hok.2.1
  have h0 := h.2.1
  rw [h1]
  cases hp : pw (lU x) w nl with
  | none =>
    refine ⟨fun _ => ?_, fun _ => rfl⟩
    cases he : exN (lU x) w nl with
    | false => rfl
    | true =>
      obtain ⟨k, h2, h3⟩ := (exN_iff nl).mp he
      exact absurd h3 (pw_none hp k h2)
  | some p =>
    obtain ⟨a1, a2⟩ := pw_some hp
    refine ⟨fun h2 => absurd h2 (nI_nem1 (by omega)), fun h2 => ?_⟩
    rw [(exN_iff nl).mpr ⟨p, a1, a2⟩] at h2
    cases h2
theorem nI_swap {a b c : Nat} (h : c ≤ a) : nI a + (nI b - nI c) = nI (a - c + b) := by
  rw [show a = (a - c) + c by omega, ← nI_add, show a - c + c - c = a - c by omega, ← nI_add, Int32.sub_eq_add_neg]
  have : nI c + -nI c = 0 := Int32.add_right_neg _
  calc nI (a - c) + nI c + (nI b + -nI c) = nI (a - c) + nI b + (nI c + -nI c) := by ac_rfl
    _ = nI (a - c) + nI b := by rw [this, Int32.add_zero]
theorem shl_8 : ∀ n, n < 16 → nI 8 <<< (nI n &&& 31) = nI (2 ^ (3 + n)) := by decide +kernel
theorem shl_1 : ∀ n, n < 16 → nI 1 <<< (nI n &&& 31) = nI (2 ^ n) := by decide +kernel
theorem vb_r {v r : Int32} {b : Bool} (h : v = bI b) (hv : (v = 0 → r = nI 0) ∧ (¬ v = 0 → r = nI 1)) : r = nI (if b = true then 1 else 0) := by
  cases b with
  | false => exact hv.1 h
  | true => exact hv.2 (by rw [h]; decide)
theorem cIsP_no {np p : Nat} (hp : p < 2147483648) (hn : np ≤ 16) (h : np ≤ p) : ¬ cIsP np (nI p) := fun ⟨q, h1, h2⟩ => by
  have := nI_inj hp (by omega) h2
  omega
