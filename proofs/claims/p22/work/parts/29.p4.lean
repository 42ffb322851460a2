/-! heaps of keys -/
def rows64 (f : Nat → Int64) (n : Nat) : List Int64 := (List.range n).map f
theorem perm_sw {n i j : Nat} (f : Nat → Int64) (hi : i < n) (hj : j < n) : (rows64 (fun k => if k = j then f i else if k = i then f j else f k) n).Perm (rows64 f n) := by
  have hl : (rows64 f n).length = n := by unfold rows64; rw [List.length_map, List.length_range]
  have h := List.set_set_perm (as := rows64 f n) (i := i) (j := j) (by omega) (by omega)
  refine List.Perm.trans (List.Perm.of_eq ?_) h
  refine List.ext_getElem (by simp [rows64]) (fun k h1 h2 => ?_)
  have hk : k < n := by simpa [rows64] using h1
  rw [List.getElem_set, List.getElem_set]
  simp only [rows64, List.getElem_map, List.getElem_range]
  by_cases e1 : k = j
  · subst e1; simp
  · have e1' : ¬ j = k := fun e => e1 e.symm
    by_cases e2 : k = i
    · subst e2; simp [e1, e1']
    · have e2' : ¬ i = k := fun e => e2 e.symm
      simp [e1, e1', e2, e2']
theorem rows_congr {f g : Nat → Int64} {n : Nat} (h : ∀ i, i < n → f i = g i) : rows64 f n = rows64 g n := by
  unfold rows64
  exact List.map_congr_left (fun i hi => h i (List.mem_range.mp hi))
def HPP (v : Nat → Int64) (i left : Nat) : Prop := ∀ c, (c = 2 * i + 1 ∨ c = 2 * i + 2) → c < left → (v i).toInt ≤ (v c).toInt
def skI (n top left : Nat) (ks g : Nat → Int64) (ky : Int64) (a : Nat) : Prop := top ≤ a ∧ a < left ∧ (rows64 (vp_updL g a ky) n).Perm (rows64 ks n) ∧ (∀ i, i < top ∨ left ≤ i → g i = ks i) ∧ (∀ i, top ≤ i → i < left → i ≠ a → HPP (vp_updL g a ky) i left) ∧ (∀ j, top ≤ j → (a = 2 * j + 1 ∨ a = 2 * j + 2) → ∀ c, (c = 2 * a + 1 ∨ c = 2 * a + 2) → c < left → (vp_updL g a ky j).toInt ≤ (vp_updL g a ky c).toInt)
theorem skI_init {n top left : Nat} {ks : Nat → Int64} (h : top < left) (hh : ∀ i, top < i → i < left → HPP ks i left) : skI n top left ks ks (ks top) top := by
  have e : vp_updL ks top (ks top) = ks := by
    funext k
    unfold vp_updL
    split
    · rename_i h; rw [h]
    · rfl
  refine ⟨Nat.le_refl _, h, by rw [e], fun _ _ => rfl, fun i h1 h2 h3 => by rw [e]; exact hh i (by omega) h2, fun j h1 h2 => by omega⟩
theorem skI_step {n top left a ch : Nat} {ks g : Nat → Int64} {ky : Int64} (hn : left ≤ n) (h : skI n top left ks g ky a) (hc : ch = 2 * a + 1 ∨ ch = 2 * a + 2) (hcl : ch < left) (hmin : ∀ c, (c = 2 * a + 1 ∨ c = 2 * a + 2) → c < left → (g ch).toInt ≤ (g c).toInt) (hlt : (g ch).toInt < ky.toInt) : skI n top left ks (vp_updL g a (g ch)) ky ch := by
  obtain ⟨h1, h2, h3, h4, h5, h6⟩ := h
  have hne : ch ≠ a := by omega
  have va : vp_updL (vp_updL g a (g ch)) ch ky a = g ch := by rw [updL_n _ _ (by omega), updL_s]
  have vc : vp_updL (vp_updL g a (g ch)) ch ky ch = ky := updL_s _ _ _
  have vo : ∀ k, k ≠ a → k ≠ ch → vp_updL (vp_updL g a (g ch)) ch ky k = g k := fun k k1 k2 => by rw [updL_n _ _ k2, updL_n _ _ k1]
  have oo : ∀ k, k ≠ a → vp_updL g a ky k = g k := fun k k1 => updL_n _ _ k1
  have oa : vp_updL g a ky a = ky := updL_s _ _ _
  refine ⟨by omega, hcl, ?_, fun i hi => by rw [updL_n _ _ (by omega)]; exact h4 i hi, ?_, ?_⟩
  · refine List.Perm.trans ?_ h3
    have := perm_sw (n := n) (vp_updL g a ky) (i := a) (j := ch) (by omega) (by omega)
    refine List.Perm.trans (List.Perm.of_eq (rows_congr (fun k hk => ?_))) this
    by_cases e1 : k = ch
    · rw [if_pos e1, e1, vc, oa]
    · rw [if_neg e1]
      by_cases e2 : k = a
      · rw [if_pos e2, e2, va, oo ch hne]
      · rw [if_neg e2, vo k e2 e1, oo k e2]
  · intro i i1 i2 i3 c c1 c2
    by_cases e : i = a
    · subst e
      rw [va]
      by_cases e2 : c = ch
      · rw [e2, vc]; omega
      · rw [vo c (by omega) e2]
        exact hmin c c1 c2
    · have hp := h5 i i1 i2 e c c1 c2
      rw [oo i e] at hp
      rw [vo i e i3]
      by_cases e2 : c = ch
      · exfalso; omega
      · by_cases e3 : c = a
        · subst e3
          rw [va]
          have := h6 i i1 (by omega) ch (by omega) hcl
          rw [oo i e, oo ch (by omega)] at this
          exact this
        · rw [vo c e3 e2]
          rw [oo c e3] at hp
          exact hp
  · intro j j1 j2 c c1 c2
    have ej : j = a := by omega
    subst ej
    rw [va, vo c (by omega) (by omega)]
    have := h5 ch (by omega) hcl hne c c1 c2
    rw [oo ch hne, oo c (by omega)] at this
    exact this
theorem skI_end {n top left a : Nat} {ks g : Nat → Int64} {ky : Int64} (h : skI n top left ks g ky a) (hlast : ∀ c, (c = 2 * a + 1 ∨ c = 2 * a + 2) → c < left → ky.toInt ≤ (g c).toInt) : (rows64 (vp_updL g a ky) n).Perm (rows64 ks n) ∧ (∀ i, i < top ∨ left ≤ i → vp_updL g a ky i = ks i) ∧ (∀ i, top ≤ i → i < left → HPP (vp_updL g a ky) i left) := by
  obtain ⟨h1, h2, h3, h4, h5, h6⟩ := h
  refine ⟨h3, fun i hi => by rw [updL_n _ _ (by omega)]; exact h4 i hi, fun i i1 i2 => ?_⟩
  by_cases e : i = a
  · subst e
    intro c c1 c2
    rw [updL_s, updL_n _ _ (by omega)]
    exact hlast c c1 c2
  · exact h5 i i1 i2 e
/-- the top of a heap is a least one -/
theorem heap_min {v : Nat → Int64} {left : Nat} (h : ∀ i, i < left → HPP v i left) : ∀ i, i < left → (v 0).toInt ≤ (v i).toInt := by
  intro i
  induction i using Nat.strongRecOn with
  | ind i ih =>
    intro hi
    rcases Nat.eq_zero_or_pos i with rfl | h0
    · exact Int.le_refl _
    · have h1 := ih ((i - 1) / 2) (by omega) (by omega)
      have h2 := h ((i - 1) / 2) (by omega) i (by omega) hi
      omega
