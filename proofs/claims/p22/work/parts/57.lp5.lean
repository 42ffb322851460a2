/-! what the class answers, in the order of splits -/
def sumF (f : Nat → Nat) : Nat → Nat
  | 0 => 0
  | n + 1 => sumF f n + f n
theorem sum_rng (g : SP → Nat) (fs : Nat → SP) : ∀ n, (((List.range n).map fs).map g).sum = sumF (fun i => g (fs i)) n := by
  intro n
  induction n with
  | zero => rfl
  | succ n ih =>
    rw [List.range_succ, List.map_append, List.map_append, List.sum_append, ih]
    simp [sumF]
theorem cnt_lt (k : Nat) : ∀ n, (List.range n).countP (fun i => decide (i < k)) = if n ≤ k then n else k := by
  intro n
  induction n with
  | zero => rfl
  | succ n ih =>
    rw [List.range_succ, List.countP_append, ih]
    by_cases h1 : n < k
    · rw [if_pos (by omega), if_pos (by omega)]
      simp [h1]
    · rw [if_neg (show ¬ n + 1 ≤ k by omega)]
      simp [h1]
      omega
section SRS
variable {x : LX} {L : Nat} {d : Nat → Nat} {fs : Nat → SP} {F : Nat}
theorem SR_perm (hL : L ≤ 8) (h : SR x L d fs F) : ((List.range F).map fs).Perm (mEn x d L) := by
  refine (List.perm_ext_iff_of_nodup (nodup_rng F (srt_inj h.2.1)) (nodup_en 8 0 none)).mpr (fun l => ?_)
  rw [List.mem_map]
  constructor
  · rintro ⟨i, hi, rfl⟩
    exact (mem_mEn hL).mpr (h.1 i (List.mem_range.mp hi))
  · intro hl
    obtain ⟨m, h1, h2⟩ := h.2.2 l ((mem_mEn hL).mp hl)
    exact ⟨m, List.mem_range.mpr h1, h2⟩
theorem SR_len (hL : L ≤ 8) (h : SR x L d fs F) : (mEn x d L).length = F := by
  rw [← (SR_perm hL h).length_eq, List.length_map, List.length_range]
theorem cnt_key (key : SP → Nat) {F k : Nat} (fs : Nat → SP) (hk : k < F) (hs : ∀ i j, i < F → j < F → (key (fs i) < key (fs j) ↔ i < j)) {E : List SP} (hp : ((List.range F).map fs).Perm E) : E.countP (fun l' => decide (key l' < key (fs k))) = k := by
  rw [← hp.countP_eq, List.countP_map]
  have h1 : (List.range F).countP ((fun l' => decide (key l' < key (fs k))) ∘ fs) = (List.range F).countP (fun i => decide (i < k)) := by
    refine List.countP_congr (fun i hi => ?_)
    have hi := List.mem_range.mp hi
    show decide (key (fs i) < key (fs k)) = true ↔ decide (i < k) = true
    rw [decide_eq_true_iff, decide_eq_true_iff]
    exact hs i k hi hk
  rw [h1, cnt_lt, if_neg (by omega)]
theorem SR_ord (hL : L ≤ 8) (h : SR x L d fs F) (i j : Nat) (hi : i < F) (hj : j < F) : mkl x (fs i) < mkl x (fs j) ↔ i < j := by
  rw [(key_ord hL (h.1 i hi) (h.1 j hj)).1]
  constructor
  · intro h2
    rcases Nat.lt_trichotomy i j with h3 | h3 | h3
    · exact h3
    · rw [h3] at h2
      exact absurd h2 (Nat.lt_irrefl _)
    · exact absurd (Nat.lt_trans h2 (h.2.1 j i h3 hi)) (Nat.lt_irrefl _)
  · intro h2
    exact h.2.1 i j h2 hj
theorem SR_cnt (hL : L ≤ 8) (h : SR x L d fs F) {k : Nat} (hk : k < F) : (mEn x d L).countP (fun l' => decide (mkl x l' < mkl x (fs k))) = k := cnt_key (mkl x) fs hk (SR_ord hL h) (SR_perm hL h)
theorem SR_sel (hL : L ≤ 8) (h : SR x L d fs F) (hF : F ≤ 32) {k : Nat} (hk : k < 2147483648) {o : Option SP} (hs : selR x (mEn x d L) (nI k) o) : o = if k < F then some (fs k) else none := by
  cases o with
  | none =>
    rcases Nat.lt_or_ge k F with h1 | h1
    · exact absurd (congrArg nI (SR_cnt hL h h1)) (hs (fs k) ((mem_mEn hL).mpr (h.1 k h1)))
    · rw [if_neg (by omega)]
  | some l =>
    obtain ⟨h1, h2⟩ := hs
    obtain ⟨m, h3, rfl⟩ := h.2.2 l ((mem_mEn hL).mp h1)
    rw [SR_cnt hL h h3] at h2
    have := nI_inj (by omega) hk h2
    rw [← this, if_pos h3]
theorem SR_rd (hL : L ≤ 8) (h : SR x L d fs F) : rdN (mEn x d L) (mEn x d L).length = sumF (fun i => trN ((fs i).length - 1)) F := by
  rw [rdN_sum _ _ (Nat.le_refl _), List.take_length, ← sum_perm (f := fun l => trN (l.length - 1)) (SR_perm hL h), sum_rng (fun l => trN (l.length - 1)) fs F]
theorem SR_cost (hL : L ≤ 8) (h : SR x L d fs F) {i : Nat} (hi : i < F) : costL x (fs i) = cS x (fs i) - 15 := by
  have hv := h.1 i hi
  have h2 := valS_len _ 0 none hv
  rw [← (ckl_cos hL hv).1, (ckl_cost (by omega) (fun k hk => (valS_bd _ 0 none hv k hk).1)).1]
theorem SR_bd (hok : lxOK x) (hd : ∀ k, d k ≤ 9) (h : SR x L d fs F) {i : Nat} (hi : i < F) : spOK x (fs i) ∧ bOK (fs i) ∧ 1 ≤ (fs i).length ∧ (fs i).length ≤ L := by
  have hv := h.1 i hi
  have h1 := valS_spOK hok hd hv
  have h2 := valS_len _ 0 none hv
  exact ⟨h1, h1.b hok, h2.2, by omega⟩
end SRS
theorem word_SZ {w L : Nat} (h1 : 10 ^ L ≤ w) (h2 : w < 2 * 10 ^ L) (hL : 1 ≤ L ∧ L ≤ 8) : SZ (nI w) 8 = L := SZ_eq hL.1 hL.2 (Nat.le_refl 8) h1 h2
theorem ask_w {w w' : Nat} {P : Nat → Prop} (hw : w < 1000000000) (h : nI w = nI w') (hw' : w' < 200000000) (hP : P w') : P w := by
  rw [nI_inj (by omega) (by omega) h]
  exact hP
theorem q_word {w L : Nat} (hw : w < 1000000000) (hz : SZ (nI w) 8 = L) {f : Nat → Nat → Nat} {r : Int32} (h : ∃ w', nI w = nI w' ∧ w' < 200000000 ∧ 0 < SZ (nI w) 8 ∧ r = nI (f w' (SZ (nI w) 8))) : r = nI (f w L) := by
  obtain ⟨w', h1, h2, h3, h4⟩ := h
  rw [hz] at h4
  exact ask_w (P := fun w => r = nI (f w L)) hw h1 h2 h4
theorem q_ask {x : LX} {w L : Nat} (hw : w < 1000000000) (hz : SZ (nI w) 8 = L) (hL : L ≤ 8) {fs : Nat → SP} {F : Nat} (hSR : SR x L (dgt w L) fs F) (hF : F ≤ 32) {k : Nat} (hk : k < 2147483648) {P : Option SP → Prop} (h : askK x (nI w) (nI k) 0 P) : P (if k < F then some (fs k) else none) := by
  rcases h with ⟨_, h⟩ | ⟨w', o, h1, h2, h3, h4, h5, h6, h7⟩
  · omega
  · rw [hz] at h6
    have h8 := ask_w (P := fun w => selR x (mEn x (dgt w L) L) (nI k) o) hw h1 h2 h6
    rw [← SR_sel hL hSR hF hk h8]
    exact h7
theorem trV {n v : Nat} (h1 : 1 ≤ n ∧ n ≤ 5) (h : (n < 3 ∧ v = 1) ∨ (n = 3 ∧ v = 2) ∨ (n = 4 ∧ v = 5) ∨ (n = 5 ∧ v = 14)) : v = trN (n - 1) := by
  rcases (by omega : (n = 1 ∧ v = 1) ∨ (n = 2 ∧ v = 1) ∨ (n = 3 ∧ v = 2) ∨ (n = 4 ∧ v = 5) ∨ (n = 5 ∧ v = 14)) with ⟨rfl, rfl⟩ | ⟨rfl, rfl⟩ | ⟨rfl, rfl⟩ | ⟨rfl, rfl⟩ | ⟨rfl, rfl⟩ <;> decide
theorem pat_in {l : SP} {pl : Nat} {r : Int32} (hl : l.length ≤ 8) (hp : pl < l.length) (h : patP (nI pl) r (some l)) : r = nI (10 * spP l pl + spO l pl % 7) := by
  rcases h with ⟨h1, _⟩ | ⟨i, h1, h2, h3⟩
  · have := (nI_leI (show l.length < 2 ^ 31 by omega) (by omega)).mp h1
    omega
  · rw [nI_inj (by omega) (by omega) h2]
    exact h3
theorem pat_out {l : SP} {pl : Nat} {r : Int32} (hb : pl < 2147483648) (hl : l.length ≤ 8) (hp : l.length ≤ pl) (h : patP (nI pl) r (some l)) : r = -1 := by
  rcases h with ⟨_, h1⟩ | ⟨i, h1, h2, h3⟩
  · exact h1
  · have := nI_inj (by omega) (by omega) h2
    omega
