/-! the queue of splits begun, and the row of found ones -/
def updS (f : Nat → SP) (i : Nat) (v : SP) : Nat → SP := fun k => if k = i then v else f k
theorem updS_s (f : Nat → SP) (i : Nat) (v : SP) : updS f i v i = v := if_pos rfl
theorem updS_n (f : Nat → SP) {i k : Nat} (v : SP) (h : k ≠ i) : updS f i v k = f k := if_neg h
def insS (f : Nat → SP) (i : Nat) (v : SP) : Nat → SP := fun k => if k < i then f k else if k = i then v else f (k - 1)
theorem insS_l (f : Nat → SP) {i k : Nat} (v : SP) (h : k < i) : insS f i v k = f k := if_pos h
theorem insS_s (f : Nat → SP) (i : Nat) (v : SP) : insS f i v i = v := by unfold insS; rw [if_neg (Nat.lt_irrefl i), if_pos rfl]
theorem insS_g (f : Nat → SP) {i k : Nat} (v : SP) (h : i < k) : insS f i v k = f (k - 1) := by unfold insS; rw [if_neg (by omega), if_neg (by omega)]
def QB (x : LX) (L : Nat) (d : Nat → Nat) (qs : Nat → SP) (N : Nat) (fs : Nat → SP) (F : Nat) (Pr : Nat → Nat × Nat → Prop) : Prop :=
  (0 < N ∧ qs 0 = []) ∧ (∀ i j, i < N → j < N → qs i = qs j → i = j) ∧ (∀ i, i < N → ∃ e pv, PS x L d (qs i) 0 none e pv ∧ e < L) ∧ (∀ i, i < F → valS x L d (fs i) 0 none) ∧ (∀ i j, i < j → j < F → ckl x (fs i) < ckl x (fs j)) ∧ (∀ i z, Pr i z → i < N) ∧ (∀ i z e pv, Pr i z → PS x L d (qs i ++ [z]) 0 none e pv → (e < L → ∃ m, m < N ∧ qs m = qs i ++ [z]) ∧ (e = L → ∃ m, m < F ∧ fs m = qs i ++ [z])) ∧ (∀ m, m < N → qs m = [] ∨ ∃ i z, Pr i z ∧ qs m = qs i ++ [z]) ∧ (∀ m, m < F → ∃ i z, Pr i z ∧ fs m = qs i ++ [z])
section BIS
variable {x : LX} {L : Nat} {d : Nat → Nat} {qs : Nat → SP} {N : Nat} {fs : Nat → SP} {F : Nat} {Pr Pr' : Nat → Nat × Nat → Prop}
theorem QB_start (hL : 0 < L) (h0 : qs 0 = []) : QB x L d qs 1 fs 0 (fun i _ => i < 0) :=
  ⟨⟨Nat.one_pos, h0⟩, fun i j hi hj _ => by omega, fun i hi => ⟨0, none, by rw [show i = 0 by omega, h0]; exact ⟨rfl, rfl⟩, hL⟩, fun i hi => absurd hi (Nat.not_lt_zero i), fun i j _ hj => absurd hj (Nat.not_lt_zero j), fun _ _ h => absurd h (Nat.not_lt_zero _), fun _ _ _ _ h => absurd h (Nat.not_lt_zero _), fun m hm => Or.inl (by rw [show m = 0 by omega, h0]), fun m hm => absurd hm (Nat.not_lt_zero m)⟩
theorem QB_skip (h : QB x L d qs N fs F Pr) (hm : ∀ i z, Pr i z → Pr' i z) (hlt : ∀ i z, Pr' i z → i < N) (hc : ∀ i z, Pr' i z → Pr i z ∨ ∀ e pv, ¬ PS x L d (qs i ++ [z]) 0 none e pv) : QB x L d qs N fs F Pr' := by
  obtain ⟨a1, a2, a3, a4, a5, a6, a7, a8, a9⟩ := h
  refine ⟨a1, a2, a3, a4, a5, hlt, fun i z e pv hp hs => ?_, fun m hm1 => ?_, fun m hm1 => ?_⟩
  · rcases hc i z hp with h1 | h1
    · exact a7 i z e pv h1 hs
    · exact absurd hs (h1 e pv)
  · rcases a8 m hm1 with h1 | ⟨i, z, h1, h2⟩
    · exact Or.inl h1
    · exact Or.inr ⟨i, z, hm i z h1, h2⟩
  · obtain ⟨i, z, h1, h2⟩ := a9 m hm1
    exact ⟨i, z, hm i z h1, h2⟩
theorem snoc_inj {a b : SP} {y z : Nat × Nat} (h : a ++ [y] = b ++ [z]) : a = b ∧ y = z := by
  have := List.append_inj' h rfl
  exact ⟨this.1, (List.cons.inj this.2).1⟩
theorem QB_newq (h : QB x L d qs N fs F Pr) {j : Nat} {y : Nat × Nat} (hj : j < N) (hn : ¬ Pr j y) : ∀ m, m < N → qs m ≠ qs j ++ [y] := fun m hm e => by
  obtain ⟨a1, a2, a3, a4, a5, a6, a7, a8, a9⟩ := h
  rcases a8 m hm with h1 | ⟨i, z, h1, h2⟩
  · rw [h1] at e
    simp at e
  · rw [h2] at e
    obtain ⟨e1, e2⟩ := snoc_inj e
    have := a2 i j (a6 i z h1) hj e1
    subst this e2
    exact hn h1
theorem QB_newf (h : QB x L d qs N fs F Pr) {j : Nat} {y : Nat × Nat} (hj : j < N) (hn : ¬ Pr j y) : ∀ m, m < F → fs m ≠ qs j ++ [y] := fun m hm e => by
  obtain ⟨a1, a2, a3, a4, a5, a6, a7, a8, a9⟩ := h
  obtain ⟨i, z, h1, h2⟩ := a9 m hm
  rw [h2] at e
  obtain ⟨e1, e2⟩ := snoc_inj e
  have := a2 i j (a6 i z h1) hj e1
  subst this e2
  exact hn h1
theorem QB_q (h : QB x L d qs N fs F Pr) {j : Nat} {y : Nat × Nat} {e0 : Nat} {pv0 : Option Nat} (hj : j < N) (hn : ¬ Pr j y) (hs : PS x L d (qs j ++ [y]) 0 none e0 pv0) (he : e0 < L) (hm : ∀ i z, Pr i z → Pr' i z) (hy : Pr' j y) (hlt : ∀ i z, Pr' i z → i < N) (hc : ∀ i z, Pr' i z → Pr i z ∨ (i = j ∧ z = y) ∨ ∀ e pv, ¬ PS x L d (qs i ++ [z]) 0 none e pv) : QB x L d (updS qs N (qs j ++ [y])) (N + 1) fs F Pr' := by
  have hnew := QB_newq h hj hn
  obtain ⟨a1, a2, a3, a4, a5, a6, a7, a8, a9⟩ := h
  have u : ∀ i, i < N → updS qs N (qs j ++ [y]) i = qs i := fun i hi => updS_n _ _ (by omega)
  refine ⟨⟨by omega, by rw [u 0 a1.1]; exact a1.2⟩, fun i k hi hk e => ?_, fun i hi => ?_, a4, a5, fun i z hp => Nat.lt_succ_of_lt (hlt i z hp), fun i z e pv hp h1 => ?_, fun m hm1 => ?_, fun m hm1 => ?_⟩
  · rcases Nat.lt_or_ge i N with h1 | h1 <;> rcases Nat.lt_or_ge k N with h2 | h2
    · rw [u i h1, u k h2] at e
      exact a2 i k h1 h2 e
    · rw [u i h1, show k = N by omega, updS_s] at e
      exact absurd e (hnew i h1)
    · rw [u k h2, show i = N by omega, updS_s] at e
      exact absurd e.symm (hnew k h2)
    · omega
  · rcases Nat.lt_or_ge i N with h1 | h1
    · rw [u i h1]; exact a3 i h1
    · rw [show i = N by omega, updS_s]; exact ⟨e0, pv0, hs, he⟩
  · rw [u i (hlt i z hp)] at h1 ⊢
    rcases hc i z hp with h2 | ⟨h2, h3⟩ | h2
    · obtain ⟨b1, b2⟩ := a7 i z e pv h2 h1
      refine ⟨fun he => ?_, b2⟩
      obtain ⟨m, c1, c2⟩ := b1 he
      exact ⟨m, by omega, by rw [u m c1]; exact c2⟩
    · subst h2 h3
      refine ⟨fun _ => ⟨N, by omega, updS_s _ _ _⟩, fun he2 => ?_⟩
      have := (PS_fun _ _ _ _ _ _ _ hs h1).1
      omega
    · exact absurd h1 (h2 e pv)
  · rcases Nat.lt_or_ge m N with h1 | h1
    · rw [u m h1]
      rcases a8 m h1 with h2 | ⟨i, z, h2, h3⟩
      · exact Or.inl h2
      · exact Or.inr ⟨i, z, hm i z h2, by rw [u i (a6 i z h2)]; exact h3⟩
    · rw [show m = N by omega, updS_s]
      exact Or.inr ⟨j, y, hy, by rw [u j hj]⟩
  · obtain ⟨i, z, h2, h3⟩ := a9 m hm1
    exact ⟨i, z, hm i z h2, by rw [u i (a6 i z h2)]; exact h3⟩
theorem ckl_inj (hL : L ≤ 8) {l l' : SP} (h : valS x L d l 0 none) (h' : valS x L d l' 0 none) (e : ckl x l = ckl x l') : l = l' := by
  obtain ⟨h1, h2⟩ := key_ord hL h h'
  obtain ⟨h3, _⟩ := key_ord hL h' h
  refine h2 ?_
  rw [e] at h1 h3
  rcases Nat.lt_trichotomy (mkl x l) (mkl x l') with h4 | h4 | h4
  · exact absurd (h1.mp h4) (Nat.lt_irrefl _)
  · exact h4
  · exact absurd (h3.mp h4) (Nat.lt_irrefl _)
theorem QB_f (hL : L ≤ 8) (h : QB x L d qs N fs F Pr) {j : Nat} {y : Nat × Nat} {pv0 : Option Nat} (hj : j < N) (hn : ¬ Pr j y) (hs : PS x L d (qs j ++ [y]) 0 none L pv0) {k : Nat} (hk : k ≤ F) (h1 : ∀ i, k ≤ i → i < F → ckl x (qs j ++ [y]) < ckl x (fs i)) (h2 : k = 0 ∨ ¬ ckl x (qs j ++ [y]) < ckl x (fs (k - 1))) (hm : ∀ i z, Pr i z → Pr' i z) (hy : Pr' j y) (hlt : ∀ i z, Pr' i z → i < N) (hc : ∀ i z, Pr' i z → Pr i z ∨ (i = j ∧ z = y) ∨ ∀ e pv, ¬ PS x L d (qs i ++ [z]) 0 none e pv) : QB x L d qs N (insS fs k (qs j ++ [y])) (F + 1) Pr' := by
  have hnew := QB_newf h hj hn
  obtain ⟨a1, a2, a3, a4, a5, a6, a7, a8, a9⟩ := h
  have hv : valS x L d (qs j ++ [y]) 0 none := PS_valS _ _ _ _ (by simp) hs
  have h3 : ∀ i, i < k → ckl x (fs i) < ckl x (qs j ++ [y]) := by
    intro i hi
    have h4 : ckl x (fs (k - 1)) < ckl x (qs j ++ [y]) := by
      rcases h2 with h2 | h2
      · omega
      · rcases Nat.lt_or_ge (ckl x (fs (k - 1))) (ckl x (qs j ++ [y])) with h5 | h5
        · exact h5
        · exact absurd (ckl_inj hL (a4 (k - 1) (by omega)) hv (by omega)) (hnew (k - 1) (by omega))
    rcases Nat.lt_or_ge i (k - 1) with h5 | h5
    · have := a5 i (k - 1) h5 (by omega)
      omega
    · rw [show i = k - 1 by omega]
      exact h4
  have mem : ∀ m, m < F → ∃ m', m' < F + 1 ∧ insS fs k (qs j ++ [y]) m' = fs m := fun m hm1 => by
    rcases Nat.lt_or_ge m k with h5 | h5
    · exact ⟨m, by omega, insS_l _ _ h5⟩
    · exact ⟨m + 1, by omega, insS_g _ _ (by omega)⟩
  have cas : ∀ m, m < F + 1 → (insS fs k (qs j ++ [y]) m = qs j ++ [y] ∧ m = k) ∨ ∃ m', m' < F ∧ insS fs k (qs j ++ [y]) m = fs m' ∧ ((m < k ∧ m' = m) ∨ (k < m ∧ m' = m - 1)) := fun m hm1 => by
    rcases Nat.lt_trichotomy m k with h5 | h5 | h5
    · exact Or.inr ⟨m, by omega, insS_l _ _ h5, Or.inl ⟨h5, rfl⟩⟩
    · subst h5
      exact Or.inl ⟨insS_s _ _ _, rfl⟩
    · exact Or.inr ⟨m - 1, by omega, insS_g _ _ h5, Or.inr ⟨h5, rfl⟩⟩
  refine ⟨a1, a2, a3, fun i hi => ?_, fun i m him hm1 => ?_, hlt, fun i z e pv hp h5 => ?_, fun m hm1 => ?_, fun m hm1 => ?_⟩
  · rcases cas i hi with ⟨h5, _⟩ | ⟨m', h5, h6, _⟩
    · rw [h5]; exact hv
    · rw [h6]; exact a4 m' h5
  · rcases cas i (by omega) with ⟨c1, c2⟩ | ⟨i', c1, c2, c3⟩ <;> rcases cas m hm1 with ⟨e1, e2⟩ | ⟨m', e1, e2, e3⟩
    · omega
    · rw [c1, e2]; exact h1 m' (by omega) e1
    · rw [c2, e1]; exact h3 i' (by omega)
    · rw [c2, e2]; exact a5 i' m' (by omega) e1
  · rcases hc i z hp with h6 | ⟨h6, h7⟩ | h6
    · obtain ⟨b1, b2⟩ := a7 i z e pv h6 h5
      refine ⟨b1, fun he => ?_⟩
      obtain ⟨m, c1, c2⟩ := b2 he
      obtain ⟨m', c3, c4⟩ := mem m c1
      exact ⟨m', c3, c4.trans c2⟩
    · subst h6 h7
      refine ⟨fun he2 => ?_, fun _ => ⟨k, by omega, insS_s _ _ _⟩⟩
      have := (PS_fun _ _ _ _ _ _ _ hs h5).1
      omega
    · exact absurd h5 (h6 e pv)
  · rcases a8 m hm1 with h6 | ⟨i, z, h6, h7⟩
    · exact Or.inl h6
    · exact Or.inr ⟨i, z, hm i z h6, h7⟩
  · rcases cas m hm1 with ⟨h6, _⟩ | ⟨m', h6, h7, _⟩
    · exact ⟨j, y, hy, h6⟩
    · obtain ⟨i, z, h8, h9⟩ := a9 m' h6
      exact ⟨i, z, hm i z h8, h7.trans h9⟩
theorem QB_all (h : QB x L d qs N fs F Pr) (hall : ∀ i z, i < N → Pr i z) : (∀ (n : Nat) (l : SP) (e : Nat) (pv : Option Nat), l.length = n → PS x L d l 0 none e pv → e < L → ∃ m, m < N ∧ qs m = l) ∧ ∀ l, valS x L d l 0 none → ∃ m, m < F ∧ fs m = l := by
  obtain ⟨a1, a2, a3, a4, a5, a6, a7, a8, a9⟩ := h
  have h1 : ∀ (n : Nat) (l : SP) (e : Nat) (pv : Option Nat), l.length = n → PS x L d l 0 none e pv → e < L → ∃ m, m < N ∧ qs m = l := by
    intro n
    induction n with
    | zero =>
      intro l e pv hl _ _
      exact ⟨0, a1.1, by rw [a1.2]; exact (List.length_eq_zero_iff.mp hl).symm⟩
    | succ n ih =>
      intro l e pv hl hp he
      rcases snoc l with rfl | ⟨l', y, rfl⟩
      · simp at hl
      · obtain ⟨m, rv, b1, _, b3, _, _⟩ := PS_push.mp hp
        rw [List.length_append, List.length_singleton] at hl
        obtain ⟨i, c1, c2⟩ := ih l' m rv (by omega) b1 b3
        subst c2
        exact (a7 i y e pv (hall i y c1) hp).1 he
  refine ⟨h1, fun l hv => ?_⟩
  obtain ⟨qv, hp⟩ := valS_PS l 0 none hv
  rcases snoc l with rfl | ⟨l', y, rfl⟩
  · exact absurd hv (fun h => h)
  · obtain ⟨m, rv, b1, _, b3, _, _⟩ := PS_push.mp hp
    obtain ⟨i, c1, c2⟩ := h1 l'.length l' m rv rfl b1 b3
    subst c2
    exact (a7 i y L qv (hall i y c1) hp).2 rfl
theorem nodup_rng {f : Nat → SP} : ∀ n, (∀ i j, i < n → j < n → f i = f j → i = j) → ((List.range n).map f).Nodup := by
  intro n h
  refine List.pairwise_map.mpr (List.Pairwise.imp_of_mem ?_ List.nodup_range)
  intro a b ha hb hne e
  exact hne (h a b (List.mem_range.mp ha) (List.mem_range.mp hb) e)
theorem QB_N (hok : lxOK x) (hL : L ≤ 5) (h : QB x L d qs N fs F Pr) : N ≤ 33 := by
  obtain ⟨a1, a2, a3, a4, a5, a6, a7, a8, a9⟩ := h
  have h1 : ((List.range N).map (fun i => shO x (qs i))).Nodup := nodup_rng N (fun i j hi hj e => by
    obtain ⟨e1, pv1, b1, _⟩ := a3 i hi
    obtain ⟨e2, pv2, b2, _⟩ := a3 j hj
    exact a2 i j hi hj (PS_shi hok _ _ _ _ _ _ _ _ b1 b2 e))
  have h2 := sub_len _ (shp 5 L) h1 (fun l hl => by
    obtain ⟨i, hi, rfl⟩ := List.mem_map.mp hl
    obtain ⟨e1, pv1, b1, b2⟩ := a3 i (List.mem_range.mp hi)
    have := PS_le _ _ _ _ _ b1
    exact PS_shp hok 5 (qs i) 0 none e1 pv1 (by omega) b1 b2)
  rw [List.length_map, List.length_range] at h2
  exact Nat.le_trans h2 (shp_33 L hL)
theorem srt_inj (hs : ∀ i j, i < j → j < F → ckl x (fs i) < ckl x (fs j)) : ∀ i j, i < F → j < F → fs i = fs j → i = j := fun i j hi hj e => by
  rcases Nat.lt_trichotomy i j with h | h | h
  · have := hs i j h hj
    rw [e] at this
    omega
  · exact h
  · have := hs j i h hi
    rw [e] at this
    omega
theorem sB_32 : ∀ r, r ≤ 5 → sB r ≤ 32 := by decide
theorem QB_F (hok : lxOK x) (hL : L ≤ 5) (hL0 : 0 < L) (h : QB x L d qs N fs F Pr) : F ≤ 32 := by
  obtain ⟨a1, a2, a3, a4, a5, a6, a7, a8, a9⟩ := h
  have h2 := sub_len _ (ec x L d 8 0 none) (nodup_rng F (srt_inj a5)) (fun l hl => by
    obtain ⟨i, hi, rfl⟩ := List.mem_map.mp hl
    exact mem_ec hok 8 0 none _ (by omega) (a4 i (List.mem_range.mp hi)))
  have h3 := ec_len (x := x) (L := L) (d := d) (by omega) 8 0 none hL0
  have h4 := sB_32 (L - 0) (by omega)
  rw [List.length_map, List.length_range] at h2
  omega
end BIS
