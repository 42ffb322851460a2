/-! the class's splits and the reference's are the same -/
theorem stp_lk {x : LX} {L : Nat} {d : Nat → Nat} {a n c p e : Nat} {pv : Option Nat} : stp x L d a pv n c = some (p, e) ↔ (c = 0 ∧ stp x L d a pv n 0 = some (p, e)) ∨ (0 < c ∧ stp x L d a pv n 0 = some (p, a + n) ∧ lkOK x L d (a + n) p (c - 1) = true ∧ e = a + n + szN (lU x (c - 1))) := by
  unfold stp
  cases h1 : wAt x L d a n with
  | none => constructor <;> intro h <;> simp at h
  | some q =>
    dsimp only
    by_cases h2 : vetoed x pv q = true
    · rw [if_pos h2, if_pos h2]; constructor <;> intro h <;> simp at h
    · rw [if_neg h2, if_neg h2]
      by_cases h3 : okF (lF x q) pv.isNone (decide (a + n = L)) = true
      · rw [if_pos h3, if_pos h3, if_pos rfl]
        by_cases h4 : c = 0
        · rw [if_pos h4]
          constructor
          · intro h; exact Or.inl ⟨h4, h⟩
          · rintro (⟨_, h⟩ | ⟨h, _⟩)
            · exact h
            · omega
        · rw [if_neg h4]
          by_cases h5 : lkOK x L d (a + n) q (c - 1) = true
          · rw [if_pos h5]
            constructor
            · intro h
              simp only [Option.some.injEq, Prod.mk.injEq] at h
              obtain ⟨rfl, rfl⟩ := h
              exact Or.inr ⟨by omega, rfl, h5, rfl⟩
            · rintro (⟨h, _⟩ | ⟨_, h, h6, h7⟩)
              · omega
              · simp only [Option.some.injEq, Prod.mk.injEq] at h ⊢
                exact ⟨h.1, h7.symm⟩
          · rw [if_neg h5]
            constructor
            · intro h; simp at h
            · rintro (⟨h, _⟩ | ⟨_, h, h6, h7⟩)
              · omega
              · simp only [Option.some.injEq, Prod.mk.injEq] at h
                rw [h.1] at h5
                exact absurd h6 h5
      · rw [if_neg h3, if_neg h3]; constructor <;> intro h <;> simp at h
theorem mem_ecS {F : Nat → List SP} {y : SP} {m : Nat} : y ∈ ecS F m ↔ ∃ k, 1 ≤ k ∧ k ≤ m ∧ y ∈ F k := by
  induction m with
  | zero =>
    constructor
    · intro h; cases h
    · rintro ⟨k, h1, h2, _⟩; omega
  | succ m ih =>
    unfold ecS
    rw [List.mem_append, ih]
    constructor
    · rintro (⟨k, h1, h2, h3⟩ | h)
      · exact ⟨k, h1, by omega, h3⟩
      · exact ⟨m + 1, by omega, Nat.le_refl _, h⟩
    · rintro ⟨k, h1, h2, h3⟩
      rcases Nat.lt_or_ge k (m + 1) with h4 | h4
      · exact Or.inl ⟨k, h1, by omega, h3⟩
      · rw [show k = m + 1 by omega] at h3; exact Or.inr h3
theorem lwAt_of {x : LX} (hok : lxOK x) {d : Nat → Nat} {a s l : Nat} (hl : l < lNl x) (h : lU x l = TA d a s) : lwAt x d a s = some l := pw_of (fun i j hi hj e => hok.2.2.2.2.2.2.2 i j hi hj e) hl h
theorem TA_szN {d : Nat → Nat} (hd : ∀ k, d k ≤ 9) (a : Nat) {n : Nat} (h1 : 1 ≤ n) (h : n ≤ 8) : szN (TA d a n) = n := SZ_eq h1 h (Nat.le_refl 8) (TA_lt d hd a n).1 (TA_lt d hd a n).2
theorem mem_ec {x : LX} (hok : lxOK x) {L : Nat} {d : Nat → Nat} (f : Nat) : ∀ (a : Nat) (pv : Option Nat) (l : SP), L ≤ a + f → valS x L d l a pv → l ∈ ec x L d f a pv := by
  induction f with
  | zero =>
    intro a pv l hf h
    have := valS_len l a pv h
    omega
  | succ f ih =>
    intro a pv l hf h
    cases l with
    | nil => exact absurd h (fun h => h)
    | cons y l =>
      obtain ⟨o, p⟩ := y
      obtain ⟨ho, e, hs, hr⟩ := h
      have hb := stp_bd hs (by omega)
      have hs' := hs
      unfold ec
      rw [mem_ecS]
      refine ⟨4 - o / 7, by omega, by omega, ?_⟩
      unfold ecP
      rcases stp_lk.mp hs with ⟨h1, h2⟩ | ⟨h1, h2, h3, h4⟩
      · rw [h2]
        dsimp only
        rcases hr with ⟨h3, h4⟩ | ⟨h3, h4⟩
        · rw [if_pos h3, h4, show (4 - (4 - o / 7)) * 7 = o by omega]
          exact List.mem_singleton.mpr rfl
        · rw [if_neg (by omega)]
          unfold ecL
          rw [List.mem_append]
          refine Or.inl (List.mem_map.mpr ⟨l, ih e (some p) l (by omega) h4, ?_⟩)
          rw [show (4 - (4 - o / 7)) * 7 = o by omega]
      · rw [h2]
        dsimp only
        have h3' := of_decide_eq_true h3
        obtain ⟨k1, k2, k3, k4⟩ := h3'
        rw [if_neg (by omega)]
        unfold ecL
        rw [List.mem_append, mem_ecS]
        have hu := hok.2.2.2.2.2.2.1 (o % 7 - 1) k1
        refine Or.inr ⟨szN (lU x (o % 7 - 1)), hu.1, hu.2.1, ?_⟩
        unfold ecG
        rw [if_pos k3, lwAt_of hok k1 k4.symm]
        dsimp only
        rw [if_neg (by rw [k2]; decide)]
        rcases hr with ⟨h5, h6⟩ | ⟨h5, h6⟩
        · omega
        · refine List.mem_map.mpr ⟨l, ?_, by rw [show (4 - (4 - o / 7)) * 7 + (o % 7 - 1 + 1) = o by omega]⟩
          rw [← h4]
          exact ih e (some p) l (by omega) h6
theorem mem_ec2 {x : LX} (hok : lxOK x) {L : Nat} {d : Nat → Nat} (hd : ∀ k, d k ≤ 9) (f : Nat) : ∀ (a : Nat) (pv : Option Nat) (l : SP), l ∈ ec x L d f a pv → valS x L d l a pv := by
  induction f with
  | zero => intro a pv l h; cases h
  | succ f ih =>
    intro a pv l h
    unfold ec at h
    rw [mem_ecS] at h
    obtain ⟨n, h1, h2, h3⟩ := h
    unfold ecP at h3
    cases hs : stp x L d a pv n 0 with
    | none => rw [hs] at h3; cases h3
    | some y =>
      obtain ⟨p, e⟩ := y
      rw [hs] at h3
      dsimp only at h3
      have hb := stp_bd hs h1
      have hs4 : stp x L d a pv (4 - (4 - n) * 7 / 7) ((4 - n) * 7 % 7) = some (p, e) := by rw [show 4 - (4 - n) * 7 / 7 = n by omega, show (4 - n) * 7 % 7 = 0 by omega]; exact hs
      by_cases he : e = L
      · rw [if_pos he, List.mem_singleton] at h3
        subst h3
        exact ⟨by omega, e, hs4, Or.inl ⟨he, rfl⟩⟩
      · rw [if_neg he] at h3
        unfold ecL at h3
        rw [List.mem_append, mem_ecS] at h3
        have hea : e = a + n := by rcases stp_lk.mp hs with ⟨_, h5⟩ | ⟨h5, _⟩; (have := stp_e hs; omega); omega
        rcases h3 with h3 | ⟨s, h4, h5, h6⟩
        · obtain ⟨q, hq, rfl⟩ := List.mem_map.mp h3
          exact ⟨by omega, e, hs4, Or.inr ⟨by omega, ih _ _ _ hq⟩⟩
        · unfold ecG at h6
          by_cases h7 : e + s < L
          · rw [if_pos h7] at h6
            cases hw : lwAt x d e s with
            | none => rw [hw] at h6; cases h6
            | some k =>
              rw [hw] at h6
              dsimp only at h6
              have hk := lwAt_some hw
              by_cases h8 : lB x p k = true
              · rw [if_pos h8] at h6; cases h6
              · rw [if_neg h8] at h6
                obtain ⟨q, hq, rfl⟩ := List.mem_map.mp h6
                have hsz : szN (lU x k) = s := by rw [hk.2]; exact TA_szN hd e h4 (by omega)
                have hk6 : lNl x ≤ 6 := hok.2.1
                refine ⟨by omega, e + s, ?_, Or.inr ⟨h7, ih _ _ _ hq⟩⟩
                rw [show 4 - ((4 - n) * 7 + (k + 1)) / 7 = n by omega, show ((4 - n) * 7 + (k + 1)) % 7 = k + 1 by omega]
                refine stp_lk.mpr (Or.inr ⟨by omega, by rw [← hea]; exact hs, ?_, by rw [← hea, Nat.add_sub_cancel, hsz]⟩)
                rw [Nat.add_sub_cancel, ← hea]
                exact decide_eq_true ⟨hk.1, by cases hh : lB x p k; rfl; exact absurd hh h8, by rw [hsz]; exact h7, by rw [hsz]; exact hk.2.symm⟩
          · rw [if_neg h7] at h6; cases h6
theorem nodup_map_cons {y : Nat × Nat} {A : List SP} (h : A.Nodup) : (A.map (fun l => y :: l)).Nodup := by
  induction A with
  | nil => exact List.nodup_nil
  | cons b A ih =>
    rw [List.map_cons, List.nodup_cons]
    rw [List.nodup_cons] at h
    refine ⟨fun hm => ?_, ih h.2⟩
    obtain ⟨c, hc, e⟩ := List.mem_map.mp hm
    rw [List.cons.injEq] at e
    rw [e.2] at hc
    exact h.1 hc
theorem nodup_app {A B : List SP} (hA : A.Nodup) (hB : B.Nodup) (h : ∀ a, a ∈ A → a ∈ B → False) : (A ++ B).Nodup := by
  rw [List.nodup_append]
  exact ⟨hA, hB, fun a ha b hb e => h a ha (by rw [e]; exact hb)⟩
theorem nodup_ecS {F : Nat → List SP} {m : Nat} (h : ∀ k, k ≤ m → (F k).Nodup) (hd : ∀ j k a, k ≤ m → j < k → 1 ≤ j → a ∈ F j → a ∈ F k → False) : (ecS F m).Nodup := by
  induction m with
  | zero => exact List.nodup_nil
  | succ m ih =>
    unfold ecS
    refine nodup_app (ih (fun k hk => h k (by omega)) (fun j k a hk => hd j k a (by omega))) (h _ (Nat.le_refl _)) (fun a h1 h2 => ?_)
    obtain ⟨k, k1, k2, k3⟩ := mem_ecS.mp h1
    exact hd k (m + 1) a (Nat.le_refl _) (by omega) k1 k3 h2
theorem ecP_hd {x : LX} (hok : lxOK x) {L : Nat} {d : Nat → Nat} {E : Nat → Nat → List SP} {a n : Nat} {pv : Option Nat} {y : SP} (h : y ∈ ecP x L d E a pv n) : ∃ c, c < 7 ∧ spO y 0 = (4 - n) * 7 + c := by
  unfold ecP at h
  cases hs : stp x L d a pv n 0 with
  | none => rw [hs] at h; cases h
  | some z =>
    obtain ⟨p, e⟩ := z
    rw [hs] at h
    dsimp only at h
    by_cases he : e = L
    · rw [if_pos he, List.mem_singleton] at h
      subst h
      exact ⟨0, by omega, rfl⟩
    · rw [if_neg he] at h
      unfold ecL at h
      rw [List.mem_append, mem_ecS] at h
      rcases h with h | ⟨s, h4, h5, h6⟩
      · obtain ⟨q, hq, rfl⟩ := List.mem_map.mp h
        exact ⟨0, by omega, rfl⟩
      · unfold ecG at h6
        by_cases h7 : e + s < L
        · rw [if_pos h7] at h6
          cases hw : lwAt x d e s with
          | none => rw [hw] at h6; cases h6
          | some k =>
            rw [hw] at h6
            dsimp only at h6
            by_cases h8 : lB x p k = true
            · rw [if_pos h8] at h6; cases h6
            · rw [if_neg h8] at h6
              obtain ⟨q, hq, rfl⟩ := List.mem_map.mp h6
              have := (lwAt_some hw).1
              have hk6 : lNl x ≤ 6 := hok.2.1
              exact ⟨k + 1, by omega, rfl⟩
        · rw [if_neg h7] at h6; cases h6
theorem ecG_hd {x : LX} {L : Nat} {d : Nat → Nat} {E : Nat → List SP} {e p n s : Nat} {y : SP} (h : y ∈ ecG x L d E e p n s) : ∃ k, lwAt x d e s = some k ∧ spO y 0 = (4 - n) * 7 + (k + 1) := by
  unfold ecG at h
  by_cases h7 : e + s < L
  · rw [if_pos h7] at h
    cases hw : lwAt x d e s with
    | none => rw [hw] at h; cases h
    | some k =>
      rw [hw] at h
      dsimp only at h
      by_cases h8 : lB x p k = true
      · rw [if_pos h8] at h; cases h
      · rw [if_neg h8] at h
        obtain ⟨q, hq, rfl⟩ := List.mem_map.mp h
        exact ⟨k, rfl, rfl⟩
  · rw [if_neg h7] at h; cases h
theorem nodup_ec {x : LX} (hok : lxOK x) {L : Nat} {d : Nat → Nat} (hd : ∀ k, d k ≤ 9) (f : Nat) : ∀ (a : Nat) (pv : Option Nat), (ec x L d f a pv).Nodup := by
  induction f with
  | zero => intro a pv; exact List.nodup_nil
  | succ f ih =>
    intro a pv
    unfold ec
    refine nodup_ecS (fun n hn => ?_) (fun j k y hk hj hj1 h1 h2 => ?_)
    · unfold ecP
      cases hs : stp x L d a pv n 0 with
      | none => exact List.nodup_nil
      | some z =>
        obtain ⟨p, e⟩ := z
        dsimp only
        by_cases he : e = L
        · rw [if_pos he]; simp
        · rw [if_neg he]
          unfold ecL
          refine nodup_app (nodup_map_cons (ih _ _)) (nodup_ecS (fun s hs => ?_) (fun j k y hk hj hj1 h1 h2 => ?_)) (fun y h1 h2 => ?_)
          · unfold ecG
            by_cases h7 : e + s < L
            · rw [if_pos h7]
              cases lwAt x d e s with
              | none => exact List.nodup_nil
              | some k =>
                dsimp only
                by_cases h8 : lB x p k = true
                · rw [if_pos h8]; exact List.nodup_nil
                · rw [if_neg h8]; exact nodup_map_cons (ih _ _)
            · rw [if_neg h7]; exact List.nodup_nil
          · obtain ⟨k1, w1, e1⟩ := ecG_hd h1
            obtain ⟨k2, w2, e2⟩ := ecG_hd h2
            have : k1 = k2 := by omega
            subst this
            have t1 := TA_szN hd e hj1 (show j ≤ 8 by omega)
            have t2 := TA_szN hd e (show 1 ≤ k by omega) (show k ≤ 8 by omega)
            rw [← (lwAt_some w1).2] at t1
            rw [← (lwAt_some w2).2] at t2
            omega
          · obtain ⟨q, hq, rfl⟩ := List.mem_map.mp h1
            obtain ⟨s, _, _, h3⟩ := mem_ecS.mp h2
            obtain ⟨k2, w2, e2⟩ := ecG_hd h3
            have : spO (((4 - n) * 7, p) :: q) 0 = (4 - n) * 7 := rfl
            omega
    · obtain ⟨c1, g1, e1⟩ := ecP_hd hok h1
      obtain ⟨c2, g2, e2⟩ := ecP_hd hok h2
      omega
theorem nodup_enO {F : Nat → List SP} (h : ∀ o, (F o).Nodup) (hh : ∀ o y, y ∈ F o → spO y 0 = o) : ∀ z, z ≤ 28 → (enO F z).Nodup ∧ ∀ y, y ∈ enO F z → 28 - z ≤ spO y 0 ∧ spO y 0 < 28 := by
  intro z
  induction z with
  | zero => intro _; exact ⟨List.nodup_nil, fun y hy => by cases hy⟩
  | succ z ih =>
    intro hz
    obtain ⟨i1, i2⟩ := ih (by omega)
    unfold enO
    refine ⟨nodup_app (h _) i1 (fun y h1 h2 => ?_), fun y hy => ?_⟩
    · have := hh _ y h1
      have := i2 y h2
      omega
    · rcases List.mem_append.mp hy with h1 | h1
      · have := hh _ y h1
        omega
      · have := i2 y h1
        omega
theorem nodup_en {x : LX} {L : Nat} {d : Nat → Nat} (f : Nat) : ∀ (a : Nat) (pv : Option Nat), (en x L d f a pv).Nodup := by
  induction f with
  | zero => intro a pv; exact List.nodup_nil
  | succ f ih =>
    intro a pv
    rw [en_succ]
    refine (nodup_enO (fun o => ?_) (fun o y hy => ?_) 28 (Nat.le_refl _)).1
    · unfold enF
      cases stp x L d a pv (4 - o / 7) (o % 7) with
      | none => exact List.nodup_nil
      | some z =>
        obtain ⟨p, e⟩ := z
        dsimp only
        by_cases he : e = L
        · rw [if_pos he]; simp
        · rw [if_neg he]; exact nodup_map_cons (ih _ _)
    · unfold enF at hy
      cases hs : stp x L d a pv (4 - o / 7) (o % 7) with
      | none => rw [hs] at hy; cases hy
      | some z =>
        obtain ⟨p, e⟩ := z
        rw [hs] at hy
        dsimp only at hy
        by_cases he : e = L
        · rw [if_pos he, List.mem_singleton] at hy; subst hy; rfl
        · rw [if_neg he] at hy
          obtain ⟨q, hq, rfl⟩ := List.mem_map.mp hy
          rfl
theorem cEn_perm {x : LX} (hok : lxOK x) {L : Nat} {d : Nat → Nat} (hd : ∀ k, d k ≤ 9) (hL : L ≤ 8) : (cEn x d L).Perm (mEn x d L) :=
  (List.perm_ext_iff_of_nodup (nodup_ec hok hd 8 0 none) (nodup_en 8 0 none)).mpr (fun l => ⟨fun h => (mem_mEn hL).mpr (mem_ec2 hok hd 8 0 none l h), fun h => mem_ec hok 8 0 none l (by omega) ((mem_mEn hL).mp h)⟩)
