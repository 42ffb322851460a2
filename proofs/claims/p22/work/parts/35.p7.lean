/-! how many splits there are at most; ranks -/
def sB : Nat → Nat
  | 0 => 0
  | 1 => 1
  | 2 => 2
  | 3 => 5
  | 4 => 13
  | 5 => 32
  | 6 => 81
  | 7 => 204
  | _ => 513
theorem len_ecG {x : LX} {L : Nat} {d : Nat → Nat} {E : Nat → List SP} {e p n s b : Nat} (h : (E (e + s)).length ≤ b) : (ecG x L d E e p n s).length ≤ if e + s < L then b else 0 := by
  unfold ecG
  split
  · split
    · exact Nat.zero_le _
    · split
      · exact Nat.zero_le _
      · rw [List.length_map]; exact h
  · exact Nat.le_refl _
theorem ec_len {x : LX} {L : Nat} {d : Nat → Nat} (hL : L ≤ 8) (f : Nat) : ∀ (a : Nat) (pv : Option Nat), a < L → (ec x L d f a pv).length ≤ sB (L - a) := by
  induction f with
  | zero => intro a pv _; exact Nat.zero_le _
  | succ f ih =>
    intro a pv ha
    have key : ∀ n, 1 ≤ n → (ecP x L d (fun i p => ec x L d f i (some p)) a pv n).length ≤ if a + n = L then 1 else if a + n < L then sB (L - (a + n)) + (if a + n + 1 < L then sB (L - (a + n + 1)) else 0) + (if a + n + 2 < L then sB (L - (a + n + 2)) else 0) else 0 := by
      intro n hn
      unfold ecP
      cases hs : stp x L d a pv n 0 with
      | none => exact Nat.zero_le _
      | some z =>
        obtain ⟨p, e⟩ := z
        dsimp only
        have hb := stp_bd hs hn
        have hea : e = a + n := by rcases stp_lk.mp hs with ⟨_, h5⟩ | ⟨h5, _⟩; (have := stp_e hs; omega); omega
        subst hea
        by_cases he : a + n = L
        · rw [if_pos he, if_pos he]; exact Nat.le_refl _
        · rw [if_neg he, if_neg he, if_pos (by omega)]
          unfold ecL
          rw [List.length_append, List.length_map, ecS, ecS, ecS, List.nil_append, List.length_append]
          have i0 := ih (a + n) (some p) (by omega)
          have g1 : (ecG x L d (fun i => ec x L d f i (some p)) (a + n) p n 1).length ≤ if a + n + 1 < L then sB (L - (a + n + 1)) else 0 := by
            by_cases h : a + n + 1 < L
            · exact len_ecG (ih _ _ h)
            · have := len_ecG (x := x) (L := L) (d := d) (E := fun i => ec x L d f i (some p)) (e := a + n) (p := p) (n := n) (s := 1) (Nat.le_refl _)
              rw [if_neg h] at this ⊢
              exact this
          have g2 : (ecG x L d (fun i => ec x L d f i (some p)) (a + n) p n 2).length ≤ if a + n + 2 < L then sB (L - (a + n + 2)) else 0 := by
            by_cases h : a + n + 2 < L
            · exact len_ecG (ih _ _ h)
            · have := len_ecG (x := x) (L := L) (d := d) (E := fun i => ec x L d f i (some p)) (e := a + n) (p := p) (n := n) (s := 2) (Nat.le_refl _)
              rw [if_neg h] at this ⊢
              exact this
          have i1 : ((fun i => ec x L d f i (some p)) (a + n)).length ≤ sB (L - (a + n)) := i0
          show _ + (_ + _) ≤ _
          exact Nat.le_trans (Nat.add_le_add i1 (Nat.add_le_add g1 g2)) (Nat.le_of_eq (Nat.add_assoc _ _ _).symm)
    unfold ec
    rw [ecS, ecS, ecS, ecS, ecS, List.nil_append, List.length_append, List.length_append, List.length_append]
    have k1 := key 1 (by omega)
    have k2 := key 2 (by omega)
    have k3 := key 3 (by omega)
    have k4 := key 4 (by omega)
    refine Nat.le_trans (Nat.add_le_add (Nat.add_le_add (Nat.add_le_add k1 k2) k3) k4) ?_
    clear key k1 k2 k3 k4 ih
    obtain ⟨r, hr⟩ : ∃ r, L = a + r := ⟨L - a, by omega⟩
    subst hr
    rw [show a + r - a = r by omega]
    have hr8 : r ≤ 8 := by omega
    have hr1 : 1 ≤ r := by omega
    have e1 : ∀ n, (a + n = a + r) = (n = r) := fun n => by simp
    have e2 : ∀ n, (a + n < a + r) = (n < r) := fun n => by simp
    have e3 : ∀ n, a + r - (a + n) = r - n := fun n => by omega
    simp only [Nat.add_assoc, e1, e2, e3]
    clear e1 e2 e3 hL ha
    revert hr1 hr8
    revert r
    decide
theorem ecOK_of (x : LX) : ecOK x := by
  intro d L hL hd
  unfold cEn
  rcases Nat.eq_zero_or_pos L with h | h
  · subst h
    have : ec x 0 d 8 0 none = [] := by
      rw [List.eq_nil_iff_forall_not_mem]
      intro l hl
      unfold ec at hl
      rw [mem_ecS] at hl
      obtain ⟨n, h1, h2, h3⟩ := hl
      rw [ecP_far (by omega)] at h3
      cases h3
    rw [this]
    exact Nat.zero_le _
  · have := ec_len hL (x := x) (d := d) 8 0 none h
    have h2 : ∀ r, r ≤ 8 → sB r ≤ 513 := by decide
    exact Nat.le_trans this (h2 _ (by omega))
theorem sub_len : ∀ (A B : List SP), A.Nodup → (∀ l, l ∈ A → l ∈ B) → A.length ≤ B.length := by
  intro A
  induction A with
  | nil => intro B _ _; exact Nat.zero_le _
  | cons a A ih =>
    intro B hn hs
    rw [List.nodup_cons] at hn
    have ha := hs a (List.mem_cons_self ..)
    have := ih (B.erase a) hn.2 (fun l hl => (List.mem_erase_of_ne (fun e => hn.1 (by rw [← e]; exact hl))).mpr (hs l (List.mem_cons_of_mem _ hl)))
    rw [List.length_erase_of_mem ha] at this
    have := List.length_pos_of_mem ha
    rw [List.length_cons]
    omega
theorem mEn_len {x : LX} (hok : lxOK x) {d : Nat → Nat} {L : Nat} (hL : L ≤ 8) : (mEn x d L).length ≤ 513 := by
  rcases Nat.eq_zero_or_pos L with h | h
  · have h0 : mEn x d L = [] := List.eq_nil_iff_forall_not_mem.mpr (fun l hl => by have := (mem_mEn hL).mp hl; have := valS_len l 0 none this; omega)
    rw [h0]
    exact Nat.zero_le _
  · have h1 := sub_len (mEn x d L) (ec x L d 8 0 none) (nodup_en 8 0 none) (fun l hl => mem_ec hok 8 0 none l (by omega) ((mem_mEn hL).mp hl))
    have h2 := ec_len hL (x := x) (d := d) 8 0 none h
    have h3 : ∀ r, r ≤ 8 → sB r ≤ 513 := by decide
    have := h3 (L - 0) (by omega)
    omega
theorem max_ex (f : SP → Nat) : ∀ (E : List SP), E ≠ [] → ∃ M, M ∈ E ∧ ∀ l, l ∈ E → f l ≤ f M := by
  intro E
  induction E with
  | nil => intro h; exact absurd rfl h
  | cons a E ih =>
    intro _
    cases E with
    | nil => exact ⟨a, List.mem_cons_self .., fun l hl => by rw [List.mem_singleton.mp hl]; exact Nat.le_refl _⟩
    | cons b E =>
      obtain ⟨M, h1, h2⟩ := ih (by simp)
      rcases Nat.lt_or_ge (f M) (f a) with h | h
      · exact ⟨a, List.mem_cons_self .., fun l hl => by
          rcases List.mem_cons.mp hl with rfl | hl
          · exact Nat.le_refl _
          · have := h2 l hl; omega⟩
      · exact ⟨M, List.mem_cons_of_mem _ h1, fun l hl => by
          rcases List.mem_cons.mp hl with rfl | hl
          · exact h
          · exact h2 l hl⟩
theorem rank_ex (f : SP → Nat) : ∀ (n : Nat) (E : List SP), E.length = n → E.Nodup → (∀ a b, a ∈ E → b ∈ E → f a = f b → a = b) → ∀ k, k < n → ∃ l, l ∈ E ∧ E.countP (fun l' => decide (f l' < f l)) = k := by
  intro n
  induction n with
  | zero => intro E _ _ _ k hk; omega
  | succ n ih =>
    intro E hn hd hi k hk
    obtain ⟨M, hM, hmax⟩ := max_ex f E (fun e => by rw [e] at hn; simp at hn)
    have hp : E.Perm (M :: E.erase M) := List.perm_cons_erase hM
    have hd2 := (List.nodup_cons.mp (hp.nodup_iff.mp hd))
    have hlen : (E.erase M).length = n := by rw [List.length_erase_of_mem hM, hn]; rfl
    have hsub : ∀ l, l ∈ E.erase M → l ∈ E := fun l hl => hp.mem_iff.mpr (List.mem_cons_of_mem _ hl)
    have hlt : ∀ l, l ∈ E.erase M → f l < f M := by
      intro l hl
      have h1 := hmax l (hsub l hl)
      rcases Nat.lt_or_ge (f l) (f M) with h | h
      · exact h
      · have := hi l M (hsub l hl) hM (by omega)
        rw [this] at hl
        exact absurd hl hd2.1
    rcases Nat.lt_or_ge k n with h | h
    · obtain ⟨l, h1, h2⟩ := ih (E.erase M) hlen hd2.2 (fun a b ha hb => hi a b (hsub a ha) (hsub b hb)) k h
      refine ⟨l, hsub l h1, ?_⟩
      rw [hp.countP_eq, List.countP_cons, h2, if_neg (by have := hlt l h1; simp; omega), Nat.add_zero]
    · refine ⟨M, hM, ?_⟩
      rw [hp.countP_eq, List.countP_cons, if_neg (by simp), List.countP_eq_length.mpr (fun l hl => decide_eq_true (hlt l hl)), hlen]
      omega
