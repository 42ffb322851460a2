/-! splits that grow part by part -/
def PS (x : LX) (L : Nat) (d : Nat → Nat) : SP → Nat → Option Nat → Nat → Option Nat → Prop
  | [], a, pv, e, qv => a = e ∧ pv = qv
  | (o, p) :: l, a, pv, e, qv => o < 28 ∧ a < L ∧ ∃ m, stp x L d a pv (4 - o / 7) (o % 7) = some (p, m) ∧ PS x L d l m (some p) e qv
section PSS
variable {x : LX} {L : Nat} {d : Nat → Nat}
theorem PS_app : ∀ (l l2 : SP) (a : Nat) (pv : Option Nat) (e : Nat) (qv : Option Nat), PS x L d (l ++ l2) a pv e qv ↔ ∃ m rv, PS x L d l a pv m rv ∧ PS x L d l2 m rv e qv
  | [], l2, a, pv, e, qv => ⟨fun h => ⟨a, pv, ⟨rfl, rfl⟩, h⟩, fun ⟨m, rv, ⟨h1, h2⟩, h⟩ => by subst h1 h2; exact h⟩
  | (o, p) :: l, l2, a, pv, e, qv => by
    constructor
    · rintro ⟨h1, h2, m, h3, h4⟩
      obtain ⟨k, rv, h5, h6⟩ := (PS_app l l2 m (some p) e qv).mp h4
      exact ⟨k, rv, ⟨h1, h2, m, h3, h5⟩, h6⟩
    · rintro ⟨k, rv, ⟨h1, h2, m, h3, h5⟩, h6⟩
      exact ⟨h1, h2, m, h3, (PS_app l l2 m (some p) e qv).mpr ⟨k, rv, h5, h6⟩⟩
theorem PS_push {l : SP} {y : Nat × Nat} {a : Nat} {pv : Option Nat} {e : Nat} {qv : Option Nat} : PS x L d (l ++ [y]) a pv e qv ↔ ∃ m rv, PS x L d l a pv m rv ∧ y.1 < 28 ∧ m < L ∧ stp x L d m rv (4 - y.1 / 7) (y.1 % 7) = some (y.2, e) ∧ qv = some y.2 := by
  rw [PS_app]
  constructor
  · rintro ⟨m, rv, h1, h2, h3, k, h4, h5, h6⟩
    subst h5
    exact ⟨m, rv, h1, h2, h3, h4, h6.symm⟩
  · rintro ⟨m, rv, h1, h2, h3, h4, h5⟩
    exact ⟨m, rv, h1, h2, h3, e, h4, rfl, h5.symm⟩
theorem PS_fun : ∀ (l : SP) (a : Nat) (pv : Option Nat) (e e' : Nat) (qv qv' : Option Nat), PS x L d l a pv e qv → PS x L d l a pv e' qv' → e = e' ∧ qv = qv'
  | [], a, pv, e, e', qv, qv', ⟨h1, h2⟩, ⟨h3, h4⟩ => ⟨h1.symm.trans h3, h2.symm.trans h4⟩
  | (o, p) :: l, a, pv, e, e', qv, qv', ⟨_, _, m, h1, h2⟩, ⟨_, _, m', h1', h2'⟩ => by
    rw [h1] at h1'
    have hm : m = m' := (Prod.mk.inj (Option.some.inj h1')).2
    subst hm
    exact PS_fun l m (some p) e e' qv qv' h2 h2'
theorem valS_PS : ∀ (l : SP) (a : Nat) (pv : Option Nat), valS x L d l a pv → ∃ qv, PS x L d l a pv L qv
  | [], _, _, h => absurd h (fun h => h)
  | (o, p) :: l, a, pv, h => by
    obtain ⟨ho, e, hs, h⟩ := h
    have hb := stp_bd hs (by omega)
    rcases h with ⟨h1, rfl⟩ | ⟨h1, h2⟩
    · subst h1
      exact ⟨some p, ho, hb.1, e, hs, rfl, rfl⟩
    · obtain ⟨qv, h3⟩ := valS_PS l e (some p) h2
      exact ⟨qv, ho, by omega, e, hs, h3⟩
theorem PS_valS : ∀ (l : SP) (a : Nat) (pv qv : Option Nat), l ≠ [] → PS x L d l a pv L qv → valS x L d l a pv
  | [], _, _, _, h, _ => absurd rfl h
  | (o, p) :: l, a, pv, qv, _, ⟨h1, h2, m, h3, h4⟩ => by
    refine ⟨h1, m, h3, ?_⟩
    cases l with
    | nil => exact Or.inl ⟨h4.1, rfl⟩
    | cons y l =>
      refine Or.inr ⟨?_, PS_valS (y :: l) m (some p) qv (by simp) h4⟩
      obtain ⟨o', p'⟩ := y
      exact h4.2.1
theorem PS_le : ∀ (l : SP) (a : Nat) (pv : Option Nat) (e : Nat) (qv : Option Nat), PS x L d l a pv e qv → a + l.length ≤ e
  | [], a, pv, e, qv, ⟨h, _⟩ => by simp; omega
  | (o, p) :: l, a, pv, e, qv, ⟨h1, h2, m, h3, h4⟩ => by
    have hb := stp_bd h3 (by omega)
    have := PS_le l m (some p) e qv h4
    rw [List.length_cons]
    omega
theorem PS_sz (hok : lxOK x) (hd : ∀ k, d k ≤ 9) : ∀ (l : SP) (a : Nat) (pv : Option Nat) (e : Nat) (qv : Option Nat), PS x L d l a pv e qv → ∀ k, k < l.length → spO l k / 7 = 4 - szN (lT x (spP l k)) ∧ spP l k < lNp x ∧ (spO l k % 7 = 0 ∨ spO l k % 7 - 1 < lNl x)
  | [], _, _, _, _, _ => fun k hk => absurd hk (Nat.not_lt_zero k)
  | (o, p) :: l, a, pv, e, qv, ⟨ho, h2, m, hs, h4⟩ => by
    intro k hk
    cases k with
    | zero =>
      show o / 7 = 4 - szN (lT x p) ∧ p < lNp x ∧ (o % 7 = 0 ∨ o % 7 - 1 < lNl x)
      obtain ⟨h1, h2⟩ := stp_e hs
      obtain ⟨h3, h4, h5⟩ := wAt_some h1
      have h6 : szN (lT x p) = 4 - o / 7 := by rw [h5, TA_szN hd a (by omega) (by omega)]
      refine ⟨by omega, h4, ?_⟩
      rcases h2 with ⟨h2, _⟩ | ⟨_, h2, _⟩
      · exact Or.inl h2
      · exact Or.inr h2
    | succ k => exact PS_sz hok hd l m (some p) e qv h4 k (by simpa using hk)
theorem PS_spOK (hok : lxOK x) (hd : ∀ k, d k ≤ 9) {l : SP} {a : Nat} {pv : Option Nat} {e : Nat} {qv : Option Nat} (h : PS x L d l a pv e qv) : spOK x l := fun k hk => (PS_sz hok hd l a pv e qv h k hk).2
theorem lnS_congr {l l' : SP} : ∀ k, (∀ j, j < k → spO l j = spO l' j ∧ spP l j = spP l' j) → lnS x l k = lnS x l' k := by
  intro k
  induction k with
  | zero => intro _; rfl
  | succ k ih =>
    intro h
    unfold lnS
    rw [ih (fun j hj => h j (by omega)), (h k (by omega)).1, (h k (by omega)).2]
theorem lnS_push (l : SP) (y : Nat × Nat) : lnS x (l ++ [y]) (l ++ [y]).length = lnS x l l.length + (szN (lT x y.2) + (if y.1 % 7 = 0 then 0 else szN (lU x (y.1 % 7 - 1)))) := by
  rw [List.length_append, List.length_singleton]
  show lnS x (l ++ [y]) l.length + _ = _
  rw [lnS_congr (l' := l) l.length (fun j hj => ⟨spO_pre l y hj, spP_pre l y hj⟩), spO_last, spP_last]
/-- the last part -/
def lastP (l : SP) : Option Nat := if l = [] then none else some (spP l (l.length - 1))
theorem snoc (l : SP) : l = [] ∨ ∃ l' y, l = l' ++ [y] := by
  rcases List.eq_nil_or_concat l with h | ⟨l', y, h⟩
  · exact Or.inl h
  · exact Or.inr ⟨l', y, h.trans List.concat_eq_append⟩
theorem PS_end (hok : lxOK x) (hd : ∀ k, d k ≤ 9) : ∀ (n : Nat) (l : SP) (e : Nat) (pv : Option Nat), l.length = n → PS x L d l 0 none e pv → lnS x l l.length = e ∧ pv = lastP l := by
  intro n
  induction n with
  | zero =>
    intro l e pv hl h
    have : l = [] := List.length_eq_zero_iff.mp hl
    subst this
    exact ⟨h.1, h.2.symm⟩
  | succ n ih =>
    intro l e pv hl h
    rcases snoc l with rfl | ⟨l', y, rfl⟩
    · simp at hl
    · obtain ⟨m, rv, h1, h2, h3, h4, h5⟩ := PS_push.mp h
      rw [List.length_append, List.length_singleton] at hl
      obtain ⟨h6, h7⟩ := ih l' m rv (by omega) h1
      rw [lnS_push, h6]
      obtain ⟨h8, h9⟩ := stp_e h4
      obtain ⟨_, _, h10⟩ := wAt_some h8
      have h11 : szN (lT x y.2) = 4 - y.1 / 7 := by rw [h10, TA_szN hd m (by omega) (by omega)]
      refine ⟨?_, ?_⟩
      · rcases h9 with ⟨h12, h13⟩ | ⟨h12, _, h13, _⟩
        · rw [if_pos h12]; omega
        · rw [if_neg (by omega)]; omega
      · rw [h5]
        unfold lastP
        rw [if_neg (by simp), List.length_append, List.length_singleton, Nat.add_sub_cancel, spP_last]
/-- lengths alone -/
def lsO (x : LX) (o : Nat) : Nat := if o % 7 = 0 then 0 else szN (lU x (o % 7 - 1))
def shO (x : LX) (l : SP) : SP := l.map (fun y => (4 - y.1 / 7, lsO x y.1))
def shQ (g : Nat → List SP) (r n s : Nat) : List SP := if n + s < r then (g (r - n - s)).map (fun t => (n, s) :: t) else []
def shp : Nat → Nat → List SP
  | 0, _ => [[]]
  | f + 1, r => [] :: (shQ (shp f) r 1 0 ++ (shQ (shp f) r 1 1 ++ (shQ (shp f) r 1 2 ++ (shQ (shp f) r 2 0 ++ (shQ (shp f) r 2 1 ++ (shQ (shp f) r 2 2 ++ (shQ (shp f) r 3 0 ++ (shQ (shp f) r 3 1 ++ (shQ (shp f) r 3 2 ++ (shQ (shp f) r 4 0 ++ (shQ (shp f) r 4 1 ++ shQ (shp f) r 4 2)))))))))))
theorem shp_33 : ∀ r, r ≤ 5 → (shp 5 r).length ≤ 33 := by decide +kernel
theorem shQ_mem {g : Nat → List SP} {r n s : Nat} {t : SP} (h : n + s < r) (ht : t ∈ g (r - n - s)) : (n, s) :: t ∈ shQ g r n s := by
  unfold shQ
  rw [if_pos h]
  exact List.mem_map_of_mem ht
theorem shp_mem {f r n s : Nat} {t : SP} (hn : 1 ≤ n ∧ n ≤ 4) (hs : s ≤ 2) (h : n + s < r) (ht : t ∈ shp f (r - n - s)) : (n, s) :: t ∈ shp (f + 1) r := by
  have h1 := shQ_mem (g := shp f) h ht
  unfold shp
  simp only [List.mem_cons, List.mem_append]
  right
  rcases (by omega : n = 1 ∨ n = 2 ∨ n = 3 ∨ n = 4) with rfl | rfl | rfl | rfl <;> rcases (by omega : s = 0 ∨ s = 1 ∨ s = 2) with rfl | rfl | rfl <;> simp [h1]
theorem lsO_le (hok : lxOK x) {o : Nat} (h : o % 7 = 0 ∨ o % 7 - 1 < lNl x) : lsO x o ≤ 2 := by
  unfold lsO
  split
  · omega
  · rename_i h1
    exact (hok.2.2.2.2.2.2.1 (o % 7 - 1) (by omega)).2.1
theorem stp_len {a n c p e : Nat} {pv : Option Nat} (h : stp x L d a pv n c = some (p, e)) (hc : c < 7) : e = a + n + lsO x c ∧ (c = 0 ∨ c - 1 < lNl x) := by
  unfold lsO
  rw [Nat.mod_eq_of_lt hc]
  rcases (stp_e h).2 with ⟨h1, h2⟩ | ⟨h1, h2, h3, h4⟩
  · rw [if_pos h1]; exact ⟨by omega, Or.inl h1⟩
  · rw [if_neg (by omega)]; exact ⟨by omega, Or.inr h2⟩
theorem lsO_mod (o : Nat) : lsO x (o % 7) = lsO x o := by unfold lsO; rw [Nat.mod_mod]
theorem PS_shp (hok : lxOK x) : ∀ (f : Nat) (l : SP) (a : Nat) (pv : Option Nat) (e : Nat) (qv : Option Nat), l.length ≤ f → PS x L d l a pv e qv → e < L → shO x l ∈ shp f (L - a)
  | 0, [], _, _, _, _, _, _, _ => List.mem_singleton.mpr rfl
  | f + 1, [], _, _, _, _, _, _, _ => List.mem_cons_self
  | 0, y :: l, _, _, _, _, h, _, _ => by simp at h
  | f + 1, (o, p) :: l, a, pv, e, qv, hl, ⟨h1, h2, m, h3, h4⟩, he => by
    obtain ⟨h5, h6⟩ := stp_len h3 (Nat.mod_lt o (by decide))
    rw [lsO_mod] at h5
    have h7 := PS_le l m (some p) e qv h4
    have h8 : lsO x o ≤ 2 := lsO_le hok h6
    show (4 - o / 7, lsO x o) :: shO x l ∈ _
    refine shp_mem (by omega) h8 (by omega) ?_
    rw [show L - a - (4 - o / 7) - lsO x o = L - m by omega]
    exact PS_shp hok f l m (some p) e qv (by simpa using hl) h4 he
theorem PS_shi (hok : lxOK x) : ∀ (l l' : SP) (a : Nat) (pv : Option Nat) (e e' : Nat) (qv qv' : Option Nat), PS x L d l a pv e qv → PS x L d l' a pv e' qv' → shO x l = shO x l' → l = l'
  | [], [], _, _, _, _, _, _, _, _, _ => rfl
  | [], y :: l', _, _, _, _, _, _, _, _, h => by simp [shO] at h
  | y :: l, [], _, _, _, _, _, _, _, _, h => by simp [shO] at h
  | (o, p) :: l, (o', p') :: l', a, pv, e, e', qv, qv', ⟨h1, h2, m, h3, h4⟩, ⟨h1', h2', m', h3', h4'⟩, h => by
    have h5 : (4 - o / 7, lsO x o) :: shO x l = (4 - o' / 7, lsO x o') :: shO x l' := h
    obtain ⟨h6, h7⟩ := List.cons.inj h5
    obtain ⟨h8, h9⟩ := Prod.mk.inj h6
    have w1 := (stp_e h3).1
    have w2 := (stp_e h3').1
    rw [h8] at w1
    have hp : p = p' := Option.some.inj (w1.symm.trans w2)
    subst hp
    have hc : o % 7 = o' % 7 := by
      have b1 := Nat.mod_lt o (show 7 > 0 by decide)
      have b2 := Nat.mod_lt o' (show 7 > 0 by decide)
      rcases stp_lk.mp h3 with ⟨c1, _⟩ | ⟨c1, _, c2, _⟩ <;> rcases stp_lk.mp h3' with ⟨c1', _⟩ | ⟨c1', _, c2', _⟩
      · omega
      · exfalso
        obtain ⟨k1, _, _, k4⟩ := lkOK_iff.mp c2'
        have k5 := (hok.2.2.2.2.2.2.1 _ k1).1
        unfold lsO at h9
        rw [if_pos c1, if_neg (by omega)] at h9
        omega
      · exfalso
        obtain ⟨k1, _, _, k4⟩ := lkOK_iff.mp c2
        have k5 := (hok.2.2.2.2.2.2.1 _ k1).1
        unfold lsO at h9
        rw [if_neg (by omega), if_pos c1'] at h9
        omega
      · obtain ⟨k1, _, _, k4⟩ := lkOK_iff.mp c2
        obtain ⟨k1', _, _, k4'⟩ := lkOK_iff.mp c2'
        unfold lsO at h9
        rw [if_neg (by omega), if_neg (by omega)] at h9
        rw [h9, h8, k4'] at k4
        have := hok.2.2.2.2.2.2.2 _ _ k1' k1 k4
        omega
    have ho : o = o' := by omega
    subst ho
    rw [h3] at h3'
    have hm : m = m' := (Prod.mk.inj (Option.some.inj h3')).2
    subst hm
    rw [PS_shi hok l l' m (some p) e e' qv qv' h4 h4' h7]
end PSS
