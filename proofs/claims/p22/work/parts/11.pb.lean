theorem wAt_last {x : LX} {L : Nat} {d : Nat → Nat} {a n np : Nat} {T : Nat → Int32} (hok : lxOK x) (hnp : np = lNp x) (hT : ∀ i, i < np → T i = nI (lT x i)) (hd : ∀ k, d k ≤ 9) (hn : n ≤ 8) : lastW T (if a + n ≤ L then nI (TA d a n) else -1) np = oI (wAt x L d a n) := by
  subst hnp
  have h : ∀ i, i < lNp x → T i = nI (lT x i) ∧ lT x i < 2147483648 := fun i hi => ⟨hT i hi, by have := hok.t hi; omega⟩
  unfold wAt
  split
  · exact lastW_pw (by have := TA_bd d hd a hn; omega) h hok.2.2.2.2.2.1
  · exact lastW_m1 h
theorem wAt_some {x : LX} {L : Nat} {d : Nat → Nat} {a n p : Nat} (h : wAt x L d a n = some p) : a + n ≤ L ∧ p < lNp x ∧ lT x p = TA d a n := by
  unfold wAt at h
  split at h
  · rename_i h1
    exact ⟨h1, pw_some h⟩
  · cases h
theorem lk_t {c : Nat} (hc : c < 2147483648) (h : nI c - nI 1 = -1) : c = 0 := by
  rcases Nat.eq_zero_or_pos c with h0 | h0
  · exact h0
  · rw [nI_subN h0] at h
    exact absurd h (nI_nem1 (by omega))
theorem lk_f {c : Nat} (h : ¬ nI c - nI 1 = -1) : 0 < c := by
  rcases Nat.eq_zero_or_pos c with rfl | h0
  · exact absurd (by decide) h
  · exact h0
theorem stp_eq {x : LX} {L : Nat} {d : Nat → Nat} {a n c p : Nat} {pv : Option Nat} (hw : wAt x L d a n = some p) (hv : vetoed x pv p = false) : stp x L d a pv n c = if okF (lF x p) pv.isNone (decide (a + n = L)) = true then (if c = 0 then some (p, a + n) else if lkOK x L d (a + n) p (c - 1) = true then some (p, a + n + szN (lU x (c - 1))) else none) else none := by
  unfold stp
  rw [hw]
  dsimp only
  rw [hv, if_neg (by decide)]
theorem stp_none {x : LX} {L : Nat} {d : Nat → Nat} {a n c : Nat} {pv : Option Nat} (hw : wAt x L d a n = none) : stp x L d a pv n c = none := by
  unfold stp
  rw [hw]
theorem stp_veto {x : LX} {L : Nat} {d : Nat → Nat} {a n c p : Nat} {pv : Option Nat} (hw : wAt x L d a n = some p) (hv : vetoed x pv p = true) : stp x L d a pv n c = none := by
  unfold stp
  rw [hw]
  dsimp only
  rw [if_pos hv]
theorem lkOK_iff {x : LX} {L : Nat} {d : Nat → Nat} {e p l : Nat} : lkOK x L d e p l = true ↔ (l < lNl x ∧ lB x p l = false ∧ e + szN (lU x l) < L ∧ TA d e (szN (lU x l)) = lU x l) := decide_eq_true_iff
theorem txt_iff {x : LX} {L : Nat} {d : Nat → Nat} {e l s : Nat} (hok : lxOK x) (hl : l < lNl x) (hd : ∀ k, d k ≤ 9) (hs : s ≤ 8) : (if e + s ≤ L then nI (TA d e s) else -1) = nI (lU x l) ↔ e + s ≤ L ∧ TA d e s = lU x l := by
  have hu := hok.u hl
  have hb := TA_bd d hd e hs
  constructor
  · intro h
    split at h
    · exact ⟨by assumption, nI_inj (by omega) (by omega) h⟩
    · exact absurd h.symm (nI_nem1 (by omega))
  · rintro ⟨h1, h2⟩
    rw [if_pos h1, h2]
def mGoes (x : LX) (L : Nat) (d : Nat → Nat) (a : Nat) (pv : Option Nat) (n c its m : Nat) (op pl pt : Nat → Int32) (r : Int32) (op1 pl1 pt1 : Nat → Int32) : Prop :=
  (stp x L d a pv n c = none ∧ r = bI false ∧ op1 = op ∧ pl1 = pl ∧ pt1 = pt) ∨ (∃ p e, stp x L d a pv n c = some (p, e) ∧ r = bI true ∧ op1 = upd op m (nI its) ∧ pl1 = upd pl (m + 1) (nI e) ∧ pt1 = upd pt m (nI p))
def pvOK (np m : Nat) (pt : Nat → Int32) (pv : Option Nat) : Prop := (m = 0 ∧ pv = none) ∨ (0 < m ∧ ∃ q, q < np ∧ pt (m - 1) = nI q ∧ pv = some q)
/-! the keys of splits in the reference, and the order in which it goes through them -/
theorem lN_toIntB {n : Nat} (h : n < 9223372036854775808) : (lN n).toInt = (n : Int) := lg_ofNat_toInt (by omega)
theorem lN_div {a b : Nat} (ha : a < 9223372036854775808) (hb : b < 9223372036854775808) : lN a / lN b = lN (a / b) := by
  have h := Nat.div_le_self a b
  refine Int64.toInt_inj.mp ?_
  rw [Int64.toInt_div, lN_toIntB ha, lN_toIntB hb, lN_toIntB (show a / b < 9223372036854775808 by omega)]
  rw [← Int.ofNat_tdiv]
  generalize a / b = q at h ⊢
  refine Int.bmod_eq_of_le ?_ ?_ <;> omega
theorem lN_mod {a b : Nat} (ha : a < 9223372036854775808) (hb : b < 9223372036854775808) : lN a - lN a / lN b * lN b = lN (a % b) := by
  rw [lN_div ha hb, lN_mul, lN_sub (Nat.div_mul_le_self a b)]
  congr 1
  have := Nat.div_add_mod a b
  rw [Nat.mul_comm] at this
  omega
theorem lN_sadd (a b : Nat) : lN a - lN 15 + lN b = lN (a + b) - lN 15 := by
  rw [← lN_add, Int64.sub_eq_add_neg, Int64.sub_eq_add_neg]
  ac_rfl
theorem lN_inj {a b : Nat} (ha : a < 9223372036854775808) (hb : b < 9223372036854775808) (h : lN a = lN b) : a = b := by
  have h1 := congrArg Int64.toInt h
  rw [lN_toIntB ha, lN_toIntB hb] at h1
  omega
theorem lN_ltB {a b : Nat} (ha : a < 9223372036854775808) (hb : b < 9223372036854775808) : lN a < lN b ↔ a < b := by
  rw [Int64.lt_iff_toInt_lt, lN_toIntB ha, lN_toIntB hb]
  omega
theorem lg_ge {a b : Int64} (h : 0 ≤ lg_cmp a b) : ¬ a < b := by
  intro h1
  unfold lg_cmp at h
  rw [if_neg (fun h2 => Int64.lt_irrefl (Int64.lt_trans h1 h2)), if_neg (fun e => by rw [e] at h1; exact Int64.lt_irrefl h1)] at h
  exact absurd h (by decide)
theorem lg_lt {a b : Int64} (h : ¬ 0 ≤ lg_cmp a b) : a < b := by
  unfold lg_cmp at h
  split at h
  · exact absurd (by decide) h
  · rename_i h1
    split at h
    · exact absurd (by decide) h
    · rename_i h2
      have h3 : a.toInt ≠ b.toInt := fun e => h2 (Int64.toInt_inj.mp e)
      have h4 : ¬ b.toInt < a.toInt := fun e => h1 (Int64.lt_iff_toInt_lt.mpr e)
      exact Int64.lt_iff_toInt_lt.mpr (by omega)
/-- what the places of a split cost, each with 15 -/
def kS (kc o : Nat → Nat) : Nat → Nat
  | 0 => 0
  | k + 1 => kS kc o k + (kc k + 15 + (if o k % 7 > 0 then 3 else 0))
def kCd (o : Nat → Nat) (m : Nat) : Nat → Nat
  | 0 => 0
  | k + 1 => 28 * kCd o m k + (if k < m then o k else 0)
def mkey (kc o : Nat → Nat) (m : Nat) : Nat := (16 * (kS kc o m - 15) + m) * 377801998336 + kCd o m 8
theorem kS_ge (kc o : Nat → Nat) {m : Nat} (h : 1 ≤ m) : 15 ≤ kS kc o m := by
  cases m with
  | zero => omega
  | succ m => unfold kS; split <;> omega
theorem kS_le (kc o : Nat → Nat) (h : ∀ k, kc k ≤ 140) (m : Nat) : kS kc o m ≤ 158 * m := by
  induction m with
  | zero => exact Nat.le_refl _
  | succ m ih => have := h m; unfold kS; split <;> omega
theorem kCd_lt (o : Nat → Nat) (m : Nat) (h : ∀ k, k < m → o k < 28) (n : Nat) : kCd o m n < 28 ^ n := by
  induction n with
  | zero => exact (by decide : 0 < 1)
  | succ n ih =>
    unfold kCd
    rw [Nat.pow_succ]
    split
    · rename_i h1
      have := h n h1
      omega
    · omega
theorem mkey_lt (kc o : Nat → Nat) (hk : ∀ k, kc k ≤ 140) {m : Nat} (hm : m ≤ 8) (h : ∀ k, k < m → o k < 28) : mkey kc o m < 9223372036854775808 := by
  have h1 := kS_le kc o hk m
  have h2 := kCd_lt o m h 8
  unfold mkey
  rw [show (28 : Nat) ^ 8 = 377801998336 by decide] at h2
  generalize kCd o m 8 = u at h2 ⊢
  generalize kS kc o m = v at h1 ⊢
  omega
theorem mkey_div (kc o : Nat → Nat) (m : Nat) (h : ∀ k, k < m → o k < 28) : mkey kc o m / 377801998336 = 16 * (kS kc o m - 15) + m ∧ mkey kc o m % 377801998336 = kCd o m 8 := by
  have h2 := kCd_lt o m h 8
  rw [show (28 : Nat) ^ 8 = 377801998336 by decide] at h2
  unfold mkey
  generalize kCd o m 8 = u at h2 ⊢
  generalize 16 * (kS kc o m - 15) + m = v
  omega
/-- a split: its places' options (7 times what the part lacks of 4 letters, and the link) with their parts -/
abbrev SP : Type := List (Nat × Nat)
def spO (l : SP) (k : Nat) : Nat := (l.getD k (0, 0)).1
def spP (l : SP) (k : Nat) : Nat := (l.getD k (0, 0)).2
def mkl (x : LX) (l : SP) : Nat := mkey (fun k => ko (lC x (spP l k))) (spO l) l.length
def enO (F : Nat → List SP) : Nat → List SP
  | 0 => []
  | z + 1 => F (28 - (z + 1)) ++ enO F z
/-- all splits from letter a on, behind the part pv, in the reference's order -/
def en (x : LX) (L : Nat) (d : Nat → Nat) : Nat → Nat → Option Nat → List SP
  | 0, _, _ => []
  | f + 1, a, pv => enO (fun o => match stp x L d a pv (4 - o / 7) (o % 7) with
    | none => []
    | some (p, e) => if e = L then [[(o, p)]] else (en x L d f e (some p)).map (fun l => (o, p) :: l)) 28
def enF (x : LX) (L : Nat) (d : Nat → Nat) (f a : Nat) (pv : Option Nat) (o : Nat) : List SP := match stp x L d a pv (4 - o / 7) (o % 7) with
    | none => []
    | some (p, e) => if e = L then [[(o, p)]] else (en x L d f e (some p)).map (fun l => (o, p) :: l)
theorem en_succ (x : LX) (L : Nat) (d : Nat → Nat) (f a : Nat) (pv : Option Nat) : en x L d (f + 1) a pv = enO (enF x L d f a pv) 28 := rfl
def mEn (x : LX) (d : Nat → Nat) (L : Nat) : List SP := en x L d 8 0 none
def KS (x : LX) (pre : SP) (ks : Nat → Int64) (sp : Nat) (outs : List SP) : Prop := ∀ (i : Nat) (l : SP), outs[i]? = some l → ks (sp + i) = lN (mkl x (pre ++ l))
theorem KS_nil (x : LX) (pre : SP) (ks : Nat → Int64) (sp : Nat) : KS x pre ks sp [] := fun i l h => by simp at h
theorem KS_app {x : LX} {pre : SP} {ks : Nat → Int64} {sp : Nat} {A B : List SP} (hA : KS x pre ks sp A) (hB : KS x pre ks (sp + A.length) B) : KS x pre ks sp (A ++ B) := fun i l h => by
  rcases Nat.lt_or_ge i A.length with h1 | h1
  · rw [List.getElem?_append_left h1] at h
    exact hA i l h
  · rw [List.getElem?_append_right h1] at h
    have := hB (i - A.length) l h
    rw [show sp + A.length + (i - A.length) = sp + i by omega] at this
    exact this
theorem KS_keep {x : LX} {pre : SP} {ks ks' : Nat → Int64} {sp n : Nat} {A : List SP} (hA : KS x pre ks sp A) (hk : ∀ i, i < n → ks' i = ks i) (hn : sp + A.length ≤ n) : KS x pre ks' sp A := fun i l h => by
  have hi := (List.getElem?_eq_some_iff.mp h).1
  rw [hk _ (by omega)]
  exact hA i l h
theorem KS_map {x : LX} {pre : SP} {y : Nat × Nat} {ks : Nat → Int64} {sp : Nat} {A : List SP} (hA : KS x (pre ++ [y]) ks sp A) : KS x pre ks sp (A.map (fun l => y :: l)) := fun i l h => by
  rw [List.getElem?_map] at h
  cases hq : A[i]? with
  | none => rw [hq] at h; cases h
  | some q =>
    rw [hq] at h
    cases h
    have := hA i q hq
    rw [List.append_assoc] at this
    exact this
theorem KS_one {x : LX} {pre : SP} {y : Nat × Nat} {ks : Nat → Int64} {sp : Nat} (h : ks sp = lN (mkl x (pre ++ [y]))) : KS x pre ks sp [[y]] := fun i l hl => by
  cases i with
  | zero => cases hl; exact h
  | succ i => simp at hl
theorem spO_pre (pre : SP) (y : Nat × Nat) {k : Nat} (h : k < pre.length) : spO (pre ++ [y]) k = spO pre k := by
  unfold spO
  rw [List.getD_eq_getElem?_getD, List.getD_eq_getElem?_getD, List.getElem?_append_left h]
theorem spP_pre (pre : SP) (y : Nat × Nat) {k : Nat} (h : k < pre.length) : spP (pre ++ [y]) k = spP pre k := by
  unfold spP
  rw [List.getD_eq_getElem?_getD, List.getD_eq_getElem?_getD, List.getElem?_append_left h]
theorem spO_last (pre : SP) (y : Nat × Nat) : spO (pre ++ [y]) pre.length = y.1 := by
  unfold spO
  rw [List.getD_eq_getElem?_getD, List.getElem?_append_right (Nat.le_refl _), Nat.sub_self]
  rfl
theorem spP_last (pre : SP) (y : Nat × Nat) : spP (pre ++ [y]) pre.length = y.2 := by
  unfold spP
  rw [List.getD_eq_getElem?_getD, List.getElem?_append_right (Nat.le_refl _), Nat.sub_self]
  rfl
/-- the arrays hold a split's places -/
def holds (l : SP) (op pt : Nat → Int32) (np : Nat) : Prop := ∀ k, k < l.length → op k = nI (spO l k) ∧ spO l k < 28 ∧ pt k = nI (spP l k) ∧ spP l k < np
theorem holds_push {l : SP} {op pt op1 pt1 : Nat → Int32} {np o p : Nat} (h : holds l op pt np) (ho : o < 28) (hp : p < np) (h1 : ∀ k, k < l.length → op1 k = op k ∧ pt1 k = pt k) (h2 : op1 l.length = nI o ∧ pt1 l.length = nI p) : holds (l ++ [(o, p)]) op1 pt1 np := fun k hk => by
  rw [List.length_append, List.length_singleton] at hk
  rcases Nat.lt_or_ge k l.length with h3 | h3
  · rw [spO_pre _ _ h3, spP_pre _ _ h3, (h1 k h3).1, (h1 k h3).2]
    exact h k h3
  · have e : k = l.length := by omega
    subst e
    rw [spO_last, spP_last]
    exact ⟨h2.1, ho, h2.2, hp⟩
theorem holds_keep {l : SP} {op pt op1 pt1 : Nat → Int32} {np : Nat} (h : holds l op pt np) (h1 : ∀ k, k < l.length → op1 k = op k ∧ pt1 k = pt k) : holds l op1 pt1 np := fun k hk => by
  rw [(h1 k hk).1, (h1 k hk).2]
  exact h k hk
def cntLt (ks : Nat → Int64) (v : Int64) : Nat → Nat
  | 0 => 0
  | n + 1 => cntLt ks v n + (if ks n < v then 1 else 0)
theorem cntLt_le (ks : Nat → Int64) (v : Int64) (n : Nat) : cntLt ks v n ≤ n := by
  induction n with
  | zero => exact Nat.le_refl _
  | succ n ih => unfold cntLt; split <;> omega
def selK (ks : Nat → Int64) (sp : Nat) (k : Int32) : Nat → Int64
  | 0 => -1
  | s + 1 => if nI (cntLt ks (ks s) sp) = k then ks s else selK ks sp k s
def enZ (x : LX) (L : Nat) (d : Nat → Nat) (f a : Nat) (pv : Option Nat) (z : Nat) : List SP := match f with
  | 0 => []
  | f + 1 => enO (enF x L d f a pv) z
theorem en_Z (x : LX) (L : Nat) (d : Nat → Nat) (f a : Nat) (pv : Option Nat) : en x L d f a pv = enZ x L d f a pv 28 := by cases f <;> rfl
theorem enO_cons {F : Nat → List SP} {z o : Nat} (h : o + (z + 1) = 28) : enO F (z + 1) = F o ++ enO F z := by
  rw [enO, show 28 - (z + 1) = o by omega]
theorem stp_bd {x : LX} {L : Nat} {d : Nat → Nat} {a n c p e : Nat} {pv : Option Nat} (h : stp x L d a pv n c = some (p, e)) (hn : 1 ≤ n) : a < e ∧ e ≤ L ∧ p < lNp x ∧ wAt x L d a n = some p := by
  unfold stp at h
  split at h
  · cases h
  · rename_i q hw
    have hq := wAt_some hw
    split at h
    · cases h
    · split at h
      · split at h
        · cases h
          exact ⟨by omega, hq.1, hq.2.1, hw⟩
        · split at h
          · rename_i hl
            have := lkOK_iff.mp hl
            cases h
            exact ⟨by omega, by omega, hq.2.1, hw⟩
          · cases h
      · cases h
theorem upd_s (f : Nat → Int32) (k : Nat) (v : Int32) : upd f k v k = v := if_pos rfl
theorem upd_n (f : Nat → Int32) {k j : Nat} (v : Int32) (h : j ≠ k) : upd f k v j = f j := if_neg h
theorem updL_s (f : Nat → Int64) (k : Nat) (v : Int64) : vp_updL f k v k = v := if_pos rfl
theorem updL_n (f : Nat → Int64) {k j : Nat} (v : Int64) (h : j ≠ k) : vp_updL f k v j = f j := if_neg h
theorem nI_sa (o : Nat) : nI o - nI 1 + nI 1 = nI o := Int32.sub_add_cancel _ _
theorem nI_s1 (m : Nat) : nI (m + 1) - nI 1 = nI m := nI_subN (by omega)
theorem pvOK_keep {np m : Nat} {pt pt1 : Nat → Int32} {pv : Option Nat} (h : pvOK np m pt pv) (h1 : ∀ k, k < m → pt1 k = pt k) : pvOK np m pt1 pv := by
  rcases h with h | ⟨h2, q, h3, h4, h5⟩
  · exact Or.inl h
  · exact Or.inr ⟨h2, q, h3, (h1 (m - 1) (by omega)).trans h4, h5⟩
def valS (x : LX) (L : Nat) (d : Nat → Nat) : SP → Nat → Option Nat → Prop
  | [], _, _ => False
  | (o, p) :: l, a, pv => o < 28 ∧ ∃ e, stp x L d a pv (4 - o / 7) (o % 7) = some (p, e) ∧ ((e = L ∧ l = []) ∨ (e < L ∧ valS x L d l e (some p)))
theorem valS_len {x : LX} {L : Nat} {d : Nat → Nat} : ∀ (l : SP) (a : Nat) (pv : Option Nat), valS x L d l a pv → l.length + a ≤ L ∧ 1 ≤ l.length
  | [], _, _, h => absurd h (fun h => h)
  | (o, p) :: l, a, pv, h => by
    obtain ⟨ho, e, hs, h⟩ := h
    have hb := stp_bd hs (by omega)
    rw [List.length_cons]
    rcases h with ⟨h1, rfl⟩ | ⟨h1, h2⟩
    · exact ⟨by simp; omega, by omega⟩
    · have := (valS_len l e (some p) h2).1
      exact ⟨by omega, by omega⟩
theorem valS_bd {x : LX} {L : Nat} {d : Nat → Nat} : ∀ (l : SP) (a : Nat) (pv : Option Nat), valS x L d l a pv → ∀ k, k < l.length → spO l k < 28 ∧ spP l k < lNp x
  | [], _, _, h => absurd h (fun h => h)
  | (o, p) :: l, a, pv, h => fun k hk => by
    obtain ⟨ho, e, hs, h⟩ := h
    have hb := stp_bd hs (by omega)
    cases k with
    | zero => exact ⟨ho, hb.2.2.1⟩
    | succ k =>
      rcases h with ⟨h1, rfl⟩ | ⟨h1, h2⟩
      · simp at hk
      · exact valS_bd l e (some p) h2 k (by simpa using hk)
theorem enO_mem {F : Nat → List SP} {l : SP} {z : Nat} (hz : z ≤ 28) : l ∈ enO F z ↔ ∃ o, 28 - z ≤ o ∧ o < 28 ∧ l ∈ F o := by
  induction z with
  | zero => constructor
            · intro h; cases h
            · rintro ⟨o, h1, h2, _⟩; omega
  | succ z ih =>
    rw [enO, List.mem_append, ih (by omega)]
    constructor
    · rintro (h | ⟨o, h1, h2, h3⟩)
      · exact ⟨28 - (z + 1), by omega, by omega, h⟩
      · exact ⟨o, by omega, h2, h3⟩
    · rintro ⟨o, h1, h2, h3⟩
      by_cases h : o = 28 - (z + 1)
      · left; rw [← h]; exact h3
      · right; exact ⟨o, by omega, h2, h3⟩
theorem mem_en {x : LX} {L : Nat} {d : Nat → Nat} (f : Nat) : ∀ (a : Nat) (pv : Option Nat) (l : SP), L ≤ a + f → (l ∈ en x L d f a pv ↔ valS x L d l a pv) := by
  induction f with
  | zero =>
    intro a pv l hf
    constructor
    · intro h; cases h
    · intro h
      have := valS_len l a pv h
      omega
  | succ f ih =>
    intro a pv l hf
    rw [en_succ, enO_mem (Nat.le_refl 28)]
    constructor
    · rintro ⟨o, _, ho, h⟩
      unfold enF at h
      split at h
      · cases h
      · rename_i p e hs
        have hb := stp_bd hs (by omega)
        split at h
        · rename_i he
          rw [List.mem_singleton] at h
          subst h
          exact ⟨ho, e, hs, Or.inl ⟨he, rfl⟩⟩
        · rename_i he
          obtain ⟨l2, h2, rfl⟩ := List.mem_map.mp h
          exact ⟨ho, e, hs, Or.inr ⟨by omega, (ih e (some p) l2 (by omega)).mp h2⟩⟩
    · intro h
      cases l with
      | nil => exact absurd h (fun h => h)
      | cons y l =>
        obtain ⟨o, p⟩ := y
        obtain ⟨ho, e, hs, h⟩ := h
        have hb := stp_bd hs (by omega)
        refine ⟨o, by omega, ho, ?_⟩
        unfold enF
        rw [hs]
        dsimp only
        rcases h with ⟨h1, rfl⟩ | ⟨h1, h2⟩
        · rw [if_pos h1]; exact List.mem_singleton.mpr rfl
        · rw [if_neg (by omega)]
          exact List.mem_map.mpr ⟨l, (ih e (some p) l (by omega)).mpr h2, rfl⟩
theorem mem_mEn {x : LX} {L : Nat} {d : Nat → Nat} {l : SP} (hL : L ≤ 8) : l ∈ mEn x d L ↔ valS x L d l 0 none := mem_en 8 0 none l (by omega)
theorem mkl_lt {x : LX} {L : Nat} {d : Nat → Nat} {l : SP} {a : Nat} {pv : Option Nat} (hL : L ≤ 8) (h : valS x L d l a pv) : mkl x l < 9223372036854775808 := mkey_lt _ _ (fun _ => ko_le _) (by have := valS_len l a pv h; omega) (fun k hk => (valS_bd l a pv h k hk).1)
/-- a split by its number: as many of them have a lesser key -/
def selR (x : LX) (E : List SP) (k : Int32) (o : Option SP) : Prop := match o with
  | none => ∀ l, l ∈ E → nI (E.countP (fun l' => decide (mkl x l' < mkl x l))) ≠ k
  | some l => l ∈ E ∧ nI (E.countP (fun l' => decide (mkl x l' < mkl x l))) = k
def selV (x : LX) (o : Option SP) : Int64 := match o with
  | none => -1
  | some l => lN (mkl x l)
theorem cntLt_countP {x : LX} {ks : Nat → Int64} {v : Nat} (hv : v < 9223372036854775808) : ∀ (E : List SP) (n : Nat), n ≤ E.length → (∀ l, l ∈ E → mkl x l < 9223372036854775808) → KS x [] ks 0 E → cntLt ks (lN v) n = (E.take n).countP (fun l' => decide (mkl x l' < v)) := by
  intro E n
  induction n with
  | zero => intro _ _ _; rfl
  | succ n ih =>
    intro hn hb hk
    have he : E[n]? = some E[n] := List.getElem?_eq_getElem (by omega)
    have hkn := hk n E[n] he
    rw [Nat.zero_add, List.nil_append] at hkn
    rw [cntLt, ih (by omega) hb hk, List.take_succ_eq_append_getElem (by omega), List.countP_append, hkn]
    congr 1
    rw [List.countP_singleton]
    have h1 := hb E[n] (List.getElem_mem (by omega))
    by_cases h : mkl x E[n] < v
    · rw [if_pos ((lN_ltB h1 hv).mpr h), if_pos (decide_eq_true h)]
    · rw [if_neg (fun h2 => h ((lN_ltB h1 hv).mp h2)), if_neg (by rw [decide_eq_false h]; decide)]
theorem selK_R {x : LX} {ks : Nat → Int64} {k : Int32} {E : List SP} (hb : ∀ l, l ∈ E → mkl x l < 9223372036854775808) (hk : KS x [] ks 0 E) : ∀ n, n ≤ E.length → ∃ o : Option SP, selK ks E.length k n = selV x o ∧ (match o with
    | none => ∀ i, i < n → ∀ l, E[i]? = some l → nI (E.countP (fun l' => decide (mkl x l' < mkl x l))) ≠ k
    | some l => l ∈ E ∧ nI (E.countP (fun l' => decide (mkl x l' < mkl x l))) = k) := by
  intro n
  induction n with
  | zero => intro _; exact ⟨none, rfl, fun i hi => absurd hi (Nat.not_lt_zero i)⟩
  | succ n ih =>
    intro hn
    have he : E[n]? = some E[n] := List.getElem?_eq_getElem (by omega)
    have hkn := hk n E[n] he
    rw [Nat.zero_add, List.nil_append] at hkn
    have hm : E[n] ∈ E := List.getElem_mem (by omega)
    have hc := cntLt_countP (hb _ hm) E E.length (Nat.le_refl _) hb hk
    rw [List.take_length] at hc
    unfold selK
    rw [hkn, hc]
    split
    · rename_i h
      exact ⟨some E[n], rfl, hm, h⟩
    · rename_i h
      obtain ⟨o, h1, h2⟩ := ih (by omega)
      refine ⟨o, h1, ?_⟩
      cases o with
      | some l => exact h2
      | none =>
        intro i hi l hl
        rcases Nat.lt_or_ge i n with h3 | h3
        · exact h2 i h3 l hl
        · have e : i = n := by omega
          subst e
          rw [he] at hl
          cases hl
          exact h
theorem selK_sel {x : LX} {ks : Nat → Int64} {k : Int32} {E : List SP} (hb : ∀ l, l ∈ E → mkl x l < 9223372036854775808) (hk : KS x [] ks 0 E) : ∃ o : Option SP, selK ks E.length k E.length = selV x o ∧ selR x E k o := by
  obtain ⟨o, h1, h2⟩ := selK_R hb hk E.length (Nat.le_refl _)
  refine ⟨o, h1, ?_⟩
  cases o with
  | some l => exact h2
  | none =>
    intro l hl
    obtain ⟨i, hi, rfl⟩ := List.getElem_of_mem hl
    exact h2 i hi _ (List.getElem?_eq_getElem hi)
def asked (x : LX) (u : Int32) (w ll1 sp1 : Nat) (lt1 : Nat → Int32) (ks1 : Nat → Int64) : Prop := u = nI w ∧ w < 200000000 ∧ 1 ≤ ll1 ∧ ll1 ≤ 8 ∧ ll1 = SZ u 8 ∧ (∀ k, k < ll1 → lt1 k = nI (dgt w ll1 k)) ∧ sp1 = (mEn x (dgt w ll1) ll1).length ∧ KS x [] ks1 0 (mEn x (dgt w ll1) ll1)
theorem asked.bd {x : LX} {u : Int32} {w ll1 sp1 : Nat} {lt1 : Nat → Int32} {ks1 : Nat → Int64} (h : asked x u w ll1 sp1 lt1 ks1) : ∀ l, l ∈ mEn x (dgt w ll1) ll1 → mkl x l < 9223372036854775808 := fun l hl => mkl_lt h.2.2.2.1 ((mem_mEn h.2.2.2.1).mp hl)
