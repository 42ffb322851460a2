/-- of a list of splits: not too many, and for each number one of that rank -/
def rkOK (x : LX) : Prop := ∀ (d : Nat → Nat) (L : Nat), L ≤ 8 → (mEn x d L).length ≤ 640 ∧ ∀ k, k < (mEn x d L).length → ∃ l, l ∈ mEn x d L ∧ (mEn x d L).countP (fun l' => decide (mkl x l' < mkl x l)) = k
theorem lg_eq0 {a b : Int64} (h : lg_cmp a b = 0) : a = b := by
  unfold lg_cmp at h
  split at h
  · exact absurd h (by decide)
  · split at h
    · assumption
    · exact absurd h (by decide)
theorem lN_nem1 {k : Nat} (h : k < 9223372036854775808) : lN k ≠ -1 := by
  intro e
  have h1 := congrArg Int64.toInt e
  rw [lN_toIntB h] at h1
  have h2 : (-1 : Int64).toInt = -1 := by decide
  omega
def askK (x : LX) (u k : Int32) (th1 : Nat) (P : Option SP → Prop) : Prop := ((SZ u 8 = 0 ∨ k < 0) ∧ th1 = 1) ∨ (∃ (w : Nat) (o : Option SP), u = nI w ∧ w < 200000000 ∧ 0 < SZ u 8 ∧ ¬ k < 0 ∧ th1 = 0 ∧ selR x (mEn x (dgt w (SZ u 8)) (SZ u 8)) k o ∧ P o)
def cosV (x : LX) (o : Option SP) : Int32 := match o with
  | none => -1
  | some l => nI (mkl x l / 377801998336 / 16)
def sizV (o : Option SP) : Int32 := match o with
  | none => -1
  | some l => nI l.length
def hedV (o : Option SP) : Int32 := match o with
  | none => -1
  | some l => nI (spP l (l.length - 1))
def patP (j r : Int32) (o : Option SP) : Prop := match o with
  | none => r = -1
  | some l => (nI l.length ≤ j ∧ r = -1) ∨ ∃ i, i < l.length ∧ j = nI i ∧ r = nI (10 * spP l i + spO l i % 7)
theorem mkl_size {x : LX} {L : Nat} {d : Nat → Nat} {l : SP} {a : Nat} {pv : Option Nat} (hL : L ≤ 8) (h : valS x L d l a pv) : mkl x l / 377801998336 % 16 = l.length := by
  have h1 := (mkey_div (fun k => ko (lC x (spP l k))) (spO l) l.length (fun k hk => (valS_bd l a pv h k hk).1)).1
  have h2 := valS_len l a pv h
  unfold mkl
  rw [h1]
  omega
theorem sel_nil {x : LX} {k : Int32} {E : List SP} (h : E.length = 0) : selR x E k none := fun l hl => by
  rw [List.length_eq_zero_iff.mp h] at hl
  cases hl
theorem sel_some {x : LX} {E : List SP} {o : Option SP} {k : Nat} (hr : ∃ l, l ∈ E ∧ E.countP (fun l' => decide (mkl x l' < mkl x l)) = k) (h : selR x E (nI k) o) : ∃ l, o = some l := by
  cases o with
  | some l => exact ⟨l, rfl⟩
  | none =>
    obtain ⟨l, h1, h2⟩ := hr
    exact absurd (by rw [h2]) (h l h1)
def trN : Nat → Nat
  | 0 => 1
  | k + 1 => trN k * 2 * (2 * (k + 1) - 1) / (k + 2)
theorem trN_le : ∀ k, k ≤ 7 → trN k ≤ 429 := by decide
def rdN (E : List SP) : Nat → Nat
  | 0 => 0
  | n + 1 => rdN E n + trN ((E.getD n []).length - 1)
/-- what the counts, and the notes of a lesson, are behind some places of a split -/
def lrn (c : Nat → Nat) (sl : SP) : Nat → (Nat → Nat) × (Nat → Nat)
  | 0 => (c, fun _ => 0)
  | k + 1 => if (lrn c sl k).1 (spP sl k) < 9999 then (fun p => if p = spP sl k then (lrn c sl k).1 p + 1 else (lrn c sl k).1 p, fun p => if p = spP sl k then (lrn c sl k).2 p + 1 else (lrn c sl k).2 p) else lrn c sl k
theorem lrn_bd {c : Nat → Nat} {sl : SP} (k p : Nat) (h : c p ≤ 9999) : c p ≤ (lrn c sl k).1 p ∧ (lrn c sl k).1 p ≤ 9999 ∧ (lrn c sl k).2 p ≤ k ∧ (lrn c sl k).1 p = c p + (lrn c sl k).2 p := by
  induction k with
  | zero => exact ⟨Nat.le_refl _, h, Nat.le_refl _, rfl⟩
  | succ k ih =>
    unfold lrn
    split
    · rename_i h1
      dsimp only
      by_cases e : p = spP sl k
      · rw [if_pos e, if_pos e]
        rw [← e] at h1
        omega
      · rw [if_neg e, if_neg e]
        omega
    · omega
def costL (x : LX) (l : SP) : Nat := mkl x l / 377801998336 / 16
/-- a lesson: what the reference has behind it -/
def lesson (x : LX) (np ld : Nat) (mo : Nat → Int32) (sl : SP) (C1 mo1 : Nat → Int32) : Prop := (∀ p, p < np → C1 p = nI ((lrn (lC x) sl sl.length).1 p)) ∧ (∀ p, p < 16 → mo1 (16 * ld + p) = nI ((lrn (lC x) sl sl.length).2 p)) ∧ (∀ j, j < 16 * ld → mo1 j = mo j)
def mLearn (x : LX) (np : Nat) (u r : Int32) (ld : Nat) (C mo wd : Nat → Int32) (th1 ld1 : Nat) (C1 mo1 wd1 : Nat → Int32) : Prop :=
  (SZ u 8 = 0 ∧ th1 = 1 ∧ ld1 = ld ∧ C1 = C ∧ mo1 = mo ∧ wd1 = wd) ∨ (0 < SZ u 8 ∧ ld = 50 ∧ th1 = 2 ∧ ld1 = ld ∧ C1 = C ∧ mo1 = mo ∧ wd1 = wd) ∨
  (∃ w, u = nI w ∧ w < 200000000 ∧ 0 < SZ u 8 ∧ ld < 50 ∧ th1 = 0 ∧
    ((∃ sl, selR x (mEn x (dgt w (SZ u 8)) (SZ u 8)) (nI 0) (some sl) ∧ ((mEn x (dgt w (SZ u 8)) (SZ u 8)).length = 1 ∨ (1 < (mEn x (dgt w (SZ u 8)) (SZ u 8)).length ∧ ∃ s2, selR x (mEn x (dgt w (SZ u 8)) (SZ u 8)) (nI 1) (some s2) ∧ costL x sl + 20 ≤ costL x s2)) ∧ r = bI true ∧ ld1 = ld + 1 ∧ lesson x np ld mo sl C1 mo1 ∧ wd1 = upd wd ld u) ∨
     (r = bI false ∧ ld1 = ld ∧ C1 = C ∧ mo1 = mo ∧ wd1 = wd ∧ ((mEn x (dgt w (SZ u 8)) (SZ u 8)).length = 0 ∨ ∃ sl s2, selR x (mEn x (dgt w (SZ u 8)) (SZ u 8)) (nI 0) (some sl) ∧ selR x (mEn x (dgt w (SZ u 8)) (SZ u 8)) (nI 1) (some s2) ∧ costL x s2 < costL x sl + 20))))
theorem costL_lt {x : LX} {L : Nat} {d : Nat → Nat} {l : SP} (h : valS x L d l 0 none) (hL : L ≤ 8) : costL x l < 2000 := by
  have h1 := (mkey_div (fun k => ko (lC x (spP l k))) (spO l) l.length (fun k hk => (valS_bd l 0 none h k hk).1)).1
  have h2 := valS_len l 0 none h
  have h3 := kS_le (fun k => ko (lC x (spP l k))) (spO l) (fun _ => ko_le _) l.length
  unfold costL mkl
  rw [h1]
  omega
theorem sel0_eq {x : LX} {E : List SP} {a b : SP} (hE : E.length ≤ 640) (ha : selR x E (nI 0) (some a)) (hb : selR x E (nI 0) (some b)) : mkl x a = mkl x b := by
  have key : ∀ a b : SP, selR x E (nI 0) (some a) → selR x E (nI 0) (some b) → ¬ mkl x b < mkl x a := by
    intro a b ha hb h
    have h1 := List.countP_le_length (p := fun l' => decide (mkl x l' < mkl x a)) (l := E)
    have h2 := nI_inj (by omega) (by decide) ha.2
    have h3 := List.countP_eq_zero.mp h2 b hb.1
    exact h3 (decide_eq_true h)
  have := key a b ha hb
  have := key b a hb ha
  omega
theorem asked.vs {x : LX} {u : Int32} {w ll1 sp1 : Nat} {lt1 : Nat → Int32} {ks1 : Nat → Int64} (h : asked x u w ll1 sp1 lt1 ks1) {l : SP} (hl : l ∈ mEn x (dgt w ll1) ll1) : valS x ll1 (dgt w ll1) l 0 none := (mem_mEn h.2.2.2.1).mp hl
