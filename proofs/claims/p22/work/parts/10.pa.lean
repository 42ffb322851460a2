/-- how often v can be doubled -/
def dbl : Nat → Nat → Nat
  | 0, _ => 0
  | f + 1, v => if v ≤ 10000 then 1 + dbl f (v * 2) else 0
def ko (c : Nat) : Nat := 10 + 10 * dbl 13 (2 * c)
theorem dbl_le (f v : Nat) : dbl f v ≤ f := by
  induction f generalizing v with
  | zero => exact Nat.le_refl _
  | succ f ih => unfold dbl; split <;> have := ih (v * 2) <;> omega
theorem dbl_hi (f : Nat) {v : Nat} (h : 10000 < v) : dbl f v = 0 := by
  cases f with
  | zero => rfl
  | succ f => unfold dbl; rw [if_neg (by omega)]
theorem ko_le (c : Nat) : ko c ≤ 140 := by have := dbl_le 13 (2 * c); unfold ko; omega
theorem ko_ge (c : Nat) : 10 ≤ ko c := by unfold ko; omega
theorem isP_t {np : Nat} {x : Int32} (hnp : np ≤ 16) (h : isP np x = true) : ∃ p, p < np ∧ x = nI p := by
  unfold isP at h
  rw [decide_eq_true_eq] at h
  obtain ⟨h1, h2⟩ := h
  obtain ⟨j, hj, rfl⟩ := nI_of (x := x) (Int32.not_lt.mpr h1)
  refine ⟨j, ?_, rfl⟩
  rcases Nat.eq_zero_or_pos np with rfl | hp
  · exfalso
    have : nI j ≤ -1 := h2
    rw [Int32.le_iff_toInt_le, nI_toInt hj] at this
    have e : (-1 : Int32).toInt = -1 := by decide
    omega
  · rw [show (1 : Int32) = nI 1 from rfl, nI_subN hp] at h2
    have := (nI_leI hj (by omega)).mp h2
    omega
theorem isP_of {np p : Nat} (hnp : np ≤ 16) (h : p < np) : isP np (nI p) = true := by
  unfold isP
  rw [decide_eq_true_eq, show (1 : Int32) = nI 1 from rfl, nI_subN (by omega), show (0 : Int32) = nI 0 from rfl]
  exact ⟨nI_le (by omega) (by omega), nI_le (by omega) (by omega)⟩
/-- the bit of a mask -/
def bitI (x : Int32) (q : Nat) : Bool := decide ((x >>> (nI q &&& 31)) &&& nI 1 = nI 1)
def setI (x : Int32) (q : Nat) (b : Bool) : Int32 := if b then x ||| (nI 1 <<< (nI q &&& 31)) else x &&& ((nI 1 <<< (nI q &&& 31)) ^^^ (-1))
def goodP (text count flags : Int32) : Prop := 0 < SZ text 4 ∧ (nI 1 ≤ count ∧ count ≤ nI 9999) ∧ (nI 1 ≤ flags ∧ flags ≤ nI 7)
def mAddPart (np : Nat) (T S C F : Nat → Int32) (text count flags r : Int32) (th1 np1 : Nat) (T1 S1 C1 F1 : Nat → Int32) : Prop :=
  (¬ goodP text count flags ∧ th1 = 1 ∧ np1 = np ∧ T1 = T ∧ S1 = S ∧ C1 = C ∧ F1 = F) ∨
  (goodP text count flags ∧ (np = 16 ∨ lastW T text np ≠ -1) ∧ th1 = 2 ∧ np1 = np ∧ T1 = T ∧ S1 = S ∧ C1 = C ∧ F1 = F) ∨
  (goodP text count flags ∧ np < 16 ∧ lastW T text np = -1 ∧ th1 = 0 ∧ r = nI np ∧ np1 = np + 1 ∧ T1 = upd T np text ∧ S1 = upd S np (nI (SZ text 4)) ∧ C1 = upd C np count ∧ F1 = upd F np flags)
def mSetFlags (np : Nat) (F : Nat → Int32) (part flags r : Int32) (th1 : Nat) (F1 : Nat → Int32) : Prop :=
  (isP np part = false ∧ th1 = 1 ∧ F1 = F) ∨ (isP np part = true ∧ ¬ (nI 0 ≤ flags ∧ flags ≤ nI 7) ∧ th1 = 2 ∧ F1 = F) ∨
  (∃ p, p < np ∧ part = nI p ∧ (nI 0 ≤ flags ∧ flags ≤ nI 7) ∧ th1 = 0 ∧ r = F p ∧ F1 = upd F p flags)
def isIn (T : Nat → Int32) (x : Int32) : Nat → Bool
  | 0 => false
  | i + 1 => isIn T x i || decide (T i = x)
def mAddLink (nl : Nat) (LT LS : Nat → Int32) (text r : Int32) (th1 nl1 : Nat) (LT1 LS1 : Nat → Int32) : Prop :=
  (SZ text 2 = 0 ∧ th1 = 1 ∧ nl1 = nl ∧ LT1 = LT ∧ LS1 = LS) ∨
  (SZ text 2 ≠ 0 ∧ (nl = 6 ∨ isIn LT text nl = true) ∧ th1 = 2 ∧ nl1 = nl ∧ LT1 = LT ∧ LS1 = LS) ∨
  (SZ text 2 ≠ 0 ∧ nl < 6 ∧ isIn LT text nl = false ∧ th1 = 0 ∧ r = nI nl ∧ nl1 = nl + 1 ∧ LT1 = upd LT nl text ∧ LS1 = upd LS nl (nI (SZ text 2)))
def mMask (np nq : Nat) (VE : Nat → Int32) (part next : Int32) (b : Bool) (r : Int32) (th1 : Nat) (VE1 : Nat → Int32) : Prop :=
  ((isP np part = false ∨ isP nq next = false) ∧ th1 = 1 ∧ VE1 = VE) ∨
  (∃ p q, p < np ∧ q < nq ∧ part = nI p ∧ next = nI q ∧ th1 = 0 ∧ r = bI (bitI (VE p) q) ∧ VE1 = upd VE p (setI (VE p) q b))
def isB (t s : Nat → Nat) (B n k : Nat) : Bool := decide (n ≤ s k ∧ t k / 10 ^ (s k - n) = B)
def rsN (t s : Nat → Nat) (n k : Nat) : Nat := t k % 10 ^ (s k - n) + 10 ^ (s k - n)
def bgN (t s : Nat → Nat) (n k : Nat) : Nat := t k / 10 ^ (s k - n)
def hasR (t s : Nat → Nat) (B n rr : Nat) : Nat → Bool
  | 0 => false
  | k + 1 => hasR t s B n rr k || (isB t s B n k && decide (rsN t s n k = rr))
def areR (t s : Nat → Nat) (np B n B' m : Nat) : Nat → Bool
  | 0 => true
  | k + 1 => areR t s np B n B' m k && (!(isB t s B n k) || hasR t s B' m (rsN t s n k) np)
def eqR (t s : Nat → Nat) (np p n q m : Nat) : Bool := areR t s np (bgN t s n p) n (bgN t s m q) m np && areR t s np (bgN t s m q) m (bgN t s n p) n np
def nwM (e : Nat → Bool) (acc : Bool) : Nat → Bool
  | 0 => acc
  | m + 1 => nwM e acc m && !(e m)
def nwQ (E : Nat → Nat → Bool) (lim : Nat → Nat) : Nat → Bool
  | 0 => true
  | q + 1 => nwM (E q) (nwQ E lim q) (lim q)
def cntB (b : Nat → Bool) : Nat → Nat
  | 0 => 0
  | n + 1 => cntB b n + (if b n = true then 1 else 0)
def totN (c : Nat → Nat) : Nat → Nat
  | 0 => 0
  | p + 1 => totN c p + c p
def nwPN (t s : Nat → Nat) (np p n : Nat) : Nat → Bool := nwQ (fun q m => eqR t s np p n q m) (fun q => if q < p then s q + 1 else n)
def cntP (t s : Nat → Nat) (np p : Nat) : Nat → Nat := cntB (fun n => nwPN t s np p n (p + 1))
def nodesM (t s : Nat → Nat) (np : Nat) : Nat → Nat := totN (fun p => cntP t s np p (s p + 1))
theorem cntB_le (b : Nat → Bool) (n : Nat) : cntB b n ≤ n := by
  induction n with
  | zero => exact Nat.le_refl _
  | succ n ih => unfold cntB; split <;> omega
theorem rsN_le (t s : Nat → Nat) (n k : Nat) (h : s k ≤ 4) : rsN t s n k ≤ 20000 := by
  have h1 := Nat.mod_lt (t k) (show 10 ^ (s k - n) > 0 from p10_pos _)
  have h2 : 10 ^ (s k - n) ≤ 10 ^ 4 := p10_le (by omega)
  unfold rsN
  omega
/-! texts, parts by their text, one step of a split: numbers alone -/
theorem nI_decR (a : Nat) : nI a + Int32.ofInt (-1) = nI a - nI 1 := by
  rw [Int32.sub_eq_add_neg]
  rfl
theorem nI_subz {j : Nat} (h : j < 2147483648) (c : nI j - nI 1 < 0) : j = 0 := by
  rcases Nat.eq_zero_or_pos j with h0 | h0
  · exact h0
  · rw [nI_subN h0] at c
    exact absurd c (nI_pos (show j - 1 < 2 ^ 31 by omega))
theorem nI_subnz {j : Nat} (c : ¬ nI j - nI 1 < 0) : 0 < j := by
  rcases Nat.eq_zero_or_pos j with rfl | h0
  · exact absurd (by decide) c
  · exact h0
theorem nI_nem1 {j : Nat} (h : j < 2147483648) : nI j ≠ -1 := by
  intro e
  have h1 := congrArg Int32.toInt e
  rw [nI_toInt (show j < 2 ^ 31 by omega)] at h1
  have h2 : (-1 : Int32).toInt = -1 := by decide
  omega
theorem nI_inj {a b : Nat} (ha : a < 2147483648) (hb : b < 2147483648) (h : nI a = nI b) : a = b := (nI_eq ha hb).mp h
theorem SZ_nat (x : Int32) (m : Nat) (hm : m ≤ 8) (h : 0 < SZ x m) : ∃ w, x = nI w ∧ 10 ^ SZ x m ≤ w ∧ w < 2 * 10 ^ SZ x m := by
  induction m with
  | zero => exact absurd h (Nat.lt_irrefl 0)
  | succ m ih =>
    unfold SZ at h ⊢
    split
    · rename_i hc
      rw [if_pos hc] at h
      have hb := p10_bd (show m + 1 ≤ 9 by omega)
      have hb2 : 10 ^ (m + 1) ≤ 10 ^ 8 := p10_le (by omega)
      have h0 : ¬ x < 0 := fun h1 => by
        have h2 := Int32.lt_of_le_of_lt hc.1 h1
        exact absurd h2 (nI_pos (show 10 ^ (m + 1) < 2 ^ 31 by omega))
      obtain ⟨w, hw, rfl⟩ := nI_of h0
      have h3 := (nI_leI (show 10 ^ (m + 1) < 2 ^ 31 by omega) hw).mp hc.1
      have h4 := (nI_leI hw (show 2 * 10 ^ (m + 1) - 1 < 2 ^ 31 by omega)).mp hc.2
      exact ⟨w, rfl, h3, by have := p10_pos (m + 1); omega⟩
    · rename_i hc
      rw [if_neg hc] at h
      exact ih (by omega) h
theorem SZ_eq {w j m : Nat} (hj : 1 ≤ j) (hjm : j ≤ m) (hm : m ≤ 8) (h1 : 10 ^ j ≤ w) (h2 : w < 2 * 10 ^ j) : SZ (nI w) m = j := by
  induction m with
  | zero => omega
  | succ m ih =>
    have hb2 : 10 ^ (m + 1) ≤ 10 ^ 8 := p10_le (by omega)
    have hbj : 10 ^ j ≤ 10 ^ 8 := p10_le (by omega)
    have hp := p10_pos (m + 1)
    have hw : w < 2 ^ 31 := by omega
    unfold SZ
    rcases Nat.lt_or_ge j (m + 1) with hl | hl
    · rw [if_neg]
      · exact ih (by omega) (by omega)
      · intro hc
        have h3 := (nI_leI (show 10 ^ (m + 1) < 2 ^ 31 by omega) hw).mp hc.1
        have h4 : 10 ^ (j + 1) ≤ 10 ^ (m + 1) := p10_le (by omega)
        rw [Nat.pow_succ] at h4
        omega
    · have e : j = m + 1 := by omega
      subst e
      rw [if_pos ⟨nI_le h1 hw, nI_le (by omega) (by omega)⟩]
/-- of how many letters a text is -/
def szN (x : Nat) : Nat := SZ (nI x) 8
theorem SZ_szN {x : Int32} {m : Nat} (hm : m ≤ 8) (h : 0 < SZ x m) : ∃ w, x = nI w ∧ szN w = SZ x m ∧ 10 ^ szN w ≤ w ∧ w < 2 * 10 ^ szN w ∧ w < 200000000 := by
  obtain ⟨w, rfl, h1, h2⟩ := SZ_nat x m hm h
  have hle := SZ_le (nI w) m
  have e : szN w = SZ (nI w) m := SZ_eq h (by omega) (by omega) h1 h2
  have hb : 10 ^ SZ (nI w) m ≤ 10 ^ 8 := p10_le (by omega)
  exact ⟨w, rfl, e, by rw [e]; exact h1, by rw [e]; exact h2, by omega⟩
/-- the letters of a word -/
def dgt (w L k : Nat) : Nat := w / 10 ^ (L - 1 - k) % 10
theorem dgt_lt (w L k : Nat) : dgt w L k ≤ 9 := by
  have := Nat.mod_lt (w / 10 ^ (L - 1 - k)) (show 10 > 0 by decide)
  unfold dgt
  omega
/-- letters as a text -/
def TA (d : Nat → Nat) (a : Nat) : Nat → Nat
  | 0 => 1
  | n + 1 => 10 * TA d a n + d (a + n)
theorem TA_lt (d : Nat → Nat) (hd : ∀ k, d k ≤ 9) (a n : Nat) : 10 ^ n ≤ TA d a n ∧ TA d a n < 2 * 10 ^ n := by
  induction n with
  | zero => exact ⟨Nat.le_refl _, (by decide : 1 < 2 * 10 ^ 0)⟩
  | succ n ih =>
    have := hd (a + n)
    unfold TA
    rw [Nat.pow_succ]
    omega
theorem TA_bd (d : Nat → Nat) (hd : ∀ k, d k ≤ 9) (a : Nat) {n : Nat} (h : n ≤ 8) : TA d a n < 200000000 := by
  have h1 := (TA_lt d hd a n).2
  have h2 : 10 ^ n ≤ 10 ^ 8 := p10_le h
  omega
/-- the first place of x among the first n -/
def pw (t : Nat → Nat) (x : Nat) : Nat → Option Nat
  | 0 => none
  | n + 1 => match pw t x n with
    | some p => some p
    | none => if t n = x then some n else none
theorem pw_some {t : Nat → Nat} {x n p : Nat} (h : pw t x n = some p) : p < n ∧ t p = x := by
  induction n with
  | zero => cases h
  | succ n ih =>
    unfold pw at h
    split at h
    · rename_i q hq
      cases h
      have := ih hq
      exact ⟨by omega, this.2⟩
    · split at h
      · rename_i hx
        cases h
        exact ⟨Nat.lt_succ_self _, hx⟩
      · cases h
theorem pw_none {t : Nat → Nat} {x n : Nat} (h : pw t x n = none) : ∀ i, i < n → t i ≠ x := by
  induction n with
  | zero => intro i hi; omega
  | succ n ih =>
    unfold pw at h
    split at h
    · cases h
    · rename_i hq
      split at h
      · cases h
      · rename_i hx
        intro i hi
        rcases Nat.lt_or_ge i n with h1 | h1
        · exact ih hq i h1
        · rw [show i = n by omega]
          exact hx
theorem pw_of {t : Nat → Nat} {x n p : Nat} (hd : ∀ i j, i < n → j < n → t i = t j → i = j) (hp : p < n) (h : t p = x) : pw t x n = some p := by
  cases hq : pw t x n with
  | none => exact absurd h (pw_none hq p hp)
  | some q =>
    have := pw_some hq
    rw [hd q p this.1 hp (this.2.trans h.symm)]
def oI : Option Nat → Int32
  | none => -1
  | some p => nI p
theorem oI_m1 {o : Option Nat} (hb : ∀ p, o = some p → p < 2147483648) (h : oI o = -1) : o = none := by
  cases o with
  | none => rfl
  | some p => exact absurd h (nI_nem1 (hb p rfl))
theorem oI_nm1 {o : Option Nat} (h : ¬ oI o = -1) : ∃ p, o = some p := by
  cases o with
  | none => exact absurd rfl h
  | some p => exact ⟨p, rfl⟩
/-- lastW's answer is the only place -/
theorem lastW_pw {T : Nat → Int32} {t : Nat → Nat} {x n : Nat} (hx : x < 2147483648) (hT : ∀ i, i < n → T i = nI (t i) ∧ t i < 2147483648) (hd : ∀ i j, i < n → j < n → t i = t j → i = j) : lastW T (nI x) n = oI (pw t x n) := by
  induction n with
  | zero => rfl
  | succ n ih =>
    have ih := ih (fun i hi => hT i (by omega)) (fun i j hi hj => hd i j (by omega) (by omega))
    unfold lastW
    have hn := hT n (by omega)
    by_cases h : t n = x
    · rw [if_pos (by rw [hn.1, h]), pw_of hd (Nat.lt_succ_self n) h]
      rfl
    · rw [if_neg (fun e => h (nI_inj hn.2 hx (hn.1.symm.trans e))), ih]
      show oI (pw t x n) = oI (match pw t x n with | some p => some p | none => if t n = x then some n else none)
      cases hq : pw t x n with
      | none => dsimp only; rw [if_neg h]
      | some q => rfl
theorem lastW_m1 {T : Nat → Int32} {t : Nat → Nat} {n : Nat} (hT : ∀ i, i < n → T i = nI (t i) ∧ t i < 2147483648) : lastW T (-1) n = -1 := by
  induction n with
  | zero => rfl
  | succ n ih =>
    unfold lastW
    have hn := hT n (by omega)
    rw [if_neg (fun e => nI_nem1 hn.2 (hn.1.symm.trans e))]
    exact ih (fun i hi => hT i (by omega))
/-- a lexicon: parts, links; texts, counts, flags, the links' texts; vetoes, bars -/
abbrev LX : Type := Nat × Nat × (Nat → Nat) × (Nat → Nat) × (Nat → Nat) × (Nat → Nat) × (Nat → Nat → Bool) × (Nat → Nat → Bool)
abbrev lNp (x : LX) : Nat := x.1
abbrev lNl (x : LX) : Nat := x.2.1
abbrev lT (x : LX) : Nat → Nat := x.2.2.1
abbrev lC (x : LX) : Nat → Nat := x.2.2.2.1
abbrev lF (x : LX) : Nat → Nat := x.2.2.2.2.1
abbrev lU (x : LX) : Nat → Nat := x.2.2.2.2.2.1
abbrev lV (x : LX) : Nat → Nat → Bool := x.2.2.2.2.2.2.1
abbrev lB (x : LX) : Nat → Nat → Bool := x.2.2.2.2.2.2.2
/-- what always holds of one -/
def lxOK (x : LX) : Prop := lNp x ≤ 16 ∧ lNl x ≤ 6 ∧ (∀ i, i < lNp x → 1 ≤ szN (lT x i) ∧ szN (lT x i) ≤ 4 ∧ 10 ^ szN (lT x i) ≤ lT x i ∧ lT x i < 2 * 10 ^ szN (lT x i)) ∧ (∀ i, i < lNp x → 1 ≤ lC x i ∧ lC x i ≤ 9999) ∧ (∀ i, i < lNp x → lF x i ≤ 7) ∧ (∀ i j, i < lNp x → j < lNp x → lT x i = lT x j → i = j) ∧ (∀ l, l < lNl x → 1 ≤ szN (lU x l) ∧ szN (lU x l) ≤ 2 ∧ 10 ^ szN (lU x l) ≤ lU x l ∧ lU x l < 2 * 10 ^ szN (lU x l)) ∧ (∀ i j, i < lNl x → j < lNl x → lU x i = lU x j → i = j)
theorem lxOK.t {x : LX} (h : lxOK x) {i : Nat} (hi : i < lNp x) : lT x i < 20000 := by
  obtain ⟨h1, h2, h3, h4⟩ := h.2.2.1 i hi
  have : 10 ^ szN (lT x i) ≤ 10 ^ 4 := p10_le h2
  omega
theorem lxOK.u {x : LX} (h : lxOK x) {i : Nat} (hi : i < lNl x) : lU x i < 200 := by
  obtain ⟨h1, h2, h3, h4⟩ := h.2.2.2.2.2.2.1 i hi
  have : 10 ^ szN (lU x i) ≤ 10 ^ 2 := p10_le h2
  omega
def fNeed (a b : Bool) : Nat := if a = true then (if b = true then 5 else 1) else (if b = true then 4 else 2)
def okF (fl : Nat) (a b : Bool) : Bool := decide (fl &&& fNeed a b = fNeed a b)
def vetoed (x : LX) (pv : Option Nat) (p : Nat) : Bool := match pv with
  | none => false
  | some q => lV x q p
def wAt (x : LX) (L : Nat) (d : Nat → Nat) (a n : Nat) : Option Nat := if a + n ≤ L then pw (lT x) (TA d a n) (lNp x) else none
/-- may a link stand there, and where does it end -/
def lkOK (x : LX) (L : Nat) (d : Nat → Nat) (e p l : Nat) : Bool := decide (l < lNl x ∧ lB x p l = false ∧ e + szN (lU x l) < L ∧ TA d e (szN (lU x l)) = lU x l)
/-- one step of a split of the word of L letters d: from letter a on, behind the part pv, a part of n letters and link c (0: none, l + 1) -/
def stp (x : LX) (L : Nat) (d : Nat → Nat) (a : Nat) (pv : Option Nat) (n c : Nat) : Option (Nat × Nat) :=
  match wAt x L d a n with
  | none => none
  | some p =>
    if vetoed x pv p = true then none
    else if okF (lF x p) pv.isNone (decide (a + n = L)) = true then
      (if c = 0 then some (p, a + n) else if lkOK x L d (a + n) p (c - 1) = true then some (p, a + n + szN (lU x (c - 1))) else none)
    else none
/-- the reference's cells hold a lexicon -/
def mOK (x : LX) (np nl : Nat) (T S C F LT LS VE BA : Nat → Int32) : Prop := np = lNp x ∧ nl = lNl x ∧ (∀ i, i < np → T i = nI (lT x i)) ∧ (∀ i, i < np → S i = nI (szN (lT x i))) ∧ (∀ i, i < np → C i = nI (lC x i)) ∧ (∀ i, i < np → F i = nI (lF x i)) ∧ (∀ i, i < nl → LT i = nI (lU x i)) ∧ (∀ i, i < nl → LS i = nI (szN (lU x i))) ∧ (∀ i j, i < np → j < np → bitI (VE i) j = lV x i j) ∧ (∀ i j, i < np → j < nl → bitI (BA i) j = lB x i j)
theorem and1 (y : Int32) : y &&& nI 1 = 0 ∨ y &&& nI 1 = nI 1 := by
  have h : (y.toBitVec &&& 1#32) = 0#32 ∨ (y.toBitVec &&& 1#32) = 1#32 := by
    have h2 : (y.toBitVec &&& 1#32).toNat = y.toBitVec.toNat % 2 := by rw [BitVec.toNat_and]; exact Nat.and_one_is_mod _
    rcases Nat.mod_two_eq_zero_or_one y.toBitVec.toNat with h3 | h3
    · left; exact BitVec.eq_of_toNat_eq (by rw [h2, h3]; rfl)
    · right; exact BitVec.eq_of_toNat_eq (by rw [h2, h3]; rfl)
  rcases h with h | h
  · left; exact Int32.toBitVec_inj.mp h
  · right; exact Int32.toBitVec_inj.mp h
theorem bit_0 {x : Int32} {q : Nat} (h : (x >>> (nI q &&& 31)) &&& nI 1 = 0) : bitI x q = false := by
  unfold bitI
  rw [h]
  decide
theorem bit_n0 {x : Int32} {q : Nat} (h : ¬ (x >>> (nI q &&& 31)) &&& nI 1 = 0) : bitI x q = true := by
  unfold bitI
  rcases and1 (x >>> (nI q &&& 31)) with h1 | h1
  · exact absurd h1 h
  · exact decide_eq_true h1
theorem bit_1 {x : Int32} {q : Nat} (h : (x >>> (nI q &&& 31)) &&& nI 1 = nI 1) : bitI x q = true := decide_eq_true h
theorem bit_n1 {x : Int32} {q : Nat} (h : ¬ (x >>> (nI q &&& 31)) &&& nI 1 = nI 1) : bitI x q = false := decide_eq_false h
theorem nI_andN (a b : Nat) : nI a &&& nI b = nI (a &&& b) := by
  refine Int32.toBitVec_inj.mp ?_
  rw [Int32.toBitVec_and]
  show BitVec.ofNat 32 a &&& BitVec.ofNat 32 b = BitVec.ofNat 32 (a &&& b)
  exact (BitVec.ofNat_and).symm
theorem nI_orN (a b : Nat) : nI a ||| nI b = nI (a ||| b) := by
  refine Int32.toBitVec_inj.mp ?_
  rw [Int32.toBitVec_or]
  show BitVec.ofNat 32 a ||| BitVec.ofNat 32 b = BitVec.ofNat 32 (a ||| b)
  exact (BitVec.ofNat_or).symm
