/-! the order of the keys -/
def kD (o : Nat → Nat) (m : Nat) : Nat → Nat
  | 0 => 0
  | k + 1 => 32 * kD o m k + (if k < m then cdg (o k) else 0)
theorem kC_kD {o : Nat → Nat} {m : Nat} (hm : m ≤ 8) : kC o m = kD o m 8 := by
  have h1 : ∀ n, n ≤ m → kC o n = kD o m n * 32 ^ (8 - n) := by
    intro n
    induction n with
    | zero => intro _; rw [kC, kD, Nat.zero_mul]
    | succ n ih =>
      intro hn
      rw [kC, ih (by omega), kD, if_pos (by omega), show 8 - n = (7 - n) + 1 by omega, Nat.pow_succ, show 8 - (n + 1) = 7 - n by omega, Nat.add_mul, Nat.mul_comm 32 (kD o m n), Nat.mul_assoc, Nat.mul_comm 32 (32 ^ (7 - n))]
  have h2 : ∀ j, m + j ≤ 8 → kC o m = kD o m (m + j) * 32 ^ (8 - (m + j)) := by
    intro j
    induction j with
    | zero => intro _; exact h1 m (Nat.le_refl m)
    | succ j ih =>
      intro hj
      rw [ih (by omega), ← Nat.add_assoc, kD, if_neg (by omega), Nat.add_zero, show 8 - (m + j) = (8 - (m + j + 1)) + 1 by omega, Nat.pow_succ, Nat.mul_comm 32 (kD o m (m + j)), Nat.mul_assoc, Nat.mul_comm 32]
  have := h2 (8 - m) (by omega)
  rw [show m + (8 - m) = 8 by omega] at this
  rw [this, Nat.sub_self, Nat.pow_zero, Nat.mul_one]
theorem code_ord {o o' : Nat → Nat} {m m' : Nat} (h : ∀ k, k < m → o k < 28) (h' : ∀ k, k < m' → o' k < 28) : ∀ n, (kCd o m n < kCd o' m' n ↔ kD o m n < kD o' m' n) ∧ (kCd o m n = kCd o' m' n ↔ kD o m n = kD o' m' n) := by
  intro n
  induction n with
  | zero => exact ⟨Iff.rfl, Iff.rfl⟩
  | succ n ih =>
    rw [kCd, kCd, kD, kD]
    have e1 : (if n < m then cdg (o n) else 0) = cdg (if n < m then o n else 0) := by split <;> rfl
    have e2 : (if n < m' then cdg (o' n) else 0) = cdg (if n < m' then o' n else 0) := by split <;> rfl
    have b1 : (if n < m then o n else 0) < 28 := by split; exact h n (by assumption); omega
    have b2 : (if n < m' then o' n else 0) < 28 := by split; exact h' n (by assumption); omega
    rw [e1, e2]
    generalize (if n < m then o n else 0) = u at *
    generalize (if n < m' then o' n else 0) = v at *
    obtain ⟨i1, i2⟩ := ih
    generalize kCd o m n = A at *
    generalize kCd o' m' n = B at *
    generalize kD o m n = C at *
    generalize kD o' m' n = D at *
    unfold cdg
    omega
theorem code_dig {o o' : Nat → Nat} {m m' : Nat} (h : ∀ k, k < m → o k < 28) (h' : ∀ k, k < m' → o' k < 28) : ∀ n, kCd o m n = kCd o' m' n → ∀ k, k < n → (if k < m then o k else 0) = (if k < m' then o' k else 0) := by
  intro n
  induction n with
  | zero => intro _ k hk; omega
  | succ n ih =>
    intro e k hk
    rw [kCd, kCd] at e
    have b1 : (if n < m then o n else 0) < 28 := by split; exact h n (by assumption); omega
    have b2 : (if n < m' then o' n else 0) < 28 := by split; exact h' n (by assumption); omega
    rcases Nat.lt_or_ge k n with h1 | h1
    · exact ih (by omega) k h1
    · rw [show k = n by omega]; omega
theorem valS_inj {x : LX} {L : Nat} {d : Nat → Nat} : ∀ (l l' : SP) (a : Nat) (pv : Option Nat), valS x L d l a pv → valS x L d l' a pv → l.length = l'.length → (∀ k, k < l.length → spO l k = spO l' k) → l = l'
  | [], _, _, _, h, _, _, _ => absurd h (fun h => h)
  | _ :: _, [], _, _, _, h, _, _ => absurd h (fun h => h)
  | (o, p) :: l, (o', p') :: l', a, pv, h, h', hl, hk => by
    obtain ⟨ho, e, hs, hr⟩ := h
    obtain ⟨ho', e', hs', hr'⟩ := h'
    have h0 : o = o' := hk 0 (by simp)
    subst h0
    rw [hs] at hs'
    simp only [Option.some.injEq, Prod.mk.injEq] at hs'
    obtain ⟨rfl, rfl⟩ := hs'
    congr 1
    rcases hr with ⟨h1, h2⟩ | ⟨h1, h2⟩
    · rcases hr' with ⟨h3, h4⟩ | ⟨h3, h4⟩
      · rw [h2, h4]
      · omega
    · rcases hr' with ⟨h3, h4⟩ | ⟨h3, h4⟩
      · omega
      · exact valS_inj l l' e (some p) h2 h4 (by simpa using hl) (fun k hk2 => hk (k + 1) (by simpa using hk2))
theorem key_ord {x : LX} {L : Nat} {d : Nat → Nat} {l l' : SP} (hL : L ≤ 8) (h : valS x L d l 0 none) (h' : valS x L d l' 0 none) : (mkl x l < mkl x l' ↔ ckl x l < ckl x l') ∧ (mkl x l = mkl x l' → l = l') := by
  have b1 := fun k hk => (valS_bd l 0 none h k hk).1
  have b2 := fun k hk => (valS_bd l' 0 none h' k hk).1
  have n1 := valS_len l 0 none h
  have n2 := valS_len l' 0 none h'
  obtain ⟨d1, m1⟩ := mkey_div (fun k => ko (lC x (spP l k))) (spO l) l.length b1
  obtain ⟨d2, m2⟩ := mkey_div (fun k => ko (lC x (spP l' k))) (spO l') l'.length b2
  have q1 := Nat.div_add_mod (mkey (fun k => ko (lC x (spP l k))) (spO l) l.length) 377801998336
  have q2 := Nat.div_add_mod (mkey (fun k => ko (lC x (spP l' k))) (spO l') l'.length) 377801998336
  have p1 := Nat.mod_lt (mkey (fun k => ko (lC x (spP l k))) (spO l) l.length) (show 377801998336 > 0 by decide)
  have p2 := Nat.mod_lt (mkey (fun k => ko (lC x (spP l' k))) (spO l') l'.length) (show 377801998336 > 0 by decide)
  rw [d1, m1] at q1
  rw [d2, m2] at q2
  rw [m1] at p1
  rw [m2] at p2
  have c1 := kC_lt (o := spO l) (m := l.length) (by omega) b1
  have c2 := kC_lt (o := spO l') (m := l'.length) (by omega) b2
  obtain ⟨g1, g2⟩ := code_ord b1 b2 8
  have k1 := kC_kD (o := spO l) (m := l.length) (by omega)
  have k2 := kC_kD (o := spO l') (m := l'.length) (by omega)
  have dg := code_dig b1 b2 8
  rw [← k1, ← k2] at g1 g2
  have e1 : mkl x l = mkey (fun k => ko (lC x (spP l k))) (spO l) l.length := rfl
  have e2 : mkl x l' = mkey (fun k => ko (lC x (spP l' k))) (spO l') l'.length := rfl
  rw [← e1] at q1
  rw [← e2] at q2
  have f1 : ckl x l = ((kS (fun k => ko (lC x (spP l k))) (spO l) l.length - 15) * 16 + l.length) * 1099511627776 + kC (spO l) l.length := rfl
  have f2 : ckl x l' = ((kS (fun k => ko (lC x (spP l' k))) (spO l') l'.length - 15) * 16 + l'.length) * 1099511627776 + kC (spO l') l'.length := rfl
  generalize mkl x l = M1 at *
  generalize mkl x l' = M2 at *
  generalize ckl x l = K1 at *
  generalize ckl x l' = K2 at *
  generalize kS (fun k => ko (lC x (spP l k))) (spO l) l.length - 15 = S1 at *
  generalize kS (fun k => ko (lC x (spP l' k))) (spO l') l'.length - 15 = S2 at *
  constructor
  · generalize kC (spO l) l.length = C1 at *
    generalize kC (spO l') l'.length = C2 at *
    generalize kCd (spO l) l.length 8 = D1 at *
    generalize kCd (spO l') l'.length 8 = D2 at *
    clear dg e1 e2 d1 d2 m1 m2 b1 b2 h h' k1 k2
    omega
  · intro e
    have hlen : l.length = l'.length := by omega
    have hcd : kCd (spO l) l.length 8 = kCd (spO l') l'.length 8 := by omega
    refine valS_inj l l' 0 none h h' hlen (fun k hk => ?_)
    have := dg hcd k (by omega)
    rw [if_pos hk, if_pos (by omega)] at this
    exact this
theorem rkOK_of {x : LX} (hok : lxOK x) : rkOK x := by
  intro d L hL
  have hl := mEn_len hok (d := d) hL
  refine ⟨by omega, fun k hk => ?_⟩
  exact rank_ex (mkl x) _ (mEn x d L) rfl (nodup_en 8 0 none) (fun a b ha hb e => (key_ord hL ((mem_mEn hL).mp ha) ((mem_mEn hL).mp hb)).2 e) k hk
theorem sum_perm {f : SP → Nat} {A B : List SP} (h : A.Perm B) : (A.map f).sum = (B.map f).sum := by
  induction h with
  | nil => rfl
  | cons a _ ih => rw [List.map_cons, List.map_cons, List.sum_cons, List.sum_cons, ih]
  | swap a b l => rw [List.map_cons, List.map_cons, List.map_cons, List.map_cons, List.sum_cons, List.sum_cons, List.sum_cons, List.sum_cons]; omega
  | trans _ _ i1 i2 => rw [i1, i2]
theorem rdN_sum (E : List SP) : ∀ n, n ≤ E.length → rdN E n = ((E.take n).map (fun l => trN (l.length - 1))).sum := by
  intro n
  induction n with
  | zero => intro _; rfl
  | succ n ih =>
    intro hn
    rw [rdN, ih (by omega), List.take_succ_eq_append_getElem (by omega), List.map_append, List.sum_append, List.map_cons, List.map_nil, List.sum_cons, List.sum_nil, Nat.add_zero, List.getD_eq_getElem?_getD, List.getElem?_eq_getElem (by omega)]
    rfl
theorem rdN_perm {A B : List SP} (h : A.Perm B) : rdN A A.length = rdN B B.length := by
  rw [rdN_sum A _ (Nat.le_refl _), rdN_sum B _ (Nat.le_refl _), List.take_length, List.take_length]
  exact sum_perm h
theorem cnt_rng (p : Nat → Bool) (m : Nat) : ∀ n, (∀ i, i < n → (p i = true ↔ m ≤ i)) → (List.range n).countP p = n - m := by
  intro n
  induction n with
  | zero => intro _; rw [Nat.zero_sub]; rfl
  | succ n ih =>
    intro h
    rw [List.range_succ, List.countP_append, ih (fun i hi => h i (by omega)), List.countP_cons, List.countP_nil]
    by_cases e : m ≤ n
    · rw [if_pos ((h n (by omega)).mpr e)]; omega
    · rw [if_neg (fun c => e ((h n (by omega)).mp c))]; omega
/-- a row holds the keys of the splits, in some order -/
def ckP (x : LX) (E : List SP) (ks : Nat → Int64) (fd : Nat) : Prop := fd = E.length ∧ (rows64 ks fd).Perm (E.map (fun l => lN (ckl x l)))
theorem CS_ckP {x : LX} {E : List SP} {ks : Nat → Int64} (h : CS x [] ks 0 E) : ckP x E ks E.length := by
  refine ⟨rfl, ?_⟩
  have : rows64 ks E.length = E.map (fun l => lN (ckl x l)) := by
    refine List.ext_getElem? (fun i => ?_)
    rw [rows64, List.getElem?_map, List.getElem?_map]
    rcases Nat.lt_or_ge i E.length with hi | hi
    · rw [List.getElem?_range hi, List.getElem?_eq_getElem hi]
      have := h i E[i] (List.getElem?_eq_getElem hi)
      rw [Nat.zero_add, List.nil_append] at this
      exact congrArg some this
    · rw [List.getElem?_eq_none hi, List.getElem?_eq_none (by rw [List.length_range]; exact hi)]
      rfl
  rw [this]
theorem nodup_mapi {f : SP → Int64} {A : List SP} (hn : A.Nodup) (hi : ∀ a b, a ∈ A → b ∈ A → f a = f b → a = b) : (A.map f).Nodup := by
  induction A with
  | nil => exact List.nodup_nil
  | cons a A ih =>
    rw [List.nodup_cons] at hn
    rw [List.map_cons, List.nodup_cons]
    refine ⟨fun hm => ?_, ih hn.2 (fun b c hb hc => hi b c (List.mem_cons_of_mem _ hb) (List.mem_cons_of_mem _ hc))⟩
    obtain ⟨b, hb, e⟩ := List.mem_map.mp hm
    have := hi b a (List.mem_cons_of_mem _ hb) (List.mem_cons_self ..) e
    rw [this] at hb
    exact hn.1 hb
theorem rows_inj {f : Nat → Int64} : ∀ {n : Nat}, (rows64 f n).Nodup → ∀ i j, i < n → j < n → f i = f j → i = j := by
  intro n
  induction n with
  | zero => intro _ i j hi; omega
  | succ n ih =>
    intro h i j hi hj e
    rw [rows64, List.range_succ, List.map_append, List.nodup_append] at h
    obtain ⟨h1, _, h3⟩ := h
    rcases Nat.lt_or_ge i n with hi2 | hi2
    · rcases Nat.lt_or_ge j n with hj2 | hj2
      · exact ih h1 i j hi2 hj2 e
      · exact absurd e (h3 (f i) (List.mem_map.mpr ⟨i, List.mem_range.mpr hi2, rfl⟩) (f j) (by rw [show j = n by omega]; simp))
    · rcases Nat.lt_or_ge j n with hj2 | hj2
      · exact absurd e.symm (h3 (f j) (List.mem_map.mpr ⟨j, List.mem_range.mpr hj2, rfl⟩) (f i) (by rw [show i = n by omega]; simp))
      · omega
def cselV (x : LX) (o : Option SP) : Int64 := match o with
  | none => -1
  | some l => lN (ckl x l)
def kyPost (fd : Nat) (k : Int32) (r : Int64) (ks ks1 : Nat → Int64) : Prop := ((k < 0 ∨ nI fd ≤ k) ∧ r = -1 ∧ ks1 = ks) ∨ (∃ kn, k = nI kn ∧ kn < fd ∧ r = ks1 0 ∧ (rows64 ks1 fd).Perm (rows64 ks fd) ∧ (∀ i, i < fd - kn → (ks1 0).toInt ≤ (ks1 i).toInt) ∧ (∀ i, fd - kn ≤ i → i < fd → (ks1 i).toInt ≤ (ks1 0).toInt))
theorem key_sel {x : LX} (hok : lxOK x) {L : Nat} {d : Nat → Nat} (hL : L ≤ 8) (hd : ∀ k, d k ≤ 9) {fd : Nat} {k : Int32} {r : Int64} {ks ks1 : Nat → Int64} (hP : ckP x (cEn x d L) ks fd) (h : kyPost fd k r ks ks1) : (∃ o, selR x (mEn x d L) k o ∧ r = cselV x o) ∧ ckP x (cEn x d L) ks1 fd := by
  have hp := cEn_perm hok hd hL
  have hlen := hp.length_eq
  have hm := mEn_len hok (d := d) hL
  obtain ⟨hfd, hrows⟩ := hP
  rcases h with ⟨h1, h2, h3⟩ | ⟨kn, h1, h2, h3, h4, h5, h6⟩
  · refine ⟨⟨none, fun l hl e => ?_, h2⟩, h3 ▸ ⟨hfd, hrows⟩⟩
    have hc : (mEn x d L).countP (fun l' => decide (mkl x l' < mkl x l)) < (mEn x d L).length := by
      have h7 := List.countP_le_length (p := fun l' => decide (mkl x l' < mkl x l)) (l := mEn x d L)
      rcases Nat.lt_or_ge ((mEn x d L).countP (fun l' => decide (mkl x l' < mkl x l))) (mEn x d L).length with h8 | h8
      · exact h8
      · have := List.countP_eq_length.mp (Nat.le_antisymm h7 h8) l hl
        have := of_decide_eq_true this
        omega
    rw [← e] at h1
    rcases h1 with h1 | h1
    · exact nI_pos (by omega) h1
    · have := N_ge_t (by omega) (by omega) h1
      omega
  · have hP1 : (rows64 ks1 fd).Perm ((cEn x d L).map (fun l => lN (ckl x l))) := h4.trans hrows
    refine ⟨?_, hfd, hP1⟩
    have hval : ∀ l, l ∈ cEn x d L → valS x L d l 0 none := fun l hl => (mem_mEn hL).mp (hp.mem_iff.mp hl)
    have hbd : ∀ l, l ∈ cEn x d L → ckl x l < 9223372036854775808 := fun l hl => ckl_lt (by have := valS_len l 0 none (hval l hl); omega) (fun k hk => (valS_bd l 0 none (hval l hl) k hk).1)
    have hin : ks1 0 ∈ rows64 ks1 fd := List.mem_map.mpr ⟨0, List.mem_range.mpr (by omega), rfl⟩
    obtain ⟨l, hl, hlk⟩ := List.mem_map.mp (hP1.mem_iff.mp hin)
    refine ⟨some l, ⟨hp.mem_iff.mp hl, ?_⟩, h3.trans hlk.symm⟩
    rw [h1]
    congr 1
    rw [← hp.countP_eq]
    have hnd : (rows64 ks1 fd).Nodup := by
      rw [hP1.nodup_iff]
      refine nodup_mapi (nodup_ec hok hd 8 0 none) (fun a b ha hb e => ?_)
      have e2 := lN_inj (hbd a ha) (hbd b hb) e
      have o1 := (key_ord hL (hval a ha) (hval b hb)).1
      have o2 := (key_ord hL (hval b hb) (hval a ha)).1
      exact (key_ord hL (hval a ha) (hval b hb)).2 (by omega)
    have hinj := rows_inj hnd
    have e1 : (cEn x d L).countP (fun l' => decide (mkl x l' < mkl x l)) = ((cEn x d L).map (fun l => lN (ckl x l))).countP (fun v => decide (v.toInt < (ks1 0).toInt)) := by
      rw [List.countP_map]
      refine List.countP_congr (fun l' hl' => ?_)
      have o1 := (key_ord hL (hval l' hl') (hval l hl)).1
      have hlk2 : lN (ckl x l) = ks1 0 := hlk
      show decide (mkl x l' < mkl x l) = true ↔ decide ((lN (ckl x l')).toInt < (ks1 0).toInt) = true
      rw [decide_eq_true_eq, decide_eq_true_eq, ← hlk2, lN_toIntB (hbd l' hl'), lN_toIntB (hbd l hl), o1]
      omega
    rw [e1, ← hP1.countP_eq, rows64, List.countP_map, cnt_rng _ (fd - kn)]
    · omega
    · intro i hi
      show decide ((ks1 i).toInt < (ks1 0).toInt) = true ↔ fd - kn ≤ i
      rw [decide_eq_true_eq]
      constructor
      · intro h
        rcases Nat.lt_or_ge i (fd - kn) with h7 | h7
        · have := h5 i h7; omega
        · exact h7
      · intro h
        have h8 := h6 i h hi
        rcases Int.lt_or_eq_of_le h8 with h9 | h9
        · exact h9
        · have := hinj i 0 hi (by omega) (Int64.toInt_inj.mp h9)
          omega
