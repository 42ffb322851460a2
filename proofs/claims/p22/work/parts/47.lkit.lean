/-! the law's world; more rows -/
abbrev lW (G : vG) (h : Nat → Nat) (qt : Nat → Int32) (qc : Nat → Int32) (qf : Nat → Int32) (qb : Nat → Int32) (ql : Nat → Int32) (qa : Nat → Int64) (qd : Nat → Int64) (qw : Nat → Int64) (qh : Nat → Int32) (qg : Nat → Int32) : va_W := [(h 21, .inl (G.2.1, 16, .inl qt)), (h 22, .inl (G.2.1, 16, .inl qc)), (h 23, .inl (G.2.1, 16, .inl qf)), (h 24, .inl (G.2.1, 16, .inl qb)), (h 25, .inl (G.2.1, 6, .inl ql)), (h 26, .inl (G.2.2.1, 64, .inr (.inl qa))), (h 27, .inl (G.2.2.1, 64, .inr (.inl qd))), (h 28, .inl (G.2.2.1, 50, .inr (.inl qw))), (h 29, .inl (G.2.1, 50, .inl qh)), (h 30, .inl (G.2.1, 5, .inl qg))]
theorem ci_L_7 : Cond.constant RL 7 1171770339 ∈ WA := wa_mem 187 (by decide +kernel) rfl
theorem ci_L_107 : Cond.constant RL 107 196608 ∈ WA := wa_mem 197 (by decide +kernel) rfl
theorem ci_L_58 : Cond.constant RL 58 100000 ∈ WA := wa_mem 320 (by decide +kernel) rfl
theorem ci_L_111 : Cond.constant RL 111 8000000 ∈ WA := wa_mem 321 (by decide +kernel) rfl
theorem ci_L_161 : Cond.constant RL 161 123456789 ∈ WA := wa_mem 559 (by decide +kernel) rfl
theorem ci_L_162 : Cond.constant RL 162 1234567890 ∈ WA := wa_mem 560 (by decide +kernel) rfl
theorem ci_L_163 : Cond.constant RL 163 2147483647 ∈ WA := wa_mem 568 (by decide +kernel) rfl
section LKR
variable {X : vX} {lo nL : Nat} {G : vG} {Q : State → Prop} {k n : Nat} {ws : va_W} {lc : List (Nat × Value)} {st : List Value} {pc : Nat} {cc : ByteArray} {own : String}
theorem V_iushr (C : Cx X lo nL G cc own) {x y : Int32} (p1 : Nat) (hp : pc + 1 = p1) (d : decode cc pc = .ok (.iushr, 1)) (kk : V X lo nL G Q k n ws lc (.int ((x.toUInt32 >>> (y.toUInt32 &&& Int32.toUInt32 31)).toInt32) :: st) p1) : V X lo nL G Q k n ws lc (.int y :: .int x :: st) pc := by
  subst hp
  exact fun H locs ls hP hD hS hl => lv_iushr C.1 C.2.1 d rfl (kk H locs ls hP hD hS hl)
theorem V_lshr (C : Cx X lo nL G cc own) {x : Int64} {y : Int32} (p1 : Nat) (hp : pc + 1 = p1) (d : decode cc pc = .ok (.lshr, 1)) (kk : V X lo nL G Q k n ws lc (.long (x >>> (y.toInt64 &&& 63)) :: st) p1) : V X lo nL G Q k n ws lc (.int y :: .long x :: st) pc := by
  subst hp
  exact fun H locs ls hP hD hS hl => lv_lshr C.1 C.2.1 d rfl (kk H locs ls hP hD hS hl)
theorem V_land (C : Cx X lo nL G cc own) {x y : Int64} (p1 : Nat) (hp : pc + 1 = p1) (d : decode cc pc = .ok (.land, 1)) (kk : V X lo nL G Q k n ws lc (.long (x &&& y) :: st) p1) : V X lo nL G Q k n ws lc (.long y :: .long x :: st) pc := by
  subst hp
  exact fun H locs ls hP hD hS hl => lv_land C.1 C.2.1 d (kk H locs ls hP hD hS hl)
theorem V_ldc (C : Cx X lo nL G cc own) {i : Nat} {v : Int32} (p1 : Nat) (hp : pc + 2 = p1) (d : decode cc pc = .ok (.ldc i, 2)) (hw : Cond.constant own i v ∈ WA) (kk : V X lo nL G Q k n ws lc (.int v :: st) p1) : V X lo nL G Q k n ws lc st pc := by
  subst hp
  exact fun H locs ls hP hD hS hl => lv_ldc C.1 C.2.1 C.2.2.2.1 (C.word hw) d (kk H locs ls hP hD hS hl)
end LKR
theorem i_shr {n k : Nat} (hn : n < 2147483648) (hk : k < 32) : nI n >>> (nI k &&& 31) = nI (n / 2 ^ k) := by
  refine Int32.toBitVec_inj.mp ?_
  rw [Int32.toBitVec_shiftRight]
  show (nI n).toBitVec.sshiftRight ((nI k &&& 31).toBitVec.smod 32).toNat = BitVec.ofNat 32 _
  have h2 : (nI n).toBitVec.toNat = n := by
    show (BitVec.ofNat 32 n).toNat = n
    rw [BitVec.toNat_ofNat, Nat.mod_eq_of_lt (by omega)]
  have h1 : (nI n).toBitVec.msb = false := by
    rw [BitVec.msb_eq_false_iff_two_mul_lt, h2]
    omega
  rw [s_l k hk, BitVec.sshiftRight_eq_of_msb_false h1]
  apply BitVec.eq_of_toNat_eq
  rw [BitVec.toNat_ushiftRight, h2, Nat.shiftRight_eq_div_pow, BitVec.toNat_ofNat, Nat.mod_eq_of_lt (Nat.lt_of_le_of_lt (Nat.div_le_self _ _) (by omega))]
theorem l_shr {n k : Nat} (hn : n < 9223372036854775808) (hk : k < 64) : lN n >>> ((nI k).toInt64 &&& 63) = lN (n / 2 ^ k) := by
  rw [wb_c k hk]
  refine Int64.toBitVec_inj.mp ?_
  rw [Int64.toBitVec_shiftRight]
  show (lN n).toBitVec.sshiftRight ((lN k).toBitVec.smod 64).toNat = BitVec.ofNat 64 _
  have h2 : (lN n).toBitVec.toNat = n := wb_tn (by omega)
  have h1 : (lN n).toBitVec.msb = false := by
    rw [BitVec.msb_eq_false_iff_two_mul_lt, h2]
    omega
  have h3 : ((lN k).toBitVec.smod 64).toNat = k := by
    rw [wb_tb, wb_sm k hk, BitVec.toNat_ofNat, Nat.mod_eq_of_lt (by omega)]
  rw [h3, BitVec.sshiftRight_eq_of_msb_false h1]
  apply BitVec.eq_of_toNat_eq
  rw [BitVec.toNat_ushiftRight, h2, Nat.shiftRight_eq_div_pow, BitVec.toNat_ofNat, Nat.mod_eq_of_lt (Nat.lt_of_le_of_lt (Nat.div_le_self _ _) (by omega))]
theorem l_land {a : Nat} (s p : Nat) (hp : 2 ^ s = p) (hs : s < 64) (ha : a < 9223372036854775808) : lN a &&& lN (p - 1) = lN (a % p) := g_mask hp hs (by omega)
/-- the unsigned half of a number, by its rest -/
def lowN (v : Int32) (n : Nat) : Nat := v.toUInt32.toNat / 2 % n
theorem lowN_lt (v : Int32) {n : Nat} (h : 0 < n) : lowN v n < n := Nat.mod_lt _ h
theorem low_half (v : Int32) : (v.toUInt32 >>> ((nI 1).toUInt32 &&& Int32.toUInt32 31)).toInt32 = nI (v.toUInt32.toNat / 2) := by
  refine Int32.toBitVec_inj.mp ?_
  show (v.toUInt32 >>> ((nI 1).toUInt32 &&& Int32.toUInt32 31)).toBitVec = BitVec.ofNat 32 _
  rw [UInt32.toBitVec_shiftRight]
  show v.toUInt32.toBitVec >>> (((nI 1).toUInt32 &&& Int32.toUInt32 31).toBitVec % 32).toNat = _
  rw [s_u 1 (by omega)]
  apply BitVec.eq_of_toNat_eq
  rw [BitVec.toNat_ushiftRight, Nat.shiftRight_eq_div_pow, BitVec.toNat_ofNat, Nat.mod_eq_of_lt (Nat.lt_of_le_of_lt (Nat.div_le_self _ _) (UInt32.toNat_lt _))]
  rfl
theorem half_lt (v : Int32) : v.toUInt32.toNat / 2 < 2147483648 := by
  have h : v.toUInt32.toNat < 4294967296 := UInt32.toNat_lt _
  omega
theorem lg_gt_t {a b : Nat} (ha : a < 9223372036854775808) (hb : b < 9223372036854775808) (h : lg_cmp (lN a) (lN b) ≤ 0) : a ≤ b := by
  rcases Nat.lt_or_ge b a with h1 | h1
  · exfalso
    unfold lg_cmp at h
    rw [if_pos ((lN_ltB hb ha).mpr h1)] at h
    exact absurd h (by decide)
  · exact h1
theorem lg_gt_f {a b : Nat} (ha : a < 9223372036854775808) (hb : b < 9223372036854775808) (h : ¬ lg_cmp (lN a) (lN b) ≤ 0) : b < a := by
  rcases Nat.lt_or_ge b a with h1 | h1
  · exact h1
  · exfalso
    refine h ?_
    unfold lg_cmp
    rw [if_neg (fun e => by have := (lN_ltB hb ha).mp e; omega)]
    split <;> decide
theorem KL_108 {X : vX} {lo nL : Nat} {G : vG} {Q : State → Prop} {k n : Nat} {ws : va_W} {lc : List (Nat × Value)} {st : List Value} {pc : Nat} {cc : ByteArray} (C : Cx X lo nL G cc RL) {D0 c0 s0 d0 mc ms : Nat} {As rest : List Value} {S : Type} {post : Int32 → S → Prop} {wo : S → va_W} (hM : Mi (xl X) yL_addPart (.codeWith yL_addPart method_4_code 6 (some .int) [(0, 9, 12, 14), (0, 9, 17, 16)]) d0 mc ms lo G As ws post wo) (hX : RmX X D0 c0 s0) (hd : d0 + 1 ≤ D0) (hn : As.length = 4) (hst : st = As.reverse ++ rest) (hrest : (rest.map fun v => v.category).sum ≤ 8) (p1 k1 n1 : Nat) (hp : pc + 3 = p1) (hk : k + mc = k1) (hn1 : n + ms = n1) (hk1 : k1 ≤ c0) (hs1 : n1 ≤ s0) (d : decode cc pc = .ok (.invokestatic 108, 3)) (kk : ∀ (r : Int32) (u : S), post r u → V X lo nL G Q k1 n1 (wo u) lc (.int r :: rest) p1) : V X lo nL G Q k n ws lc st pc := by
  have hR : (rmD d0 mc ms).frames + 1 ≤ (xR X).frames ∧ 8 + (6 + 11) + (rmD d0 mc ms).locals ≤ (xR X).locals := ⟨by show d0 + 1 ≤ _; have := hX.1; omega, by show 8 + (6 + 11) + 40 * d0 ≤ _; have := hX.2.1; omega⟩
  have hf : k + mc ≤ (xR X).cells ∧ n + ms ≤ (xR X).slots := ⟨by have := hX.2.2.1; omega, by have := hX.2.2.2; omega⟩
  exact V_calli (V_runSW (nA := 4) C hM ⟨ml_L_108, sm_L_addPart, ii_L, co_L_addPart⟩ ⟨by decide, by decide, by decide +kernel⟩ hR hn hst hrest hf d) p1 k1 n1 hp hk hn1 kk
theorem KL_112 {X : vX} {lo nL : Nat} {G : vG} {Q : State → Prop} {k n : Nat} {ws : va_W} {lc : List (Nat × Value)} {st : List Value} {pc : Nat} {cc : ByteArray} (C : Cx X lo nL G cc RL) {D0 c0 s0 d0 mc ms : Nat} {As rest : List Value} {S : Type} {post : Int32 → S → Prop} {wo : S → va_W} (hM : Mi (xl X) yL_addLink (.codeWith yL_addLink method_6_code 4 (some .int) [(0, 6, 9, 14), (0, 6, 13, 16)]) d0 mc ms lo G As ws post wo) (hX : RmX X D0 c0 s0) (hd : d0 + 1 ≤ D0) (hn : As.length = 2) (hst : st = As.reverse ++ rest) (hrest : (rest.map fun v => v.category).sum ≤ 8) (p1 k1 n1 : Nat) (hp : pc + 3 = p1) (hk : k + mc = k1) (hn1 : n + ms = n1) (hk1 : k1 ≤ c0) (hs1 : n1 ≤ s0) (d : decode cc pc = .ok (.invokestatic 112, 3)) (kk : ∀ (r : Int32) (u : S), post r u → V X lo nL G Q k1 n1 (wo u) lc (.int r :: rest) p1) : V X lo nL G Q k n ws lc st pc := by
  have hR : (rmD d0 mc ms).frames + 1 ≤ (xR X).frames ∧ 8 + (4 + 11) + (rmD d0 mc ms).locals ≤ (xR X).locals := ⟨by show d0 + 1 ≤ _; have := hX.1; omega, by show 8 + (4 + 11) + 40 * d0 ≤ _; have := hX.2.1; omega⟩
  have hf : k + mc ≤ (xR X).cells ∧ n + ms ≤ (xR X).slots := ⟨by have := hX.2.2.1; omega, by have := hX.2.2.2; omega⟩
  exact V_calli (V_runSW (nA := 2) C hM ⟨ml_L_112, sm_L_addLink, ii_L, co_L_addLink⟩ ⟨by decide, by decide, by decide +kernel⟩ hR hn hst hrest hf d) p1 k1 n1 hp hk hn1 kk
theorem KL_115 {X : vX} {lo nL : Nat} {G : vG} {Q : State → Prop} {k n : Nat} {ws : va_W} {lc : List (Nat × Value)} {st : List Value} {pc : Nat} {cc : ByteArray} (C : Cx X lo nL G cc RL) {D0 c0 s0 d0 mc ms : Nat} {As rest : List Value} {S : Type} {post : Int32 → S → Prop} {wo : S → va_W} (hM : Mi (xl X) yL_setFlags (.codeWith yL_setFlags method_5_code 5 (some .int) [(0, 7, 10, 22), (0, 7, 15, 14)]) d0 mc ms lo G As ws post wo) (hX : RmX X D0 c0 s0) (hd : d0 + 1 ≤ D0) (hn : As.length = 3) (hst : st = As.reverse ++ rest) (hrest : (rest.map fun v => v.category).sum ≤ 8) (p1 k1 n1 : Nat) (hp : pc + 3 = p1) (hk : k + mc = k1) (hn1 : n + ms = n1) (hk1 : k1 ≤ c0) (hs1 : n1 ≤ s0) (d : decode cc pc = .ok (.invokestatic 115, 3)) (kk : ∀ (r : Int32) (u : S), post r u → V X lo nL G Q k1 n1 (wo u) lc (.int r :: rest) p1) : V X lo nL G Q k n ws lc st pc := by
  have hR : (rmD d0 mc ms).frames + 1 ≤ (xR X).frames ∧ 8 + (5 + 11) + (rmD d0 mc ms).locals ≤ (xR X).locals := ⟨by show d0 + 1 ≤ _; have := hX.1; omega, by show 8 + (5 + 11) + 40 * d0 ≤ _; have := hX.2.1; omega⟩
  have hf : k + mc ≤ (xR X).cells ∧ n + ms ≤ (xR X).slots := ⟨by have := hX.2.2.1; omega, by have := hX.2.2.2; omega⟩
  exact V_calli (V_runSW (nA := 3) C hM ⟨ml_L_115, sm_L_setFlags, ii_L, co_L_setFlags⟩ ⟨by decide, by decide, by decide +kernel⟩ hR hn hst hrest hf d) p1 k1 n1 hp hk hn1 kk
theorem KL_118 {X : vX} {lo nL : Nat} {G : vG} {Q : State → Prop} {k n : Nat} {ws : va_W} {lc : List (Nat × Value)} {st : List Value} {pc : Nat} {cc : ByteArray} (C : Cx X lo nL G cc RL) {D0 c0 s0 d0 mc ms : Nat} {As rest : List Value} {S : Type} {post : Int32 → S → Prop} {wo : S → va_W} (hM : Mi (xl X) yL_veto (.codeWith yL_veto method_7_code 6 (some .int) [(0, 9, 12, 22)]) d0 mc ms lo G As ws post wo) (hX : RmX X D0 c0 s0) (hd : d0 + 1 ≤ D0) (hn : As.length = 4) (hst : st = As.reverse ++ rest) (hrest : (rest.map fun v => v.category).sum ≤ 8) (p1 k1 n1 : Nat) (hp : pc + 3 = p1) (hk : k + mc = k1) (hn1 : n + ms = n1) (hk1 : k1 ≤ c0) (hs1 : n1 ≤ s0) (d : decode cc pc = .ok (.invokestatic 118, 3)) (kk : ∀ (r : Int32) (u : S), post r u → V X lo nL G Q k1 n1 (wo u) lc (.int r :: rest) p1) : V X lo nL G Q k n ws lc st pc := by
  have hR : (rmD d0 mc ms).frames + 1 ≤ (xR X).frames ∧ 8 + (6 + 11) + (rmD d0 mc ms).locals ≤ (xR X).locals := ⟨by show d0 + 1 ≤ _; have := hX.1; omega, by show 8 + (6 + 11) + 40 * d0 ≤ _; have := hX.2.1; omega⟩
  have hf : k + mc ≤ (xR X).cells ∧ n + ms ≤ (xR X).slots := ⟨by have := hX.2.2.1; omega, by have := hX.2.2.2; omega⟩
  exact V_calli (V_runSW (nA := 4) C hM ⟨ml_L_118, sm_L_veto, ii_L, co_L_veto⟩ ⟨by decide, by decide, by decide +kernel⟩ hR hn hst hrest hf d) p1 k1 n1 hp hk hn1 kk
theorem KL_121 {X : vX} {lo nL : Nat} {G : vG} {Q : State → Prop} {k n : Nat} {ws : va_W} {lc : List (Nat × Value)} {st : List Value} {pc : Nat} {cc : ByteArray} (C : Cx X lo nL G cc RL) {D0 c0 s0 d0 mc ms : Nat} {As rest : List Value} {S : Type} {post : Int32 → S → Prop} {wo : S → va_W} (hM : Mi (xl X) yL_bar (.codeWith yL_bar method_8_code 6 (some .int) [(0, 9, 12, 22)]) d0 mc ms lo G As ws post wo) (hX : RmX X D0 c0 s0) (hd : d0 + 1 ≤ D0) (hn : As.length = 4) (hst : st = As.reverse ++ rest) (hrest : (rest.map fun v => v.category).sum ≤ 8) (p1 k1 n1 : Nat) (hp : pc + 3 = p1) (hk : k + mc = k1) (hn1 : n + ms = n1) (hk1 : k1 ≤ c0) (hs1 : n1 ≤ s0) (d : decode cc pc = .ok (.invokestatic 121, 3)) (kk : ∀ (r : Int32) (u : S), post r u → V X lo nL G Q k1 n1 (wo u) lc (.int r :: rest) p1) : V X lo nL G Q k n ws lc st pc := by
  have hR : (rmD d0 mc ms).frames + 1 ≤ (xR X).frames ∧ 8 + (6 + 11) + (rmD d0 mc ms).locals ≤ (xR X).locals := ⟨by show d0 + 1 ≤ _; have := hX.1; omega, by show 8 + (6 + 11) + 40 * d0 ≤ _; have := hX.2.1; omega⟩
  have hf : k + mc ≤ (xR X).cells ∧ n + ms ≤ (xR X).slots := ⟨by have := hX.2.2.1; omega, by have := hX.2.2.2; omega⟩
  exact V_calli (V_runSW (nA := 4) C hM ⟨ml_L_121, sm_L_bar, ii_L, co_L_bar⟩ ⟨by decide, by decide, by decide +kernel⟩ hR hn hst hrest hf d) p1 k1 n1 hp hk hn1 kk
theorem KL_123 {X : vX} {lo nL : Nat} {G : vG} {Q : State → Prop} {k n : Nat} {ws : va_W} {lc : List (Nat × Value)} {st : List Value} {pc : Nat} {cc : ByteArray} (C : Cx X lo nL G cc RL) {D0 c0 s0 d0 mc ms : Nat} {As rest : List Value} {S : Type} {post : Int32 → S → Prop} {wo : S → va_W} (hM : Mi (xl X) yL_forget (.codeWith yL_forget method_15_code 3 (some .int) [(0, 5, 8, 16)]) d0 mc ms lo G As ws post wo) (hX : RmX X D0 c0 s0) (hd : d0 + 1 ≤ D0) (hn : As.length = 1) (hst : st = As.reverse ++ rest) (hrest : (rest.map fun v => v.category).sum ≤ 8) (p1 k1 n1 : Nat) (hp : pc + 3 = p1) (hk : k + mc = k1) (hn1 : n + ms = n1) (hk1 : k1 ≤ c0) (hs1 : n1 ≤ s0) (d : decode cc pc = .ok (.invokestatic 123, 3)) (kk : ∀ (r : Int32) (u : S), post r u → V X lo nL G Q k1 n1 (wo u) lc (.int r :: rest) p1) : V X lo nL G Q k n ws lc st pc := by
  have hR : (rmD d0 mc ms).frames + 1 ≤ (xR X).frames ∧ 8 + (3 + 11) + (rmD d0 mc ms).locals ≤ (xR X).locals := ⟨by show d0 + 1 ≤ _; have := hX.1; omega, by show 8 + (3 + 11) + 40 * d0 ≤ _; have := hX.2.1; omega⟩
  have hf : k + mc ≤ (xR X).cells ∧ n + ms ≤ (xR X).slots := ⟨by have := hX.2.2.1; omega, by have := hX.2.2.2; omega⟩
  exact V_calli (V_runSW (nA := 1) C hM ⟨ml_L_123, sm_L_forget, ii_L, co_L_forget⟩ ⟨by decide, by decide, by decide +kernel⟩ hR hn hst hrest hf d) p1 k1 n1 hp hk hn1 kk
theorem KL_126 {X : vX} {lo nL : Nat} {G : vG} {Q : State → Prop} {k n : Nat} {ws : va_W} {lc : List (Nat × Value)} {st : List Value} {pc : Nat} {cc : ByteArray} (C : Cx X lo nL G cc RL) {D0 c0 s0 d0 mc ms : Nat} {As rest : List Value} {S : Type} {post : Int32 → S → Prop} {wo : S → va_W} (hM : Mi (xl X) yL_learn (.codeWith yL_learn method_14_code 4 (some .int) [(0, 6, 9, 14), (0, 6, 13, 16)]) d0 mc ms lo G As ws post wo) (hX : RmX X D0 c0 s0) (hd : d0 + 1 ≤ D0) (hn : As.length = 2) (hst : st = As.reverse ++ rest) (hrest : (rest.map fun v => v.category).sum ≤ 8) (p1 k1 n1 : Nat) (hp : pc + 3 = p1) (hk : k + mc = k1) (hn1 : n + ms = n1) (hk1 : k1 ≤ c0) (hs1 : n1 ≤ s0) (d : decode cc pc = .ok (.invokestatic 126, 3)) (kk : ∀ (r : Int32) (u : S), post r u → V X lo nL G Q k1 n1 (wo u) lc (.int r :: rest) p1) : V X lo nL G Q k n ws lc st pc := by
  have hR : (rmD d0 mc ms).frames + 1 ≤ (xR X).frames ∧ 8 + (4 + 11) + (rmD d0 mc ms).locals ≤ (xR X).locals := ⟨by show d0 + 1 ≤ _; have := hX.1; omega, by show 8 + (4 + 11) + 40 * d0 ≤ _; have := hX.2.1; omega⟩
  have hf : k + mc ≤ (xR X).cells ∧ n + ms ≤ (xR X).slots := ⟨by have := hX.2.2.1; omega, by have := hX.2.2.2; omega⟩
  exact V_calli (V_runSW (nA := 2) C hM ⟨ml_L_126, sm_L_learn, ii_L, co_L_learn⟩ ⟨by decide, by decide, by decide +kernel⟩ hR hn hst hrest hf d) p1 k1 n1 hp hk hn1 kk
theorem KL_136 {X : vX} {lo nL : Nat} {G : vG} {Q : State → Prop} {k n : Nat} {ws : va_W} {lc : List (Nat × Value)} {st : List Value} {pc : Nat} {cc : ByteArray} (C : Cx X lo nL G cc RL) {D0 c0 s0 d0 mc ms : Nat} {As rest : List Value} {S : Type} {post : Int32 → S → Prop} {wo : S → va_W} (hM : Mi (xl X) yL_splits (.codeWith yL_splits method_11_code 4 (some .int) [(0, 6, 9, 14)]) d0 mc ms lo G As ws post wo) (hX : RmX X D0 c0 s0) (hd : d0 + 1 ≤ D0) (hn : As.length = 2) (hst : st = As.reverse ++ rest) (hrest : (rest.map fun v => v.category).sum ≤ 8) (p1 k1 n1 : Nat) (hp : pc + 3 = p1) (hk : k + mc = k1) (hn1 : n + ms = n1) (hk1 : k1 ≤ c0) (hs1 : n1 ≤ s0) (d : decode cc pc = .ok (.invokestatic 136, 3)) (kk : ∀ (r : Int32) (u : S), post r u → V X lo nL G Q k1 n1 (wo u) lc (.int r :: rest) p1) : V X lo nL G Q k n ws lc st pc := by
  have hR : (rmD d0 mc ms).frames + 1 ≤ (xR X).frames ∧ 8 + (4 + 11) + (rmD d0 mc ms).locals ≤ (xR X).locals := ⟨by show d0 + 1 ≤ _; have := hX.1; omega, by show 8 + (4 + 11) + 40 * d0 ≤ _; have := hX.2.1; omega⟩
  have hf : k + mc ≤ (xR X).cells ∧ n + ms ≤ (xR X).slots := ⟨by have := hX.2.2.1; omega, by have := hX.2.2.2; omega⟩
  exact V_calli (V_runSW (nA := 2) C hM ⟨ml_L_136, sm_L_splits, ii_L, co_L_splits⟩ ⟨by decide, by decide, by decide +kernel⟩ hR hn hst hrest hf d) p1 k1 n1 hp hk hn1 kk
theorem KL_144 {X : vX} {lo nL : Nat} {G : vG} {Q : State → Prop} {k n : Nat} {ws : va_W} {lc : List (Nat × Value)} {st : List Value} {pc : Nat} {cc : ByteArray} (C : Cx X lo nL G cc RL) {D0 c0 s0 d0 mc ms : Nat} {As rest : List Value} {S : Type} {post : Int32 → S → Prop} {wo : S → va_W} (hM : Mi (xl X) yL_cost (.codeWith yL_cost method_12_code 5 (some .int) [(0, 7, 10, 14)]) d0 mc ms lo G As ws post wo) (hX : RmX X D0 c0 s0) (hd : d0 + 1 ≤ D0) (hn : As.length = 3) (hst : st = As.reverse ++ rest) (hrest : (rest.map fun v => v.category).sum ≤ 8) (p1 k1 n1 : Nat) (hp : pc + 3 = p1) (hk : k + mc = k1) (hn1 : n + ms = n1) (hk1 : k1 ≤ c0) (hs1 : n1 ≤ s0) (d : decode cc pc = .ok (.invokestatic 144, 3)) (kk : ∀ (r : Int32) (u : S), post r u → V X lo nL G Q k1 n1 (wo u) lc (.int r :: rest) p1) : V X lo nL G Q k n ws lc st pc := by
  have hR : (rmD d0 mc ms).frames + 1 ≤ (xR X).frames ∧ 8 + (5 + 11) + (rmD d0 mc ms).locals ≤ (xR X).locals := ⟨by show d0 + 1 ≤ _; have := hX.1; omega, by show 8 + (5 + 11) + 40 * d0 ≤ _; have := hX.2.1; omega⟩
  have hf : k + mc ≤ (xR X).cells ∧ n + ms ≤ (xR X).slots := ⟨by have := hX.2.2.1; omega, by have := hX.2.2.2; omega⟩
  exact V_calli (V_runSW (nA := 3) C hM ⟨ml_L_144, sm_L_cost, ii_L, co_L_cost⟩ ⟨by decide, by decide, by decide +kernel⟩ hR hn hst hrest hf d) p1 k1 n1 hp hk hn1 kk
theorem KL_148 {X : vX} {lo nL : Nat} {G : vG} {Q : State → Prop} {k n : Nat} {ws : va_W} {lc : List (Nat × Value)} {st : List Value} {pc : Nat} {cc : ByteArray} (C : Cx X lo nL G cc RL) {D0 c0 s0 d0 mc ms : Nat} {As rest : List Value} {S : Type} {post : Int32 → S → Prop} {wo : S → va_W} (hM : Mi (xl X) yL_partAt (.codeWith yL_partAt method_13_code 6 (some .int) [(0, 9, 12, 14)]) d0 mc ms lo G As ws post wo) (hX : RmX X D0 c0 s0) (hd : d0 + 1 ≤ D0) (hn : As.length = 4) (hst : st = As.reverse ++ rest) (hrest : (rest.map fun v => v.category).sum ≤ 8) (p1 k1 n1 : Nat) (hp : pc + 3 = p1) (hk : k + mc = k1) (hn1 : n + ms = n1) (hk1 : k1 ≤ c0) (hs1 : n1 ≤ s0) (d : decode cc pc = .ok (.invokestatic 148, 3)) (kk : ∀ (r : Int32) (u : S), post r u → V X lo nL G Q k1 n1 (wo u) lc (.int r :: rest) p1) : V X lo nL G Q k n ws lc st pc := by
  have hR : (rmD d0 mc ms).frames + 1 ≤ (xR X).frames ∧ 8 + (6 + 11) + (rmD d0 mc ms).locals ≤ (xR X).locals := ⟨by show d0 + 1 ≤ _; have := hX.1; omega, by show 8 + (6 + 11) + 40 * d0 ≤ _; have := hX.2.1; omega⟩
  have hf : k + mc ≤ (xR X).cells ∧ n + ms ≤ (xR X).slots := ⟨by have := hX.2.2.1; omega, by have := hX.2.2.2; omega⟩
  exact V_calli (V_runSW (nA := 4) C hM ⟨ml_L_148, sm_L_partAt, ii_L, co_L_partAt⟩ ⟨by decide, by decide, by decide +kernel⟩ hR hn hst hrest hf d) p1 k1 n1 hp hk hn1 kk
theorem KL_150 {X : vX} {lo nL : Nat} {G : vG} {Q : State → Prop} {k n : Nat} {ws : va_W} {lc : List (Nat × Value)} {st : List Value} {pc : Nat} {cc : ByteArray} (C : Cx X lo nL G cc RL) {D0 c0 s0 d0 mc ms : Nat} {As rest : List Value} {S : Type} {post : Int32 → S → Prop} {wo : S → va_W} (hM : Mi (xl X) yL_count (.codeWith yL_count method_9_code 4 (some .int) [(0, 6, 9, 22)]) d0 mc ms lo G As ws post wo) (hX : RmX X D0 c0 s0) (hd : d0 + 1 ≤ D0) (hn : As.length = 2) (hst : st = As.reverse ++ rest) (hrest : (rest.map fun v => v.category).sum ≤ 8) (p1 k1 n1 : Nat) (hp : pc + 3 = p1) (hk : k + mc = k1) (hn1 : n + ms = n1) (hk1 : k1 ≤ c0) (hs1 : n1 ≤ s0) (d : decode cc pc = .ok (.invokestatic 150, 3)) (kk : ∀ (r : Int32) (u : S), post r u → V X lo nL G Q k1 n1 (wo u) lc (.int r :: rest) p1) : V X lo nL G Q k n ws lc st pc := by
  have hR : (rmD d0 mc ms).frames + 1 ≤ (xR X).frames ∧ 8 + (4 + 11) + (rmD d0 mc ms).locals ≤ (xR X).locals := ⟨by show d0 + 1 ≤ _; have := hX.1; omega, by show 8 + (4 + 11) + 40 * d0 ≤ _; have := hX.2.1; omega⟩
  have hf : k + mc ≤ (xR X).cells ∧ n + ms ≤ (xR X).slots := ⟨by have := hX.2.2.1; omega, by have := hX.2.2.2; omega⟩
  exact V_calli (V_runSW (nA := 2) C hM ⟨ml_L_150, sm_L_count, ii_L, co_L_count⟩ ⟨by decide, by decide, by decide +kernel⟩ hR hn hst hrest hf d) p1 k1 n1 hp hk hn1 kk
theorem KL_159 {X : vX} {lo nL : Nat} {G : vG} {Q : State → Prop} {k n : Nat} {ws : va_W} {lc : List (Nat × Value)} {st : List Value} {pc : Nat} {cc : ByteArray} (C : Cx X lo nL G cc RL) {D0 c0 s0 d0 mc ms : Nat} {As rest : List Value} {S : Type} {post : Int32 → S → Prop} {wo : S → va_W} (hM : Mi (xl X) yL_find (.codeWith yL_find method_10_code 4 (some .int) [(0, 6, 9, 14)]) d0 mc ms lo G As ws post wo) (hX : RmX X D0 c0 s0) (hd : d0 + 1 ≤ D0) (hn : As.length = 2) (hst : st = As.reverse ++ rest) (hrest : (rest.map fun v => v.category).sum ≤ 8) (p1 k1 n1 : Nat) (hp : pc + 3 = p1) (hk : k + mc = k1) (hn1 : n + ms = n1) (hk1 : k1 ≤ c0) (hs1 : n1 ≤ s0) (d : decode cc pc = .ok (.invokestatic 159, 3)) (kk : ∀ (r : Int32) (u : S), post r u → V X lo nL G Q k1 n1 (wo u) lc (.int r :: rest) p1) : V X lo nL G Q k n ws lc st pc := by
  have hR : (rmD d0 mc ms).frames + 1 ≤ (xR X).frames ∧ 8 + (4 + 11) + (rmD d0 mc ms).locals ≤ (xR X).locals := ⟨by show d0 + 1 ≤ _; have := hX.1; omega, by show 8 + (4 + 11) + 40 * d0 ≤ _; have := hX.2.1; omega⟩
  have hf : k + mc ≤ (xR X).cells ∧ n + ms ≤ (xR X).slots := ⟨by have := hX.2.2.1; omega, by have := hX.2.2.2; omega⟩
  exact V_calli (V_runSW (nA := 2) C hM ⟨ml_L_159, sm_L_find, ii_L, co_L_find⟩ ⟨by decide, by decide, by decide +kernel⟩ hR hn hst hrest hf d) p1 k1 n1 hp hk hn1 kk
