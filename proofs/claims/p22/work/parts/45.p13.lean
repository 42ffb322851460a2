section ST2
variable {x : LX} {np nl lu tu : Nat} {T C F LT VV BB wd gr gs bl ie : Nat → Int32} {np2 nl2 ld : Nat} {T2 S2 C2 F2 LT2 LS2 VE BA wd2 mo : Nat → Int32}
theorem st_count_n {part r rc : Int32} {th1 : Nat} (h : INV x np nl lu tu T C F LT VV BB wd gr gs bl ie np2 nl2 ld T2 S2 C2 F2 LT2 LS2 VE BA wd2 mo) (hx : ∃ q, q < np ∧ part = nI q ∧ rc = C q) (hm : (isP np2 part = false ∧ th1 = 1) ∨ ∃ p, p < np2 ∧ part = nI p ∧ th1 = 0 ∧ r = C2 p) : th1 = 0 ∧ r = rc := by
  obtain ⟨e1, e2, e3, _⟩ := inv_np h
  obtain ⟨h1, h2, h3, h4, h5, h6, h7⟩ := h
  obtain ⟨q, g1, g2, g3⟩ := hx
  rcases hm with ⟨m1, _⟩ | ⟨p, m1, m2, m3, m4⟩
  · exact absurd ⟨q, by omega, g2⟩ ((isP_f (by omega)).mp m1)
  · have ep : q = p := nI_inj (by omega) (by omega) (g2.symm.trans m2)
    subst ep
    exact ⟨m3, by rw [m4, g3, h3.2.2.2.2.1 q m1, h2.2.2.2.1 q g1]⟩
theorem st_isP_x {part : Int32} {th1 : Nat} {P : Prop} (hnp : np2 ≤ 16) (hx : ¬ cIsP np2 part) (hm : (isP np2 part = false ∧ th1 = 1) ∨ ∃ p, p < np2 ∧ part = nI p ∧ th1 = 0 ∧ P) : th1 = 1 := by
  rcases hm with ⟨_, m⟩ | ⟨p, m1, m2, _⟩
  · exact m
  · exact absurd ⟨p, m1, m2⟩ hx
theorem st_isP_x2 {part : Int32} {th1 : Nat} {P : Nat → Prop} (hx : ¬ cIsP np2 part) (hm : (isP np2 part = false ∧ th1 = 1) ∨ ∃ p, p < np2 ∧ part = nI p ∧ th1 = 0 ∧ P p) : th1 = 1 := by
  rcases hm with ⟨_, m⟩ | ⟨p, m1, m2, _⟩
  · exact m
  · exact absurd ⟨p, m1, m2⟩ hx
theorem st_costOf_n {part r rc : Int32} {th1 : Nat} {cn : Nat → Nat} (hnp : np2 ≤ 16) (hx : ∃ q, q < np2 ∧ part = nI q ∧ rc = nI (ko (cn q))) (hm : (isP np2 part = false ∧ th1 = 1) ∨ ∃ p, p < np2 ∧ part = nI p ∧ th1 = 0 ∧ r = nI (ko (cn p))) : th1 = 0 ∧ r = rc := by
  obtain ⟨q, g1, g2, g3⟩ := hx
  rcases hm with ⟨m1, _⟩ | ⟨p, m1, m2, m3, m4⟩
  · exact absurd ⟨q, by omega, g2⟩ ((isP_f (by omega)).mp m1)
  · have ep : q = p := nI_inj (by omega) (by omega) (g2.symm.trans m2)
    subst ep
    exact ⟨m3, m4.trans g3.symm⟩
theorem st_find_n {text r rc : Int32} {th1 : Nat} (h : INV x np nl lu tu T C F LT VV BB wd gr gs bl ie np2 nl2 ld T2 S2 C2 F2 LT2 LS2 VE BA wd2 mo) (hx : 0 < SZ text 8 ∧ rc = oI (pwI T text np)) (hm : (SZ text 8 = 0 ∧ th1 = 1) ∨ (0 < SZ text 8 ∧ th1 = 0 ∧ r = lastW T2 text np2)) : th1 = 0 ∧ r = rc := by
  obtain ⟨e1, e2, e3, _⟩ := inv_np h
  subst e2
  obtain ⟨h1, h2, h3, h4, h5, h6, h7⟩ := h
  obtain ⟨g1, g2⟩ := hx
  rcases hm with ⟨m1, _⟩ | ⟨m1, m2, m3⟩
  · omega
  · refine ⟨m2, ?_⟩
    obtain ⟨t, t1, t2, t3, t4, t5⟩ := SZ_szN (x := text) (m := 8) (by decide) g1
    have hb : ∀ i, i < np2 → lT x i < 2147483648 := fun i hi => by have := h1.t (i := i) (by omega); omega
    rw [m3, g2, t1, pwI_pw (t := lT x) (by omega) (fun i hi => ⟨h2.2.2.1 i hi, hb i hi⟩), lastW_pw (t := lT x) (by omega) (fun i hi => ⟨h3.2.2.1 i hi, hb i hi⟩) (fun i j hi hj => h1.2.2.2.2.2.1 i j (by omega) (by omega))]
theorem st_find_x {text : Int32} {th1 : Nat} {P : Prop} (hx : SZ text 8 = 0) (hm : (SZ text 8 = 0 ∧ th1 = 1) ∨ (0 < SZ text 8 ∧ P)) : th1 = 1 := by
  rcases hm with ⟨_, m⟩ | ⟨m, _⟩
  · exact m
  · omega
theorem st_word_n {u r rc : Int32} {th1 : Nat} {f : Nat → Nat} (hx : ∃ w, u = nI w ∧ w < 200000000 ∧ 0 < SZ u 8 ∧ rc = nI (f w)) (hm : (SZ u 8 = 0 ∧ th1 = 1) ∨ (∃ w, u = nI w ∧ w < 200000000 ∧ 0 < SZ u 8 ∧ th1 = 0 ∧ r = nI (f w))) : th1 = 0 ∧ r = rc := by
  obtain ⟨w, g1, g2, g3, g4⟩ := hx
  rcases hm with ⟨m1, _⟩ | ⟨w', m1, m2, m3, m4, m5⟩
  · omega
  · have ew : w = w' := nI_inj (by omega) (by omega) (g1.symm.trans m1)
    subst ew
    exact ⟨m4, m5.trans g4.symm⟩
theorem st_word_x {u : Int32} {th1 : Nat} {P : Nat → Prop} (hx : SZ u 8 = 0) (hm : (SZ u 8 = 0 ∧ th1 = 1) ∨ (∃ w, u = nI w ∧ w < 200000000 ∧ 0 < SZ u 8 ∧ th1 = 0 ∧ P w)) : th1 = 1 := by
  rcases hm with ⟨_, m⟩ | ⟨w', m1, m2, m3, _⟩
  · exact m
  · omega
theorem st_nodes {r : Int32} {ch : Nat → Nat → Nat} {nd : Nat → Nat} {tw1 : Nat → Int32} (h : INV x np nl lu tu T C F LT VV BB wd gr gs bl ie np2 nl2 ld T2 S2 C2 F2 LT2 LS2 VE BA wd2 mo) (hT : TR ch nd bl ie tu (Wd (lT x) (lNp x)) (Wd (lT x) (lNp x))) (hx : (np = 0 ∧ r = nI 0) ∨ (0 < np ∧ (∀ i, i < tu → twP ch ie tw1 tu i) ∧ r = nI (cntT tw1 0 tu))) : r = nI (nodesM (lT x) (fun i => szN (lT x i)) np2 np2) := by
  obtain ⟨e1, e2, e3, _⟩ := inv_np h
  subst e2
  obtain ⟨h1, h2, h3, h4, h5, h6, h7⟩ := h
  rcases hx with ⟨g1, g2⟩ | ⟨g1, g2, g3⟩
  · rw [g2, g1]; rfl
  · rw [g3, e1]
    rw [e1] at g1
    rw [nodes_eq (t := lT x) (s := fun i => szN (lT x i)) g1 (fun k hk => ⟨(h1.2.2.1 k hk).2.2.1, (h1.2.2.1 k hk).2.2.2⟩) hT (by have := h5.2; omega) g2]
theorem st_learn_x {u r : Int32} {E : String} {th1 ld1 : Nat} {C1 mo1 wd1 : Nat → Int32} (h : INV x np nl lu tu T C F LT VV BB wd gr gs bl ie np2 nl2 ld T2 S2 C2 F2 LT2 LS2 VE BA wd2 mo) (hx : (E = EIAE ∧ SZ u 8 = 0) ∨ (E = EISE ∧ 0 < SZ u 8 ∧ lu = 50)) (hm : mLearn x np2 u r ld C2 mo wd2 th1 ld1 C1 mo1 wd1) : ((E = EIAE ∧ th1 = 1) ∨ (E = EISE ∧ th1 = 2)) ∧ ld1 = ld ∧ C1 = C2 ∧ mo1 = mo ∧ wd1 = wd2 := by
  obtain ⟨e1, e2, e3, e4, e5, e6, e7, e8⟩ := inv_np h
  rcases hm with ⟨m1, m2, m3⟩ | ⟨m1, m2, m3, m4⟩ | ⟨w, m1, m2, m3, m4, m5, _⟩
  · rcases hx with ⟨rfl, g⟩ | ⟨rfl, g, _⟩
    · exact ⟨Or.inl ⟨rfl, m2⟩, m3⟩
    · omega
  · rcases hx with ⟨rfl, g⟩ | ⟨rfl, g, _⟩
    · omega
    · exact ⟨Or.inr ⟨rfl, m3⟩, m4⟩
  · rcases hx with ⟨rfl, g⟩ | ⟨rfl, g, _⟩ <;> omega
theorem st_learn_n {u r rc : Int32} {th1 ld1 lu1 : Nat} {C1 mo1 wd1 Cc gr1 gs1 wdc : Nat → Int32} (h : INV x np nl lu tu T C F LT VV BB wd gr gs bl ie np2 nl2 ld T2 S2 C2 F2 LT2 LS2 VE BA wd2 mo) (hx : cLearn x np u rc lu C gr gs wd lu1 Cc gr1 gs1 wdc) (hm : mLearn x np2 u r ld C2 mo wd2 th1 ld1 C1 mo1 wd1) : th1 = 0 ∧ r = rc ∧ (∃ b : Bool, rc = bI b) ∧ ∃ y, INV y np nl lu1 tu T Cc F LT VV BB wdc gr1 gs1 bl ie np2 nl2 ld1 T2 S2 C1 F2 LT2 LS2 VE BA wd1 mo1 := by
  obtain ⟨e1, e2, e3, e4, e5, e6, e7, e8⟩ := inv_np h
  subst e2 e7
  obtain ⟨w, g1, g2, g3, g4, hc⟩ := hx
  rcases hm with ⟨m1, _⟩ | ⟨m1, m2, _⟩ | ⟨w', m1, m2, m3, m4, m5, hm⟩
  · omega
  · omega
  · have ew : w = w' := nI_inj (by omega) (by omega) (g1.symm.trans m1)
    subst ew
    obtain ⟨h1, h2, h3, h4, h5, h6, h7⟩ := id h
    have hL := SZ_le u 8
    have hE := mEn_len h1 (d := dgt w (SZ u 8)) hL
    have bad : ∀ sl : SP, selR x (mEn x (dgt w (SZ u 8)) (SZ u 8)) (nI 0) (some sl) → ((mEn x (dgt w (SZ u 8)) (SZ u 8)).length = 1 ∨ (1 < (mEn x (dgt w (SZ u 8)) (SZ u 8)).length ∧ ∃ s2, selR x (mEn x (dgt w (SZ u 8)) (SZ u 8)) (nI 1) (some s2) ∧ costL x sl + 20 ≤ costL x s2)) → ((mEn x (dgt w (SZ u 8)) (SZ u 8)).length = 0 ∨ ∃ sl s2, selR x (mEn x (dgt w (SZ u 8)) (SZ u 8)) (nI 0) (some sl) ∧ selR x (mEn x (dgt w (SZ u 8)) (SZ u 8)) (nI 1) (some s2) ∧ costL x s2 < costL x sl + 20) → False := by
      intro sl a1 a2 a3
      rcases a3 with a3 | ⟨sl', s2', b1, b2, b3⟩
      · have := sel_pos a1; omega
      · have es := Option.some.inj (sel_det h1 hL b1 a1)
        subst es
        rcases a2 with a2 | ⟨a2, s2, a4, a5⟩
        · have := sel_one (by omega) (by omega) b2
          exact absurd this (by decide)
        · have es2 := Option.some.inj (sel_det h1 hL b2 a4)
          subst es2
          omega
    rcases hc with ⟨sl, c1, c2, c3, c4, c5, c6, c7⟩ | ⟨c1, c2, c3, c4, c5, c6, c7⟩
    · rcases hm with ⟨sl', d1, d2, d3, d4, d5, d6⟩ | ⟨d1, d2, d3, d4, d5, d6⟩
      · have es := Option.some.inj (sel_det h1 hL d1 c1)
        subst es
        obtain ⟨p1, ⟨m, g, p2, p3, p4, p5⟩, p6, p7⟩ := c7
        obtain ⟨q1, q2, q3⟩ := d5
        obtain ⟨r1, n, gv, r2, r3⟩ := h7
        have hb : ∀ p, p < lNp x → lC x p ≤ (lrn (lC x) sl' sl'.length).1 p ∧ (lrn (lC x) sl' sl'.length).1 p ≤ 9999 ∧ (lrn (lC x) sl' sl'.length).2 p ≤ sl'.length ∧ (lrn (lC x) sl' sl'.length).1 p = lC x p + (lrn (lC x) sl' sl'.length).2 p := fun p hp => lrn_bd sl'.length p (h1.2.2.2.1 p hp).2
        refine ⟨m5, d3.trans c3.symm, ⟨true, c3⟩, setC x (lrn (lC x) sl' sl'.length).1, lxOK_setC h1 (fun i hi => by have := hb i hi; have := h1.2.2.2.1 i hi; omega), cOK_setC h2 p1, mOK_setC h3 q1, h4, h5, by omega, by omega, updN n lu m, fun k => if k = lu then g else gv k, ?_, ?_⟩
        · intro k hk
          subst c4 c5 d6
          by_cases e : k = lu
          · subst e
            dsimp only
            rw [updN_s, if_pos rfl]
            refine ⟨p2, by omega, fun i hi => ⟨(p4 i hi).1, by show g i < lNp x; have := (p4 i hi).2; omega⟩, fun p hp => by rw [q2 p hp, p5 p], by rw [upd_s, upd_s]⟩
          · obtain ⟨a1, a2, a3, a4, a5⟩ := r2 k (by omega)
            dsimp only
            rw [updN_n _ _ e, if_neg e]
            refine ⟨by rw [p7 k (by omega)]; exact a1, a2, fun i hi => ⟨by rw [p6 _ (by omega)]; exact (a3 i hi).1, (a3 i hi).2⟩, fun p hp => by rw [q3 _ (by omega)]; exact a4 p hp, by rw [upd_n _ _ e, upd_n _ _ e]; exact a5⟩
        · intro p hp
          subst c4
          show 1 + (sumL (updN n lu m) (fun k => if k = lu then g else gv k) lu p + cntg (if lu = lu then g else gv lu) (updN n lu m lu) p) ≤ (lrn (lC x) sl' sl'.length).1 p
          rw [if_pos rfl, updN_s, ← p5 p, (hb p hp).2.2.2, sumL_congr (n' := n) (g' := gv) lu (fun i hi => ⟨updN_n _ _ (by omega), if_neg (by omega)⟩) p]
          have := r3 p hp
          omega
      · exact (bad sl c1 c2 d6).elim
    · rcases hm with ⟨sl', d1, d2, d3, d4, d5, d6⟩ | ⟨d1, d2, d3, d4, d5, d6⟩
      · exact (bad sl' d1 d2 c7).elim
      · subst c2 c3 c4 c5 c6 d2 d3 d4 d5
        exact ⟨m5, d1.trans c1.symm, ⟨false, c1⟩, x, h⟩
theorem st_forget_x {r : Int32} {th1 ld1 : Nat} {C1 : Nat → Int32} (h : INV x np nl lu tu T C F LT VV BB wd gr gs bl ie np2 nl2 ld T2 S2 C2 F2 LT2 LS2 VE BA wd2 mo) (hx : lu = 0) (hm : (ld = 0 ∧ th1 = 1 ∧ ld1 = ld ∧ C1 = C2) ∨ (0 < ld ∧ th1 = 0 ∧ ld1 = ld - 1 ∧ r = wd2 (ld - 1) ∧ ∀ p, p < np2 → C1 p = C2 p - mo (16 * (ld - 1) + p))) : th1 = 1 ∧ ld1 = ld ∧ C1 = C2 := by
  obtain ⟨e1, e2, e3, e4, e5, e6, e7, e8⟩ := inv_np h
  rcases hm with ⟨m1, m2⟩ | ⟨m1, _⟩
  · exact m2
  · omega
/-- the last lesson, as the class has it -/
theorem les_last (h : INV x np nl lu tu T C F LT VV BB wd gr gs bl ie np2 nl2 ld T2 S2 C2 F2 LT2 LS2 VE BA wd2 mo) : ∃ (n : Nat → Nat) (gv : Nat → Nat → Nat), (0 < lu → gs (lu - 1) = nI (n (lu - 1)) ∧ n (lu - 1) ≤ 8) ∧ (0 < lu → ∀ i, i < n (lu - 1) → gr ((lu - 1) * 8 + i) = nI (gv (lu - 1) i) ∧ gv (lu - 1) i < 16) ∧ ∀ (r rc : Int32) (th1 ld1 : Nat) (C1 : Nat → Int32), (0 < lu ∧ rc = wd (lu - 1)) → ((ld = 0 ∧ th1 = 1 ∧ ld1 = ld ∧ C1 = C2) ∨ (0 < ld ∧ th1 = 0 ∧ ld1 = ld - 1 ∧ r = wd2 (ld - 1) ∧ ∀ p, p < np2 → C1 p = C2 p - mo (16 * (ld - 1) + p))) → th1 = 0 ∧ r = rc ∧ ∃ y, INV y np nl (lu - 1) tu T (tkb C (gv (lu - 1)) (n (lu - 1))) F LT VV BB wd gr gs bl ie np2 nl2 ld1 T2 S2 C1 F2 LT2 LS2 VE BA wd2 mo := by
  obtain ⟨e1, e2, e3, e4, e5, e6, e7, e8⟩ := inv_np h
  subst e2 e7
  obtain ⟨h1, h2, h3, h4, h5, h6, r1, n, gv, r2, r3⟩ := h
  refine ⟨n, gv, fun h0 => ⟨(r2 (lu - 1) (by omega)).1, (r2 (lu - 1) (by omega)).2.1⟩, fun h0 i hi => ⟨((r2 (lu - 1) (by omega)).2.2.1 i hi).1, by have := ((r2 (lu - 1) (by omega)).2.2.1 i hi).2; omega⟩, ?_⟩
  intro r rc th1 ld1 C1 hx hm
  obtain ⟨g1, g2⟩ := hx
  rcases hm with ⟨m1, _⟩ | ⟨m1, m2, m3, m4, m5⟩
  · omega
  · obtain ⟨a1, a2, a3, a4, a5⟩ := r2 (lu - 1) (by omega)
    have hsum : ∀ p, sumL n gv lu p = sumL n gv (lu - 1) p + cntg (gv (lu - 1)) (n (lu - 1)) p := by
      intro p
      obtain ⟨k, rfl⟩ : ∃ k, lu = k + 1 := ⟨lu - 1, by omega⟩
      rfl
    have hle : ∀ p, p < np2 → cntg (gv (lu - 1)) (n (lu - 1)) p ≤ lC x p := fun p hp => by
      have := r3 p (by omega); have := hsum p; omega
    refine ⟨m2, by rw [m4, g2, a5], setC x (fun p => lC x p - cntg (gv (lu - 1)) (n (lu - 1)) p), lxOK_setC h1 (fun i hi => ?_), cOK_setC h2 (tkb_val (c := lC x) _ h2.2.2.2.1 (fun i hi => by have := (a3 i hi).2; omega) hle), mOK_setC h3 (fun p hp => ?_), h4, h5, by omega, by omega, n, gv, ?_, ?_⟩
    · have q1 := r3 i hi
      have q2 := hsum i
      have q3 := h1.2.2.2.1 i hi
      omega
    · rw [m5 p hp, h3.2.2.2.2.1 p hp, a4 p (by omega), nI_subN (hle p hp)]
    · intro k hk
      exact r2 k (by omega)
    · intro p hp
      have q1 := r3 p hp
      have q2 := hsum p
      show 1 + sumL n gv (lu - 1) p ≤ lC x p - cntg (gv (lu - 1)) (n (lu - 1)) p
      omega
end ST2
