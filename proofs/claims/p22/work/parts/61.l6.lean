set_option maxHeartbeats 4000000 in
set_option maxRecDepth 100000 in
theorem kL_isIn (l : Launch) (lo : Nat) (G : vG) (rs : va_W) (h : Nat → Nat) (qt : Nat → Int32) (qc : Nat → Int32) (qf : Nat → Int32) (qb : Nat → Int32) (ql : Nat → Int32) (qa : Nat → Int64) (qd : Nat → Int64) (qw : Nat → Int64) (qh : Nat → Int32) (qg : Nat → Int32) (p : Nat) (q : Nat) (x : LX) (hok : lxOK x) (hq : LQ x qt qc qf qb ql) (hg0 : qg 0 = nI (lNp x)) (hp : p / 5 < lNp x ∧ p % 5 ≤ szN (lT x (p / 5))) (hq2 : q / 5 < lNp x ∧ q % 5 ≤ szN (lT x (q / 5))) (hpb : p < 1000 ∧ q < 1000) : Mi l yL_isIn (.code yL_isIn method_30_code 12 (some .boolean)) 3 0 0 lo G [.ref (h 21), .ref (h 30), .int (nI p), .int (nI q)] (lW G h qt qc qf qb ql qa qd qw qh qg ++ rs) (fun (r : Int32) (_ : Unit) => r = bI (inR (lT x) (fun i => szN (lT x i)) (lNp x) (p / 5) (p % 5) (q / 5) (q % 5) (lNp x))) (fun (_ : Unit) => lW G h qt qc qf qb ql qa qd qw qh qg ++ rs) := by
  refine Mi_of (lc := [(0, .ref (h 21)), (1, .ref (h 30)), (2, .int (nI p)), (3, .int (nI q))]) (by decide +kernel) (Nat.le_of_ble_eq_true rfl) rfl ?_
  intro X cx hXR hXl hr hin
  subst hXl
  have hX := RmX.of hXR
  have hn16 := hok.1
  obtain ⟨p1, p2, p3, p4⟩ := hok.2.2.1 (p / 5) hp.1
  have p5 := ld_bd (Nat.le_refl _) p4
  have p6 := hok.t hp.1
  obtain ⟨q1, q2, q3, q4⟩ := hok.2.2.1 (q / 5) hq2.1
  have q5 := ld_bd (Nat.le_refl _) q4
  have q6 := hok.t hq2.1
  have p7 := bg_le (lT x) (fun i => szN (lT x i)) (p % 5) (p / 5)
  have q7 := bg_le (lT x) (fun i => szN (lT x i)) (q % 5) (q / 5)
  refine V_aload_n cx 1 rfl dL_isIn_0 0 rfl ?_
  refine V_iload_n cx 2 rfl dL_isIn_1 2 rfl ?_
  refine V_iconst (v := nI 5) cx 3 rfl dL_isIn_2 (by decide) ?_
  refine V_idiv cx 4 rfl dL_isIn_3 (by decide) ?_
  refine V_toi (nI (p / 5)) (nI_div (by omega) (by omega)) ?_
  refine V_ialdN cx (p / 5) (rfl) (by omega) (by decide) 0 rfl 5 rfl dL_isIn_4 ?_
  refine V_toi (nI (lT x (p / 5))) (hq.1 _ hp.1) ?_
  refine V_iconst (v := nI 0) cx 6 rfl dL_isIn_5 (by decide) ?_
  refine V_iload_n cx 7 rfl dL_isIn_6 2 rfl ?_
  refine V_iconst (v := nI 5) cx 8 rfl dL_isIn_7 (by decide) ?_
  refine V_irem cx 9 rfl dL_isIn_8 (by decide) ?_
  refine V_toi (nI (p % 5)) (nI_mod (by omega) (by omega)) ?_
  refine KL_92 (As := [.int (nI (lT x (p / 5))), .int (nI 0), .int (nI (p % 5))]) (rest := []) cx (kL_sub (xl X) lo G _ (lT x (p / 5)) 0 (p % 5) (szN (lT x (p / 5))) p3 p5 (by omega) (by omega)) hX (by omega) rfl rfl (Nat.le_of_ble_eq_true rfl) 12 0 0 rfl rfl rfl (by omega) (by omega) dL_isIn_9 (fun r_1 u_2 hw_3 => ?_)
  try dsimp only at hw_3
  subst hw_3
  refine V_toi (nI (bgN (lT x) (fun i => szN (lT x i)) (p % 5) (p / 5))) (bg_sub hok hp.1 hp.2) ?_
  refine V_istore (lc1 := [(4, .int (nI (bgN (lT x) (fun i => szN (lT x i)) (p % 5) (p / 5)))), (0, .ref (h 21)), (1, .ref (h 30)), (2, .int (nI p)), (3, .int (nI q))]) cx 14 rfl dL_isIn_12 (by decide) rfl ?_
  refine V_aload_n cx 15 rfl dL_isIn_14 1 rfl ?_
  refine V_iload_n cx 16 rfl dL_isIn_15 4 rfl ?_
  refine V_iconst (v := nI 5) cx 17 rfl dL_isIn_16 (by decide) ?_
  refine V_idiv cx 18 rfl dL_isIn_17 (by decide) ?_
  refine V_toi (nI (q / 5)) (nI_div (by omega) (by omega)) ?_
  refine V_ialdN cx (q / 5) (rfl) (by omega) (by decide) 0 rfl 19 rfl dL_isIn_18 ?_
  refine V_toi (nI (lT x (q / 5))) (hq.1 _ hq2.1) ?_
  refine V_iconst (v := nI 0) cx 20 rfl dL_isIn_19 (by decide) ?_
  refine V_iload_n cx 21 rfl dL_isIn_20 4 rfl ?_
  refine V_iconst (v := nI 5) cx 22 rfl dL_isIn_21 (by decide) ?_
  refine V_irem cx 23 rfl dL_isIn_22 (by decide) ?_
  refine V_toi (nI (q % 5)) (nI_mod (by omega) (by omega)) ?_
  refine KL_92 (As := [.int (nI (lT x (q / 5))), .int (nI 0), .int (nI (q % 5))]) (rest := []) cx (kL_sub (xl X) lo G _ (lT x (q / 5)) 0 (q % 5) (szN (lT x (q / 5))) q3 q5 (by omega) (by omega)) hX (by omega) rfl rfl (Nat.le_of_ble_eq_true rfl) 26 0 0 rfl rfl rfl (by omega) (by omega) dL_isIn_23 (fun r_4 u_5 hw_6 => ?_)
  try dsimp only at hw_6
  subst hw_6
  refine V_toi (nI (bgN (lT x) (fun i => szN (lT x i)) (q % 5) (q / 5))) (bg_sub hok hq2.1 hq2.2) ?_
  refine V_istore (lc1 := [(5, .int (nI (bgN (lT x) (fun i => szN (lT x i)) (q % 5) (q / 5)))), (4, .int (nI (bgN (lT x) (fun i => szN (lT x i)) (p % 5) (p / 5)))), (0, .ref (h 21)), (1, .ref (h 30)), (2, .int (nI p)), (3, .int (nI q))]) cx 28 rfl dL_isIn_26 (by decide) rfl ?_
  refine V_iconst (v := nI 0) cx 29 rfl dL_isIn_28 (by decide) ?_
  refine V_istore (lc1 := [(6, .int (nI 0)), (5, .int (nI (bgN (lT x) (fun i => szN (lT x i)) (q % 5) (q / 5)))), (4, .int (nI (bgN (lT x) (fun i => szN (lT x i)) (p % 5) (p / 5)))), (0, .ref (h 21)), (1, .ref (h 30)), (2, .int (nI p)), (3, .int (nI q))]) cx 31 rfl dL_isIn_29 (by decide) rfl ?_
  have loop_31 : ∀ (fuel : Nat) (k : Nat), (k ≤ lNp x) → (inR (lT x) (fun i => szN (lT x i)) (lNp x) (p / 5) (p % 5) (q / 5) (q % 5) k = true) → lNp x - k < fuel → V X lo 12 G (Qi X lo G (fun (r : Int32) (_ : Unit) => r = bI (inR (lT x) (fun i => szN (lT x i)) (lNp x) (p / 5) (p % 5) (q / 5) (q % 5) (lNp x))) (fun (_ : Unit) => lW G h qt qc qf qb ql qa qd qw qh qg ++ rs) 0 0) 0 0 (lW G h qt qc qf qb ql qa qd qw qh qg ++ rs) [(6, .int (nI k)), (5, .int (nI (bgN (lT x) (fun i => szN (lT x i)) (q % 5) (q / 5)))), (4, .int (nI (bgN (lT x) (fun i => szN (lT x i)) (p % 5) (p / 5)))), (0, .ref (h 21)), (1, .ref (h 30)), (2, .int (nI p)), (3, .int (nI q))] [] 31 := by
    intro fuel
    induction fuel with
    | zero => intro k hk hin hmz; exact absurd hmz (Nat.not_lt_zero _)
    | succ fuel ih_31 =>
      intro k hk hin hmz_31
      refine V_iload cx 33 rfl dL_isIn_31 0 rfl ?_
      refine V_aload_n cx 34 rfl dL_isIn_33 4 rfl ?_
      refine V_iconst (v := nI 0) cx 35 rfl dL_isIn_34 (by decide) ?_
      refine V_ialdN cx 0 (rfl) (by omega) (by decide) 9 rfl 36 rfl dL_isIn_35 ?_
      refine V_toi (nI (lNp x)) (hg0) ?_
      refine V_icmp_ge cx 39 161 rfl dL_isIn_36 (by decide) (fun c_36 => ?_) (fun c_36 => ?_)
      · skip
        have n_36 : k ≥ lNp x := N_ge_t (by omega) (by omega) c_36
        refine V_iconst (v := nI 1) cx 162 rfl dL_isIn_161 (by decide) ?_
        have hk9 : k = lNp x := by omega
        rw [hk9] at hin
        exact V_zreturn cx hr (by first | rfl | exact bI_z _) () (bI_tt hin) rfl (by omega) (by omega) dL_isIn_162
      · skip
        have n_36 : k < lNp x := N_ge_f (by omega) (by omega) c_36
        obtain ⟨t1, t2, t3, t4⟩ := hok.2.2.1 k n_36
        have t5 := ld_bd (Nat.le_refl _) t4
        have t6 := hok.t n_36
        have t7 := bg_le (lT x) (fun i => szN (lT x i)) (p % 5) k
        refine V_aload_n cx 40 rfl dL_isIn_39 3 rfl ?_
        refine V_iload cx 42 rfl dL_isIn_40 0 rfl ?_
        refine V_ialdN cx k (rfl) (by omega) (by decide) 0 rfl 43 rfl dL_isIn_42 ?_
        refine V_toi (nI (lT x k)) (hq.1 k n_36) ?_
        refine KL_59 (As := [.int (nI (lT x k))]) (rest := []) cx (kL_size (xl X) lo G _ (lT x k) (szN (lT x k)) t3 t5 (by omega)) hX (by omega) rfl rfl (Nat.le_of_ble_eq_true rfl) 46 0 0 rfl rfl rfl (by omega) (by omega) dL_isIn_43 (fun r_7 u_8 hw_9 => ?_)
        try dsimp only at hw_9
        subst hw_9
        refine V_iload_n cx 47 rfl dL_isIn_46 5 rfl ?_
        refine V_iconst (v := nI 5) cx 48 rfl dL_isIn_47 (by decide) ?_
        refine V_irem cx 49 rfl dL_isIn_48 (by decide) ?_
        refine V_toi (nI (p % 5)) (nI_mod (by omega) (by omega)) ?_
        refine V_isub cx 50 rfl dL_isIn_49 ?_
        rcases Nat.lt_or_ge (szN (lT x k)) (p % 5) with hsz | hsz
        · skip
          refine V_istore (lc1 := [(7, .int ((nI (szN (lT x k))) - (nI (p % 5)))), (6, .int (nI k)), (5, .int (nI (bgN (lT x) (fun i => szN (lT x i)) (q % 5) (q / 5)))), (4, .int (nI (bgN (lT x) (fun i => szN (lT x i)) (p % 5) (p / 5)))), (0, .ref (h 21)), (1, .ref (h 30)), (2, .int (nI p)), (3, .int (nI q))]) cx 52 rfl dL_isIn_50 (by decide) rfl ?_
          refine V_iload cx 54 rfl dL_isIn_52 0 rfl ?_
          refine V_if_lt cx 57 155 rfl dL_isIn_54 (by decide) (fun c_54 => ?_) (fun c_54 => ?_)
          · skip
            refine V_iinc (v := nI (k + 1)) (lc1 := [(6, .int (nI (k + 1))), (7, .int ((nI (szN (lT x k))) - (nI (p % 5)))), (5, .int (nI (bgN (lT x) (fun i => szN (lT x i)) (q % 5) (q / 5)))), (4, .int (nI (bgN (lT x) (fun i => szN (lT x i)) (p % 5) (p / 5)))), (0, .ref (h 21)), (1, .ref (h 30)), (2, .int (nI p)), (3, .int (nI q))]) cx 158 rfl dL_isIn_155 1 rfl (nI_inc k 1) (by decide) rfl ?_
            refine V_goto cx 31 dL_isIn_158 (by decide) ?_
            refine V.locs [0, 2, 3, 4, 5, 6, 7] rfl ?_
            have kin := inR_s hin (fun h9 => absurd (show p % 5 ≤ szN (lT x k) from h9.1) (by omega))
            exact ih_31 (k + 1) (by omega) (by exact kin) (by omega)
          · skip
            exact absurd (nI_sneg (by omega) hsz) c_54
        · skip
          refine V_toi (nI (szN (lT x k) - p % 5)) (nI_subN hsz) ?_
          refine V_istore (lc1 := [(7, .int (nI (szN (lT x k) - p % 5))), (6, .int (nI k)), (5, .int (nI (bgN (lT x) (fun i => szN (lT x i)) (q % 5) (q / 5)))), (4, .int (nI (bgN (lT x) (fun i => szN (lT x i)) (p % 5) (p / 5)))), (0, .ref (h 21)), (1, .ref (h 30)), (2, .int (nI p)), (3, .int (nI q))]) cx 52 rfl dL_isIn_50 (by decide) rfl ?_
          refine V_iload cx 54 rfl dL_isIn_52 0 rfl ?_
          refine V_if_lt cx 57 155 rfl dL_isIn_54 (by decide) (fun c_54 => ?_) (fun c_54 => ?_)
          · skip
            exact absurd (Z_lt_t (by omega) c_54) (Nat.not_lt_zero _)
          · skip
            refine V_aload_n cx 58 rfl dL_isIn_57 4 rfl ?_
            refine V_iload cx 60 rfl dL_isIn_58 1 rfl ?_
            refine V_ialdN cx k (rfl) (by omega) (by decide) 0 rfl 61 rfl dL_isIn_60 ?_
            refine V_toi (nI (lT x k)) (hq.1 k n_36) ?_
            refine V_iconst (v := nI 0) cx 62 rfl dL_isIn_61 (by decide) ?_
            refine V_iload_n cx 63 rfl dL_isIn_62 6 rfl ?_
            refine V_iconst (v := nI 5) cx 64 rfl dL_isIn_63 (by decide) ?_
            refine V_irem cx 65 rfl dL_isIn_64 (by decide) ?_
            refine V_toi (nI (p % 5)) (nI_mod (by omega) (by omega)) ?_
            refine KL_92 (As := [.int (nI (lT x k)), .int (nI 0), .int (nI (p % 5))]) (rest := []) cx (kL_sub (xl X) lo G _ (lT x k) 0 (p % 5) (szN (lT x k)) t3 t5 (by omega) (by omega)) hX (by omega) rfl rfl (Nat.le_of_ble_eq_true rfl) 68 0 0 rfl rfl rfl (by omega) (by omega) dL_isIn_65 (fun r_10 u_11 hw_12 => ?_)
            try dsimp only at hw_12
            subst hw_12
            refine V_toi (nI (bgN (lT x) (fun i => szN (lT x i)) (p % 5) k)) (bg_sub hok n_36 hsz) ?_
            refine V_iload cx 70 rfl dL_isIn_68 3 rfl ?_
            refine V_icmp_eq cx 73 76 rfl dL_isIn_70 (by decide) (fun c_70 => ?_) (fun c_70 => ?_)
            · skip
              have n_70 : bgN (lT x) (fun i => szN (lT x i)) (p % 5) k = bgN (lT x) (fun i => szN (lT x i)) (p % 5) (p / 5) := N_eq_t (by omega) (by omega) c_70
              refine V_aload_n cx 77 rfl dL_isIn_76 4 rfl ?_
              refine V_iload cx 79 rfl dL_isIn_77 1 rfl ?_
              refine V_ialdN cx k (rfl) (by omega) (by decide) 0 rfl 80 rfl dL_isIn_79 ?_
              refine V_toi (nI (lT x k)) (hq.1 k n_36) ?_
              refine V_iload_n cx 81 rfl dL_isIn_80 6 rfl ?_
              refine V_iconst (v := nI 5) cx 82 rfl dL_isIn_81 (by decide) ?_
              refine V_irem cx 83 rfl dL_isIn_82 (by decide) ?_
              refine V_toi (nI (p % 5)) (nI_mod (by omega) (by omega)) ?_
              refine V_iload cx 85 rfl dL_isIn_83 0 rfl ?_
              refine KL_92 (As := [.int (nI (lT x k)), .int (nI (p % 5)), .int (nI (szN (lT x k) - p % 5))]) (rest := []) cx (kL_sub (xl X) lo G _ (lT x k) (p % 5) (szN (lT x k) - p % 5) (szN (lT x k)) t3 t5 (by omega) (by omega)) hX (by omega) rfl rfl (Nat.le_of_ble_eq_true rfl) 88 0 0 rfl rfl rfl (by omega) (by omega) dL_isIn_85 (fun r_13 u_14 hw_15 => ?_)
              try dsimp only at hw_15
              subst hw_15
              refine V_toi (nI (lT x k % 10 ^ (szN (lT x k) - p % 5) + 10 ^ (szN (lT x k) - p % 5))) (rs_sub hsz) ?_
              refine V_istore (lc1 := [(8, .int (nI (lT x k % 10 ^ (szN (lT x k) - p % 5) + 10 ^ (szN (lT x k) - p % 5)))), (7, .int (nI (szN (lT x k) - p % 5))), (6, .int (nI k)), (5, .int (nI (bgN (lT x) (fun i => szN (lT x i)) (q % 5) (q / 5)))), (4, .int (nI (bgN (lT x) (fun i => szN (lT x i)) (p % 5) (p / 5)))), (0, .ref (h 21)), (1, .ref (h 30)), (2, .int (nI p)), (3, .int (nI q))]) cx 90 rfl dL_isIn_88 (by decide) rfl ?_
              refine V_iload cx 92 rfl dL_isIn_90 3 rfl ?_
              refine V_iload cx 94 rfl dL_isIn_92 1 rfl ?_
              refine KL_64 (As := [.int (nI (szN (lT x k) - p % 5))]) (rest := [.int (nI (bgN (lT x) (fun i => szN (lT x i)) (q % 5) (q / 5)))]) cx (kL_power (xl X) lo G _ (szN (lT x k) - p % 5) (by omega)) hX (by omega) rfl rfl (Nat.le_of_ble_eq_true rfl) 97 0 0 rfl rfl rfl (by omega) (by omega) dL_isIn_94 (fun r_16 u_17 hw_18 => ?_)
              try dsimp only at hw_18
              subst hw_18
              refine V_imul cx 98 rfl dL_isIn_97 ?_
              refine V_toi (nI ((bgN (lT x) (fun i => szN (lT x i)) (q % 5) (q / 5)) * (10 ^ (szN (lT x k) - p % 5)))) (nI_mulN _ _) ?_
              refine V_iload cx 100 rfl dL_isIn_98 0 rfl ?_
              refine V_iadd cx 101 rfl dL_isIn_100 ?_
              refine V_toi (nI (((bgN (lT x) (fun i => szN (lT x i)) (q % 5) (q / 5)) * (10 ^ (szN (lT x k) - p % 5))) + (lT x k % 10 ^ (szN (lT x k) - p % 5) + 10 ^ (szN (lT x k) - p % 5)))) (nI_add _ _) ?_
              refine V_iload cx 103 rfl dL_isIn_101 1 rfl ?_
              refine KL_64 (As := [.int (nI (szN (lT x k) - p % 5))]) (rest := [.int (nI (((bgN (lT x) (fun i => szN (lT x i)) (q % 5) (q / 5)) * (10 ^ (szN (lT x k) - p % 5))) + (lT x k % 10 ^ (szN (lT x k) - p % 5) + 10 ^ (szN (lT x k) - p % 5))))]) cx (kL_power (xl X) lo G _ (szN (lT x k) - p % 5) (by omega)) hX (by omega) rfl rfl (Nat.le_of_ble_eq_true rfl) 106 0 0 rfl rfl rfl (by omega) (by omega) dL_isIn_103 (fun r_19 u_20 hw_21 => ?_)
              try dsimp only at hw_21
              subst hw_21
              refine V_isub cx 107 rfl dL_isIn_106 ?_
              refine V_toi (nI ((((bgN (lT x) (fun i => szN (lT x i)) (q % 5) (q / 5)) * (10 ^ (szN (lT x k) - p % 5))) + (lT x k % 10 ^ (szN (lT x k) - p % 5) + 10 ^ (szN (lT x k) - p % 5))) - (10 ^ (szN (lT x k) - p % 5)))) (nI_subN (by omega)) ?_
              refine V_toi (nI (bgN (lT x) (fun i => szN (lT x i)) (q % 5) (q / 5) * 10 ^ (szN (lT x k) - p % 5) + lT x k % 10 ^ (szN (lT x k) - p % 5))) (congrArg nI (by omega)) ?_
              refine V_istore (lc1 := [(9, .int (nI (bgN (lT x) (fun i => szN (lT x i)) (q % 5) (q / 5) * 10 ^ (szN (lT x k) - p % 5) + lT x k % 10 ^ (szN (lT x k) - p % 5)))), (8, .int (nI (lT x k % 10 ^ (szN (lT x k) - p % 5) + 10 ^ (szN (lT x k) - p % 5)))), (7, .int (nI (szN (lT x k) - p % 5))), (6, .int (nI k)), (5, .int (nI (bgN (lT x) (fun i => szN (lT x i)) (q % 5) (q / 5)))), (4, .int (nI (bgN (lT x) (fun i => szN (lT x i)) (p % 5) (p / 5)))), (0, .ref (h 21)), (1, .ref (h 30)), (2, .int (nI p)), (3, .int (nI q))]) cx 109 rfl dL_isIn_107 (by decide) rfl ?_
              have hwb : bgN (lT x) (fun i => szN (lT x i)) (q % 5) (q / 5) * 10 ^ (szN (lT x k) - p % 5) + lT x k % 10 ^ (szN (lT x k) - p % 5) < 2147483648 := by
                have g1 : bgN (lT x) (fun i => szN (lT x i)) (q % 5) (q / 5) * 10 ^ (szN (lT x k) - p % 5) ≤ 20000 * 10 ^ 4 := Nat.mul_le_mul (by omega) (p10_le (by omega))
                have g2 := Nat.mod_le (lT x k) (10 ^ (szN (lT x k) - p % 5))
                omega
              refine V_iconst (v := nI 0) cx 110 rfl dL_isIn_109 (by decide) ?_
              refine V_istore (lc1 := [(10, .int (nI 0)), (9, .int (nI (bgN (lT x) (fun i => szN (lT x i)) (q % 5) (q / 5) * 10 ^ (szN (lT x k) - p % 5) + lT x k % 10 ^ (szN (lT x k) - p % 5)))), (8, .int (nI (lT x k % 10 ^ (szN (lT x k) - p % 5) + 10 ^ (szN (lT x k) - p % 5)))), (7, .int (nI (szN (lT x k) - p % 5))), (6, .int (nI k)), (5, .int (nI (bgN (lT x) (fun i => szN (lT x i)) (q % 5) (q / 5)))), (4, .int (nI (bgN (lT x) (fun i => szN (lT x i)) (p % 5) (p / 5)))), (0, .ref (h 21)), (1, .ref (h 30)), (2, .int (nI p)), (3, .int (nI q))]) cx 112 rfl dL_isIn_110 (by decide) rfl ?_
              refine V_iconst (v := nI 0) cx 113 rfl dL_isIn_112 (by decide) ?_
              refine V_istore (lc1 := [(11, .int (nI 0)), (10, .int (nI 0)), (9, .int (nI (bgN (lT x) (fun i => szN (lT x i)) (q % 5) (q / 5) * 10 ^ (szN (lT x k) - p % 5) + lT x k % 10 ^ (szN (lT x k) - p % 5)))), (8, .int (nI (lT x k % 10 ^ (szN (lT x k) - p % 5) + 10 ^ (szN (lT x k) - p % 5)))), (7, .int (nI (szN (lT x k) - p % 5))), (6, .int (nI k)), (5, .int (nI (bgN (lT x) (fun i => szN (lT x i)) (q % 5) (q / 5)))), (4, .int (nI (bgN (lT x) (fun i => szN (lT x i)) (p % 5) (p / 5)))), (0, .ref (h 21)), (1, .ref (h 30)), (2, .int (nI p)), (3, .int (nI q))]) cx 115 rfl dL_isIn_113 (by decide) rfl ?_
              have loop_115 : ∀ (fuel : Nat) (i : Nat) (iz : Bool), (i ≤ lNp x) → (iz = exN (lT x) (bgN (lT x) (fun i => szN (lT x i)) (q % 5) (q / 5) * 10 ^ (szN (lT x k) - p % 5) + lT x k % 10 ^ (szN (lT x k) - p % 5)) i) → lNp x - i < fuel → V X lo 12 G (Qi X lo G (fun (r : Int32) (_ : Unit) => r = bI (inR (lT x) (fun i => szN (lT x i)) (lNp x) (p / 5) (p % 5) (q / 5) (q % 5) (lNp x))) (fun (_ : Unit) => lW G h qt qc qf qb ql qa qd qw qh qg ++ rs) 0 0) 0 0 (lW G h qt qc qf qb ql qa qd qw qh qg ++ rs) [(11, .int (nI i)), (10, .int (bI iz)), (9, .int (nI (bgN (lT x) (fun i => szN (lT x i)) (q % 5) (q / 5) * 10 ^ (szN (lT x k) - p % 5) + lT x k % 10 ^ (szN (lT x k) - p % 5)))), (8, .int (nI (lT x k % 10 ^ (szN (lT x k) - p % 5) + 10 ^ (szN (lT x k) - p % 5)))), (7, .int (nI (szN (lT x k) - p % 5))), (6, .int (nI k)), (5, .int (nI (bgN (lT x) (fun i => szN (lT x i)) (q % 5) (q / 5)))), (4, .int (nI (bgN (lT x) (fun i => szN (lT x i)) (p % 5) (p / 5)))), (0, .ref (h 21)), (1, .ref (h 30)), (2, .int (nI p)), (3, .int (nI q))] [] 115 := by
                intro fuel
                induction fuel with
                | zero => intro i iz hi hiz hmz; exact absurd hmz (Nat.not_lt_zero _)
                | succ fuel ih_115 =>
                  intro i iz hi hiz hmz_115
                  refine V_iload cx 117 rfl dL_isIn_115 0 rfl ?_
                  refine V_aload_n cx 118 rfl dL_isIn_117 9 rfl ?_
                  refine V_iconst (v := nI 0) cx 119 rfl dL_isIn_118 (by decide) ?_
                  refine V_ialdN cx 0 (rfl) (by omega) (by decide) 9 rfl 120 rfl dL_isIn_119 ?_
                  refine V_toi (nI (lNp x)) (hg0) ?_
                  refine V_icmp_ge cx 123 148 rfl dL_isIn_120 (by decide) (fun c_120 => ?_) (fun c_120 => ?_)
                  · skip
                    have n_120 : i ≥ lNp x := N_ge_t (by omega) (by omega) c_120
                    refine V_iload cx 150 rfl dL_isIn_148 1 rfl ?_
                    refine V_if_ne cx 153 155 rfl dL_isIn_150 (by decide) (fun c_150 => ?_) (fun c_150 => ?_)
                    · skip
                      have n_150 := B_ne_t c_150
                      refine V_iinc (v := nI (k + 1)) (lc1 := [(6, .int (nI (k + 1))), (11, .int (nI i)), (10, .int (bI iz)), (9, .int (nI (bgN (lT x) (fun i => szN (lT x i)) (q % 5) (q / 5) * 10 ^ (szN (lT x k) - p % 5) + lT x k % 10 ^ (szN (lT x k) - p % 5)))), (8, .int (nI (lT x k % 10 ^ (szN (lT x k) - p % 5) + 10 ^ (szN (lT x k) - p % 5)))), (7, .int (nI (szN (lT x k) - p % 5))), (5, .int (nI (bgN (lT x) (fun i => szN (lT x i)) (q % 5) (q / 5)))), (4, .int (nI (bgN (lT x) (fun i => szN (lT x i)) (p % 5) (p / 5)))), (0, .ref (h 21)), (1, .ref (h 30)), (2, .int (nI p)), (3, .int (nI q))]) cx 158 rfl dL_isIn_155 5 rfl (nI_inc k 1) (by decide) rfl ?_
                      refine V_goto cx 31 dL_isIn_158 (by decide) ?_
                      refine V.locs [0, 6, 7, 8, 9, 10, 11] rfl ?_
                      have kin := inR_s hin (fun _ => by rw [← n_150, hiz, show i = lNp x by omega])
                      exact ih_31 (k + 1) (by omega) (by exact kin) (by omega)
                    · skip
                      have n_150 := B_ne_f c_150
                      refine V_iconst (v := nI 0) cx 154 rfl dL_isIn_153 (by decide) ?_
                      exact V_zreturn cx hr (by first | rfl | exact bI_z _) () (bI_ff (inR_f n_36 ⟨hsz, n_70⟩ (by rw [← n_150, hiz, show i = lNp x by omega]))) rfl (by omega) (by omega) dL_isIn_154
                  · skip
                    have n_120 : i < lNp x := N_ge_f (by omega) (by omega) c_120
                    have join_139 : ∀ (bz : Bool), (bz = decide (lT x i = bgN (lT x) (fun i => szN (lT x i)) (q % 5) (q / 5) * 10 ^ (szN (lT x k) - p % 5) + lT x k % 10 ^ (szN (lT x k) - p % 5))) → V X lo 12 G (Qi X lo G (fun (r : Int32) (_ : Unit) => r = bI (inR (lT x) (fun i => szN (lT x i)) (lNp x) (p / 5) (p % 5) (q / 5) (q % 5) (lNp x))) (fun (_ : Unit) => lW G h qt qc qf qb ql qa qd qw qh qg ++ rs) 0 0) 0 0 (lW G h qt qc qf qb ql qa qd qw qh qg ++ rs) [(11, .int (nI i)), (10, .int (bI iz)), (9, .int (nI (bgN (lT x) (fun i => szN (lT x i)) (q % 5) (q / 5) * 10 ^ (szN (lT x k) - p % 5) + lT x k % 10 ^ (szN (lT x k) - p % 5)))), (8, .int (nI (lT x k % 10 ^ (szN (lT x k) - p % 5) + 10 ^ (szN (lT x k) - p % 5)))), (7, .int (nI (szN (lT x k) - p % 5))), (6, .int (nI k)), (5, .int (nI (bgN (lT x) (fun i => szN (lT x i)) (q % 5) (q / 5)))), (4, .int (nI (bgN (lT x) (fun i => szN (lT x i)) (p % 5) (p / 5)))), (0, .ref (h 21)), (1, .ref (h 30)), (2, .int (nI p)), (3, .int (nI q))] [.int (bI bz), .int (bI iz)] 139 := by
                      intro bz hbz
                      refine V_ior cx 140 rfl dL_isIn_139 ?_
                      refine V_toi (bI (iz || bz)) (bI_or _ _) ?_
                      refine V_istore (lc1 := [(10, .int (bI (iz || bz))), (11, .int (nI i)), (9, .int (nI (bgN (lT x) (fun i => szN (lT x i)) (q % 5) (q / 5) * 10 ^ (szN (lT x k) - p % 5) + lT x k % 10 ^ (szN (lT x k) - p % 5)))), (8, .int (nI (lT x k % 10 ^ (szN (lT x k) - p % 5) + 10 ^ (szN (lT x k) - p % 5)))), (7, .int (nI (szN (lT x k) - p % 5))), (6, .int (nI k)), (5, .int (nI (bgN (lT x) (fun i => szN (lT x i)) (q % 5) (q / 5)))), (4, .int (nI (bgN (lT x) (fun i => szN (lT x i)) (p % 5) (p / 5)))), (0, .ref (h 21)), (1, .ref (h 30)), (2, .int (nI p)), (3, .int (nI q))]) cx 142 rfl dL_isIn_140 (by decide) rfl ?_
                      refine V_iinc (v := nI (i + 1)) (lc1 := [(11, .int (nI (i + 1))), (10, .int (bI (iz || bz))), (9, .int (nI (bgN (lT x) (fun i => szN (lT x i)) (q % 5) (q / 5) * 10 ^ (szN (lT x k) - p % 5) + lT x k % 10 ^ (szN (lT x k) - p % 5)))), (8, .int (nI (lT x k % 10 ^ (szN (lT x k) - p % 5) + 10 ^ (szN (lT x k) - p % 5)))), (7, .int (nI (szN (lT x k) - p % 5))), (6, .int (nI k)), (5, .int (nI (bgN (lT x) (fun i => szN (lT x i)) (q % 5) (q / 5)))), (4, .int (nI (bgN (lT x) (fun i => szN (lT x i)) (p % 5) (p / 5)))), (0, .ref (h 21)), (1, .ref (h 30)), (2, .int (nI p)), (3, .int (nI q))]) cx 145 rfl dL_isIn_142 1 rfl (nI_inc i 1) (by decide) rfl ?_
                      refine V_goto cx 115 dL_isIn_145 (by decide) ?_
                      refine V.locs [0, 1, 2, 3, 4, 5, 6, 7, 8, 9, 10, 11] rfl ?_
                      exact ih_115 (i + 1) (iz || bz) (by omega) (by rw [hiz, hbz]; rfl) (by omega)
                    refine V_iload cx 125 rfl dL_isIn_123 1 rfl ?_
                    refine V_aload_n cx 126 rfl dL_isIn_125 8 rfl ?_
                    refine V_iload cx 128 rfl dL_isIn_126 0 rfl ?_
                    refine V_ialdN cx i (rfl) (by omega) (by decide) 0 rfl 129 rfl dL_isIn_128 ?_
                    refine V_toi (nI (lT x i)) (hq.1 i n_120) ?_
                    refine V_iload cx 131 rfl dL_isIn_129 2 rfl ?_
                    refine V_icmp_ne cx 134 138 rfl dL_isIn_131 (by decide) (fun c_131 => ?_) (fun c_131 => ?_)
                    · skip
                      have hib := hok.t n_120
                      have n_131 : lT x i ≠ bgN (lT x) (fun i => szN (lT x i)) (q % 5) (q / 5) * 10 ^ (szN (lT x k) - p % 5) + lT x k % 10 ^ (szN (lT x k) - p % 5) := N_ne_t (by omega) (by omega) c_131
                      refine V_iconst (v := nI 0) cx 139 rfl dL_isIn_138 (by decide) ?_
                      refine V.locs [0, 1, 2, 3, 4, 5, 6, 7, 8, 9, 10, 11] rfl ?_
                      exact join_139 false (by first | exact (decide_eq_true n_131).symm | exact (decide_eq_false n_131).symm)
                    · skip
                      have hib := hok.t n_120
                      have n_131 : lT x i = bgN (lT x) (fun i => szN (lT x i)) (q % 5) (q / 5) * 10 ^ (szN (lT x k) - p % 5) + lT x k % 10 ^ (szN (lT x k) - p % 5) := N_ne_f (by omega) (by omega) c_131
                      refine V_iconst (v := nI 1) cx 135 rfl dL_isIn_134 (by decide) ?_
                      refine V_goto cx 139 dL_isIn_135 (by decide) ?_
                      refine V.locs [0, 1, 2, 3, 4, 5, 6, 7, 8, 9, 10, 11] rfl ?_
                      exact join_139 true (by first | exact (decide_eq_true n_131).symm | exact (decide_eq_false n_131).symm)
              refine V.locs [0, 1, 2, 3, 4, 5, 6, 7, 8, 9, 10, 11] rfl ?_
              exact loop_115 _ 0 false (by omega) (by rfl) (Nat.lt_succ_self _)
            · skip
              have n_70 : bgN (lT x) (fun i => szN (lT x i)) (p % 5) k ≠ bgN (lT x) (fun i => szN (lT x i)) (p % 5) (p / 5) := N_eq_f (by omega) (by omega) c_70
              refine V_goto cx 155 dL_isIn_73 (by decide) ?_
              refine V_iinc (v := nI (k + 1)) (lc1 := [(6, .int (nI (k + 1))), (7, .int (nI (szN (lT x k) - p % 5))), (5, .int (nI (bgN (lT x) (fun i => szN (lT x i)) (q % 5) (q / 5)))), (4, .int (nI (bgN (lT x) (fun i => szN (lT x i)) (p % 5) (p / 5)))), (0, .ref (h 21)), (1, .ref (h 30)), (2, .int (nI p)), (3, .int (nI q))]) cx 158 rfl dL_isIn_155 1 rfl (nI_inc k 1) (by decide) rfl ?_
              refine V_goto cx 31 dL_isIn_158 (by decide) ?_
              refine V.locs [0, 2, 3, 4, 5, 6, 7] rfl ?_
              have kin := inR_s hin (fun h9 => absurd h9.2 n_70)
              exact ih_31 (k + 1) (by omega) (by exact kin) (by omega)
  refine V.locs [0, 1, 2, 3, 4, 5, 6] rfl ?_
  exact loop_31 _ 0 (by omega) (by rfl) (Nat.lt_succ_self _)
set_option maxHeartbeats 4000000 in
set_option maxRecDepth 100000 in
theorem kL_nodes (l : Launch) (lo : Nat) (G : vG) (rs : va_W) (h : Nat → Nat) (qt : Nat → Int32) (qc : Nat → Int32) (qf : Nat → Int32) (qb : Nat → Int32) (ql : Nat → Int32) (qa : Nat → Int64) (qd : Nat → Int64) (qw : Nat → Int64) (qh : Nat → Int32) (qg : Nat → Int32) (x : LX) (hok : lxOK x) (hq : LQ x qt qc qf qb ql) (hg0 : qg 0 = nI (lNp x)) : Mi l yL_nodes (.code yL_nodes method_29_code 6 (some .int)) 4 0 0 lo G [.ref (h 21), .ref (h 30)] (lW G h qt qc qf qb ql qa qd qw qh qg ++ rs) (fun (r : Int32) (_ : Unit) => r = nI (nodesM (lT x) (fun i => szN (lT x i)) (lNp x) (lNp x))) (fun (_ : Unit) => lW G h qt qc qf qb ql qa qd qw qh qg ++ rs) := by
  refine Mi_of (lc := [(0, .ref (h 21)), (1, .ref (h 30))]) (by decide +kernel) (Nat.le_of_ble_eq_true rfl) rfl ?_
  intro X cx hXR hXl hr hin
  subst hXl
  have hX := RmX.of hXR
  have hn16 := hok.1
  refine V_iconst (v := nI 0) cx 1 rfl dL_nodes_0 (by decide) ?_
  refine V_istore_n (lc1 := [(2, .int (nI 0)), (0, .ref (h 21)), (1, .ref (h 30))]) cx 2 rfl dL_nodes_1 (by decide) rfl ?_
  refine V_iconst (v := nI 0) cx 3 rfl dL_nodes_2 (by decide) ?_
  refine V_istore_n (lc1 := [(3, .int (nI 0)), (2, .int (nI 0)), (0, .ref (h 21)), (1, .ref (h 30))]) cx 4 rfl dL_nodes_3 (by decide) rfl ?_
  have loop_4 : ∀ (fuel : Nat) (p : Nat) (mny : Nat), (p ≤ 5 * lNp x) → (mny = cntB (lvB (lT x) (fun i => szN (lT x i)) (lNp x)) p) → 5 * lNp x - p < fuel → V X lo 6 G (Qi X lo G (fun (r : Int32) (_ : Unit) => r = nI (nodesM (lT x) (fun i => szN (lT x i)) (lNp x) (lNp x))) (fun (_ : Unit) => lW G h qt qc qf qb ql qa qd qw qh qg ++ rs) 0 0) 0 0 (lW G h qt qc qf qb ql qa qd qw qh qg ++ rs) [(3, .int (nI p)), (2, .int (nI mny)), (0, .ref (h 21)), (1, .ref (h 30))] [] 4 := by
    intro fuel
    induction fuel with
    | zero => intro p mny hp hmn hmz; exact absurd hmz (Nat.not_lt_zero _)
    | succ fuel ih_4 =>
      intro p mny hp hmn hmz_4
      refine V_iload_n cx 5 rfl dL_nodes_4 0 rfl ?_
      refine V_iconst (v := nI 5) cx 6 rfl dL_nodes_5 (by decide) ?_
      refine V_aload_n cx 7 rfl dL_nodes_6 3 rfl ?_
      refine V_iconst (v := nI 0) cx 8 rfl dL_nodes_7 (by decide) ?_
      refine V_ialdN cx 0 (rfl) (by omega) (by decide) 9 rfl 9 rfl dL_nodes_8 ?_
      refine V_toi (nI (lNp x)) (hg0) ?_
      refine V_imul cx 10 rfl dL_nodes_9 ?_
      refine V_toi (nI (5 * (lNp x))) (nI_mulN _ _) ?_
      refine V_icmp_ge cx 13 117 rfl dL_nodes_10 (by decide) (fun c_10 => ?_) (fun c_10 => ?_)
      · skip
        have n_10 : p ≥ 5 * (lNp x) := N_ge_t (by omega) (by omega) c_10
        refine V_iload_n cx 118 rfl dL_nodes_117 1 rfl ?_
        exact V_ireturn cx hr () (by rw [hmn, show p = 5 * lNp x by omega]; exact congrArg nI (lv_nodes (fun k hk => ⟨(hok.2.2.1 k hk).2.2.1, (hok.2.2.1 k hk).2.2.2⟩) (fun k hk => (hok.2.2.1 k hk).2.1) (lNp x) (Nat.le_refl _))) rfl (by omega) (by omega) dL_nodes_118
      · skip
        have n_10 : p < 5 * (lNp x) := N_ge_f (by omega) (by omega) c_10
        have hp1 : p / 5 < lNp x := by omega
        obtain ⟨p1, p2, p3, p4⟩ := hok.2.2.1 (p / 5) hp1
        have p5 := ld_bd (Nat.le_refl _) p4
        refine V_iload_n cx 14 rfl dL_nodes_13 0 rfl ?_
        refine V_iconst (v := nI 5) cx 15 rfl dL_nodes_14 (by decide) ?_
        refine V_irem cx 16 rfl dL_nodes_15 (by decide) ?_
        refine V_toi (nI (p % 5)) (nI_mod (by omega) (by omega)) ?_
        refine V_aload_n cx 17 rfl dL_nodes_16 2 rfl ?_
        refine V_iload_n cx 18 rfl dL_nodes_17 0 rfl ?_
        refine V_iconst (v := nI 5) cx 19 rfl dL_nodes_18 (by decide) ?_
        refine V_idiv cx 20 rfl dL_nodes_19 (by decide) ?_
        refine V_toi (nI (p / 5)) (nI_div (by omega) (by omega)) ?_
        refine V_ialdN cx (p / 5) (rfl) (by omega) (by decide) 0 rfl 21 rfl dL_nodes_20 ?_
        refine V_toi (nI (lT x (p / 5))) (hq.1 _ hp1) ?_
        refine KL_59 (As := [.int (nI (lT x (p / 5)))]) (rest := [.int (nI (p % 5))]) cx (kL_size (xl X) lo G _ (lT x (p / 5)) (szN (lT x (p / 5))) p3 p5 (by omega)) hX (by omega) rfl rfl (Nat.le_of_ble_eq_true rfl) 24 0 0 rfl rfl rfl (by omega) (by omega) dL_nodes_21 (fun r_1 u_2 hw_3 => ?_)
        try dsimp only at hw_3
        subst hw_3
        refine V_icmp_le cx 27 30 rfl dL_nodes_24 (by decide) (fun c_24 => ?_) (fun c_24 => ?_)
        · skip
          have n_24 : p % 5 ≤ szN (lT x (p / 5)) := N_le_t (by omega) (by omega) c_24
          refine V_iconst (v := nI 1) cx 31 rfl dL_nodes_30 (by decide) ?_
          refine V_istore (lc1 := [(4, .int (nI 1)), (3, .int (nI p)), (2, .int (nI mny)), (0, .ref (h 21)), (1, .ref (h 30))]) cx 33 rfl dL_nodes_31 (by decide) rfl ?_
          refine V_iconst (v := nI 0) cx 34 rfl dL_nodes_33 (by decide) ?_
          refine V_istore (lc1 := [(5, .int (nI 0)), (4, .int (nI 1)), (3, .int (nI p)), (2, .int (nI mny)), (0, .ref (h 21)), (1, .ref (h 30))]) cx 36 rfl dL_nodes_34 (by decide) rfl ?_
          have loop_36 : ∀ (fuel : Nat) (q : Nat) (fz : Bool), (q ≤ p) → (fz = frL (lvR (lT x) (fun i => szN (lT x i)) (lNp x)) (lvV (fun i => szN (lT x i))) p q) → p - q < fuel → V X lo 6 G (Qi X lo G (fun (r : Int32) (_ : Unit) => r = nI (nodesM (lT x) (fun i => szN (lT x i)) (lNp x) (lNp x))) (fun (_ : Unit) => lW G h qt qc qf qb ql qa qd qw qh qg ++ rs) 0 0) 0 0 (lW G h qt qc qf qb ql qa qd qw qh qg ++ rs) [(5, .int (nI q)), (4, .int (bI fz)), (3, .int (nI p)), (2, .int (nI mny)), (0, .ref (h 21)), (1, .ref (h 30))] [] 36 := by
            intro fuel
            induction fuel with
            | zero => intro q fz hq0 hfz hmz; exact absurd hmz (Nat.not_lt_zero _)
            | succ fuel ih_36 =>
              intro q fz hq0 hfz hmz_36
              refine V_iload cx 38 rfl dL_nodes_36 0 rfl ?_
              refine V_iload_n cx 39 rfl dL_nodes_38 2 rfl ?_
              refine V_icmp_ge cx 42 98 rfl dL_nodes_39 (by decide) (fun c_39 => ?_) (fun c_39 => ?_)
              · skip
                have n_39 : q ≥ p := N_ge_t (by omega) (by omega) c_39
                have hfp : frL (lvR (lT x) (fun i => szN (lT x i)) (lNp x)) (lvV (fun i => szN (lT x i))) p p = fz := by rw [hfz, show q = p by omega]
                refine V_iload_n cx 99 rfl dL_nodes_98 3 rfl ?_
                refine V_iload cx 101 rfl dL_nodes_99 1 rfl ?_
                refine V_if_eq cx 104 108 rfl dL_nodes_101 (by decide) (fun c_101 => ?_) (fun c_101 => ?_)
                · skip
                  have n_101 := B_eq_t c_101
                  refine V_iconst (v := nI 0) cx 109 rfl dL_nodes_108 (by decide) ?_
                  refine V_iadd cx 110 rfl dL_nodes_109 ?_
                  refine V_toi (nI mny) (nI_add _ _) ?_
                  refine V_istore_n (lc1 := [(2, .int (nI mny)), (5, .int (nI q)), (4, .int (bI fz)), (3, .int (nI p)), (0, .ref (h 21)), (1, .ref (h 30))]) cx 111 rfl dL_nodes_110 (by decide) rfl ?_
                  refine V_iinc (v := nI (p + 1)) (lc1 := [(3, .int (nI (p + 1))), (2, .int (nI mny)), (5, .int (nI q)), (4, .int (bI fz)), (0, .ref (h 21)), (1, .ref (h 30))]) cx 114 rfl dL_nodes_111 3 rfl (nI_inc p 1) (by decide) rfl ?_
                  refine V_goto cx 4 dL_nodes_114 (by decide) ?_
                  refine V.locs [0, 1, 4, 5] rfl ?_
                  have hB : lvB (lT x) (fun i => szN (lT x i)) (lNp x) p = false := by unfold lvB; rw [show lvV (fun i => szN (lT x i)) p = true from decide_eq_true (by dsimp only; omega), hfp, n_101]; rfl
                  have kmn : mny = cntB (lvB (lT x) (fun i => szN (lT x i)) (lNp x)) (p + 1) := by
                    show _ = cntB (lvB (lT x) (fun i => szN (lT x i)) (lNp x)) p + (if lvB (lT x) (fun i => szN (lT x i)) (lNp x) p = true then 1 else 0)
                    rw [hB, hmn]
                    rfl
                  exact ih_4 (p + 1) mny (by omega) (by exact kmn) (by omega)
                · skip
                  have n_101 := B_eq_f c_101
                  refine V_iconst (v := nI 1) cx 105 rfl dL_nodes_104 (by decide) ?_
                  refine V_goto cx 109 dL_nodes_105 (by decide) ?_
                  refine V_iadd cx 110 rfl dL_nodes_109 ?_
                  refine V_toi (nI (mny + 1)) (nI_add _ _) ?_
                  refine V_istore_n (lc1 := [(2, .int (nI (mny + 1))), (5, .int (nI q)), (4, .int (bI fz)), (3, .int (nI p)), (0, .ref (h 21)), (1, .ref (h 30))]) cx 111 rfl dL_nodes_110 (by decide) rfl ?_
                  refine V_iinc (v := nI (p + 1)) (lc1 := [(3, .int (nI (p + 1))), (2, .int (nI (mny + 1))), (5, .int (nI q)), (4, .int (bI fz)), (0, .ref (h 21)), (1, .ref (h 30))]) cx 114 rfl dL_nodes_111 3 rfl (nI_inc p 1) (by decide) rfl ?_
                  refine V_goto cx 4 dL_nodes_114 (by decide) ?_
                  refine V.locs [0, 1, 4, 5] rfl ?_
                  have hB : lvB (lT x) (fun i => szN (lT x i)) (lNp x) p = true := by unfold lvB; rw [show lvV (fun i => szN (lT x i)) p = true from decide_eq_true (by dsimp only; omega), hfp, n_101]; rfl
                  have kmn : mny + 1 = cntB (lvB (lT x) (fun i => szN (lT x i)) (lNp x)) (p + 1) := by
                    show _ = cntB (lvB (lT x) (fun i => szN (lT x i)) (lNp x)) p + (if lvB (lT x) (fun i => szN (lT x i)) (lNp x) p = true then 1 else 0)
                    rw [hB, hmn]
                    rfl
                  exact ih_4 (p + 1) (mny + 1) (by omega) (by exact kmn) (by omega)
              · skip
                have n_39 : q < p := N_ge_f (by omega) (by omega) c_39
                refine V_iload cx 44 rfl dL_nodes_42 1 rfl ?_
                refine V_if_eq cx 47 98 rfl dL_nodes_44 (by decide) (fun c_44 => ?_) (fun c_44 => ?_)
                · skip
                  have n_44 := B_eq_t c_44
                  have hfp : frL (lvR (lT x) (fun i => szN (lT x i)) (lNp x)) (lvV (fun i => szN (lT x i))) p p = fz := by rw [n_44]; exact frL_f hq0 (hfz.symm.trans n_44)
                  refine V_iload_n cx 99 rfl dL_nodes_98 3 rfl ?_
                  refine V_iload cx 101 rfl dL_nodes_99 1 rfl ?_
                  refine V_if_eq cx 104 108 rfl dL_nodes_101 (by decide) (fun c_101 => ?_) (fun c_101 => ?_)
                  · skip
                    have n_101 := B_eq_t c_101
                    refine V_iconst (v := nI 0) cx 109 rfl dL_nodes_108 (by decide) ?_
                    refine V_iadd cx 110 rfl dL_nodes_109 ?_
                    refine V_toi (nI mny) (nI_add _ _) ?_
                    refine V_istore_n (lc1 := [(2, .int (nI mny)), (5, .int (nI q)), (4, .int (bI fz)), (3, .int (nI p)), (0, .ref (h 21)), (1, .ref (h 30))]) cx 111 rfl dL_nodes_110 (by decide) rfl ?_
                    refine V_iinc (v := nI (p + 1)) (lc1 := [(3, .int (nI (p + 1))), (2, .int (nI mny)), (5, .int (nI q)), (4, .int (bI fz)), (0, .ref (h 21)), (1, .ref (h 30))]) cx 114 rfl dL_nodes_111 3 rfl (nI_inc p 1) (by decide) rfl ?_
                    refine V_goto cx 4 dL_nodes_114 (by decide) ?_
                    refine V.locs [0, 1, 4, 5] rfl ?_
                    have hB : lvB (lT x) (fun i => szN (lT x i)) (lNp x) p = false := by unfold lvB; rw [show lvV (fun i => szN (lT x i)) p = true from decide_eq_true (by dsimp only; omega), hfp, n_101]; rfl
                    have kmn : mny = cntB (lvB (lT x) (fun i => szN (lT x i)) (lNp x)) (p + 1) := by
                      show _ = cntB (lvB (lT x) (fun i => szN (lT x i)) (lNp x)) p + (if lvB (lT x) (fun i => szN (lT x i)) (lNp x) p = true then 1 else 0)
                      rw [hB, hmn]
                      rfl
                    exact ih_4 (p + 1) mny (by omega) (by exact kmn) (by omega)
                  · skip
                    have n_101 := B_eq_f c_101
                    refine V_iconst (v := nI 1) cx 105 rfl dL_nodes_104 (by decide) ?_
                    refine V_goto cx 109 dL_nodes_105 (by decide) ?_
                    refine V_iadd cx 110 rfl dL_nodes_109 ?_
                    refine V_toi (nI (mny + 1)) (nI_add _ _) ?_
                    refine V_istore_n (lc1 := [(2, .int (nI (mny + 1))), (5, .int (nI q)), (4, .int (bI fz)), (3, .int (nI p)), (0, .ref (h 21)), (1, .ref (h 30))]) cx 111 rfl dL_nodes_110 (by decide) rfl ?_
                    refine V_iinc (v := nI (p + 1)) (lc1 := [(3, .int (nI (p + 1))), (2, .int (nI (mny + 1))), (5, .int (nI q)), (4, .int (bI fz)), (0, .ref (h 21)), (1, .ref (h 30))]) cx 114 rfl dL_nodes_111 3 rfl (nI_inc p 1) (by decide) rfl ?_
                    refine V_goto cx 4 dL_nodes_114 (by decide) ?_
                    refine V.locs [0, 1, 4, 5] rfl ?_
                    have hB : lvB (lT x) (fun i => szN (lT x i)) (lNp x) p = true := by unfold lvB; rw [show lvV (fun i => szN (lT x i)) p = true from decide_eq_true (by dsimp only; omega), hfp, n_101]; rfl
                    have kmn : mny + 1 = cntB (lvB (lT x) (fun i => szN (lT x i)) (lNp x)) (p + 1) := by
                      show _ = cntB (lvB (lT x) (fun i => szN (lT x i)) (lNp x)) p + (if lvB (lT x) (fun i => szN (lT x i)) (lNp x) p = true then 1 else 0)
                      rw [hB, hmn]
                      rfl
                    exact ih_4 (p + 1) (mny + 1) (by omega) (by exact kmn) (by omega)
                · skip
                  have n_44 := B_eq_f c_44
                  have hq1 : q / 5 < lNp x := by omega
                  obtain ⟨q1, q2, q3, q4⟩ := hok.2.2.1 (q / 5) hq1
                  have q5 := ld_bd (Nat.le_refl _) q4
                  refine V_iload cx 49 rfl dL_nodes_47 0 rfl ?_
                  refine V_iconst (v := nI 5) cx 50 rfl dL_nodes_49 (by decide) ?_
                  refine V_irem cx 51 rfl dL_nodes_50 (by decide) ?_
                  refine V_toi (nI (q % 5)) (nI_mod (by omega) (by omega)) ?_
                  refine V_aload_n cx 52 rfl dL_nodes_51 4 rfl ?_
                  refine V_iload cx 54 rfl dL_nodes_52 0 rfl ?_
                  refine V_iconst (v := nI 5) cx 55 rfl dL_nodes_54 (by decide) ?_
                  refine V_idiv cx 56 rfl dL_nodes_55 (by decide) ?_
                  refine V_toi (nI (q / 5)) (nI_div (by omega) (by omega)) ?_
                  refine V_ialdN cx (q / 5) (rfl) (by omega) (by decide) 0 rfl 57 rfl dL_nodes_56 ?_
                  refine V_toi (nI (lT x (q / 5))) (hq.1 _ hq1) ?_
                  refine KL_59 (As := [.int (nI (lT x (q / 5)))]) (rest := [.int (nI (q % 5))]) cx (kL_size (xl X) lo G _ (lT x (q / 5)) (szN (lT x (q / 5))) q3 q5 (by omega)) hX (by omega) rfl rfl (Nat.le_of_ble_eq_true rfl) 60 0 0 rfl rfl rfl (by omega) (by omega) dL_nodes_57 (fun r_4 u_5 hw_6 => ?_)
                  try dsimp only at hw_6
                  subst hw_6
                  refine V_icmp_gt cx 63 92 rfl dL_nodes_60 (by decide) (fun c_60 => ?_) (fun c_60 => ?_)
                  · skip
                    have n_60 : q % 5 > szN (lT x (q / 5)) := N_gt_t (by omega) (by omega) c_60
                    refine V_iinc (v := nI (q + 1)) (lc1 := [(5, .int (nI (q + 1))), (4, .int (bI fz)), (3, .int (nI p)), (2, .int (nI mny)), (0, .ref (h 21)), (1, .ref (h 30))]) cx 95 rfl dL_nodes_92 0 rfl (nI_inc q 1) (by decide) rfl ?_
                    refine V_goto cx 36 dL_nodes_95 (by decide) ?_
                    refine V.locs [0, 1, 2, 3, 4, 5] rfl ?_
                    have kf : fz = frL (lvR (lT x) (fun i => szN (lT x i)) (lNp x)) (lvV (fun i => szN (lT x i))) p (q + 1) := by
                      show _ = (frL (lvR (lT x) (fun i => szN (lT x i)) (lNp x)) (lvV (fun i => szN (lT x i))) p q && !(lvV (fun i => szN (lT x i)) q && (lvR (lT x) (fun i => szN (lT x i)) (lNp x) p q && lvR (lT x) (fun i => szN (lT x i)) (lNp x) q p)))
                      rw [← hfz, n_44]
                      rw [show lvV (fun i => szN (lT x i)) q = false from decide_eq_false (by dsimp only; omega)]
                      rfl
                    exact ih_36 (q + 1) fz (by omega) (by exact kf) (by omega)
                  · skip
                    have n_60 : q % 5 ≤ szN (lT x (q / 5)) := N_gt_f (by omega) (by omega) c_60
                    refine V_aload_n cx 64 rfl dL_nodes_63 4 rfl ?_
                    refine V_aload_n cx 65 rfl dL_nodes_64 5 rfl ?_
                    refine V_iload_n cx 66 rfl dL_nodes_65 2 rfl ?_
                    refine V_iload cx 68 rfl dL_nodes_66 0 rfl ?_
                    refine KL_132 (As := [.ref (h 21), .ref (h 30), .int (nI p), .int (nI q)]) (rest := []) cx (kL_isIn (xl X) lo G _ h qt qc qf qb ql qa qd qw qh qg p q x hok hq hg0 ⟨hp1, n_24⟩ ⟨hq1, n_60⟩ (by omega)) hX (by omega) rfl rfl (Nat.le_of_ble_eq_true rfl) 71 0 0 rfl rfl rfl (by omega) (by omega) dL_nodes_68 (fun r_7 u_8 hw_9 => ?_)
                    try dsimp only at hw_9
                    subst hw_9
                    refine V_if_eq cx 74 85 rfl dL_nodes_71 (by decide) (fun c_71 => ?_) (fun c_71 => ?_)
                    · skip
                      have n_71 := B_eq_t c_71
                      refine V_iconst (v := nI 1) cx 86 rfl dL_nodes_85 (by decide) ?_
                      refine V_goto cx 90 dL_nodes_86 (by decide) ?_
                      refine V_istore (lc1 := [(4, .int (nI 1)), (5, .int (nI q)), (3, .int (nI p)), (2, .int (nI mny)), (0, .ref (h 21)), (1, .ref (h 30))]) cx 92 rfl dL_nodes_90 (by decide) rfl ?_
                      refine V_iinc (v := nI (q + 1)) (lc1 := [(5, .int (nI (q + 1))), (4, .int (nI 1)), (3, .int (nI p)), (2, .int (nI mny)), (0, .ref (h 21)), (1, .ref (h 30))]) cx 95 rfl dL_nodes_92 1 rfl (nI_inc q 1) (by decide) rfl ?_
                      refine V_goto cx 36 dL_nodes_95 (by decide) ?_
                      refine V.locs [0, 1, 2, 3, 4, 5] rfl ?_
                      have kf : true = frL (lvR (lT x) (fun i => szN (lT x i)) (lNp x)) (lvV (fun i => szN (lT x i))) p (q + 1) := by
                        show _ = (frL (lvR (lT x) (fun i => szN (lT x i)) (lNp x)) (lvV (fun i => szN (lT x i))) p q && !(lvV (fun i => szN (lT x i)) q && (lvR (lT x) (fun i => szN (lT x i)) (lNp x) p q && lvR (lT x) (fun i => szN (lT x i)) (lNp x) q p)))
                        rw [← hfz, n_44]
                        rw [show lvV (fun i => szN (lT x i)) q = true from decide_eq_true (by dsimp only; omega)]
                        rw [show lvR (lT x) (fun i => szN (lT x i)) (lNp x) p q = false from n_71]
                        rfl
                      exact ih_36 (q + 1) true (by omega) (by exact kf) (by omega)
                    · skip
                      have n_71 := B_eq_f c_71
                      refine V_aload_n cx 75 rfl dL_nodes_74 4 rfl ?_
                      refine V_aload_n cx 76 rfl dL_nodes_75 5 rfl ?_
                      refine V_iload cx 78 rfl dL_nodes_76 0 rfl ?_
                      refine V_iload_n cx 79 rfl dL_nodes_78 2 rfl ?_
                      refine KL_132 (As := [.ref (h 21), .ref (h 30), .int (nI q), .int (nI p)]) (rest := []) cx (kL_isIn (xl X) lo G _ h qt qc qf qb ql qa qd qw qh qg q p x hok hq hg0 ⟨hq1, n_60⟩ ⟨hp1, n_24⟩ (by omega)) hX (by omega) rfl rfl (Nat.le_of_ble_eq_true rfl) 82 0 0 rfl rfl rfl (by omega) (by omega) dL_nodes_79 (fun r_10 u_11 hw_12 => ?_)
                      try dsimp only at hw_12
                      subst hw_12
                      refine V_if_ne cx 85 89 rfl dL_nodes_82 (by decide) (fun c_82 => ?_) (fun c_82 => ?_)
                      · skip
                        have n_82 := B_ne_t c_82
                        refine V_iconst (v := nI 0) cx 90 rfl dL_nodes_89 (by decide) ?_
                        refine V_istore (lc1 := [(4, .int (nI 0)), (5, .int (nI q)), (3, .int (nI p)), (2, .int (nI mny)), (0, .ref (h 21)), (1, .ref (h 30))]) cx 92 rfl dL_nodes_90 (by decide) rfl ?_
                        refine V_iinc (v := nI (q + 1)) (lc1 := [(5, .int (nI (q + 1))), (4, .int (nI 0)), (3, .int (nI p)), (2, .int (nI mny)), (0, .ref (h 21)), (1, .ref (h 30))]) cx 95 rfl dL_nodes_92 1 rfl (nI_inc q 1) (by decide) rfl ?_
                        refine V_goto cx 36 dL_nodes_95 (by decide) ?_
                        refine V.locs [0, 1, 2, 3, 4, 5] rfl ?_
                        have kf : false = frL (lvR (lT x) (fun i => szN (lT x i)) (lNp x)) (lvV (fun i => szN (lT x i))) p (q + 1) := by
                          show _ = (frL (lvR (lT x) (fun i => szN (lT x i)) (lNp x)) (lvV (fun i => szN (lT x i))) p q && !(lvV (fun i => szN (lT x i)) q && (lvR (lT x) (fun i => szN (lT x i)) (lNp x) p q && lvR (lT x) (fun i => szN (lT x i)) (lNp x) q p)))
                          rw [← hfz, n_44]
                          rw [show lvV (fun i => szN (lT x i)) q = true from decide_eq_true (by dsimp only; omega)]
                          rw [show lvR (lT x) (fun i => szN (lT x i)) (lNp x) p q = true from n_71]
                          rw [show lvR (lT x) (fun i => szN (lT x i)) (lNp x) q p = true from n_82]
                          rfl
                        exact ih_36 (q + 1) false (by omega) (by exact kf) (by omega)
                      · skip
                        have n_82 := B_ne_f c_82
                        refine V_iconst (v := nI 1) cx 86 rfl dL_nodes_85 (by decide) ?_
                        refine V_goto cx 90 dL_nodes_86 (by decide) ?_
                        refine V_istore (lc1 := [(4, .int (nI 1)), (5, .int (nI q)), (3, .int (nI p)), (2, .int (nI mny)), (0, .ref (h 21)), (1, .ref (h 30))]) cx 92 rfl dL_nodes_90 (by decide) rfl ?_
                        refine V_iinc (v := nI (q + 1)) (lc1 := [(5, .int (nI (q + 1))), (4, .int (nI 1)), (3, .int (nI p)), (2, .int (nI mny)), (0, .ref (h 21)), (1, .ref (h 30))]) cx 95 rfl dL_nodes_92 1 rfl (nI_inc q 1) (by decide) rfl ?_
                        refine V_goto cx 36 dL_nodes_95 (by decide) ?_
                        refine V.locs [0, 1, 2, 3, 4, 5] rfl ?_
                        have kf : true = frL (lvR (lT x) (fun i => szN (lT x i)) (lNp x)) (lvV (fun i => szN (lT x i))) p (q + 1) := by
                          show _ = (frL (lvR (lT x) (fun i => szN (lT x i)) (lNp x)) (lvV (fun i => szN (lT x i))) p q && !(lvV (fun i => szN (lT x i)) q && (lvR (lT x) (fun i => szN (lT x i)) (lNp x) p q && lvR (lT x) (fun i => szN (lT x i)) (lNp x) q p)))
                          rw [← hfz, n_44]
                          rw [show lvV (fun i => szN (lT x i)) q = true from decide_eq_true (by dsimp only; omega)]
                          rw [show lvR (lT x) (fun i => szN (lT x i)) (lNp x) p q = true from n_71]
                          rw [show lvR (lT x) (fun i => szN (lT x i)) (lNp x) q p = false from n_82]
                          rfl
                        exact ih_36 (q + 1) true (by omega) (by exact kf) (by omega)
          refine V.locs [0, 1, 2, 3, 4, 5] rfl ?_
          exact loop_36 _ 0 true (by omega) (by rfl) (Nat.lt_succ_self _)
        · skip
          have n_24 : p % 5 > szN (lT x (p / 5)) := N_le_f (by omega) (by omega) c_24
          refine V_goto cx 111 dL_nodes_27 (by decide) ?_
          refine V_iinc (v := nI (p + 1)) (lc1 := [(3, .int (nI (p + 1))), (2, .int (nI mny)), (0, .ref (h 21)), (1, .ref (h 30))]) cx 114 rfl dL_nodes_111 0 rfl (nI_inc p 1) (by decide) rfl ?_
          refine V_goto cx 4 dL_nodes_114 (by decide) ?_
          refine V.locs [0, 1, 2, 3] rfl ?_
          have hB : lvB (lT x) (fun i => szN (lT x i)) (lNp x) p = false := by unfold lvB; rw [show lvV (fun i => szN (lT x i)) p = false from decide_eq_false (by dsimp only; omega)]; rfl
          have kmn : mny = cntB (lvB (lT x) (fun i => szN (lT x i)) (lNp x)) (p + 1) := by
            show _ = cntB (lvB (lT x) (fun i => szN (lT x i)) (lNp x)) p + (if lvB (lT x) (fun i => szN (lT x i)) (lNp x) p = true then 1 else 0)
            rw [hB, hmn]
            rfl
          exact ih_4 (p + 1) mny (by omega) (by exact kmn) (by omega)
  refine V.locs [0, 1, 2, 3] rfl ?_
  exact loop_4 _ 0 0 (by omega) (by rfl) (Nat.lt_succ_self _)
