theorem cS_le (x : LX) (l : SP) : cS x l ≤ 158 * l.length := kS_le _ _ (fun _ => ko_le _) _
set_option maxHeartbeats 4000000 in
set_option maxRecDepth 100000 in
theorem kL_isAhead (l : Launch) (lo : Nat) (G : vG) (rs : va_W) (h : Nat → Nat) (qt : Nat → Int32) (qc : Nat → Int32) (qf : Nat → Int32) (qb : Nat → Int32) (ql : Nat → Int32) (qa : Nat → Int64) (qd : Nat → Int64) (qw : Nat → Int64) (qh : Nat → Int32) (qg : Nat → Int32) (K1 : Nat) (K2 : Nat) (s1 : SP) (s2 : SP) (x : LX) (L : Nat) (dd : Nat → Nat) (hK1 : K1 = aK s1) (hK2 : K2 = aK s2) (hok : lxOK x) (hq : LQ x qt qc qf qb ql) (hL : L ≤ 7) (hd : ∀ k, dd k ≤ 9) (hv1 : valS x L dd s1 0 none) (hv2 : valS x L dd s2 0 none) : Mi l yL_isAhead (.code yL_isAhead method_24_code 11 (some .boolean)) 3 0 0 lo G [.long (lN K1), .long (lN K2), .ref (h 21), .ref (h 22)] (lW G h qt qc qf qb ql qa qd qw qh qg ++ rs) (fun (r : Int32) (_ : Unit) => r = bI (decide (ckl x s1 < ckl x s2))) (fun (_ : Unit) => lW G h qt qc qf qb ql qa qd qw qh qg ++ rs) := by
  refine Mi_of (lc := [(0, .long (lN K1)), (2, .long (lN K2)), (4, .ref (h 21)), (5, .ref (h 22))]) (by decide +kernel) (Nat.le_of_ble_eq_true rfl) rfl ?_
  intro X cx hXR hXl hr hin
  subst hXl
  have hX := RmX.of hXR
  have hs1 := valS_spOK hok hd hv1
  have hs2 := valS_spOK hok hd hv2
  have hb1 := hs1.b hok
  have hb2 := hs2.b hok
  have hl1 := valS_len s1 0 none hv1
  have hl2 := valS_len s2 0 none hv2
  have hn1 := cS_le x s1
  have hn2 := cS_le x s2
  refine V_lload_n cx 1 rfl dL_isAhead_0 0 rfl ?_
  refine V_aload cx 3 rfl dL_isAhead_1 3 rfl ?_
  refine KL_80 (As := [.long (lN K1), .ref (h 22)]) (rest := []) cx (kL_costOf (xl X) lo G _ h qt qc qf qb ql qa qd qw qh qg K1 s1 x hK1 hok hs1 (by omega) hq (by omega)) hX (by omega) rfl rfl (Nat.le_of_ble_eq_true rfl) 6 0 0 rfl rfl rfl (by omega) (by omega) dL_isAhead_3 (fun r_1 u_2 hw_3 => ?_)
  try dsimp only at hw_3
  subst hw_3
  refine V_istore (lc1 := [(6, .int (nI (cS x s1 - 15))), (0, .long (lN K1)), (2, .long (lN K2)), (4, .ref (h 21)), (5, .ref (h 22))]) cx 8 rfl dL_isAhead_6 (by decide) rfl ?_
  refine V_lload_n cx 9 rfl dL_isAhead_8 2 rfl ?_
  refine V_aload cx 11 rfl dL_isAhead_9 4 rfl ?_
  refine KL_80 (As := [.long (lN K2), .ref (h 22)]) (rest := []) cx (kL_costOf (xl X) lo G _ h qt qc qf qb ql qa qd qw qh qg K2 s2 x hK2 hok hs2 (by omega) hq (by omega)) hX (by omega) rfl rfl (Nat.le_of_ble_eq_true rfl) 14 0 0 rfl rfl rfl (by omega) (by omega) dL_isAhead_11 (fun r_4 u_5 hw_6 => ?_)
  try dsimp only at hw_6
  subst hw_6
  refine V_istore (lc1 := [(7, .int (nI (cS x s2 - 15))), (6, .int (nI (cS x s1 - 15))), (0, .long (lN K1)), (2, .long (lN K2)), (4, .ref (h 21)), (5, .ref (h 22))]) cx 16 rfl dL_isAhead_14 (by decide) rfl ?_
  refine V_iload cx 18 rfl dL_isAhead_16 1 rfl ?_
  refine V_iload cx 20 rfl dL_isAhead_18 0 rfl ?_
  refine V_icmp_eq cx 23 36 rfl dL_isAhead_20 (by decide) (fun c_20 => ?_) (fun c_20 => ?_)
  · skip
    have n_20 : cS x s1 - 15 = cS x s2 - 15 := N_eq_t (by omega) (by omega) c_20
    refine V_lload_n cx 37 rfl dL_isAhead_36 2 rfl ?_
    refine KL_67 (As := [.long (lN K1)]) (rest := []) cx (kL_parts (xl X) lo G _ K1 s1 hK1 hb1 (by omega)) hX (by omega) rfl rfl (Nat.le_of_ble_eq_true rfl) 40 0 0 rfl rfl rfl (by omega) (by omega) dL_isAhead_37 (fun r_7 u_8 hw_9 => ?_)
    try dsimp only at hw_9
    subst hw_9
    refine V_lload_n cx 41 rfl dL_isAhead_40 3 rfl ?_
    refine KL_67 (As := [.long (lN K2)]) (rest := [.int (nI s1.length)]) cx (kL_parts (xl X) lo G _ K2 s2 hK2 hb2 (by omega)) hX (by omega) rfl rfl (Nat.le_of_ble_eq_true rfl) 44 0 0 rfl rfl rfl (by omega) (by omega) dL_isAhead_41 (fun r_10 u_11 hw_12 => ?_)
    try dsimp only at hw_12
    subst hw_12
    refine V_icmp_eq cx 47 64 rfl dL_isAhead_44 (by decide) (fun c_44 => ?_) (fun c_44 => ?_)
    · skip
      have n_44 : s1.length = s2.length := N_eq_t (by omega) (by omega) c_44
      refine V_iconst (v := nI 0) cx 65 rfl dL_isAhead_64 (by decide) ?_
      refine V_istore (lc1 := [(8, .int (nI 0)), (7, .int (nI (cS x s2 - 15))), (6, .int (nI (cS x s1 - 15))), (0, .long (lN K1)), (2, .long (lN K2)), (4, .ref (h 21)), (5, .ref (h 22))]) cx 67 rfl dL_isAhead_65 (by decide) rfl ?_
      have loop_67 : ∀ (fuel : Nat) (k : Nat), (k ≤ s1.length) → (∀ j, j < k → spO s1 j = spO s2 j ∧ spP s1 j = spP s2 j) → s1.length - k < fuel → V X lo 11 G (Qi X lo G (fun (r : Int32) (_ : Unit) => r = bI (decide (ckl x s1 < ckl x s2))) (fun (_ : Unit) => lW G h qt qc qf qb ql qa qd qw qh qg ++ rs) 0 0) 0 0 (lW G h qt qc qf qb ql qa qd qw qh qg ++ rs) [(8, .int (nI k)), (7, .int (nI (cS x s2 - 15))), (6, .int (nI (cS x s1 - 15))), (0, .long (lN K1)), (2, .long (lN K2)), (4, .ref (h 21)), (5, .ref (h 22))] [] 67 := by
        intro fuel
        induction fuel with
        | zero => intro k hk hp hmz; exact absurd hmz (Nat.not_lt_zero _)
        | succ fuel ih_67 =>
          intro k hk hp hmz_67
          refine V_iload cx 69 rfl dL_isAhead_67 0 rfl ?_
          refine V_lload_n cx 70 rfl dL_isAhead_69 3 rfl ?_
          refine KL_67 (As := [.long (lN K1)]) (rest := [.int (nI k)]) cx (kL_parts (xl X) lo G _ K1 s1 hK1 hb1 (by omega)) hX (by omega) rfl rfl (Nat.le_of_ble_eq_true rfl) 73 0 0 rfl rfl rfl (by omega) (by omega) dL_isAhead_70 (fun r_13 u_14 hw_15 => ?_)
          try dsimp only at hw_15
          subst hw_15
          refine V_icmp_ge cx 76 168 rfl dL_isAhead_73 (by decide) (fun c_73 => ?_) (fun c_73 => ?_)
          · skip
            have n_73 : k ≥ s1.length := N_ge_t (by omega) (by omega) c_73
            refine V_iconst (v := nI 0) cx 169 rfl dL_isAhead_168 (by decide) ?_
            exact V_zreturn cx hr (by first | rfl | exact bI_z _) () (bI_f (ord_end hv1 hv2 (by omega) (fun j hj => hp j (by omega)))) rfl (by omega) (by omega) dL_isAhead_169
          · skip
            have n_73 : k < s1.length := N_ge_f (by omega) (by omega) c_73
            obtain ⟨p1, -⟩ := hs1 k (by omega)
            obtain ⟨p2, -⟩ := hs2 k (by omega)
            have p3 := hok.1
            have q1 := bt2_bd (y := s1.getD k (0, 0)) (show spP s1 k < 16 by omega)
            have r1 : bt2 (s1.getD k (0, 0)) / 8 = spP s1 k + 1 ∧ bt2 (s1.getD k (0, 0)) % 8 = spO s1 k % 7 := bt2_p
            have q2 := bt2_bd (y := s2.getD k (0, 0)) (show spP s2 k < 16 by omega)
            have r2 : bt2 (s2.getD k (0, 0)) / 8 = spP s2 k + 1 ∧ bt2 (s2.getD k (0, 0)) % 8 = spO s2 k % 7 := bt2_p
            refine V_lload_n cx 77 rfl dL_isAhead_76 3 rfl ?_
            refine V_iload cx 79 rfl dL_isAhead_77 0 rfl ?_
            refine KL_84 (As := [.long (lN K1), .int (nI k)]) (rest := []) cx (kL_at (xl X) lo G _ K1 k s1 hK1 hb1 (by omega) (by omega)) hX (by omega) rfl rfl (Nat.le_of_ble_eq_true rfl) 82 0 0 rfl rfl rfl (by omega) (by omega) dL_isAhead_79 (fun r_16 u_17 hw_18 => ?_)
            try dsimp only at hw_18
            subst hw_18
            refine V_toi (nI (bt2 (s1.getD k (0, 0)))) (if_pos (by omega)) ?_
            refine V_istore (lc1 := [(9, .int (nI (bt2 (s1.getD k (0, 0))))), (8, .int (nI k)), (7, .int (nI (cS x s2 - 15))), (6, .int (nI (cS x s1 - 15))), (0, .long (lN K1)), (2, .long (lN K2)), (4, .ref (h 21)), (5, .ref (h 22))]) cx 84 rfl dL_isAhead_82 (by decide) rfl ?_
            refine V_lload_n cx 85 rfl dL_isAhead_84 5 rfl ?_
            refine V_iload cx 87 rfl dL_isAhead_85 1 rfl ?_
            refine KL_84 (As := [.long (lN K2), .int (nI k)]) (rest := []) cx (kL_at (xl X) lo G _ K2 k s2 hK2 hb2 (by omega) (by omega)) hX (by omega) rfl rfl (Nat.le_of_ble_eq_true rfl) 90 0 0 rfl rfl rfl (by omega) (by omega) dL_isAhead_87 (fun r_19 u_20 hw_21 => ?_)
            try dsimp only at hw_21
            subst hw_21
            refine V_toi (nI (bt2 (s2.getD k (0, 0)))) (if_pos (by omega)) ?_
            refine V_istore (lc1 := [(10, .int (nI (bt2 (s2.getD k (0, 0))))), (9, .int (nI (bt2 (s1.getD k (0, 0))))), (8, .int (nI k)), (7, .int (nI (cS x s2 - 15))), (6, .int (nI (cS x s1 - 15))), (0, .long (lN K1)), (2, .long (lN K2)), (4, .ref (h 21)), (5, .ref (h 22))]) cx 92 rfl dL_isAhead_90 (by decide) rfl ?_
            refine V_iload cx 94 rfl dL_isAhead_92 1 rfl ?_
            refine V_iconst (v := nI 3) cx 95 rfl dL_isAhead_94 (by decide) ?_
            refine V_ishr cx 96 rfl dL_isAhead_95 ?_
            refine V_toi (nI (spP s1 k + 1)) ((i_shr (by omega) (by omega)).trans (congrArg nI r1.1)) ?_
            refine V_iload cx 98 rfl dL_isAhead_96 0 rfl ?_
            refine V_iconst (v := nI 3) cx 99 rfl dL_isAhead_98 (by decide) ?_
            refine V_ishr cx 100 rfl dL_isAhead_99 ?_
            refine V_toi (nI (spP s2 k + 1)) ((i_shr (by omega) (by omega)).trans (congrArg nI r2.1)) ?_
            refine V_icmp_eq cx 103 136 rfl dL_isAhead_100 (by decide) (fun c_100 => ?_) (fun c_100 => ?_)
            · skip
              have n_100 : spP s1 k + 1 = spP s2 k + 1 := N_eq_t (by omega) (by omega) c_100
              refine V_iload cx 138 rfl dL_isAhead_136 1 rfl ?_
              refine V_iload cx 140 rfl dL_isAhead_138 0 rfl ?_
              refine V_icmp_eq cx 143 162 rfl dL_isAhead_140 (by decide) (fun c_140 => ?_) (fun c_140 => ?_)
              · skip
                have n_140 : bt2 (s1.getD k (0, 0)) = bt2 (s2.getD k (0, 0)) := N_eq_t (by omega) (by omega) c_140
                refine V_iinc (v := nI (k + 1)) (lc1 := [(8, .int (nI (k + 1))), (10, .int (nI (bt2 (s2.getD k (0, 0))))), (9, .int (nI (bt2 (s1.getD k (0, 0))))), (7, .int (nI (cS x s2 - 15))), (6, .int (nI (cS x s1 - 15))), (0, .long (lN K1)), (2, .long (lN K2)), (4, .ref (h 21)), (5, .ref (h 22))]) cx 165 rfl dL_isAhead_162 2 rfl (nI_inc k 1) (by decide) rfl ?_
                refine V_goto cx 67 dL_isAhead_165 (by decide) ?_
                refine V.locs [0, 3, 4, 5, 6, 7, 8] rfl ?_
                exact ih_67 (k + 1) (by omega) (by exact ord_next hok hd hv1 hv2 n_44 (by omega) hp (by omega) (by omega)) (by omega)
              · skip
                have n_140 : bt2 (s1.getD k (0, 0)) ≠ bt2 (s2.getD k (0, 0)) := N_eq_f (by omega) (by omega) c_140
                refine V_iload cx 145 rfl dL_isAhead_143 1 rfl ?_
                refine V_bipush (v := nI 7) cx 147 rfl dL_isAhead_145 (by decide) ?_
                refine V_iand cx 148 rfl dL_isAhead_147 ?_
                refine V_toi (nI ((bt2 (s1.getD k (0, 0))) &&& 7)) (nI_andN _ _) ?_
                refine V_toi (nI (spO s1 k % 7)) (by rw [show (7 : Nat) = 2 ^ 3 - 1 by decide, Nat.and_two_pow_sub_one_eq_mod]; exact congrArg nI r1.2) ?_
                refine V_iload cx 150 rfl dL_isAhead_148 0 rfl ?_
                refine V_bipush (v := nI 7) cx 152 rfl dL_isAhead_150 (by decide) ?_
                refine V_iand cx 153 rfl dL_isAhead_152 ?_
                refine V_toi (nI ((bt2 (s2.getD k (0, 0))) &&& 7)) (nI_andN _ _) ?_
                refine V_toi (nI (spO s2 k % 7)) (by rw [show (7 : Nat) = 2 ^ 3 - 1 by decide, Nat.and_two_pow_sub_one_eq_mod]; exact congrArg nI r2.2) ?_
                refine V_icmp_ge cx 156 160 rfl dL_isAhead_153 (by decide) (fun c_153 => ?_) (fun c_153 => ?_)
                · skip
                  have n_153 : spO s1 k % 7 ≥ spO s2 k % 7 := N_ge_t (by omega) (by omega) c_153
                  refine V_iconst (v := nI 0) cx 161 rfl dL_isAhead_160 (by decide) ?_
                  exact V_zreturn cx hr (by first | rfl | exact bI_z _) () (bI_f (fun h => absurd ((ord_link hok (by omega) hd hv1 hv2 (by omega) (by omega) (by omega) hp (by omega) (by omega)).mp h) (by omega))) rfl (by omega) (by omega) dL_isAhead_161
                · skip
                  have n_153 : spO s1 k % 7 < spO s2 k % 7 := N_ge_f (by omega) (by omega) c_153
                  refine V_iconst (v := nI 1) cx 157 rfl dL_isAhead_156 (by decide) ?_
                  refine V_goto cx 161 dL_isAhead_157 (by decide) ?_
                  exact V_zreturn cx hr (by first | rfl | exact bI_z _) () (bI_t ((ord_link hok (by omega) hd hv1 hv2 (by omega) (by omega) (by omega) hp (by omega) (by omega)).mpr (by omega))) rfl (by omega) (by omega) dL_isAhead_161
            · skip
              have n_100 : spP s1 k + 1 ≠ spP s2 k + 1 := N_eq_f (by omega) (by omega) c_100
              obtain ⟨t11, t12, t13, t14⟩ := hok.2.2.1 (spP s1 k) p1
              have t15 := ld_bd (Nat.le_refl _) t14
              obtain ⟨t21, t22, t23, t24⟩ := hok.2.2.1 (spP s2 k) p2
              have t25 := ld_bd (Nat.le_refl _) t24
              refine V_aload cx 105 rfl dL_isAhead_103 7 rfl ?_
              refine V_iload cx 107 rfl dL_isAhead_105 1 rfl ?_
              refine V_iconst (v := nI 3) cx 108 rfl dL_isAhead_107 (by decide) ?_
              refine V_ishr cx 109 rfl dL_isAhead_108 ?_
              refine V_toi (nI (spP s1 k + 1)) ((i_shr (by omega) (by omega)).trans (congrArg nI r1.1)) ?_
              refine V_iconst (v := nI 1) cx 110 rfl dL_isAhead_109 (by decide) ?_
              refine V_isub cx 111 rfl dL_isAhead_110 ?_
              refine V_toi (nI (spP s1 k)) (nI_subN (by omega)) ?_
              refine V_ialdN cx (spP s1 k) (rfl) (by omega) (by decide) 0 rfl 112 rfl dL_isAhead_111 ?_
              refine V_toi (nI (lT x (spP s1 k))) (hq.1 _ (by omega)) ?_
              refine KL_59 (As := [.int (nI (lT x (spP s1 k)))]) (rest := []) cx (kL_size (xl X) lo G _ (lT x (spP s1 k)) (szN (lT x (spP s1 k))) t13 t15 (by omega)) hX (by omega) rfl rfl (Nat.le_of_ble_eq_true rfl) 115 0 0 rfl rfl rfl (by omega) (by omega) dL_isAhead_112 (fun r_22 u_23 hw_24 => ?_)
              try dsimp only at hw_24
              subst hw_24
              refine V_aload cx 117 rfl dL_isAhead_115 7 rfl ?_
              refine V_iload cx 119 rfl dL_isAhead_117 0 rfl ?_
              refine V_iconst (v := nI 3) cx 120 rfl dL_isAhead_119 (by decide) ?_
              refine V_ishr cx 121 rfl dL_isAhead_120 ?_
              refine V_toi (nI (spP s2 k + 1)) ((i_shr (by omega) (by omega)).trans (congrArg nI r2.1)) ?_
              refine V_iconst (v := nI 1) cx 122 rfl dL_isAhead_121 (by decide) ?_
              refine V_isub cx 123 rfl dL_isAhead_122 ?_
              refine V_toi (nI (spP s2 k)) (nI_subN (by omega)) ?_
              refine V_ialdN cx (spP s2 k) (rfl) (by omega) (by decide) 0 rfl 124 rfl dL_isAhead_123 ?_
              refine V_toi (nI (lT x (spP s2 k))) (hq.1 _ (by omega)) ?_
              refine KL_59 (As := [.int (nI (lT x (spP s2 k)))]) (rest := [.int (nI (szN (lT x (spP s1 k))))]) cx (kL_size (xl X) lo G _ (lT x (spP s2 k)) (szN (lT x (spP s2 k))) t23 t25 (by omega)) hX (by omega) rfl rfl (Nat.le_of_ble_eq_true rfl) 127 0 0 rfl rfl rfl (by omega) (by omega) dL_isAhead_124 (fun r_25 u_26 hw_27 => ?_)
              try dsimp only at hw_27
              subst hw_27
              refine V_icmp_le cx 130 134 rfl dL_isAhead_127 (by decide) (fun c_127 => ?_) (fun c_127 => ?_)
              · skip
                have n_127 : szN (lT x (spP s1 k)) ≤ szN (lT x (spP s2 k)) := N_le_t (by omega) (by omega) c_127
                refine V_iconst (v := nI 0) cx 135 rfl dL_isAhead_134 (by decide) ?_
                exact V_zreturn cx hr (by first | rfl | exact bI_z _) () (bI_f (fun h => absurd ((ord_part hok (by omega) hd hv1 hv2 (by omega) (by omega) (by omega) hp (by omega)).mp h) (by omega))) rfl (by omega) (by omega) dL_isAhead_135
              · skip
                have n_127 : szN (lT x (spP s1 k)) > szN (lT x (spP s2 k)) := N_le_f (by omega) (by omega) c_127
                refine V_iconst (v := nI 1) cx 131 rfl dL_isAhead_130 (by decide) ?_
                refine V_goto cx 135 dL_isAhead_131 (by decide) ?_
                exact V_zreturn cx hr (by first | rfl | exact bI_z _) () (bI_t ((ord_part hok (by omega) hd hv1 hv2 (by omega) (by omega) (by omega) hp (by omega)).mpr (by omega))) rfl (by omega) (by omega) dL_isAhead_135
      refine V.locs [0, 1, 2, 3, 4, 5, 6] rfl ?_
      exact loop_67 _ 0 (by omega) (by exact fun j hj => absurd hj (Nat.not_lt_zero j)) (Nat.lt_succ_self _)
    · skip
      have n_44 : s1.length ≠ s2.length := N_eq_f (by omega) (by omega) c_44
      refine V_lload_n cx 48 rfl dL_isAhead_47 2 rfl ?_
      refine KL_67 (As := [.long (lN K1)]) (rest := []) cx (kL_parts (xl X) lo G _ K1 s1 hK1 hb1 (by omega)) hX (by omega) rfl rfl (Nat.le_of_ble_eq_true rfl) 51 0 0 rfl rfl rfl (by omega) (by omega) dL_isAhead_48 (fun r_28 u_29 hw_30 => ?_)
      try dsimp only at hw_30
      subst hw_30
      refine V_lload_n cx 52 rfl dL_isAhead_51 3 rfl ?_
      refine KL_67 (As := [.long (lN K2)]) (rest := [.int (nI s1.length)]) cx (kL_parts (xl X) lo G _ K2 s2 hK2 hb2 (by omega)) hX (by omega) rfl rfl (Nat.le_of_ble_eq_true rfl) 55 0 0 rfl rfl rfl (by omega) (by omega) dL_isAhead_52 (fun r_31 u_32 hw_33 => ?_)
      try dsimp only at hw_33
      subst hw_33
      refine V_icmp_ge cx 58 62 rfl dL_isAhead_55 (by decide) (fun c_55 => ?_) (fun c_55 => ?_)
      · skip
        have n_55 : s1.length ≥ s2.length := N_ge_t (by omega) (by omega) c_55
        refine V_iconst (v := nI 0) cx 63 rfl dL_isAhead_62 (by decide) ?_
        exact V_zreturn cx hr (by first | rfl | exact bI_z _) () (bI_f (fun h => absurd ((ord_len (by omega) hv1 hv2 (by omega) (by omega)).mp h) (by omega))) rfl (by omega) (by omega) dL_isAhead_63
      · skip
        have n_55 : s1.length < s2.length := N_ge_f (by omega) (by omega) c_55
        refine V_iconst (v := nI 1) cx 59 rfl dL_isAhead_58 (by decide) ?_
        refine V_goto cx 63 dL_isAhead_59 (by decide) ?_
        exact V_zreturn cx hr (by first | rfl | exact bI_z _) () (bI_t ((ord_len (by omega) hv1 hv2 (by omega) (by omega)).mpr (by omega))) rfl (by omega) (by omega) dL_isAhead_63
  · skip
    have n_20 : cS x s1 - 15 ≠ cS x s2 - 15 := N_eq_f (by omega) (by omega) c_20
    refine V_iload cx 25 rfl dL_isAhead_23 1 rfl ?_
    refine V_iload cx 27 rfl dL_isAhead_25 0 rfl ?_
    refine V_icmp_ge cx 30 34 rfl dL_isAhead_27 (by decide) (fun c_27 => ?_) (fun c_27 => ?_)
    · skip
      have n_27 : cS x s1 - 15 ≥ cS x s2 - 15 := N_ge_t (by omega) (by omega) c_27
      refine V_iconst (v := nI 0) cx 35 rfl dL_isAhead_34 (by decide) ?_
      exact V_zreturn cx hr (by first | rfl | exact bI_z _) () (bI_f (fun h => absurd ((ord_cost (by omega) hv1 hv2 (by omega)).mp h) (by omega))) rfl (by omega) (by omega) dL_isAhead_35
    · skip
      have n_27 : cS x s1 - 15 < cS x s2 - 15 := N_ge_f (by omega) (by omega) c_27
      refine V_iconst (v := nI 1) cx 31 rfl dL_isAhead_30 (by decide) ?_
      refine V_goto cx 35 dL_isAhead_31 (by decide) ?_
      exact V_zreturn cx hr (by first | rfl | exact bI_z _) () (bI_t ((ord_cost (by omega) hv1 hv2 (by omega)).mpr (by omega))) rfl (by omega) (by omega) dL_isAhead_35
