/-! the constructors -/
theorem V.front {X : vX} {lo nL : Nat} {G : vG} {Q : State → Prop} {k n : Nat} {ws : va_W} {lc : List (Nat × Value)} {st : List Value} {pc : Nat} {x : Nat × va_E} (kk : V X lo nL G Q k n (x :: ws) lc st pc) : V X lo nL G Q k n (ws ++ [x]) lc st pc := by
  have h := V.swap (a := ws) (b := [x]) (c := []) (X := X) (lo := lo) (nL := nL) (G := G) (Q := Q) (k := k) (n := n) (lc := lc) (st := st) (pc := pc) (by rw [List.append_nil]; exact kk)
  exact h
set_option maxHeartbeats 4000000 in
set_option maxRecDepth 100000 in
theorem kX3_init (l : Launch) (lo : Nat) (G : vG) (rs : va_W) (b : Nat)  : Mv l yX3_init (.code yX3_init prog_5_method_1_code 1 none) 2 3 780 lo G [.ref b] ([(b, .inr (3, [.null, .null, .null, .int 0]))] ++ rs) (fun (_ : Nat × Nat × Nat) => True) (fun ((q_8, q_16, q_24) : Nat × Nat × Nat) => [(q_24, .inl (G.2.1, 65, .inl (fun _ => 0))), (q_16, .inl (G.2.2.2, 65, .inl (fun _ => 0))), (q_8, .inl (G.2.1, 650, .inl (fun _ => 0))), (b, .inr (3, [.ref q_8, .ref q_16, .ref q_24, .int (nI 1)]))] ++ rs) := by
  refine Mv_of (lc := [(0, .ref b)]) (by decide +kernel) (Nat.le_of_ble_eq_true rfl) rfl ?_
  intro X cx hXR hXl hr hin
  subst hXl
  have hX := RmX.of hXR
  refine V_aload_n cx 1 rfl dX3_init_0 0 rfl ?_
  refine V_objInit cx ml_X3_3 ⟨by have := hX.1; omega, by have := hX.2.1; omega⟩ (Nat.le_of_ble_eq_true rfl) 4 rfl dX3_init_1 ?_
  refine V_aload_n cx 5 rfl dX3_init_4 0 rfl ?_
  refine V_sipush (v := nI 650) cx 8 rfl dX3_init_5 (by decide) ?_
  refine V_newaI (N := nI 650) cx 650 (by decide) (by decide) (by decide) 1 650 rfl rfl (by have := hX.2.2.1; omega) (by have := hX.2.2.2; omega) 10 rfl dX3_init_8 (fun q_8 => ?_)
  refine V.front ?_
  refine PX3_11 cx hin 1 rfl (Nat.le_of_ble_eq_true rfl) ([(q_8, .inl (G.2.1, 650, .inl (fun _ => 0))), (b, .inr (3, [.ref q_8, .null, .null, .int 0]))] ++ rs) rfl 13 rfl dX3_init_10 ?_
  refine V_aload_n cx 14 rfl dX3_init_13 0 rfl ?_
  refine V_bipush (v := nI 65) cx 16 rfl dX3_init_14 (by decide) ?_
  refine V_newaZ (N := nI 65) cx 65 (by decide) (by decide) (by decide) 2 715 rfl rfl (by have := hX.2.2.1; omega) (by have := hX.2.2.2; omega) 18 rfl dX3_init_16 (fun q_16 => ?_)
  refine V.front ?_
  refine PX3_15 cx hin 2 rfl (Nat.le_of_ble_eq_true rfl) ([(q_16, .inl (G.2.2.2, 65, .inl (fun _ => 0))), (q_8, .inl (G.2.1, 650, .inl (fun _ => 0))), (b, .inr (3, [.ref q_8, .ref q_16, .null, .int 0]))] ++ rs) rfl 21 rfl dX3_init_18 ?_
  refine V_aload_n cx 22 rfl dX3_init_21 0 rfl ?_
  refine V_bipush (v := nI 65) cx 24 rfl dX3_init_22 (by decide) ?_
  refine V_newaI (N := nI 65) cx 65 (by decide) (by decide) (by decide) 3 780 rfl rfl (by have := hX.2.2.1; omega) (by have := hX.2.2.2; omega) 26 rfl dX3_init_24 (fun q_24 => ?_)
  refine V.front ?_
  refine PX3_19 cx hin 3 rfl (Nat.le_of_ble_eq_true rfl) ([(q_24, .inl (G.2.1, 65, .inl (fun _ => 0))), (q_16, .inl (G.2.2.2, 65, .inl (fun _ => 0))), (q_8, .inl (G.2.1, 650, .inl (fun _ => 0))), (b, .inr (3, [.ref q_8, .ref q_16, .ref q_24, .int 0]))] ++ rs) rfl 29 rfl dX3_init_26 ?_
  refine V_aload_n cx 30 rfl dX3_init_29 0 rfl ?_
  refine V_iconst (v := nI 1) cx 31 rfl dX3_init_30 (by decide) ?_
  refine PX3_22 cx 3 rfl (Nat.le_of_ble_eq_true rfl) ([(q_24, .inl (G.2.1, 65, .inl (fun _ => 0))), (q_16, .inl (G.2.2.2, 65, .inl (fun _ => 0))), (q_8, .inl (G.2.1, 650, .inl (fun _ => 0))), (b, .inr (3, [.ref q_8, .ref q_16, .ref q_24, .int (nI 1)]))] ++ rs) rfl 34 rfl dX3_init_31 ?_
  exact V_vreturn cx hr (q_8, q_16, q_24) trivial rfl (by omega) (by omega) dX3_init_34
set_option maxHeartbeats 4000000 in
set_option maxRecDepth 100000 in
theorem kX1_init (l : Launch) (lo : Nat) (G : vG) (rs : va_W) (b : Nat)  : Mv l yX1_init (.code yX1_init prog_3_method_1_code 1 none) 3 10 1190 lo G [.ref b] ([(b, .inr (1, [.null, .null, .null, .null, .null, .null, .null, .int 0, .int 0]))] ++ rs) (fun (_ : Nat × Nat × Nat × Nat × Nat × Nat × Nat × Nat × Nat × Nat) => True) (fun ((q_7, q_15, q_23, q_31, q_40, q_48, q_54, q_8_58, q_16_58, q_24_58) : Nat × Nat × Nat × Nat × Nat × Nat × Nat × Nat × Nat × Nat) => [(q_24_58, .inl (G.2.1, 65, .inl (fun _ => 0))), (q_16_58, .inl (G.2.2.2, 65, .inl (fun _ => 0))), (q_8_58, .inl (G.2.1, 650, .inl (fun _ => 0))), (q_54, .inr (3, [.ref q_8_58, .ref q_16_58, .ref q_24_58, .int (nI 1)])), (q_48, .inl (G.2.2.2, 96, .inl (fun _ => 0))), (q_40, .inl (G.2.2.2, 256, .inl (fun _ => 0))), (q_31, .inl (G.2.1, 6, .inl (fun _ => 0))), (q_23, .inl (G.2.1, 16, .inl (fun _ => 0))), (q_15, .inl (G.2.1, 16, .inl (fun _ => 0))), (q_7, .inl (G.2.1, 16, .inl (fun _ => 0))), (b, .inr (1, [.ref q_7, .ref q_15, .ref q_23, .ref q_31, .ref q_40, .ref q_48, .ref q_54, .int 0, .int 0]))] ++ rs) := by
  refine Mv_of (lc := [(0, .ref b)]) (by decide +kernel) (Nat.le_of_ble_eq_true rfl) rfl ?_
  intro X cx hXR hXl hr hin
  subst hXl
  have hX := RmX.of hXR
  refine V_aload_n cx 1 rfl dX1_init_0 0 rfl ?_
  refine V_objInit cx ml_X1_3 ⟨by have := hX.1; omega, by have := hX.2.1; omega⟩ (Nat.le_of_ble_eq_true rfl) 4 rfl dX1_init_1 ?_
  refine V_aload_n cx 5 rfl dX1_init_4 0 rfl ?_
  refine V_bipush (v := nI 16) cx 7 rfl dX1_init_5 (by decide) ?_
  refine V_newaI (N := nI 16) cx 16 (by decide) (by decide) (by decide) 1 16 rfl rfl (by have := hX.2.2.1; omega) (by have := hX.2.2.2; omega) 9 rfl dX1_init_7 (fun q_7 => ?_)
  refine V.front ?_
  refine PX1_9 cx hin 1 rfl (Nat.le_of_ble_eq_true rfl) ([(q_7, .inl (G.2.1, 16, .inl (fun _ => 0))), (b, .inr (1, [.ref q_7, .null, .null, .null, .null, .null, .null, .int 0, .int 0]))] ++ rs) rfl 12 rfl dX1_init_9 ?_
  refine V_aload_n cx 13 rfl dX1_init_12 0 rfl ?_
  refine V_bipush (v := nI 16) cx 15 rfl dX1_init_13 (by decide) ?_
  refine V_newaI (N := nI 16) cx 16 (by decide) (by decide) (by decide) 2 32 rfl rfl (by have := hX.2.2.1; omega) (by have := hX.2.2.2; omega) 17 rfl dX1_init_15 (fun q_15 => ?_)
  refine V.front ?_
  refine PX1_15 cx hin 2 rfl (Nat.le_of_ble_eq_true rfl) ([(q_15, .inl (G.2.1, 16, .inl (fun _ => 0))), (q_7, .inl (G.2.1, 16, .inl (fun _ => 0))), (b, .inr (1, [.ref q_7, .ref q_15, .null, .null, .null, .null, .null, .int 0, .int 0]))] ++ rs) rfl 20 rfl dX1_init_17 ?_
  refine V_aload_n cx 21 rfl dX1_init_20 0 rfl ?_
  refine V_bipush (v := nI 16) cx 23 rfl dX1_init_21 (by decide) ?_
  refine V_newaI (N := nI 16) cx 16 (by decide) (by decide) (by decide) 3 48 rfl rfl (by have := hX.2.2.1; omega) (by have := hX.2.2.2; omega) 25 rfl dX1_init_23 (fun q_23 => ?_)
  refine V.front ?_
  refine PX1_18 cx hin 3 rfl (Nat.le_of_ble_eq_true rfl) ([(q_23, .inl (G.2.1, 16, .inl (fun _ => 0))), (q_15, .inl (G.2.1, 16, .inl (fun _ => 0))), (q_7, .inl (G.2.1, 16, .inl (fun _ => 0))), (b, .inr (1, [.ref q_7, .ref q_15, .ref q_23, .null, .null, .null, .null, .int 0, .int 0]))] ++ rs) rfl 28 rfl dX1_init_25 ?_
  refine V_aload_n cx 29 rfl dX1_init_28 0 rfl ?_
  refine V_bipush (v := nI 6) cx 31 rfl dX1_init_29 (by decide) ?_
  refine V_newaI (N := nI 6) cx 6 (by decide) (by decide) (by decide) 4 54 rfl rfl (by have := hX.2.2.1; omega) (by have := hX.2.2.2; omega) 33 rfl dX1_init_31 (fun q_31 => ?_)
  refine V.front ?_
  refine PX1_21 cx hin 4 rfl (Nat.le_of_ble_eq_true rfl) ([(q_31, .inl (G.2.1, 6, .inl (fun _ => 0))), (q_23, .inl (G.2.1, 16, .inl (fun _ => 0))), (q_15, .inl (G.2.1, 16, .inl (fun _ => 0))), (q_7, .inl (G.2.1, 16, .inl (fun _ => 0))), (b, .inr (1, [.ref q_7, .ref q_15, .ref q_23, .ref q_31, .null, .null, .null, .int 0, .int 0]))] ++ rs) rfl 36 rfl dX1_init_33 ?_
  refine V_aload_n cx 37 rfl dX1_init_36 0 rfl ?_
  refine V_sipush (v := nI 256) cx 40 rfl dX1_init_37 (by decide) ?_
  refine V_newaZ (N := nI 256) cx 256 (by decide) (by decide) (by decide) 5 310 rfl rfl (by have := hX.2.2.1; omega) (by have := hX.2.2.2; omega) 42 rfl dX1_init_40 (fun q_40 => ?_)
  refine V.front ?_
  refine PX1_24 cx hin 5 rfl (Nat.le_of_ble_eq_true rfl) ([(q_40, .inl (G.2.2.2, 256, .inl (fun _ => 0))), (q_31, .inl (G.2.1, 6, .inl (fun _ => 0))), (q_23, .inl (G.2.1, 16, .inl (fun _ => 0))), (q_15, .inl (G.2.1, 16, .inl (fun _ => 0))), (q_7, .inl (G.2.1, 16, .inl (fun _ => 0))), (b, .inr (1, [.ref q_7, .ref q_15, .ref q_23, .ref q_31, .ref q_40, .null, .null, .int 0, .int 0]))] ++ rs) rfl 45 rfl dX1_init_42 ?_
  refine V_aload_n cx 46 rfl dX1_init_45 0 rfl ?_
  refine V_bipush (v := nI 96) cx 48 rfl dX1_init_46 (by decide) ?_
  refine V_newaZ (N := nI 96) cx 96 (by decide) (by decide) (by decide) 6 406 rfl rfl (by have := hX.2.2.1; omega) (by have := hX.2.2.2; omega) 50 rfl dX1_init_48 (fun q_48 => ?_)
  refine V.front ?_
  refine PX1_28 cx hin 6 rfl (Nat.le_of_ble_eq_true rfl) ([(q_48, .inl (G.2.2.2, 96, .inl (fun _ => 0))), (q_40, .inl (G.2.2.2, 256, .inl (fun _ => 0))), (q_31, .inl (G.2.1, 6, .inl (fun _ => 0))), (q_23, .inl (G.2.1, 16, .inl (fun _ => 0))), (q_15, .inl (G.2.1, 16, .inl (fun _ => 0))), (q_7, .inl (G.2.1, 16, .inl (fun _ => 0))), (b, .inr (1, [.ref q_7, .ref q_15, .ref q_23, .ref q_31, .ref q_40, .ref q_48, .null, .int 0, .int 0]))] ++ rs) rfl 53 rfl dX1_init_50 ?_
  refine V_aload_n cx 54 rfl dX1_init_53 0 rfl ?_
  refine V_new (ci := 3) cx uw_X3 tyX3 tyX3_ok kl_X1_31 in_X3 ii_X3 rfl (fs := [.null, .null, .null, .int 0]) (fun j hj => match j, hj with | 0, _ => rfl | 1, _ => rfl | 2, _ => rfl | 3, _ => rfl | j + 4, h => absurd h (by omega)) 7 410 rfl rfl (by have := hX.2.2.1; omega) (by have := hX.2.2.2; omega) 57 rfl dX1_init_54 (fun q_54 => ?_)
  refine V.front ?_
  refine V_dup cx 58 rfl dX1_init_57 rfl ?_
  refine KX1_33 (As := []) (rest := [.ref q_54, .ref b]) cx (kX3_init (xl X) lo G ([(q_48, .inl (G.2.2.2, 96, .inl (fun _ => 0))), (q_40, .inl (G.2.2.2, 256, .inl (fun _ => 0))), (q_31, .inl (G.2.1, 6, .inl (fun _ => 0))), (q_23, .inl (G.2.1, 16, .inl (fun _ => 0))), (q_15, .inl (G.2.1, 16, .inl (fun _ => 0))), (q_7, .inl (G.2.1, 16, .inl (fun _ => 0))), (b, .inr (1, [.ref q_7, .ref q_15, .ref q_23, .ref q_31, .ref q_40, .ref q_48, .null, .int 0, .int 0]))] ++ rs) q_54 ) hX (by omega) rfl rfl (Nat.le_of_ble_eq_true rfl) 61 10 1190 rfl rfl rfl (by omega) (by omega) dX1_init_58 (fun u_58 _ => ?_)
  obtain ⟨q_8_58, q_16_58, q_24_58⟩ := u_58
  refine PX1_34 cx hin 10 rfl (Nat.le_of_ble_eq_true rfl) ([(q_24_58, .inl (G.2.1, 65, .inl (fun _ => 0))), (q_16_58, .inl (G.2.2.2, 65, .inl (fun _ => 0))), (q_8_58, .inl (G.2.1, 650, .inl (fun _ => 0))), (q_54, .inr (3, [.ref q_8_58, .ref q_16_58, .ref q_24_58, .int (nI 1)])), (q_48, .inl (G.2.2.2, 96, .inl (fun _ => 0))), (q_40, .inl (G.2.2.2, 256, .inl (fun _ => 0))), (q_31, .inl (G.2.1, 6, .inl (fun _ => 0))), (q_23, .inl (G.2.1, 16, .inl (fun _ => 0))), (q_15, .inl (G.2.1, 16, .inl (fun _ => 0))), (q_7, .inl (G.2.1, 16, .inl (fun _ => 0))), (b, .inr (1, [.ref q_7, .ref q_15, .ref q_23, .ref q_31, .ref q_40, .ref q_48, .ref q_54, .int 0, .int 0]))] ++ rs) rfl 64 rfl dX1_init_61 ?_
  exact V_vreturn cx hr (q_7, q_15, q_23, q_31, q_40, q_48, q_54, q_8_58, q_16_58, q_24_58) trivial rfl (by omega) (by omega) dX1_init_64
set_option maxHeartbeats 4000000 in
set_option maxRecDepth 100000 in
theorem kX2_init (l : Launch) (lo : Nat) (G : vG) (rs : va_W) (b : Nat) (lx : Nat) : Mv l yX2_init (.code yX2_init prog_4_method_1_code 2 none) 2 4 569 lo G [.ref b, .ref lx] ([(b, .inr (2, [.null, .null, .null, .null, .null, .int 0, .int 0]))] ++ rs) (fun (_ : Nat × Nat × Nat × Nat) => True) (fun ((q_7, q_15, q_23, q_32) : Nat × Nat × Nat × Nat) => [(q_32, .inl (G.2.2.1, 513, .inr (.inl (fun _ => 0)))), (q_23, .inl (G.2.1, 16, .inl (fun _ => 0))), (q_15, .inl (G.2.1, 32, .inl (fun _ => 0))), (q_7, .inl (G.2.1, 8, .inl (fun _ => 0))), (b, .inr (2, [.ref lx, .ref q_7, .ref q_15, .ref q_23, .ref q_32, .int 0, .int 0]))] ++ rs) := by
  refine Mv_of (lc := [(0, .ref b), (1, .ref lx)]) (by decide +kernel) (Nat.le_of_ble_eq_true rfl) rfl ?_
  intro X cx hXR hXl hr hin
  subst hXl
  have hX := RmX.of hXR
  refine V_aload_n cx 1 rfl dX2_init_0 0 rfl ?_
  refine V_objInit cx ml_X2_5 ⟨by have := hX.1; omega, by have := hX.2.1; omega⟩ (Nat.le_of_ble_eq_true rfl) 4 rfl dX2_init_1 ?_
  refine V_aload_n cx 5 rfl dX2_init_4 0 rfl ?_
  refine V_bipush (v := nI 8) cx 7 rfl dX2_init_5 (by decide) ?_
  refine V_newaI (N := nI 8) cx 8 (by decide) (by decide) (by decide) 1 8 rfl rfl (by have := hX.2.2.1; omega) (by have := hX.2.2.2; omega) 9 rfl dX2_init_7 (fun q_7 => ?_)
  refine V.front ?_
  refine PX2_11 cx hin 1 rfl (Nat.le_of_ble_eq_true rfl) ([(q_7, .inl (G.2.1, 8, .inl (fun _ => 0))), (b, .inr (2, [.null, .ref q_7, .null, .null, .null, .int 0, .int 0]))] ++ rs) rfl 12 rfl dX2_init_9 ?_
  refine V_aload_n cx 13 rfl dX2_init_12 0 rfl ?_
  refine V_bipush (v := nI 32) cx 15 rfl dX2_init_13 (by decide) ?_
  refine V_newaI (N := nI 32) cx 32 (by decide) (by decide) (by decide) 2 40 rfl rfl (by have := hX.2.2.1; omega) (by have := hX.2.2.2; omega) 17 rfl dX2_init_15 (fun q_15 => ?_)
  refine V.front ?_
  refine PX2_15 cx hin 2 rfl (Nat.le_of_ble_eq_true rfl) ([(q_15, .inl (G.2.1, 32, .inl (fun _ => 0))), (q_7, .inl (G.2.1, 8, .inl (fun _ => 0))), (b, .inr (2, [.null, .ref q_7, .ref q_15, .null, .null, .int 0, .int 0]))] ++ rs) rfl 20 rfl dX2_init_17 ?_
  refine V_aload_n cx 21 rfl dX2_init_20 0 rfl ?_
  refine V_bipush (v := nI 16) cx 23 rfl dX2_init_21 (by decide) ?_
  refine V_newaI (N := nI 16) cx 16 (by decide) (by decide) (by decide) 3 56 rfl rfl (by have := hX.2.2.1; omega) (by have := hX.2.2.2; omega) 25 rfl dX2_init_23 (fun q_23 => ?_)
  refine V.front ?_
  refine PX2_18 cx hin 3 rfl (Nat.le_of_ble_eq_true rfl) ([(q_23, .inl (G.2.1, 16, .inl (fun _ => 0))), (q_15, .inl (G.2.1, 32, .inl (fun _ => 0))), (q_7, .inl (G.2.1, 8, .inl (fun _ => 0))), (b, .inr (2, [.null, .ref q_7, .ref q_15, .ref q_23, .null, .int 0, .int 0]))] ++ rs) rfl 28 rfl dX2_init_25 ?_
  refine V_aload_n cx 29 rfl dX2_init_28 0 rfl ?_
  refine V_sipush (v := nI 513) cx 32 rfl dX2_init_29 (by decide) ?_
  refine V_newaJ (N := nI 513) cx 513 (by decide) (by decide) (by decide) 4 569 rfl rfl (by have := hX.2.2.1; omega) (by have := hX.2.2.2; omega) 34 rfl dX2_init_32 (fun q_32 => ?_)
  refine V.front ?_
  refine PX2_21 cx hin 4 rfl (Nat.le_of_ble_eq_true rfl) ([(q_32, .inl (G.2.2.1, 513, .inr (.inl (fun _ => 0)))), (q_23, .inl (G.2.1, 16, .inl (fun _ => 0))), (q_15, .inl (G.2.1, 32, .inl (fun _ => 0))), (q_7, .inl (G.2.1, 8, .inl (fun _ => 0))), (b, .inr (2, [.null, .ref q_7, .ref q_15, .ref q_23, .ref q_32, .int 0, .int 0]))] ++ rs) rfl 37 rfl dX2_init_34 ?_
  refine V_aload_n cx 38 rfl dX2_init_37 0 rfl ?_
  refine V_aload_n cx 39 rfl dX2_init_38 1 rfl ?_
  refine PX2_25 cx hin 4 rfl (Nat.le_of_ble_eq_true rfl) ([(q_32, .inl (G.2.2.1, 513, .inr (.inl (fun _ => 0)))), (q_23, .inl (G.2.1, 16, .inl (fun _ => 0))), (q_15, .inl (G.2.1, 32, .inl (fun _ => 0))), (q_7, .inl (G.2.1, 8, .inl (fun _ => 0))), (b, .inr (2, [.ref lx, .ref q_7, .ref q_15, .ref q_23, .ref q_32, .int 0, .int 0]))] ++ rs) rfl 42 rfl dX2_init_39 ?_
  exact V_vreturn cx hr (q_7, q_15, q_23, q_32) trivial rfl (by omega) (by omega) dX2_init_42
set_option maxHeartbeats 4000000 in
set_option maxRecDepth 100000 in
theorem kX0_init (l : Launch) (lo : Nat) (G : vG) (rs : va_W) (b : Nat) (lx : Nat) : Mv l yX0_init (.code yX0_init prog_2_method_1_code 2 none) 2 3 500 lo G [.ref b, .ref lx] ([(b, .inr (0, [.null, .null, .null, .null, .int 0]))] ++ rs) (fun (_ : Nat × Nat × Nat) => True) (fun ((q_7, q_16, q_24) : Nat × Nat × Nat) => [(q_24, .inl (G.2.1, 50, .inl (fun _ => 0))), (q_16, .inl (G.2.1, 400, .inl (fun _ => 0))), (q_7, .inl (G.2.1, 50, .inl (fun _ => 0))), (b, .inr (0, [.ref lx, .ref q_7, .ref q_16, .ref q_24, .int 0]))] ++ rs) := by
  refine Mv_of (lc := [(0, .ref b), (1, .ref lx)]) (by decide +kernel) (Nat.le_of_ble_eq_true rfl) rfl ?_
  intro X cx hXR hXl hr hin
  subst hXl
  have hX := RmX.of hXR
  refine V_aload_n cx 1 rfl dX0_init_0 0 rfl ?_
  refine V_objInit cx ml_X0_3 ⟨by have := hX.1; omega, by have := hX.2.1; omega⟩ (Nat.le_of_ble_eq_true rfl) 4 rfl dX0_init_1 ?_
  refine V_aload_n cx 5 rfl dX0_init_4 0 rfl ?_
  refine V_bipush (v := nI 50) cx 7 rfl dX0_init_5 (by decide) ?_
  refine V_newaI (N := nI 50) cx 50 (by decide) (by decide) (by decide) 1 50 rfl rfl (by have := hX.2.2.1; omega) (by have := hX.2.2.2; omega) 9 rfl dX0_init_7 (fun q_7 => ?_)
  refine V.front ?_
  refine PX0_9 cx hin 1 rfl (Nat.le_of_ble_eq_true rfl) ([(q_7, .inl (G.2.1, 50, .inl (fun _ => 0))), (b, .inr (0, [.null, .ref q_7, .null, .null, .int 0]))] ++ rs) rfl 12 rfl dX0_init_9 ?_
  refine V_aload_n cx 13 rfl dX0_init_12 0 rfl ?_
  refine V_sipush (v := nI 400) cx 16 rfl dX0_init_13 (by decide) ?_
  refine V_newaI (N := nI 400) cx 400 (by decide) (by decide) (by decide) 2 450 rfl rfl (by have := hX.2.2.1; omega) (by have := hX.2.2.2; omega) 18 rfl dX0_init_16 (fun q_16 => ?_)
  refine V.front ?_
  refine PX0_15 cx hin 2 rfl (Nat.le_of_ble_eq_true rfl) ([(q_16, .inl (G.2.1, 400, .inl (fun _ => 0))), (q_7, .inl (G.2.1, 50, .inl (fun _ => 0))), (b, .inr (0, [.null, .ref q_7, .ref q_16, .null, .int 0]))] ++ rs) rfl 21 rfl dX0_init_18 ?_
  refine V_aload_n cx 22 rfl dX0_init_21 0 rfl ?_
  refine V_bipush (v := nI 50) cx 24 rfl dX0_init_22 (by decide) ?_
  refine V_newaI (N := nI 50) cx 50 (by decide) (by decide) (by decide) 3 500 rfl rfl (by have := hX.2.2.1; omega) (by have := hX.2.2.2; omega) 26 rfl dX0_init_24 (fun q_24 => ?_)
  refine V.front ?_
  refine PX0_18 cx hin 3 rfl (Nat.le_of_ble_eq_true rfl) ([(q_24, .inl (G.2.1, 50, .inl (fun _ => 0))), (q_16, .inl (G.2.1, 400, .inl (fun _ => 0))), (q_7, .inl (G.2.1, 50, .inl (fun _ => 0))), (b, .inr (0, [.null, .ref q_7, .ref q_16, .ref q_24, .int 0]))] ++ rs) rfl 29 rfl dX0_init_26 ?_
  refine V_aload_n cx 30 rfl dX0_init_29 0 rfl ?_
  refine V_aload_n cx 31 rfl dX0_init_30 1 rfl ?_
  refine PX0_21 cx hin 3 rfl (Nat.le_of_ble_eq_true rfl) ([(q_24, .inl (G.2.1, 50, .inl (fun _ => 0))), (q_16, .inl (G.2.1, 400, .inl (fun _ => 0))), (q_7, .inl (G.2.1, 50, .inl (fun _ => 0))), (b, .inr (0, [.ref lx, .ref q_7, .ref q_16, .ref q_24, .int 0]))] ++ rs) rfl 34 rfl dX0_init_31 ?_
  exact V_vreturn cx hr (q_7, q_16, q_24) trivial rfl (by omega) (by omega) dX0_init_34
set_option maxHeartbeats 4000000 in
set_option maxRecDepth 100000 in
theorem kX4_init (l : Launch) (lo : Nat) (G : vG) (rs : va_W) (b : Nat)  : Mv l yX4_init (.code yX4_init prog_1_method_1_code 1 none) 4 20 2280 lo G [.ref b] ([(b, .inr (4, [.null, .null, .null]))] ++ rs) (fun (_ : Nat × Nat × Nat × Nat × Nat × Nat × Nat × Nat × Nat × Nat × Nat × Nat × Nat × Nat × Nat × Nat × Nat × Nat × Nat × Nat) => True) (fun ((q_5, q_7_9, q_15_9, q_23_9, q_31_9, q_40_9, q_48_9, q_54_9, q_8_58_9, q_16_58_9, q_24_58_9, q_16, q_7_24, q_15_24, q_23_24, q_32_24, q_31, q_7_39, q_16_39, q_24_39) : Nat × Nat × Nat × Nat × Nat × Nat × Nat × Nat × Nat × Nat × Nat × Nat × Nat × Nat × Nat × Nat × Nat × Nat × Nat × Nat) => [(q_24_39, .inl (G.2.1, 50, .inl (fun _ => 0))), (q_16_39, .inl (G.2.1, 400, .inl (fun _ => 0))), (q_7_39, .inl (G.2.1, 50, .inl (fun _ => 0))), (q_31, .inr (0, [.ref q_5, .ref q_7_39, .ref q_16_39, .ref q_24_39, .int 0])), (q_32_24, .inl (G.2.2.1, 513, .inr (.inl (fun _ => 0)))), (q_23_24, .inl (G.2.1, 16, .inl (fun _ => 0))), (q_15_24, .inl (G.2.1, 32, .inl (fun _ => 0))), (q_7_24, .inl (G.2.1, 8, .inl (fun _ => 0))), (q_16, .inr (2, [.ref q_5, .ref q_7_24, .ref q_15_24, .ref q_23_24, .ref q_32_24, .int 0, .int 0])), (q_24_58_9, .inl (G.2.1, 65, .inl (fun _ => 0))), (q_16_58_9, .inl (G.2.2.2, 65, .inl (fun _ => 0))), (q_8_58_9, .inl (G.2.1, 650, .inl (fun _ => 0))), (q_54_9, .inr (3, [.ref q_8_58_9, .ref q_16_58_9, .ref q_24_58_9, .int (nI 1)])), (q_48_9, .inl (G.2.2.2, 96, .inl (fun _ => 0))), (q_40_9, .inl (G.2.2.2, 256, .inl (fun _ => 0))), (q_31_9, .inl (G.2.1, 6, .inl (fun _ => 0))), (q_23_9, .inl (G.2.1, 16, .inl (fun _ => 0))), (q_15_9, .inl (G.2.1, 16, .inl (fun _ => 0))), (q_7_9, .inl (G.2.1, 16, .inl (fun _ => 0))), (q_5, .inr (1, [.ref q_7_9, .ref q_15_9, .ref q_23_9, .ref q_31_9, .ref q_40_9, .ref q_48_9, .ref q_54_9, .int 0, .int 0])), (b, .inr (4, [.ref q_5, .ref q_16, .ref q_31]))] ++ rs) := by
  refine Mv_of (lc := [(0, .ref b)]) (by decide +kernel) (Nat.le_of_ble_eq_true rfl) rfl ?_
  intro X cx hXR hXl hr hin
  subst hXl
  have hX := RmX.of hXR
  refine V_aload_n cx 1 rfl dX4_init_0 0 rfl ?_
  refine V_objInit cx ml_X4_3 ⟨by have := hX.1; omega, by have := hX.2.1; omega⟩ (Nat.le_of_ble_eq_true rfl) 4 rfl dX4_init_1 ?_
  refine V_aload_n cx 5 rfl dX4_init_4 0 rfl ?_
  refine V_new (ci := 1) cx uw_X1 tyX1 tyX1_ok kl_X4_9 in_X1 ii_X1 rfl (fs := [.null, .null, .null, .null, .null, .null, .null, .int 0, .int 0]) (fun j hj => match j, hj with | 0, _ => rfl | 1, _ => rfl | 2, _ => rfl | 3, _ => rfl | 4, _ => rfl | 5, _ => rfl | 6, _ => rfl | 7, _ => rfl | 8, _ => rfl | j + 9, h => absurd h (by omega)) 1 9 rfl rfl (by have := hX.2.2.1; omega) (by have := hX.2.2.2; omega) 8 rfl dX4_init_5 (fun q_5 => ?_)
  refine V.front ?_
  refine V_dup cx 9 rfl dX4_init_8 rfl ?_
  refine KX4_11 (As := []) (rest := [.ref q_5, .ref b]) cx (kX1_init (xl X) lo G ([(b, .inr (4, [.null, .null, .null]))] ++ rs) q_5 ) hX (by omega) rfl rfl (Nat.le_of_ble_eq_true rfl) 12 11 1199 rfl rfl rfl (by omega) (by omega) dX4_init_9 (fun u_9 _ => ?_)
  obtain ⟨q_7_9, q_15_9, q_23_9, q_31_9, q_40_9, q_48_9, q_54_9, q_8_58_9, q_16_58_9, q_24_58_9⟩ := u_9
  refine PX4_12 cx hin 11 rfl (Nat.le_of_ble_eq_true rfl) ([(q_24_58_9, .inl (G.2.1, 65, .inl (fun _ => 0))), (q_16_58_9, .inl (G.2.2.2, 65, .inl (fun _ => 0))), (q_8_58_9, .inl (G.2.1, 650, .inl (fun _ => 0))), (q_54_9, .inr (3, [.ref q_8_58_9, .ref q_16_58_9, .ref q_24_58_9, .int (nI 1)])), (q_48_9, .inl (G.2.2.2, 96, .inl (fun _ => 0))), (q_40_9, .inl (G.2.2.2, 256, .inl (fun _ => 0))), (q_31_9, .inl (G.2.1, 6, .inl (fun _ => 0))), (q_23_9, .inl (G.2.1, 16, .inl (fun _ => 0))), (q_15_9, .inl (G.2.1, 16, .inl (fun _ => 0))), (q_7_9, .inl (G.2.1, 16, .inl (fun _ => 0))), (q_5, .inr (1, [.ref q_7_9, .ref q_15_9, .ref q_23_9, .ref q_31_9, .ref q_40_9, .ref q_48_9, .ref q_54_9, .int 0, .int 0])), (b, .inr (4, [.ref q_5, .null, .null]))] ++ rs) rfl 15 rfl dX4_init_12 ?_
  refine V_aload_n cx 16 rfl dX4_init_15 0 rfl ?_
  refine V_new (ci := 2) cx uw_X2 tyX2 tyX2_ok kl_X4_16 in_X2 ii_X2 rfl (fs := [.null, .null, .null, .null, .null, .int 0, .int 0]) (fun j hj => match j, hj with | 0, _ => rfl | 1, _ => rfl | 2, _ => rfl | 3, _ => rfl | 4, _ => rfl | 5, _ => rfl | 6, _ => rfl | j + 7, h => absurd h (by omega)) 12 1206 rfl rfl (by have := hX.2.2.1; omega) (by have := hX.2.2.2; omega) 19 rfl dX4_init_16 (fun q_16 => ?_)
  refine V.front ?_
  refine V_dup cx 20 rfl dX4_init_19 rfl ?_
  refine V_aload_n cx 21 rfl dX4_init_20 0 rfl ?_
  refine GX4_12 cx 12 rfl rfl 24 rfl dX4_init_21 ?_
  refine KX4_18 (As := [.ref q_5]) (rest := [.ref q_16, .ref b]) cx (kX2_init (xl X) lo G ([(q_24_58_9, .inl (G.2.1, 65, .inl (fun _ => 0))), (q_16_58_9, .inl (G.2.2.2, 65, .inl (fun _ => 0))), (q_8_58_9, .inl (G.2.1, 650, .inl (fun _ => 0))), (q_54_9, .inr (3, [.ref q_8_58_9, .ref q_16_58_9, .ref q_24_58_9, .int (nI 1)])), (q_48_9, .inl (G.2.2.2, 96, .inl (fun _ => 0))), (q_40_9, .inl (G.2.2.2, 256, .inl (fun _ => 0))), (q_31_9, .inl (G.2.1, 6, .inl (fun _ => 0))), (q_23_9, .inl (G.2.1, 16, .inl (fun _ => 0))), (q_15_9, .inl (G.2.1, 16, .inl (fun _ => 0))), (q_7_9, .inl (G.2.1, 16, .inl (fun _ => 0))), (q_5, .inr (1, [.ref q_7_9, .ref q_15_9, .ref q_23_9, .ref q_31_9, .ref q_40_9, .ref q_48_9, .ref q_54_9, .int 0, .int 0])), (b, .inr (4, [.ref q_5, .null, .null]))] ++ rs) q_16 q_5) hX (by omega) rfl rfl (Nat.le_of_ble_eq_true rfl) 27 16 1775 rfl rfl rfl (by omega) (by omega) dX4_init_24 (fun u_24 _ => ?_)
  obtain ⟨q_7_24, q_15_24, q_23_24, q_32_24⟩ := u_24
  refine PX4_21 cx hin 16 rfl (Nat.le_of_ble_eq_true rfl) ([(q_32_24, .inl (G.2.2.1, 513, .inr (.inl (fun _ => 0)))), (q_23_24, .inl (G.2.1, 16, .inl (fun _ => 0))), (q_15_24, .inl (G.2.1, 32, .inl (fun _ => 0))), (q_7_24, .inl (G.2.1, 8, .inl (fun _ => 0))), (q_16, .inr (2, [.ref q_5, .ref q_7_24, .ref q_15_24, .ref q_23_24, .ref q_32_24, .int 0, .int 0])), (q_24_58_9, .inl (G.2.1, 65, .inl (fun _ => 0))), (q_16_58_9, .inl (G.2.2.2, 65, .inl (fun _ => 0))), (q_8_58_9, .inl (G.2.1, 650, .inl (fun _ => 0))), (q_54_9, .inr (3, [.ref q_8_58_9, .ref q_16_58_9, .ref q_24_58_9, .int (nI 1)])), (q_48_9, .inl (G.2.2.2, 96, .inl (fun _ => 0))), (q_40_9, .inl (G.2.2.2, 256, .inl (fun _ => 0))), (q_31_9, .inl (G.2.1, 6, .inl (fun _ => 0))), (q_23_9, .inl (G.2.1, 16, .inl (fun _ => 0))), (q_15_9, .inl (G.2.1, 16, .inl (fun _ => 0))), (q_7_9, .inl (G.2.1, 16, .inl (fun _ => 0))), (q_5, .inr (1, [.ref q_7_9, .ref q_15_9, .ref q_23_9, .ref q_31_9, .ref q_40_9, .ref q_48_9, .ref q_54_9, .int 0, .int 0])), (b, .inr (4, [.ref q_5, .ref q_16, .null]))] ++ rs) rfl 30 rfl dX4_init_27 ?_
  refine V_aload_n cx 31 rfl dX4_init_30 0 rfl ?_
  refine V_new (ci := 0) cx uw_X0 tyX0 tyX0_ok kl_X4_25 in_X0 ii_X0 rfl (fs := [.null, .null, .null, .null, .int 0]) (fun j hj => match j, hj with | 0, _ => rfl | 1, _ => rfl | 2, _ => rfl | 3, _ => rfl | 4, _ => rfl | j + 5, h => absurd h (by omega)) 17 1780 rfl rfl (by have := hX.2.2.1; omega) (by have := hX.2.2.2; omega) 34 rfl dX4_init_31 (fun q_31 => ?_)
  refine V.front ?_
  refine V_dup cx 35 rfl dX4_init_34 rfl ?_
  refine V_aload_n cx 36 rfl dX4_init_35 0 rfl ?_
  refine GX4_12 cx 17 rfl rfl 39 rfl dX4_init_36 ?_
  refine KX4_27 (As := [.ref q_5]) (rest := [.ref q_31, .ref b]) cx (kX0_init (xl X) lo G ([(q_32_24, .inl (G.2.2.1, 513, .inr (.inl (fun _ => 0)))), (q_23_24, .inl (G.2.1, 16, .inl (fun _ => 0))), (q_15_24, .inl (G.2.1, 32, .inl (fun _ => 0))), (q_7_24, .inl (G.2.1, 8, .inl (fun _ => 0))), (q_16, .inr (2, [.ref q_5, .ref q_7_24, .ref q_15_24, .ref q_23_24, .ref q_32_24, .int 0, .int 0])), (q_24_58_9, .inl (G.2.1, 65, .inl (fun _ => 0))), (q_16_58_9, .inl (G.2.2.2, 65, .inl (fun _ => 0))), (q_8_58_9, .inl (G.2.1, 650, .inl (fun _ => 0))), (q_54_9, .inr (3, [.ref q_8_58_9, .ref q_16_58_9, .ref q_24_58_9, .int (nI 1)])), (q_48_9, .inl (G.2.2.2, 96, .inl (fun _ => 0))), (q_40_9, .inl (G.2.2.2, 256, .inl (fun _ => 0))), (q_31_9, .inl (G.2.1, 6, .inl (fun _ => 0))), (q_23_9, .inl (G.2.1, 16, .inl (fun _ => 0))), (q_15_9, .inl (G.2.1, 16, .inl (fun _ => 0))), (q_7_9, .inl (G.2.1, 16, .inl (fun _ => 0))), (q_5, .inr (1, [.ref q_7_9, .ref q_15_9, .ref q_23_9, .ref q_31_9, .ref q_40_9, .ref q_48_9, .ref q_54_9, .int 0, .int 0])), (b, .inr (4, [.ref q_5, .ref q_16, .null]))] ++ rs) q_31 q_5) hX (by omega) rfl rfl (Nat.le_of_ble_eq_true rfl) 42 20 2280 rfl rfl rfl (by omega) (by omega) dX4_init_39 (fun u_39 _ => ?_)
  obtain ⟨q_7_39, q_16_39, q_24_39⟩ := u_39
  refine PX4_28 cx hin 20 rfl (Nat.le_of_ble_eq_true rfl) ([(q_24_39, .inl (G.2.1, 50, .inl (fun _ => 0))), (q_16_39, .inl (G.2.1, 400, .inl (fun _ => 0))), (q_7_39, .inl (G.2.1, 50, .inl (fun _ => 0))), (q_31, .inr (0, [.ref q_5, .ref q_7_39, .ref q_16_39, .ref q_24_39, .int 0])), (q_32_24, .inl (G.2.2.1, 513, .inr (.inl (fun _ => 0)))), (q_23_24, .inl (G.2.1, 16, .inl (fun _ => 0))), (q_15_24, .inl (G.2.1, 32, .inl (fun _ => 0))), (q_7_24, .inl (G.2.1, 8, .inl (fun _ => 0))), (q_16, .inr (2, [.ref q_5, .ref q_7_24, .ref q_15_24, .ref q_23_24, .ref q_32_24, .int 0, .int 0])), (q_24_58_9, .inl (G.2.1, 65, .inl (fun _ => 0))), (q_16_58_9, .inl (G.2.2.2, 65, .inl (fun _ => 0))), (q_8_58_9, .inl (G.2.1, 650, .inl (fun _ => 0))), (q_54_9, .inr (3, [.ref q_8_58_9, .ref q_16_58_9, .ref q_24_58_9, .int (nI 1)])), (q_48_9, .inl (G.2.2.2, 96, .inl (fun _ => 0))), (q_40_9, .inl (G.2.2.2, 256, .inl (fun _ => 0))), (q_31_9, .inl (G.2.1, 6, .inl (fun _ => 0))), (q_23_9, .inl (G.2.1, 16, .inl (fun _ => 0))), (q_15_9, .inl (G.2.1, 16, .inl (fun _ => 0))), (q_7_9, .inl (G.2.1, 16, .inl (fun _ => 0))), (q_5, .inr (1, [.ref q_7_9, .ref q_15_9, .ref q_23_9, .ref q_31_9, .ref q_40_9, .ref q_48_9, .ref q_54_9, .int 0, .int 0])), (b, .inr (4, [.ref q_5, .ref q_16, .ref q_31]))] ++ rs) rfl 45 rfl dX4_init_42 ?_
  exact V_vreturn cx hr (q_5, q_7_9, q_15_9, q_23_9, q_31_9, q_40_9, q_48_9, q_54_9, q_8_58_9, q_16_58_9, q_24_58_9, q_16, q_7_24, q_15_24, q_23_24, q_32_24, q_31, q_7_39, q_16_39, q_24_39) trivial rfl (by omega) (by omega) dX4_init_45
