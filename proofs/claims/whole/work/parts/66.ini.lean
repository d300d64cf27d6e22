/-! Constructors. -/
set_option maxHeartbeats 4000000 in
set_option maxRecDepth 100000 in
theorem c_X1_init (E : En) (N : Nat) (σ : Nat → va_E) (i₉ : Nat) (hi₉ : i₉ < N) (hi0₉ : σ i₉ = ob 1 [vi 0, vi 0, vi 0, vi 0]) : CK E M_X1_init 2 0 0 [vr E i₉] N σ (fun σ' => σ' i₉ = ob 1 [vi 0, vi 2, vi 0, vi 10] ∧ ∀ q₉, (q₉ < N ∧ q₉ ≠ i₉) → σ' q₉ = σ q₉) := by
  refine CT.of2 (own := RX1) (by decide) rfl (Nat.le_of_ble_eq_true rfl) ?_
  intro p e R s m args below meth c Q hF hr hlk hnm hz hR hQ
  refine go_aload_n (pc := 0) hF dX1_init_0 0 rfl ?_
  refine go_objInit (pc := 1) hF ol_X1_3 oi_1 oi_2 dX1_init_1 (Nat.le_of_ble_eq_true rfl) (by decide) ?_
  refine go_aload_n (pc := 4) hF dX1_init_4 0 rfl ?_
  refine go_iconst (pc := 5) hF dX1_init_5 ?_
  refine go_put (pc := 6) hF [vi 0, vi 0, vi 0, vi 0] fl_X1_11 dX1_init_6 (by omega) hi0₉ rfl rfl rfl (Nat.le_of_ble_eq_true rfl) (fun s1₉ u_s1 f_s1 => ?_)
  refine go_aload_n (pc := 9) hF dX1_init_9 0 rfl ?_
  refine go_iconst (pc := 10) hF dX1_init_10 ?_
  refine go_put (pc := 11) hF [vi 0, vi 2, vi 0, vi 0] fl_X1_17 dX1_init_11 (by omega) u_s1 rfl rfl rfl (Nat.le_of_ble_eq_true rfl) (fun s2₉ u_s2 f_s2 => ?_)
  refine go_aload_n (pc := 14) hF dX1_init_14 0 rfl ?_
  refine go_iconst (pc := 15) hF dX1_init_15 ?_
  refine go_put (pc := 16) hF [vi 0, vi 2, vi 0, vi 0] fl_X1_20 dX1_init_16 (by omega) u_s2 rfl rfl rfl (Nat.le_of_ble_eq_true rfl) (fun s3₉ u_s3 f_s3 => ?_)
  refine go_aload_n (pc := 19) hF dX1_init_19 0 rfl ?_
  refine go_bipush (pc := 20) hF dX1_init_20 (by decide) ?_
  refine go_put (pc := 22) hF [vi 0, vi 2, vi 0, vi 10] fl_X1_23 dX1_init_22 (by omega) u_s3 rfl rfl rfl (Nat.le_of_ble_eq_true rfl) (fun s4₉ u_s4 f_s4 => ?_)
  exact go_vretK hF hr hlk hQ rfl rfl dX1_init_25 ⟨u_s4, (fun jj h1 => by rw [f_s4 jj (by omega), f_s3 jj (by omega), f_s2 jj (by omega), f_s1 jj (by omega)])⟩
set_option maxHeartbeats 4000000 in
set_option maxRecDepth 100000 in
theorem c_X9_init (E : En) (N : Nat) (σ : Nat → va_E) (i₉ : Nat) (hi₉ : i₉ < N) (hi0₉ : σ i₉ = ob 8 [vi 0, vi 0, vi 0, vi 0, vi 0]) : CK E M_X9_init 2 0 0 [vr E i₉] N σ (fun σ' => σ' i₉ = ob 8 [vi 0, vi 0, vi 0, vi 0, vi 0] ∧ ∀ q₉, (q₉ < N ∧ q₉ ≠ i₉) → σ' q₉ = σ q₉) := by
  refine CT.of2 (own := RX9) (by decide) rfl (Nat.le_of_ble_eq_true rfl) ?_
  intro p e R s m args below meth c Q hF hr hlk hnm hz hR hQ
  refine go_aload_n (pc := 0) hF dX9_init_0 0 rfl ?_
  refine go_objInit (pc := 1) hF ol_X9_3 oi_1 oi_2 dX9_init_1 (Nat.le_of_ble_eq_true rfl) (by decide) ?_
  refine go_aload_n (pc := 4) hF dX9_init_4 0 rfl ?_
  refine go_iconst (pc := 5) hF dX9_init_5 ?_
  refine go_put (pc := 6) hF [vi 0, vi 0, vi 0, vi 0, vi 0] fl_X9_9 dX9_init_6 (by omega) hi0₉ rfl rfl rfl (Nat.le_of_ble_eq_true rfl) (fun s1₉ u_s1 f_s1 => ?_)
  refine go_aload_n (pc := 9) hF dX9_init_9 0 rfl ?_
  refine go_iconst (pc := 10) hF dX9_init_10 ?_
  refine go_put (pc := 11) hF [vi 0, vi 0, vi 0, vi 0, vi 0] fl_X9_15 dX9_init_11 (by omega) u_s1 rfl rfl rfl (Nat.le_of_ble_eq_true rfl) (fun s2₉ u_s2 f_s2 => ?_)
  refine go_aload_n (pc := 14) hF dX9_init_14 0 rfl ?_
  refine go_iconst (pc := 15) hF dX9_init_15 ?_
  refine go_put (pc := 16) hF [vi 0, vi 0, vi 0, vi 0, vi 0] fl_X9_18 dX9_init_16 (by omega) u_s2 rfl rfl rfl (Nat.le_of_ble_eq_true rfl) (fun s3₉ u_s3 f_s3 => ?_)
  refine go_aload_n (pc := 19) hF dX9_init_19 0 rfl ?_
  refine go_iconst (pc := 20) hF dX9_init_20 ?_
  refine go_put (pc := 21) hF [vi 0, vi 0, vi 0, vi 0, vi 0] fl_X9_21 dX9_init_21 (by omega) u_s3 rfl rfl rfl (Nat.le_of_ble_eq_true rfl) (fun s4₉ u_s4 f_s4 => ?_)
  refine go_aload_n (pc := 24) hF dX9_init_24 0 rfl ?_
  refine go_iconst (pc := 25) hF dX9_init_25 ?_
  refine go_put (pc := 26) hF [vi 0, vi 0, vi 0, vi 0, vi 0] fl_X9_24 dX9_init_26 (by omega) u_s4 rfl rfl rfl (Nat.le_of_ble_eq_true rfl) (fun s5 u_s5 f_s5 => ?_)
  exact go_vretK hF hr hlk hQ rfl rfl dX9_init_29 ⟨u_s5, (fun jj h1 => by rw [f_s5 jj (by omega), f_s4 jj (by omega), f_s3 jj (by omega), f_s2 jj (by omega), f_s1 jj (by omega)])⟩
set_option maxHeartbeats 4000000 in
set_option maxRecDepth 100000 in
theorem c_X0_init (E : En) (N : Nat) (σ : Nat → va_E) (i₉ : Nat) (hi₉ : i₉ < N) (hi0₉ : σ i₉ = ob 0 [.null, .null]) : CK E M_X0_init 2 2 12 [vr E i₉] N σ (fun σ' => σ' i₉ = ob 0 [vr E N, vr E (N + 1)] ∧ σ' N = ai E 6 (fun _ => 0) ∧ σ' (N + 1) = ai E 6 (fun _ => 0) ∧ ∀ q₉, (q₉ < N ∧ q₉ ≠ i₉) → σ' q₉ = σ q₉) := by
  refine CT.of2 (own := RX0) (by decide) rfl (Nat.le_of_ble_eq_true rfl) ?_
  intro p e R s m args below meth c Q hF hr hlk hnm hz hR hQ
  have hz0 := hz (by decide)
  refine go_aload_n (pc := 0) hF dX0_init_0 0 rfl ?_
  refine go_objInit (pc := 1) hF ol_X0_3 oi_1 oi_2 dX0_init_1 (Nat.le_of_ble_eq_true rfl) (by decide) ?_
  refine go_aload_n (pc := 4) hF dX0_init_4 0 rfl ?_
  refine go_bipush (pc := 5) hF dX0_init_5 (by decide) ?_
  refine go_newa (pc := 7) (k := (0, 0)) hF (1, 6) (N + 1) 0 6 (a0 := (6, .inl (fun _ => iI 0))) ac_int rfl rfl (fun _ _ h => h) (fun cA₉ => rfl) (by decide) (by decide) (Nat.le_of_ble_eq_true rfl) dX0_init_7 (show s.heap.size + 0 = ez E + (N) by omega) (Or.inl (by omega)) (by rw [hR]; exact Nat.le_of_ble_eq_true rfl) (by rw [hR]; exact Nat.le_of_ble_eq_true rfl) rfl rfl (fun s1₉ u_s1 f_s1 => ?_)
  have u_s1 : s1₉ N = ai E 6 (fun _ => 0) := u_s1
  have x_s1 : s1₉ i₉ = ob 0 [.null, .null] := (f_s1 i₉ (by omega)).trans hi0₉
  refine go_putF (pc := 9) hF [vr E N, .null] fl_X0_9 (fun C₉ T n₉ h => by have e9₉ : some (C₉, T, n₉) = some (RX0, TX0, 2) := h.symm; cases e9₉; rfl) hnm dX0_init_9 (by omega) x_s1 rfl rfl rfl (Nat.le_of_ble_eq_true rfl) (fun s2₉ u_s2 f_s2 => ?_)
  have q0_s2 : s2₉ N = ai E 6 (fun _ => 0) := (f_s2 N (by omega)).trans u_s1
  refine go_aload_n (pc := 12) hF dX0_init_12 0 rfl ?_
  refine go_bipush (pc := 13) hF dX0_init_13 (by decide) ?_
  refine go_newa (pc := 15) (k := (1, 6)) hF (2, 12) (N + 2) 0 6 (a0 := (6, .inl (fun _ => iI 0))) ac_int rfl rfl (fun _ _ h => h) (fun cA₉ => rfl) (by decide) (by decide) (Nat.le_of_ble_eq_true rfl) dX0_init_15 (show s.heap.size + 1 = ez E + (N + 1) by omega) (Or.inl (by omega)) (by rw [hR]; exact Nat.le_of_ble_eq_true rfl) (by rw [hR]; exact Nat.le_of_ble_eq_true rfl) rfl rfl (fun s3₉ u_s3 f_s3 => ?_)
  have u_s3 : s3₉ (N + 1) = ai E 6 (fun _ => 0) := u_s3
  have x_s3 : s3₉ i₉ = ob 0 [vr E N, .null] := (f_s3 i₉ (by omega)).trans u_s2
  have q0_s3 : s3₉ N = ai E 6 (fun _ => 0) := (f_s3 N (by omega)).trans q0_s2
  refine go_putF (pc := 17) hF [vr E N, vr E (N + 1)] fl_X0_15 (fun C₉ T n₉ h => by have e9₉ : some (C₉, T, n₉) = some (RX0, TX0, 2) := h.symm; cases e9₉; rfl) hnm dX0_init_17 (by omega) x_s3 rfl rfl rfl (Nat.le_of_ble_eq_true rfl) (fun s4₉ u_s4 f_s4 => ?_)
  have q0_s4 : s4₉ N = ai E 6 (fun _ => 0) := (f_s4 N (by omega)).trans q0_s3
  have q1_s4 : s4₉ (N + 1) = ai E 6 (fun _ => 0) := (f_s4 (N + 1) (by omega)).trans u_s3
  exact go_vretK hF hr hlk hQ rfl rfl dX0_init_20 ⟨u_s4, q0_s4, q1_s4, (fun jj h1 => by rw [f_s4 jj (by omega), f_s3 jj (by omega), f_s2 jj (by omega), f_s1 jj (by omega)])⟩
set_option maxHeartbeats 4000000 in
set_option maxRecDepth 100000 in
theorem c_X6_init (E : En) (N : Nat) (σ : Nat → va_E) (i₉ : Nat) (hi₉ : i₉ < N) (hi0₉ : σ i₉ = ob 6 [.null, .null, .null, .null, .null, .null, vi 0, vi 0, vi 0, vi 0, vi 0, vi 0]) : CK E M_X6_init 2 6 368 [vr E i₉] N σ (fun σ' => σ' i₉ = ob 6 [vr E N, vr E (N + 1), vr E (N + 2), vr E (N + 3), vr E (N + 4), vr E (N + 5), vi 0, vi 0, vi 0, vi 0, vi 0, vi 0] ∧ σ' N = ai E 80 (fun _ => 0) ∧ σ' (N + 1) = ai E 80 (fun _ => 0) ∧ σ' (N + 2) = ai E 80 (fun _ => 0) ∧ σ' (N + 3) = ai E 80 (fun _ => 0) ∧ σ' (N + 4) = ai E 24 (fun _ => 0) ∧ σ' (N + 5) = ai E 24 (fun _ => 0) ∧ ∀ q₉, (q₉ < N ∧ q₉ ≠ i₉) → σ' q₉ = σ q₉) := by
  refine CT.of2 (own := RX6) (by decide) rfl (Nat.le_of_ble_eq_true rfl) ?_
  intro p e R s m args below meth c Q hF hr hlk hnm hz hR hQ
  have hz0 := hz (by decide)
  refine go_aload_n (pc := 0) hF dX6_init_0 0 rfl ?_
  refine go_objInit (pc := 1) hF ol_X6_3 oi_1 oi_2 dX6_init_1 (Nat.le_of_ble_eq_true rfl) (by decide) ?_
  refine go_aload_n (pc := 4) hF dX6_init_4 0 rfl ?_
  refine go_bipush (pc := 5) hF dX6_init_5 (by decide) ?_
  refine go_newa (pc := 7) (k := (0, 0)) hF (1, 80) (N + 1) 0 80 (a0 := (80, .inl (fun _ => iI 0))) ac_int rfl rfl (fun _ _ h => h) (fun cA₉ => rfl) (by decide) (by decide) (Nat.le_of_ble_eq_true rfl) dX6_init_7 (show s.heap.size + 0 = ez E + (N) by omega) (Or.inl (by omega)) (by rw [hR]; exact Nat.le_of_ble_eq_true rfl) (by rw [hR]; exact Nat.le_of_ble_eq_true rfl) rfl rfl (fun s1₉ u_s1 f_s1 => ?_)
  have u_s1 : s1₉ N = ai E 80 (fun _ => 0) := u_s1
  have x_s1 : s1₉ i₉ = ob 6 [.null, .null, .null, .null, .null, .null, vi 0, vi 0, vi 0, vi 0, vi 0, vi 0] := (f_s1 i₉ (by omega)).trans hi0₉
  refine go_putF (pc := 9) hF [vr E N, .null, .null, .null, .null, .null, vi 0, vi 0, vi 0, vi 0, vi 0, vi 0] fl_X6_9 (fun C₉ T n₉ h => by have e9₉ : some (C₉, T, n₉) = some (RX6, TX6, 12) := h.symm; cases e9₉; rfl) hnm dX6_init_9 (by omega) x_s1 rfl rfl rfl (Nat.le_of_ble_eq_true rfl) (fun s2₉ u_s2 f_s2 => ?_)
  have q0_s2 : s2₉ N = ai E 80 (fun _ => 0) := (f_s2 N (by omega)).trans u_s1
  refine go_aload_n (pc := 12) hF dX6_init_12 0 rfl ?_
  refine go_bipush (pc := 13) hF dX6_init_13 (by decide) ?_
  refine go_newa (pc := 15) (k := (1, 80)) hF (2, 160) (N + 2) 0 80 (a0 := (80, .inl (fun _ => iI 0))) ac_int rfl rfl (fun _ _ h => h) (fun cA₉ => rfl) (by decide) (by decide) (Nat.le_of_ble_eq_true rfl) dX6_init_15 (show s.heap.size + 1 = ez E + (N + 1) by omega) (Or.inl (by omega)) (by rw [hR]; exact Nat.le_of_ble_eq_true rfl) (by rw [hR]; exact Nat.le_of_ble_eq_true rfl) rfl rfl (fun s3₉ u_s3 f_s3 => ?_)
  have u_s3 : s3₉ (N + 1) = ai E 80 (fun _ => 0) := u_s3
  have x_s3 : s3₉ i₉ = ob 6 [vr E N, .null, .null, .null, .null, .null, vi 0, vi 0, vi 0, vi 0, vi 0, vi 0] := (f_s3 i₉ (by omega)).trans u_s2
  have q0_s3 : s3₉ N = ai E 80 (fun _ => 0) := (f_s3 N (by omega)).trans q0_s2
  refine go_putF (pc := 17) hF [vr E N, vr E (N + 1), .null, .null, .null, .null, vi 0, vi 0, vi 0, vi 0, vi 0, vi 0] fl_X6_15 (fun C₉ T n₉ h => by have e9₉ : some (C₉, T, n₉) = some (RX6, TX6, 12) := h.symm; cases e9₉; rfl) hnm dX6_init_17 (by omega) x_s3 rfl rfl rfl (Nat.le_of_ble_eq_true rfl) (fun s4₉ u_s4 f_s4 => ?_)
  have q0_s4 : s4₉ N = ai E 80 (fun _ => 0) := (f_s4 N (by omega)).trans q0_s3
  have q1_s4 : s4₉ (N + 1) = ai E 80 (fun _ => 0) := (f_s4 (N + 1) (by omega)).trans u_s3
  refine go_aload_n (pc := 20) hF dX6_init_20 0 rfl ?_
  refine go_bipush (pc := 21) hF dX6_init_21 (by decide) ?_
  refine go_newa (pc := 23) (k := (2, 160)) hF (3, 240) (N + 3) 0 80 (a0 := (80, .inl (fun _ => iI 0))) ac_int rfl rfl (fun _ _ h => h) (fun cA₉ => rfl) (by decide) (by decide) (Nat.le_of_ble_eq_true rfl) dX6_init_23 (show s.heap.size + 2 = ez E + (N + 2) by omega) (Or.inl (by omega)) (by rw [hR]; exact Nat.le_of_ble_eq_true rfl) (by rw [hR]; exact Nat.le_of_ble_eq_true rfl) rfl rfl (fun s5 u_s5 f_s5 => ?_)
  have u_s5 : s5 (N + 2) = ai E 80 (fun _ => 0) := u_s5
  have x_s5 : s5 i₉ = ob 6 [vr E N, vr E (N + 1), .null, .null, .null, .null, vi 0, vi 0, vi 0, vi 0, vi 0, vi 0] := (f_s5 i₉ (by omega)).trans u_s4
  have q0_s5 : s5 N = ai E 80 (fun _ => 0) := (f_s5 N (by omega)).trans q0_s4
  have q1_s5 : s5 (N + 1) = ai E 80 (fun _ => 0) := (f_s5 (N + 1) (by omega)).trans q1_s4
  refine go_putF (pc := 25) hF [vr E N, vr E (N + 1), vr E (N + 2), .null, .null, .null, vi 0, vi 0, vi 0, vi 0, vi 0, vi 0] fl_X6_18 (fun C₉ T n₉ h => by have e9₉ : some (C₉, T, n₉) = some (RX6, TX6, 12) := h.symm; cases e9₉; rfl) hnm dX6_init_25 (by omega) x_s5 rfl rfl rfl (Nat.le_of_ble_eq_true rfl) (fun s6₉ u_s6 f_s6 => ?_)
  have q0_s6 : s6₉ N = ai E 80 (fun _ => 0) := (f_s6 N (by omega)).trans q0_s5
  have q1_s6 : s6₉ (N + 1) = ai E 80 (fun _ => 0) := (f_s6 (N + 1) (by omega)).trans q1_s5
  have q2_s6 : s6₉ (N + 2) = ai E 80 (fun _ => 0) := (f_s6 (N + 2) (by omega)).trans u_s5
  refine go_aload_n (pc := 28) hF dX6_init_28 0 rfl ?_
  refine go_bipush (pc := 29) hF dX6_init_29 (by decide) ?_
  refine go_newa (pc := 31) (k := (3, 240)) hF (4, 320) (N + 4) 0 80 (a0 := (80, .inl (fun _ => iI 0))) ac_int rfl rfl (fun _ _ h => h) (fun cA₉ => rfl) (by decide) (by decide) (Nat.le_of_ble_eq_true rfl) dX6_init_31 (show s.heap.size + 3 = ez E + (N + 3) by omega) (Or.inl (by omega)) (by rw [hR]; exact Nat.le_of_ble_eq_true rfl) (by rw [hR]; exact Nat.le_of_ble_eq_true rfl) rfl rfl (fun s7 u_s7 f_s7 => ?_)
  have u_s7 : s7 (N + 3) = ai E 80 (fun _ => 0) := u_s7
  have x_s7 : s7 i₉ = ob 6 [vr E N, vr E (N + 1), vr E (N + 2), .null, .null, .null, vi 0, vi 0, vi 0, vi 0, vi 0, vi 0] := (f_s7 i₉ (by omega)).trans u_s6
  have q0_s7 : s7 N = ai E 80 (fun _ => 0) := (f_s7 N (by omega)).trans q0_s6
  have q1_s7 : s7 (N + 1) = ai E 80 (fun _ => 0) := (f_s7 (N + 1) (by omega)).trans q1_s6
  have q2_s7 : s7 (N + 2) = ai E 80 (fun _ => 0) := (f_s7 (N + 2) (by omega)).trans q2_s6
  refine go_putF (pc := 33) hF [vr E N, vr E (N + 1), vr E (N + 2), vr E (N + 3), .null, .null, vi 0, vi 0, vi 0, vi 0, vi 0, vi 0] fl_X6_21 (fun C₉ T n₉ h => by have e9₉ : some (C₉, T, n₉) = some (RX6, TX6, 12) := h.symm; cases e9₉; rfl) hnm dX6_init_33 (by omega) x_s7 rfl rfl rfl (Nat.le_of_ble_eq_true rfl) (fun s8 u_s8 f_s8 => ?_)
  have q0_s8 : s8 N = ai E 80 (fun _ => 0) := (f_s8 N (by omega)).trans q0_s7
  have q1_s8 : s8 (N + 1) = ai E 80 (fun _ => 0) := (f_s8 (N + 1) (by omega)).trans q1_s7
  have q2_s8 : s8 (N + 2) = ai E 80 (fun _ => 0) := (f_s8 (N + 2) (by omega)).trans q2_s7
  have q3_s8 : s8 (N + 3) = ai E 80 (fun _ => 0) := (f_s8 (N + 3) (by omega)).trans u_s7
  refine go_aload_n (pc := 36) hF dX6_init_36 0 rfl ?_
  refine go_bipush (pc := 37) hF dX6_init_37 (by decide) ?_
  refine go_newa (pc := 39) (k := (4, 320)) hF (5, 344) (N + 5) 0 24 (a0 := (24, .inl (fun _ => iI 0))) ac_int rfl rfl (fun _ _ h => h) (fun cA₉ => rfl) (by decide) (by decide) (Nat.le_of_ble_eq_true rfl) dX6_init_39 (show s.heap.size + 4 = ez E + (N + 4) by omega) (Or.inl (by omega)) (by rw [hR]; exact Nat.le_of_ble_eq_true rfl) (by rw [hR]; exact Nat.le_of_ble_eq_true rfl) rfl rfl (fun s9 u_s9 f_s9 => ?_)
  have u_s9 : s9 (N + 4) = ai E 24 (fun _ => 0) := u_s9
  have x_s9 : s9 i₉ = ob 6 [vr E N, vr E (N + 1), vr E (N + 2), vr E (N + 3), .null, .null, vi 0, vi 0, vi 0, vi 0, vi 0, vi 0] := (f_s9 i₉ (by omega)).trans u_s8
  have q0_s9 : s9 N = ai E 80 (fun _ => 0) := (f_s9 N (by omega)).trans q0_s8
  have q1_s9 : s9 (N + 1) = ai E 80 (fun _ => 0) := (f_s9 (N + 1) (by omega)).trans q1_s8
  have q2_s9 : s9 (N + 2) = ai E 80 (fun _ => 0) := (f_s9 (N + 2) (by omega)).trans q2_s8
  have q3_s9 : s9 (N + 3) = ai E 80 (fun _ => 0) := (f_s9 (N + 3) (by omega)).trans q3_s8
  refine go_putF (pc := 41) hF [vr E N, vr E (N + 1), vr E (N + 2), vr E (N + 3), vr E (N + 4), .null, vi 0, vi 0, vi 0, vi 0, vi 0, vi 0] fl_X6_24 (fun C₉ T n₉ h => by have e9₉ : some (C₉, T, n₉) = some (RX6, TX6, 12) := h.symm; cases e9₉; rfl) hnm dX6_init_41 (by omega) x_s9 rfl rfl rfl (Nat.le_of_ble_eq_true rfl) (fun s10 u_s10 f_s10 => ?_)
  have q0_s10 : s10 N = ai E 80 (fun _ => 0) := (f_s10 N (by omega)).trans q0_s9
  have q1_s10 : s10 (N + 1) = ai E 80 (fun _ => 0) := (f_s10 (N + 1) (by omega)).trans q1_s9
  have q2_s10 : s10 (N + 2) = ai E 80 (fun _ => 0) := (f_s10 (N + 2) (by omega)).trans q2_s9
  have q3_s10 : s10 (N + 3) = ai E 80 (fun _ => 0) := (f_s10 (N + 3) (by omega)).trans q3_s9
  have q4_s10 : s10 (N + 4) = ai E 24 (fun _ => 0) := (f_s10 (N + 4) (by omega)).trans u_s9
  refine go_aload_n (pc := 44) hF dX6_init_44 0 rfl ?_
  refine go_bipush (pc := 45) hF dX6_init_45 (by decide) ?_
  refine go_newa (pc := 47) (k := (5, 344)) hF (6, 368) (N + 6) 0 24 (a0 := (24, .inl (fun _ => iI 0))) ac_int rfl rfl (fun _ _ h => h) (fun cA₉ => rfl) (by decide) (by decide) (Nat.le_of_ble_eq_true rfl) dX6_init_47 (show s.heap.size + 5 = ez E + (N + 5) by omega) (Or.inl (by omega)) (by rw [hR]; exact Nat.le_of_ble_eq_true rfl) (by rw [hR]; exact Nat.le_of_ble_eq_true rfl) rfl rfl (fun s11 u_s11 f_s11 => ?_)
  have u_s11 : s11 (N + 5) = ai E 24 (fun _ => 0) := u_s11
  have x_s11 : s11 i₉ = ob 6 [vr E N, vr E (N + 1), vr E (N + 2), vr E (N + 3), vr E (N + 4), .null, vi 0, vi 0, vi 0, vi 0, vi 0, vi 0] := (f_s11 i₉ (by omega)).trans u_s10
  have q0_s11 : s11 N = ai E 80 (fun _ => 0) := (f_s11 N (by omega)).trans q0_s10
  have q1_s11 : s11 (N + 1) = ai E 80 (fun _ => 0) := (f_s11 (N + 1) (by omega)).trans q1_s10
  have q2_s11 : s11 (N + 2) = ai E 80 (fun _ => 0) := (f_s11 (N + 2) (by omega)).trans q2_s10
  have q3_s11 : s11 (N + 3) = ai E 80 (fun _ => 0) := (f_s11 (N + 3) (by omega)).trans q3_s10
  have q4_s11 : s11 (N + 4) = ai E 24 (fun _ => 0) := (f_s11 (N + 4) (by omega)).trans q4_s10
  refine go_putF (pc := 49) hF [vr E N, vr E (N + 1), vr E (N + 2), vr E (N + 3), vr E (N + 4), vr E (N + 5), vi 0, vi 0, vi 0, vi 0, vi 0, vi 0] fl_X6_27 (fun C₉ T n₉ h => by have e9₉ : some (C₉, T, n₉) = some (RX6, TX6, 12) := h.symm; cases e9₉; rfl) hnm dX6_init_49 (by omega) x_s11 rfl rfl rfl (Nat.le_of_ble_eq_true rfl) (fun s12 u_s12 f_s12 => ?_)
  have q0_s12 : s12 N = ai E 80 (fun _ => 0) := (f_s12 N (by omega)).trans q0_s11
  have q1_s12 : s12 (N + 1) = ai E 80 (fun _ => 0) := (f_s12 (N + 1) (by omega)).trans q1_s11
  have q2_s12 : s12 (N + 2) = ai E 80 (fun _ => 0) := (f_s12 (N + 2) (by omega)).trans q2_s11
  have q3_s12 : s12 (N + 3) = ai E 80 (fun _ => 0) := (f_s12 (N + 3) (by omega)).trans q3_s11
  have q4_s12 : s12 (N + 4) = ai E 24 (fun _ => 0) := (f_s12 (N + 4) (by omega)).trans q4_s11
  have q5_s12 : s12 (N + 5) = ai E 24 (fun _ => 0) := (f_s12 (N + 5) (by omega)).trans u_s11
  refine go_aload_n (pc := 52) hF dX6_init_52 0 rfl ?_
  refine go_iconst (pc := 53) hF dX6_init_53 ?_
  refine go_put (pc := 54) hF [vr E N, vr E (N + 1), vr E (N + 2), vr E (N + 3), vr E (N + 4), vr E (N + 5), vi 0, vi 0, vi 0, vi 0, vi 0, vi 0] fl_X6_30 dX6_init_54 (by omega) u_s12 rfl rfl rfl (Nat.le_of_ble_eq_true rfl) (fun s13 u_s13 f_s13 => ?_)
  have q0_s13 : s13 N = ai E 80 (fun _ => 0) := (f_s13 N (by omega)).trans q0_s12
  have q1_s13 : s13 (N + 1) = ai E 80 (fun _ => 0) := (f_s13 (N + 1) (by omega)).trans q1_s12
  have q2_s13 : s13 (N + 2) = ai E 80 (fun _ => 0) := (f_s13 (N + 2) (by omega)).trans q2_s12
  have q3_s13 : s13 (N + 3) = ai E 80 (fun _ => 0) := (f_s13 (N + 3) (by omega)).trans q3_s12
  have q4_s13 : s13 (N + 4) = ai E 24 (fun _ => 0) := (f_s13 (N + 4) (by omega)).trans q4_s12
  have q5_s13 : s13 (N + 5) = ai E 24 (fun _ => 0) := (f_s13 (N + 5) (by omega)).trans q5_s12
  refine go_aload_n (pc := 57) hF dX6_init_57 0 rfl ?_
  refine go_iconst (pc := 58) hF dX6_init_58 ?_
  refine go_put (pc := 59) hF [vr E N, vr E (N + 1), vr E (N + 2), vr E (N + 3), vr E (N + 4), vr E (N + 5), vi 0, vi 0, vi 0, vi 0, vi 0, vi 0] fl_X6_34 dX6_init_59 (by omega) u_s13 rfl rfl rfl (Nat.le_of_ble_eq_true rfl) (fun s14 u_s14 f_s14 => ?_)
  have q0_s14 : s14 N = ai E 80 (fun _ => 0) := (f_s14 N (by omega)).trans q0_s13
  have q1_s14 : s14 (N + 1) = ai E 80 (fun _ => 0) := (f_s14 (N + 1) (by omega)).trans q1_s13
  have q2_s14 : s14 (N + 2) = ai E 80 (fun _ => 0) := (f_s14 (N + 2) (by omega)).trans q2_s13
  have q3_s14 : s14 (N + 3) = ai E 80 (fun _ => 0) := (f_s14 (N + 3) (by omega)).trans q3_s13
  have q4_s14 : s14 (N + 4) = ai E 24 (fun _ => 0) := (f_s14 (N + 4) (by omega)).trans q4_s13
  have q5_s14 : s14 (N + 5) = ai E 24 (fun _ => 0) := (f_s14 (N + 5) (by omega)).trans q5_s13
  refine go_aload_n (pc := 62) hF dX6_init_62 0 rfl ?_
  refine go_iconst (pc := 63) hF dX6_init_63 ?_
  refine go_put (pc := 64) hF [vr E N, vr E (N + 1), vr E (N + 2), vr E (N + 3), vr E (N + 4), vr E (N + 5), vi 0, vi 0, vi 0, vi 0, vi 0, vi 0] fl_X6_37 dX6_init_64 (by omega) u_s14 rfl rfl rfl (Nat.le_of_ble_eq_true rfl) (fun s15 u_s15 f_s15 => ?_)
  have q0_s15 : s15 N = ai E 80 (fun _ => 0) := (f_s15 N (by omega)).trans q0_s14
  have q1_s15 : s15 (N + 1) = ai E 80 (fun _ => 0) := (f_s15 (N + 1) (by omega)).trans q1_s14
  have q2_s15 : s15 (N + 2) = ai E 80 (fun _ => 0) := (f_s15 (N + 2) (by omega)).trans q2_s14
  have q3_s15 : s15 (N + 3) = ai E 80 (fun _ => 0) := (f_s15 (N + 3) (by omega)).trans q3_s14
  have q4_s15 : s15 (N + 4) = ai E 24 (fun _ => 0) := (f_s15 (N + 4) (by omega)).trans q4_s14
  have q5_s15 : s15 (N + 5) = ai E 24 (fun _ => 0) := (f_s15 (N + 5) (by omega)).trans q5_s14
  refine go_aload_n (pc := 67) hF dX6_init_67 0 rfl ?_
  refine go_iconst (pc := 68) hF dX6_init_68 ?_
  refine go_put (pc := 69) hF [vr E N, vr E (N + 1), vr E (N + 2), vr E (N + 3), vr E (N + 4), vr E (N + 5), vi 0, vi 0, vi 0, vi 0, vi 0, vi 0] fl_X6_40 dX6_init_69 (by omega) u_s15 rfl rfl rfl (Nat.le_of_ble_eq_true rfl) (fun s16 u_s16 f_s16 => ?_)
  have q0_s16 : s16 N = ai E 80 (fun _ => 0) := (f_s16 N (by omega)).trans q0_s15
  have q1_s16 : s16 (N + 1) = ai E 80 (fun _ => 0) := (f_s16 (N + 1) (by omega)).trans q1_s15
  have q2_s16 : s16 (N + 2) = ai E 80 (fun _ => 0) := (f_s16 (N + 2) (by omega)).trans q2_s15
  have q3_s16 : s16 (N + 3) = ai E 80 (fun _ => 0) := (f_s16 (N + 3) (by omega)).trans q3_s15
  have q4_s16 : s16 (N + 4) = ai E 24 (fun _ => 0) := (f_s16 (N + 4) (by omega)).trans q4_s15
  have q5_s16 : s16 (N + 5) = ai E 24 (fun _ => 0) := (f_s16 (N + 5) (by omega)).trans q5_s15
  refine go_aload_n (pc := 72) hF dX6_init_72 0 rfl ?_
  refine go_iconst (pc := 73) hF dX6_init_73 ?_
  refine go_put (pc := 74) hF [vr E N, vr E (N + 1), vr E (N + 2), vr E (N + 3), vr E (N + 4), vr E (N + 5), vi 0, vi 0, vi 0, vi 0, vi 0, vi 0] fl_X6_43 dX6_init_74 (by omega) u_s16 rfl rfl rfl (Nat.le_of_ble_eq_true rfl) (fun s17 u_s17 f_s17 => ?_)
  have q0_s17 : s17 N = ai E 80 (fun _ => 0) := (f_s17 N (by omega)).trans q0_s16
  have q1_s17 : s17 (N + 1) = ai E 80 (fun _ => 0) := (f_s17 (N + 1) (by omega)).trans q1_s16
  have q2_s17 : s17 (N + 2) = ai E 80 (fun _ => 0) := (f_s17 (N + 2) (by omega)).trans q2_s16
  have q3_s17 : s17 (N + 3) = ai E 80 (fun _ => 0) := (f_s17 (N + 3) (by omega)).trans q3_s16
  have q4_s17 : s17 (N + 4) = ai E 24 (fun _ => 0) := (f_s17 (N + 4) (by omega)).trans q4_s16
  have q5_s17 : s17 (N + 5) = ai E 24 (fun _ => 0) := (f_s17 (N + 5) (by omega)).trans q5_s16
  refine go_aload_n (pc := 77) hF dX6_init_77 0 rfl ?_
  refine go_iconst (pc := 78) hF dX6_init_78 ?_
  refine go_put (pc := 79) hF [vr E N, vr E (N + 1), vr E (N + 2), vr E (N + 3), vr E (N + 4), vr E (N + 5), vi 0, vi 0, vi 0, vi 0, vi 0, vi 0] fl_X6_46 dX6_init_79 (by omega) u_s17 rfl rfl rfl (Nat.le_of_ble_eq_true rfl) (fun s18 u_s18 f_s18 => ?_)
  have q0_s18 : s18 N = ai E 80 (fun _ => 0) := (f_s18 N (by omega)).trans q0_s17
  have q1_s18 : s18 (N + 1) = ai E 80 (fun _ => 0) := (f_s18 (N + 1) (by omega)).trans q1_s17
  have q2_s18 : s18 (N + 2) = ai E 80 (fun _ => 0) := (f_s18 (N + 2) (by omega)).trans q2_s17
  have q3_s18 : s18 (N + 3) = ai E 80 (fun _ => 0) := (f_s18 (N + 3) (by omega)).trans q3_s17
  have q4_s18 : s18 (N + 4) = ai E 24 (fun _ => 0) := (f_s18 (N + 4) (by omega)).trans q4_s17
  have q5_s18 : s18 (N + 5) = ai E 24 (fun _ => 0) := (f_s18 (N + 5) (by omega)).trans q5_s17
  exact go_vretK hF hr hlk hQ rfl rfl dX6_init_82 ⟨u_s18, q0_s18, q1_s18, q2_s18, q3_s18, q4_s18, q5_s18, (fun jj h1 => by rw [f_s18 jj (by omega), f_s17 jj (by omega), f_s16 jj (by omega), f_s15 jj (by omega), f_s14 jj (by omega), f_s13 jj (by omega), f_s12 jj (by omega), f_s11 jj (by omega), f_s10 jj (by omega), f_s9 jj (by omega), f_s8 jj (by omega), f_s7 jj (by omega), f_s6 jj (by omega), f_s5 jj (by omega), f_s4 jj (by omega), f_s3 jj (by omega), f_s2 jj (by omega), f_s1 jj (by omega)])⟩
set_option maxHeartbeats 4000000 in
set_option maxRecDepth 100000 in
theorem c_X4_init (E : En) (N : Nat) (σ : Nat → va_E) (i₉ : Nat) (hi₉ : i₉ < N) (hi0₉ : σ i₉ = ob 4 [.null, .null, .null, vi 0]) : CK E M_X4_init 3 3 1181 [vr E i₉] N σ (fun σ' => σ' i₉ = ob 4 [vr E N, vr E (N + 1), vr E (N + 2), vi 0] ∧ σ' N = ai E 157 (fun _ => 0) ∧ σ' (N + 1) = ai E 512 (fun _ => -1) ∧ σ' (N + 2) = ai E 512 (fun _ => 0) ∧ ∀ q₉, (q₉ < N ∧ q₉ ≠ i₉) → σ' q₉ = σ q₉) := by
  refine CT.of2 (own := RX4) (by decide) rfl (Nat.le_of_ble_eq_true rfl) ?_
  intro p e R s m args below meth c Q hF hr hlk hnm hz hR hQ
  have hz0 := hz (by decide)
  refine go_aload_n (pc := 0) hF dX4_init_0 0 rfl ?_
  refine go_objInit (pc := 1) hF ol_X4_3 oi_1 oi_2 dX4_init_1 (Nat.le_of_ble_eq_true rfl) (by decide) ?_
  refine go_aload_n (pc := 4) hF dX4_init_4 0 rfl ?_
  refine go_sipush (pc := 5) hF dX4_init_5 (by decide) ?_
  refine go_newa (pc := 8) (k := (0, 0)) hF (1, 157) (N + 1) 0 157 (a0 := (157, .inl (fun _ => iI 0))) ac_int rfl rfl (fun _ _ h => h) (fun cA₉ => rfl) (by decide) (by decide) (Nat.le_of_ble_eq_true rfl) dX4_init_8 (show s.heap.size + 0 = ez E + (N) by omega) (Or.inl (by omega)) (by rw [hR]; exact Nat.le_of_ble_eq_true rfl) (by rw [hR]; exact Nat.le_of_ble_eq_true rfl) rfl rfl (fun s1₉ u_s1 f_s1 => ?_)
  have u_s1 : s1₉ N = ai E 157 (fun _ => 0) := u_s1
  have x_s1 : s1₉ i₉ = ob 4 [.null, .null, .null, vi 0] := (f_s1 i₉ (by omega)).trans hi0₉
  refine go_putF (pc := 10) hF [vr E N, .null, .null, vi 0] fl_X4_11 (fun C₉ T n₉ h => by have e9₉ : some (C₉, T, n₉) = some (RX4, TX4, 4) := h.symm; cases e9₉; rfl) hnm dX4_init_10 (by omega) x_s1 rfl rfl rfl (Nat.le_of_ble_eq_true rfl) (fun s2₉ u_s2 f_s2 => ?_)
  have q0_s2 : s2₉ N = ai E 157 (fun _ => 0) := (f_s2 N (by omega)).trans u_s1
  refine go_aload_n (pc := 13) hF dX4_init_13 0 rfl ?_
  refine go_sipush (pc := 14) hF dX4_init_14 (by decide) ?_
  refine go_newa (pc := 17) (k := (1, 157)) hF (2, 669) (N + 2) 0 512 (a0 := (512, .inl (fun _ => iI 0))) ac_int rfl rfl (fun _ _ h => h) (fun cA₉ => rfl) (by decide) (by decide) (Nat.le_of_ble_eq_true rfl) dX4_init_17 (show s.heap.size + 1 = ez E + (N + 1) by omega) (Or.inl (by omega)) (by rw [hR]; exact Nat.le_of_ble_eq_true rfl) (by rw [hR]; exact Nat.le_of_ble_eq_true rfl) rfl rfl (fun s3₉ u_s3 f_s3 => ?_)
  have u_s3 : s3₉ (N + 1) = ai E 512 (fun _ => 0) := u_s3
  have x_s3 : s3₉ i₉ = ob 4 [vr E N, .null, .null, vi 0] := (f_s3 i₉ (by omega)).trans u_s2
  have q0_s3 : s3₉ N = ai E 157 (fun _ => 0) := (f_s3 N (by omega)).trans q0_s2
  refine go_putF (pc := 19) hF [vr E N, vr E (N + 1), .null, vi 0] fl_X4_17 (fun C₉ T n₉ h => by have e9₉ : some (C₉, T, n₉) = some (RX4, TX4, 4) := h.symm; cases e9₉; rfl) hnm dX4_init_19 (by omega) x_s3 rfl rfl rfl (Nat.le_of_ble_eq_true rfl) (fun s4₉ u_s4 f_s4 => ?_)
  have q0_s4 : s4₉ N = ai E 157 (fun _ => 0) := (f_s4 N (by omega)).trans q0_s3
  have q1_s4 : s4₉ (N + 1) = ai E 512 (fun _ => 0) := (f_s4 (N + 1) (by omega)).trans u_s3
  refine go_aload_n (pc := 22) hF dX4_init_22 0 rfl ?_
  refine go_sipush (pc := 23) hF dX4_init_23 (by decide) ?_
  refine go_newa (pc := 26) (k := (2, 669)) hF (3, 1181) (N + 3) 0 512 (a0 := (512, .inl (fun _ => iI 0))) ac_int rfl rfl (fun _ _ h => h) (fun cA₉ => rfl) (by decide) (by decide) (Nat.le_of_ble_eq_true rfl) dX4_init_26 (show s.heap.size + 2 = ez E + (N + 2) by omega) (Or.inl (by omega)) (by rw [hR]; exact Nat.le_of_ble_eq_true rfl) (by rw [hR]; exact Nat.le_of_ble_eq_true rfl) rfl rfl (fun s5 u_s5 f_s5 => ?_)
  have u_s5 : s5 (N + 2) = ai E 512 (fun _ => 0) := u_s5
  have x_s5 : s5 i₉ = ob 4 [vr E N, vr E (N + 1), .null, vi 0] := (f_s5 i₉ (by omega)).trans u_s4
  have q0_s5 : s5 N = ai E 157 (fun _ => 0) := (f_s5 N (by omega)).trans q0_s4
  have q1_s5 : s5 (N + 1) = ai E 512 (fun _ => 0) := (f_s5 (N + 1) (by omega)).trans q1_s4
  refine go_putF (pc := 28) hF [vr E N, vr E (N + 1), vr E (N + 2), vi 0] fl_X4_20 (fun C₉ T n₉ h => by have e9₉ : some (C₉, T, n₉) = some (RX4, TX4, 4) := h.symm; cases e9₉; rfl) hnm dX4_init_28 (by omega) x_s5 rfl rfl rfl (Nat.le_of_ble_eq_true rfl) (fun s6₉ u_s6 f_s6 => ?_)
  have q0_s6 : s6₉ N = ai E 157 (fun _ => 0) := (f_s6 N (by omega)).trans q0_s5
  have q1_s6 : s6₉ (N + 1) = ai E 512 (fun _ => 0) := (f_s6 (N + 1) (by omega)).trans q1_s5
  have q2_s6 : s6₉ (N + 2) = ai E 512 (fun _ => 0) := (f_s6 (N + 2) (by omega)).trans u_s5
  refine go_aload_n (pc := 31) hF dX4_init_31 0 rfl ?_
  refine go_iconst (pc := 32) hF dX4_init_32 ?_
  refine go_put (pc := 33) hF [vr E N, vr E (N + 1), vr E (N + 2), vi 0] fl_X4_23 dX4_init_33 (by omega) u_s6 rfl rfl rfl (Nat.le_of_ble_eq_true rfl) (fun s7 u_s7 f_s7 => ?_)
  have q0_s7 : s7 N = ai E 157 (fun _ => 0) := (f_s7 N (by omega)).trans q0_s6
  have q1_s7 : s7 (N + 1) = ai E 512 (fun _ => 0) := (f_s7 (N + 1) (by omega)).trans q1_s6
  have q2_s7 : s7 (N + 2) = ai E 512 (fun _ => 0) := (f_s7 (N + 2) (by omega)).trans q2_s6
  refine go_aload_n (pc := 36) hF dX4_init_36 0 rfl ?_
  refine go_get (pc := 37) hF fl_X4_17 dX4_init_37 (by omega) u_s7 rfl ?_
  refine go_iconst (pc := 40) hF dX4_init_40 ?_
  refine go_callSV (pc := 41) hF [vr E (N + 1), vi (-1)] [] ms_X4_27 dX4_init_41 (c_J7_fill E (N + 3) s7 (N + 1) 512 (fun _ => 0) (-1) (by omega) (by decide) q1_s7) rfl rfl (Nat.le_of_ble_eq_true rfl) (by decide) ⟨(by rw [hR]; exact Nat.le_of_ble_eq_true rfl), (by rw [hR]; exact Nat.le_of_ble_eq_true rfl)⟩ (fun s8 h_s8 => ?_)
  obtain ⟨u_s8, f_s8⟩ := h_s8
  have x_s8 : s8 i₉ = ob 4 [vr E N, vr E (N + 1), vr E (N + 2), vi 0] := (f_s8 i₉ (by omega)).trans u_s7
  have q0_s8 : s8 N = ai E 157 (fun _ => 0) := (f_s8 N (by omega)).trans q0_s7
  have q2_s8 : s8 (N + 2) = ai E 512 (fun _ => 0) := (f_s8 (N + 2) (by omega)).trans q2_s7
  exact go_vretK hF hr hlk hQ rfl rfl dX4_init_44 ⟨x_s8, q0_s8, u_s8, q2_s8, (fun jj h1 => by rw [f_s8 jj (by omega), f_s7 jj (by omega), f_s6 jj (by omega), f_s5 jj (by omega), f_s4 jj (by omega), f_s3 jj (by omega), f_s2 jj (by omega), f_s1 jj (by omega)])⟩
set_option maxHeartbeats 4000000 in
set_option maxRecDepth 100000 in
theorem c_X7_init (E : En) (N : Nat) (σ : Nat → va_E) (i₉ : Nat) (hi₉ : i₉ < N) (hi0₉ : σ i₉ = ob 7 [.null, vi 0, vi 0, .null]) : CK E M_X7_init 4 8 383 [vr E i₉] N σ (fun σ' => σ' i₉ = ob 7 [vr E N, vi 0, vi 0, vr E (N + 1)] ∧ σ' N = ai E 3 (fun _ => 0) ∧ σ' (N + 1) = ob 6 [vr E (N + 2), vr E (N + 3), vr E (N + 4), vr E (N + 5), vr E (N + 6), vr E (N + 7), vi 0, vi 0, vi 0, vi 0, vi 0, vi 0] ∧ σ' (N + 2) = ai E 80 (fun _ => 0) ∧ σ' (N + 3) = ai E 80 (fun _ => 0) ∧ σ' (N + 4) = ai E 80 (fun _ => 0) ∧ σ' (N + 5) = ai E 80 (fun _ => 0) ∧ σ' (N + 6) = ai E 24 (fun _ => 0) ∧ σ' (N + 7) = ai E 24 (fun _ => 0) ∧ ∀ q₉, (q₉ < N ∧ q₉ ≠ i₉) → σ' q₉ = σ q₉) := by
  refine CT.of2 (own := RX7) (by decide) rfl (Nat.le_of_ble_eq_true rfl) ?_
  intro p e R s m args below meth c Q hF hr hlk hnm hz hR hQ
  have hz0 := hz (by decide)
  refine go_aload_n (pc := 0) hF dX7_init_0 0 rfl ?_
  refine go_objInit (pc := 1) hF ol_X7_3 oi_1 oi_2 dX7_init_1 (Nat.le_of_ble_eq_true rfl) (by decide) ?_
  refine go_aload_n (pc := 4) hF dX7_init_4 0 rfl ?_
  refine go_iconst (pc := 5) hF dX7_init_5 ?_
  refine go_newa (pc := 6) (k := (0, 0)) hF (1, 3) (N + 1) 0 3 (a0 := (3, .inl (fun _ => iI 0))) ac_int rfl rfl (fun _ _ h => h) (fun cA₉ => rfl) (by decide) (by decide) (Nat.le_of_ble_eq_true rfl) dX7_init_6 (show s.heap.size + 0 = ez E + (N) by omega) (Or.inl (by omega)) (by rw [hR]; exact Nat.le_of_ble_eq_true rfl) (by rw [hR]; exact Nat.le_of_ble_eq_true rfl) rfl rfl (fun s1₉ u_s1 f_s1 => ?_)
  have u_s1 : s1₉ N = ai E 3 (fun _ => 0) := u_s1
  have x_s1 : s1₉ i₉ = ob 7 [.null, vi 0, vi 0, .null] := (f_s1 i₉ (by omega)).trans hi0₉
  refine go_putF (pc := 8) hF [vr E N, vi 0, vi 0, .null] fl_X7_9 (fun C₉ T n₉ h => by have e9₉ : some (C₉, T, n₉) = some (RX7, TX7, 4) := h.symm; cases e9₉; rfl) hnm dX7_init_8 (by omega) x_s1 rfl rfl rfl (Nat.le_of_ble_eq_true rfl) (fun s2₉ u_s2 f_s2 => ?_)
  have q0_s2 : s2₉ N = ai E 3 (fun _ => 0) := (f_s2 N (by omega)).trans u_s1
  refine go_aload_n (pc := 11) hF dX7_init_11 0 rfl ?_
  refine go_iconst (pc := 12) hF dX7_init_12 ?_
  refine go_put (pc := 13) hF [vr E N, vi 0, vi 0, .null] fl_X7_15 dX7_init_13 (by omega) u_s2 rfl rfl rfl (Nat.le_of_ble_eq_true rfl) (fun s3₉ u_s3 f_s3 => ?_)
  have q0_s3 : s3₉ N = ai E 3 (fun _ => 0) := (f_s3 N (by omega)).trans q0_s2
  refine go_aload_n (pc := 16) hF dX7_init_16 0 rfl ?_
  refine go_iconst (pc := 17) hF dX7_init_17 ?_
  refine go_put (pc := 18) hF [vr E N, vi 0, vi 0, .null] fl_X7_19 dX7_init_18 (by omega) u_s3 rfl rfl rfl (Nat.le_of_ble_eq_true rfl) (fun s4₉ u_s4 f_s4 => ?_)
  have q0_s4 : s4₉ N = ai E 3 (fun _ => 0) := (f_s4 N (by omega)).trans q0_s3
  refine go_aload_n (pc := 21) hF dX7_init_21 0 rfl ?_
  refine go_new (pc := 22) (k := (1, 3)) hF (2, 15) (N + 2) nw_X7_22 dX7_init_22 (show s.heap.size + 1 = ez E + (N + 1) by omega) (Or.inl (by omega)) (by rw [hR]; exact Nat.le_of_ble_eq_true rfl) (by rw [hR]; exact Nat.le_of_ble_eq_true rfl) rfl rfl (fun s5 u_s5 f_s5 => ?_)
  have x_s5 : s5 i₉ = ob 7 [vr E N, vi 0, vi 0, .null] := (f_s5 i₉ (by omega)).trans u_s4
  have q0_s5 : s5 N = ai E 3 (fun _ => 0) := (f_s5 N (by omega)).trans q0_s4
  refine go_dup (pc := 25) hF dX7_init_25 rfl ?_
  refine go_callIN (pc := 26) (k := (2, 15)) hF (8, 383) (N + 8) mi_X7_24 dX7_init_26 (c_X6_init E (N + 2) s5 (N + 1) (by omega) u_s5) (Nat.le_of_ble_eq_true rfl) (by decide) (by rw [hR]; exact Nat.le_of_ble_eq_true rfl) (by rw [hR]; exact Nat.le_of_ble_eq_true rfl) (fun _ => (show s.heap.size + 2 = ez E + (N + 2) by omega)) (fun _ => (Or.inl (by omega))) rfl rfl (fun s6₉ h_s6 => ?_)
  obtain ⟨u0_s6, u1_s6, u2_s6, u3_s6, u4_s6, u5_s6, u6_s6, f_s6⟩ := h_s6
  have u0_s6' : s6₉ (N + 1) = ob 6 [vr E (N + 2), vr E (N + 3), vr E (N + 4), vr E (N + 5), vr E (N + 6), vr E (N + 7), vi 0, vi 0, vi 0, vi 0, vi 0, vi 0] := u0_s6
  have u1_s6' : s6₉ (N + 2) = ai E 80 (fun _ => 0) := u1_s6
  have u2_s6' : s6₉ (N + 3) = ai E 80 (fun _ => 0) := u2_s6
  have u3_s6' : s6₉ (N + 4) = ai E 80 (fun _ => 0) := u3_s6
  have u4_s6' : s6₉ (N + 5) = ai E 80 (fun _ => 0) := u4_s6
  have u5_s6' : s6₉ (N + 6) = ai E 24 (fun _ => 0) := u5_s6
  have u6_s6' : s6₉ (N + 7) = ai E 24 (fun _ => 0) := u6_s6
  have x_s6 : s6₉ i₉ = ob 7 [vr E N, vi 0, vi 0, .null] := (f_s6 i₉ (by omega)).trans x_s5
  have q0_s6 : s6₉ N = ai E 3 (fun _ => 0) := (f_s6 N (by omega)).trans q0_s5
  refine go_putF (pc := 29) hF [vr E N, vi 0, vi 0, vr E (N + 1)] fl_X7_25 (fun C₉ T n₉ h => by have e9₉ : some (C₉, T, n₉) = some (RX7, TX7, 4) := h.symm; cases e9₉; rfl) hnm dX7_init_29 (by omega) x_s6 rfl rfl rfl (Nat.le_of_ble_eq_true rfl) (fun s7 u_s7 f_s7 => ?_)
  have q0_s7 : s7 N = ai E 3 (fun _ => 0) := (f_s7 N (by omega)).trans q0_s6
  have q1_s7 : s7 (N + 1) = ob 6 [vr E (N + 2), vr E (N + 3), vr E (N + 4), vr E (N + 5), vr E (N + 6), vr E (N + 7), vi 0, vi 0, vi 0, vi 0, vi 0, vi 0] := (f_s7 (N + 1) (by omega)).trans u0_s6'
  have q2_s7 : s7 (N + 2) = ai E 80 (fun _ => 0) := (f_s7 (N + 2) (by omega)).trans u1_s6'
  have q3_s7 : s7 (N + 3) = ai E 80 (fun _ => 0) := (f_s7 (N + 3) (by omega)).trans u2_s6'
  have q4_s7 : s7 (N + 4) = ai E 80 (fun _ => 0) := (f_s7 (N + 4) (by omega)).trans u3_s6'
  have q5_s7 : s7 (N + 5) = ai E 80 (fun _ => 0) := (f_s7 (N + 5) (by omega)).trans u4_s6'
  have q6_s7 : s7 (N + 6) = ai E 24 (fun _ => 0) := (f_s7 (N + 6) (by omega)).trans u5_s6'
  have q7_s7 : s7 (N + 7) = ai E 24 (fun _ => 0) := (f_s7 (N + 7) (by omega)).trans u6_s6'
  exact go_vretK hF hr hlk hQ rfl rfl dX7_init_32 ⟨u_s7, q0_s7, q1_s7, q2_s7, q3_s7, q4_s7, q5_s7, q6_s7, q7_s7, (fun jj h1 => by rw [f_s7 jj (by omega), f_s6 jj (by omega), f_s5 jj (by omega), f_s4 jj (by omega), f_s3 jj (by omega), f_s2 jj (by omega), f_s1 jj (by omega)])⟩
set_option maxHeartbeats 4000000 in
set_option maxRecDepth 100000 in
theorem c_X5_init (E : En) (N : Nat) (σ : Nat → va_E) (i₉ : Nat) (hi₉ : i₉ < N) (hi0₉ : σ i₉ = ob 5 [.null, vi 0, vi 0]) : CK E M_X5_init 4 9 40 [vr E i₉] N σ (fun σ' => σ' i₉ = ob 5 [vr E N, vi 0, vi 0] ∧ σ' N = ar E 4 8 (up (up (up (up (up (up (up (up (fun _ => -1) 0 ((N + 1 : Nat) : Int)) 1 ((N + 2 : Nat) : Int)) 2 ((N + 3 : Nat) : Int)) 3 ((N + 4 : Nat) : Int)) 4 ((N + 5 : Nat) : Int)) 5 ((N + 6 : Nat) : Int)) 6 ((N + 7 : Nat) : Int)) 7 ((N + 8 : Nat) : Int)) ∧ σ' (N + 1) = ob 1 [vi 0, vi 2, vi 0, vi 10] ∧ σ' (N + 2) = ob 1 [vi 0, vi 2, vi 0, vi 10] ∧ σ' (N + 3) = ob 1 [vi 0, vi 2, vi 0, vi 10] ∧ σ' (N + 4) = ob 1 [vi 0, vi 2, vi 0, vi 10] ∧ σ' (N + 5) = ob 1 [vi 0, vi 2, vi 0, vi 10] ∧ σ' (N + 6) = ob 1 [vi 0, vi 2, vi 0, vi 10] ∧ σ' (N + 7) = ob 1 [vi 0, vi 2, vi 0, vi 10] ∧ σ' (N + 8) = ob 1 [vi 0, vi 2, vi 0, vi 10] ∧ ∀ q₉, (q₉ < N ∧ q₉ ≠ i₉) → σ' q₉ = σ q₉) := by
  refine CT.of2 (own := RX5) (by decide) rfl (Nat.le_of_ble_eq_true rfl) ?_
  intro p e R s m args below meth c Q hF hr hlk hnm hz hR hQ
  have hz0 := hz (by decide)
  refine go_aload_n (pc := 0) hF dX5_init_0 0 rfl ?_
  refine go_objInit (pc := 1) hF ol_X5_3 oi_1 oi_2 dX5_init_1 (Nat.le_of_ble_eq_true rfl) (by decide) ?_
  refine go_aload_n (pc := 4) hF dX5_init_4 0 rfl ?_
  refine go_bipush (pc := 5) hF dX5_init_5 (by decide) ?_
  refine go_newq (pc := 7) (k := (0, 0)) hF (1, 8) (N + 1) 4 8 cl_X5_9 (fun h => h.2.2.2.1) rfl (by decide) (by decide) (Nat.le_of_ble_eq_true rfl) dX5_init_7 (show s.heap.size + 0 = ez E + (N) by omega) (Or.inl (by omega)) (by rw [hR]; exact Nat.le_of_ble_eq_true rfl) (by rw [hR]; exact Nat.le_of_ble_eq_true rfl) rfl rfl (fun s1₉ u_s1 f_s1 => ?_)
  have x_s1 : s1₉ i₉ = ob 5 [.null, vi 0, vi 0] := (f_s1 i₉ (by omega)).trans hi0₉
  refine go_putF (pc := 10) hF [vr E N, vi 0, vi 0] fl_X5_11 (fun C₉ T n₉ h => by have e9₉ : some (C₉, T, n₉) = some (RX5, TX5, 3) := h.symm; cases e9₉; rfl) hnm dX5_init_10 (by omega) x_s1 rfl rfl rfl (Nat.le_of_ble_eq_true rfl) (fun s2₉ u_s2 f_s2 => ?_)
  have q0_s2 : s2₉ N = ar E 4 8 (fun _ => -1) := (f_s2 N (by omega)).trans u_s1
  refine go_aload_n (pc := 13) hF dX5_init_13 0 rfl ?_
  refine go_iconst (pc := 14) hF dX5_init_14 ?_
  refine go_put (pc := 15) hF [vr E N, vi 0, vi 0] fl_X5_15 dX5_init_15 (by omega) u_s2 rfl rfl rfl (Nat.le_of_ble_eq_true rfl) (fun s3₉ u_s3 f_s3 => ?_)
  have q0_s3 : s3₉ N = ar E 4 8 (fun _ => -1) := (f_s3 N (by omega)).trans q0_s2
  refine go_aload_n (pc := 18) hF dX5_init_18 0 rfl ?_
  refine go_iconst (pc := 19) hF dX5_init_19 ?_
  refine go_put (pc := 20) hF [vr E N, vi 0, vi 0] fl_X5_19 dX5_init_20 (by omega) u_s3 rfl rfl rfl (Nat.le_of_ble_eq_true rfl) (fun s4₉ u_s4 f_s4 => ?_)
  have q0_s4 : s4₉ N = ar E 4 8 (fun _ => -1) := (f_s4 N (by omega)).trans q0_s3
  refine go_iconst (pc := 23) hF dX5_init_23 ?_
  refine go_istore_n (pc := 24) hF [(1, vi 0), (0, vr E i₉)] dX5_init_24 rfl (by decide) ?_
  refine go_iload_n (pc := 25) hF dX5_init_25 0 rfl ?_
  refine go_bipush (pc := 26) hF dX5_init_26 (by decide) ?_
  refine go_icmp_ge (pc := 28) hF 50 dX5_init_28 (by decide) ⟨by decide, by decide⟩ ⟨by decide, by decide⟩ (fun bq28 => ?_) (fun bq28 => ?_)
  · exact absurd bq28 (by decide)
  · refine go_aload_n (pc := 31) hF dX5_init_31 1 rfl ?_
    refine go_get (pc := 32) hF fl_X5_11 dX5_init_32 (by omega) u_s4 rfl ?_
    refine go_iload_n (pc := 35) hF dX5_init_35 0 rfl ?_
    refine go_new (pc := 36) (k := (1, 8)) hF (2, 12) (N + 2) nw_X5_9 dX5_init_36 (show s.heap.size + 1 = ez E + (N + 1) by omega) (Or.inl (by omega)) (by rw [hR]; exact Nat.le_of_ble_eq_true rfl) (by rw [hR]; exact Nat.le_of_ble_eq_true rfl) rfl rfl (fun s5 u_s5 f_s5 => ?_)
    have x_s5 : s5 i₉ = ob 5 [vr E N, vi 0, vi 0] := (f_s5 i₉ (by omega)).trans u_s4
    have q0_s5 : s5 N = ar E 4 8 (fun _ => -1) := (f_s5 N (by omega)).trans q0_s4
    refine go_dup (pc := 39) hF dX5_init_39 rfl ?_
    refine go_callIN (pc := 40) (k := (2, 12)) hF (2, 12) (N + 2) mi_X5_22 dX5_init_40 (c_X1_init E (N + 2) s5 (N + 1) (by omega) u_s5) (Nat.le_of_ble_eq_true rfl) (by decide) (by rw [hR]; exact Nat.le_of_ble_eq_true rfl) (by rw [hR]; exact Nat.le_of_ble_eq_true rfl) (fun _ => (show s.heap.size + 2 = ez E + (N + 2) by omega)) (fun _ => (Or.inl (by omega))) rfl rfl (fun s6₉ h_s6 => ?_)
    obtain ⟨u0_s6, f_s6⟩ := h_s6
    have u0_s6' : s6₉ (N + 1) = ob 1 [vi 0, vi 2, vi 0, vi 10] := u0_s6
    have x_s6 : s6₉ i₉ = ob 5 [vr E N, vi 0, vi 0] := (f_s6 i₉ (by omega)).trans x_s5
    have q0_s6 : s6₉ N = ar E 4 8 (fun _ => -1) := (f_s6 N (by omega)).trans q0_s5
    refine go_aast (pc := 43) hF 4 1 dX5_init_43 rfl rfl (by omega) q0_s6 (by omega) u0_s6' ⟨by decide, by decide⟩ (fun s7 u_s7 f_s7 => ?_)
    have x_s7 : s7 i₉ = ob 5 [vr E N, vi 0, vi 0] := (f_s7 i₉ (by omega)).trans x_s6
    have q1_s7 : s7 (N + 1) = ob 1 [vi 0, vi 2, vi 0, vi 10] := (f_s7 (N + 1) (by omega)).trans u0_s6'
    refine go_iinc (pc := 44) hF [(1, vi 1), (0, vr E i₉)] dX5_init_44 0 rfl rfl (by decide) ?_
    refine go_goto (pc := 47) hF 25 dX5_init_47 (by decide) ?_
    refine go_iload_n (pc := 25) hF dX5_init_25 0 rfl ?_
    refine go_bipush (pc := 26) hF dX5_init_26 (by decide) ?_
    refine go_icmp_ge (pc := 28) hF 50 dX5_init_28 (by decide) ⟨by decide, by decide⟩ ⟨by decide, by decide⟩ (fun bq28 => ?_) (fun bq28 => ?_)
    · exact absurd bq28 (by decide)
    · refine go_aload_n (pc := 31) hF dX5_init_31 1 rfl ?_
      refine go_get (pc := 32) hF fl_X5_11 dX5_init_32 (by omega) x_s7 rfl ?_
      refine go_iload_n (pc := 35) hF dX5_init_35 0 rfl ?_
      refine go_new (pc := 36) (k := (2, 12)) hF (3, 16) (N + 3) nw_X5_9 dX5_init_36 (show s.heap.size + 2 = ez E + (N + 2) by omega) (Or.inl (by omega)) (by rw [hR]; exact Nat.le_of_ble_eq_true rfl) (by rw [hR]; exact Nat.le_of_ble_eq_true rfl) rfl rfl (fun s8 u_s8 f_s8 => ?_)
      have x_s8 : s8 i₉ = ob 5 [vr E N, vi 0, vi 0] := (f_s8 i₉ (by omega)).trans x_s7
      have q0_s8 : s8 N = ar E 4 8 (up (fun _ => -1) 0 ((N + 1 : Nat) : Int)) := (f_s8 N (by omega)).trans u_s7
      have q1_s8 : s8 (N + 1) = ob 1 [vi 0, vi 2, vi 0, vi 10] := (f_s8 (N + 1) (by omega)).trans q1_s7
      refine go_dup (pc := 39) hF dX5_init_39 rfl ?_
      refine go_callIN (pc := 40) (k := (3, 16)) hF (3, 16) (N + 3) mi_X5_22 dX5_init_40 (c_X1_init E (N + 3) s8 (N + 2) (by omega) u_s8) (Nat.le_of_ble_eq_true rfl) (by decide) (by rw [hR]; exact Nat.le_of_ble_eq_true rfl) (by rw [hR]; exact Nat.le_of_ble_eq_true rfl) (fun _ => (show s.heap.size + 3 = ez E + (N + 3) by omega)) (fun _ => (Or.inl (by omega))) rfl rfl (fun s9 h_s9 => ?_)
      obtain ⟨u0_s9, f_s9⟩ := h_s9
      have u0_s9' : s9 (N + 2) = ob 1 [vi 0, vi 2, vi 0, vi 10] := u0_s9
      have x_s9 : s9 i₉ = ob 5 [vr E N, vi 0, vi 0] := (f_s9 i₉ (by omega)).trans x_s8
      have q0_s9 : s9 N = ar E 4 8 (up (fun _ => -1) 0 ((N + 1 : Nat) : Int)) := (f_s9 N (by omega)).trans q0_s8
      have q1_s9 : s9 (N + 1) = ob 1 [vi 0, vi 2, vi 0, vi 10] := (f_s9 (N + 1) (by omega)).trans q1_s8
      refine go_aast (pc := 43) hF 4 1 dX5_init_43 rfl rfl (by omega) q0_s9 (by omega) u0_s9' ⟨by decide, by decide⟩ (fun s10 u_s10 f_s10 => ?_)
      have x_s10 : s10 i₉ = ob 5 [vr E N, vi 0, vi 0] := (f_s10 i₉ (by omega)).trans x_s9
      have q1_s10 : s10 (N + 1) = ob 1 [vi 0, vi 2, vi 0, vi 10] := (f_s10 (N + 1) (by omega)).trans q1_s9
      have q2_s10 : s10 (N + 2) = ob 1 [vi 0, vi 2, vi 0, vi 10] := (f_s10 (N + 2) (by omega)).trans u0_s9'
      refine go_iinc (pc := 44) hF [(1, vi 2), (0, vr E i₉)] dX5_init_44 0 rfl rfl (by decide) ?_
      refine go_goto (pc := 47) hF 25 dX5_init_47 (by decide) ?_
      refine go_iload_n (pc := 25) hF dX5_init_25 0 rfl ?_
      refine go_bipush (pc := 26) hF dX5_init_26 (by decide) ?_
      refine go_icmp_ge (pc := 28) hF 50 dX5_init_28 (by decide) ⟨by decide, by decide⟩ ⟨by decide, by decide⟩ (fun bq28 => ?_) (fun bq28 => ?_)
      · exact absurd bq28 (by decide)
      · refine go_aload_n (pc := 31) hF dX5_init_31 1 rfl ?_
        refine go_get (pc := 32) hF fl_X5_11 dX5_init_32 (by omega) x_s10 rfl ?_
        refine go_iload_n (pc := 35) hF dX5_init_35 0 rfl ?_
        refine go_new (pc := 36) (k := (3, 16)) hF (4, 20) (N + 4) nw_X5_9 dX5_init_36 (show s.heap.size + 3 = ez E + (N + 3) by omega) (Or.inl (by omega)) (by rw [hR]; exact Nat.le_of_ble_eq_true rfl) (by rw [hR]; exact Nat.le_of_ble_eq_true rfl) rfl rfl (fun s11 u_s11 f_s11 => ?_)
        have x_s11 : s11 i₉ = ob 5 [vr E N, vi 0, vi 0] := (f_s11 i₉ (by omega)).trans x_s10
        have q0_s11 : s11 N = ar E 4 8 (up (up (fun _ => -1) 0 ((N + 1 : Nat) : Int)) 1 ((N + 2 : Nat) : Int)) := (f_s11 N (by omega)).trans u_s10
        have q1_s11 : s11 (N + 1) = ob 1 [vi 0, vi 2, vi 0, vi 10] := (f_s11 (N + 1) (by omega)).trans q1_s10
        have q2_s11 : s11 (N + 2) = ob 1 [vi 0, vi 2, vi 0, vi 10] := (f_s11 (N + 2) (by omega)).trans q2_s10
        refine go_dup (pc := 39) hF dX5_init_39 rfl ?_
        refine go_callIN (pc := 40) (k := (4, 20)) hF (4, 20) (N + 4) mi_X5_22 dX5_init_40 (c_X1_init E (N + 4) s11 (N + 3) (by omega) u_s11) (Nat.le_of_ble_eq_true rfl) (by decide) (by rw [hR]; exact Nat.le_of_ble_eq_true rfl) (by rw [hR]; exact Nat.le_of_ble_eq_true rfl) (fun _ => (show s.heap.size + 4 = ez E + (N + 4) by omega)) (fun _ => (Or.inl (by omega))) rfl rfl (fun s12 h_s12 => ?_)
        obtain ⟨u0_s12, f_s12⟩ := h_s12
        have u0_s12' : s12 (N + 3) = ob 1 [vi 0, vi 2, vi 0, vi 10] := u0_s12
        have x_s12 : s12 i₉ = ob 5 [vr E N, vi 0, vi 0] := (f_s12 i₉ (by omega)).trans x_s11
        have q0_s12 : s12 N = ar E 4 8 (up (up (fun _ => -1) 0 ((N + 1 : Nat) : Int)) 1 ((N + 2 : Nat) : Int)) := (f_s12 N (by omega)).trans q0_s11
        have q1_s12 : s12 (N + 1) = ob 1 [vi 0, vi 2, vi 0, vi 10] := (f_s12 (N + 1) (by omega)).trans q1_s11
        have q2_s12 : s12 (N + 2) = ob 1 [vi 0, vi 2, vi 0, vi 10] := (f_s12 (N + 2) (by omega)).trans q2_s11
        refine go_aast (pc := 43) hF 4 1 dX5_init_43 rfl rfl (by omega) q0_s12 (by omega) u0_s12' ⟨by decide, by decide⟩ (fun s13 u_s13 f_s13 => ?_)
        have x_s13 : s13 i₉ = ob 5 [vr E N, vi 0, vi 0] := (f_s13 i₉ (by omega)).trans x_s12
        have q1_s13 : s13 (N + 1) = ob 1 [vi 0, vi 2, vi 0, vi 10] := (f_s13 (N + 1) (by omega)).trans q1_s12
        have q2_s13 : s13 (N + 2) = ob 1 [vi 0, vi 2, vi 0, vi 10] := (f_s13 (N + 2) (by omega)).trans q2_s12
        have q3_s13 : s13 (N + 3) = ob 1 [vi 0, vi 2, vi 0, vi 10] := (f_s13 (N + 3) (by omega)).trans u0_s12'
        refine go_iinc (pc := 44) hF [(1, vi 3), (0, vr E i₉)] dX5_init_44 0 rfl rfl (by decide) ?_
        refine go_goto (pc := 47) hF 25 dX5_init_47 (by decide) ?_
        refine go_iload_n (pc := 25) hF dX5_init_25 0 rfl ?_
        refine go_bipush (pc := 26) hF dX5_init_26 (by decide) ?_
        refine go_icmp_ge (pc := 28) hF 50 dX5_init_28 (by decide) ⟨by decide, by decide⟩ ⟨by decide, by decide⟩ (fun bq28 => ?_) (fun bq28 => ?_)
        · exact absurd bq28 (by decide)
        · refine go_aload_n (pc := 31) hF dX5_init_31 1 rfl ?_
          refine go_get (pc := 32) hF fl_X5_11 dX5_init_32 (by omega) x_s13 rfl ?_
          refine go_iload_n (pc := 35) hF dX5_init_35 0 rfl ?_
          refine go_new (pc := 36) (k := (4, 20)) hF (5, 24) (N + 5) nw_X5_9 dX5_init_36 (show s.heap.size + 4 = ez E + (N + 4) by omega) (Or.inl (by omega)) (by rw [hR]; exact Nat.le_of_ble_eq_true rfl) (by rw [hR]; exact Nat.le_of_ble_eq_true rfl) rfl rfl (fun s14 u_s14 f_s14 => ?_)
          have x_s14 : s14 i₉ = ob 5 [vr E N, vi 0, vi 0] := (f_s14 i₉ (by omega)).trans x_s13
          have q0_s14 : s14 N = ar E 4 8 (up (up (up (fun _ => -1) 0 ((N + 1 : Nat) : Int)) 1 ((N + 2 : Nat) : Int)) 2 ((N + 3 : Nat) : Int)) := (f_s14 N (by omega)).trans u_s13
          have q1_s14 : s14 (N + 1) = ob 1 [vi 0, vi 2, vi 0, vi 10] := (f_s14 (N + 1) (by omega)).trans q1_s13
          have q2_s14 : s14 (N + 2) = ob 1 [vi 0, vi 2, vi 0, vi 10] := (f_s14 (N + 2) (by omega)).trans q2_s13
          have q3_s14 : s14 (N + 3) = ob 1 [vi 0, vi 2, vi 0, vi 10] := (f_s14 (N + 3) (by omega)).trans q3_s13
          refine go_dup (pc := 39) hF dX5_init_39 rfl ?_
          refine go_callIN (pc := 40) (k := (5, 24)) hF (5, 24) (N + 5) mi_X5_22 dX5_init_40 (c_X1_init E (N + 5) s14 (N + 4) (by omega) u_s14) (Nat.le_of_ble_eq_true rfl) (by decide) (by rw [hR]; exact Nat.le_of_ble_eq_true rfl) (by rw [hR]; exact Nat.le_of_ble_eq_true rfl) (fun _ => (show s.heap.size + 5 = ez E + (N + 5) by omega)) (fun _ => (Or.inl (by omega))) rfl rfl (fun s15 h_s15 => ?_)
          obtain ⟨u0_s15, f_s15⟩ := h_s15
          have u0_s15' : s15 (N + 4) = ob 1 [vi 0, vi 2, vi 0, vi 10] := u0_s15
          have x_s15 : s15 i₉ = ob 5 [vr E N, vi 0, vi 0] := (f_s15 i₉ (by omega)).trans x_s14
          have q0_s15 : s15 N = ar E 4 8 (up (up (up (fun _ => -1) 0 ((N + 1 : Nat) : Int)) 1 ((N + 2 : Nat) : Int)) 2 ((N + 3 : Nat) : Int)) := (f_s15 N (by omega)).trans q0_s14
          have q1_s15 : s15 (N + 1) = ob 1 [vi 0, vi 2, vi 0, vi 10] := (f_s15 (N + 1) (by omega)).trans q1_s14
          have q2_s15 : s15 (N + 2) = ob 1 [vi 0, vi 2, vi 0, vi 10] := (f_s15 (N + 2) (by omega)).trans q2_s14
          have q3_s15 : s15 (N + 3) = ob 1 [vi 0, vi 2, vi 0, vi 10] := (f_s15 (N + 3) (by omega)).trans q3_s14
          refine go_aast (pc := 43) hF 4 1 dX5_init_43 rfl rfl (by omega) q0_s15 (by omega) u0_s15' ⟨by decide, by decide⟩ (fun s16 u_s16 f_s16 => ?_)
          have x_s16 : s16 i₉ = ob 5 [vr E N, vi 0, vi 0] := (f_s16 i₉ (by omega)).trans x_s15
          have q1_s16 : s16 (N + 1) = ob 1 [vi 0, vi 2, vi 0, vi 10] := (f_s16 (N + 1) (by omega)).trans q1_s15
          have q2_s16 : s16 (N + 2) = ob 1 [vi 0, vi 2, vi 0, vi 10] := (f_s16 (N + 2) (by omega)).trans q2_s15
          have q3_s16 : s16 (N + 3) = ob 1 [vi 0, vi 2, vi 0, vi 10] := (f_s16 (N + 3) (by omega)).trans q3_s15
          have q4_s16 : s16 (N + 4) = ob 1 [vi 0, vi 2, vi 0, vi 10] := (f_s16 (N + 4) (by omega)).trans u0_s15'
          refine go_iinc (pc := 44) hF [(1, vi 4), (0, vr E i₉)] dX5_init_44 0 rfl rfl (by decide) ?_
          refine go_goto (pc := 47) hF 25 dX5_init_47 (by decide) ?_
          refine go_iload_n (pc := 25) hF dX5_init_25 0 rfl ?_
          refine go_bipush (pc := 26) hF dX5_init_26 (by decide) ?_
          refine go_icmp_ge (pc := 28) hF 50 dX5_init_28 (by decide) ⟨by decide, by decide⟩ ⟨by decide, by decide⟩ (fun bq28 => ?_) (fun bq28 => ?_)
          · exact absurd bq28 (by decide)
          · refine go_aload_n (pc := 31) hF dX5_init_31 1 rfl ?_
            refine go_get (pc := 32) hF fl_X5_11 dX5_init_32 (by omega) x_s16 rfl ?_
            refine go_iload_n (pc := 35) hF dX5_init_35 0 rfl ?_
            refine go_new (pc := 36) (k := (5, 24)) hF (6, 28) (N + 6) nw_X5_9 dX5_init_36 (show s.heap.size + 5 = ez E + (N + 5) by omega) (Or.inl (by omega)) (by rw [hR]; exact Nat.le_of_ble_eq_true rfl) (by rw [hR]; exact Nat.le_of_ble_eq_true rfl) rfl rfl (fun s17 u_s17 f_s17 => ?_)
            have x_s17 : s17 i₉ = ob 5 [vr E N, vi 0, vi 0] := (f_s17 i₉ (by omega)).trans x_s16
            have q0_s17 : s17 N = ar E 4 8 (up (up (up (up (fun _ => -1) 0 ((N + 1 : Nat) : Int)) 1 ((N + 2 : Nat) : Int)) 2 ((N + 3 : Nat) : Int)) 3 ((N + 4 : Nat) : Int)) := (f_s17 N (by omega)).trans u_s16
            have q1_s17 : s17 (N + 1) = ob 1 [vi 0, vi 2, vi 0, vi 10] := (f_s17 (N + 1) (by omega)).trans q1_s16
            have q2_s17 : s17 (N + 2) = ob 1 [vi 0, vi 2, vi 0, vi 10] := (f_s17 (N + 2) (by omega)).trans q2_s16
            have q3_s17 : s17 (N + 3) = ob 1 [vi 0, vi 2, vi 0, vi 10] := (f_s17 (N + 3) (by omega)).trans q3_s16
            have q4_s17 : s17 (N + 4) = ob 1 [vi 0, vi 2, vi 0, vi 10] := (f_s17 (N + 4) (by omega)).trans q4_s16
            refine go_dup (pc := 39) hF dX5_init_39 rfl ?_
            refine go_callIN (pc := 40) (k := (6, 28)) hF (6, 28) (N + 6) mi_X5_22 dX5_init_40 (c_X1_init E (N + 6) s17 (N + 5) (by omega) u_s17) (Nat.le_of_ble_eq_true rfl) (by decide) (by rw [hR]; exact Nat.le_of_ble_eq_true rfl) (by rw [hR]; exact Nat.le_of_ble_eq_true rfl) (fun _ => (show s.heap.size + 6 = ez E + (N + 6) by omega)) (fun _ => (Or.inl (by omega))) rfl rfl (fun s18 h_s18 => ?_)
            obtain ⟨u0_s18, f_s18⟩ := h_s18
            have u0_s18' : s18 (N + 5) = ob 1 [vi 0, vi 2, vi 0, vi 10] := u0_s18
            have x_s18 : s18 i₉ = ob 5 [vr E N, vi 0, vi 0] := (f_s18 i₉ (by omega)).trans x_s17
            have q0_s18 : s18 N = ar E 4 8 (up (up (up (up (fun _ => -1) 0 ((N + 1 : Nat) : Int)) 1 ((N + 2 : Nat) : Int)) 2 ((N + 3 : Nat) : Int)) 3 ((N + 4 : Nat) : Int)) := (f_s18 N (by omega)).trans q0_s17
            have q1_s18 : s18 (N + 1) = ob 1 [vi 0, vi 2, vi 0, vi 10] := (f_s18 (N + 1) (by omega)).trans q1_s17
            have q2_s18 : s18 (N + 2) = ob 1 [vi 0, vi 2, vi 0, vi 10] := (f_s18 (N + 2) (by omega)).trans q2_s17
            have q3_s18 : s18 (N + 3) = ob 1 [vi 0, vi 2, vi 0, vi 10] := (f_s18 (N + 3) (by omega)).trans q3_s17
            have q4_s18 : s18 (N + 4) = ob 1 [vi 0, vi 2, vi 0, vi 10] := (f_s18 (N + 4) (by omega)).trans q4_s17
            refine go_aast (pc := 43) hF 4 1 dX5_init_43 rfl rfl (by omega) q0_s18 (by omega) u0_s18' ⟨by decide, by decide⟩ (fun s19 u_s19 f_s19 => ?_)
            have x_s19 : s19 i₉ = ob 5 [vr E N, vi 0, vi 0] := (f_s19 i₉ (by omega)).trans x_s18
            have q1_s19 : s19 (N + 1) = ob 1 [vi 0, vi 2, vi 0, vi 10] := (f_s19 (N + 1) (by omega)).trans q1_s18
            have q2_s19 : s19 (N + 2) = ob 1 [vi 0, vi 2, vi 0, vi 10] := (f_s19 (N + 2) (by omega)).trans q2_s18
            have q3_s19 : s19 (N + 3) = ob 1 [vi 0, vi 2, vi 0, vi 10] := (f_s19 (N + 3) (by omega)).trans q3_s18
            have q4_s19 : s19 (N + 4) = ob 1 [vi 0, vi 2, vi 0, vi 10] := (f_s19 (N + 4) (by omega)).trans q4_s18
            have q5_s19 : s19 (N + 5) = ob 1 [vi 0, vi 2, vi 0, vi 10] := (f_s19 (N + 5) (by omega)).trans u0_s18'
            refine go_iinc (pc := 44) hF [(1, vi 5), (0, vr E i₉)] dX5_init_44 0 rfl rfl (by decide) ?_
            refine go_goto (pc := 47) hF 25 dX5_init_47 (by decide) ?_
            refine go_iload_n (pc := 25) hF dX5_init_25 0 rfl ?_
            refine go_bipush (pc := 26) hF dX5_init_26 (by decide) ?_
            refine go_icmp_ge (pc := 28) hF 50 dX5_init_28 (by decide) ⟨by decide, by decide⟩ ⟨by decide, by decide⟩ (fun bq28 => ?_) (fun bq28 => ?_)
            · exact absurd bq28 (by decide)
            · refine go_aload_n (pc := 31) hF dX5_init_31 1 rfl ?_
              refine go_get (pc := 32) hF fl_X5_11 dX5_init_32 (by omega) x_s19 rfl ?_
              refine go_iload_n (pc := 35) hF dX5_init_35 0 rfl ?_
              refine go_new (pc := 36) (k := (6, 28)) hF (7, 32) (N + 7) nw_X5_9 dX5_init_36 (show s.heap.size + 6 = ez E + (N + 6) by omega) (Or.inl (by omega)) (by rw [hR]; exact Nat.le_of_ble_eq_true rfl) (by rw [hR]; exact Nat.le_of_ble_eq_true rfl) rfl rfl (fun s20 u_s20 f_s20 => ?_)
              have x_s20 : s20 i₉ = ob 5 [vr E N, vi 0, vi 0] := (f_s20 i₉ (by omega)).trans x_s19
              have q0_s20 : s20 N = ar E 4 8 (up (up (up (up (up (fun _ => -1) 0 ((N + 1 : Nat) : Int)) 1 ((N + 2 : Nat) : Int)) 2 ((N + 3 : Nat) : Int)) 3 ((N + 4 : Nat) : Int)) 4 ((N + 5 : Nat) : Int)) := (f_s20 N (by omega)).trans u_s19
              have q1_s20 : s20 (N + 1) = ob 1 [vi 0, vi 2, vi 0, vi 10] := (f_s20 (N + 1) (by omega)).trans q1_s19
              have q2_s20 : s20 (N + 2) = ob 1 [vi 0, vi 2, vi 0, vi 10] := (f_s20 (N + 2) (by omega)).trans q2_s19
              have q3_s20 : s20 (N + 3) = ob 1 [vi 0, vi 2, vi 0, vi 10] := (f_s20 (N + 3) (by omega)).trans q3_s19
              have q4_s20 : s20 (N + 4) = ob 1 [vi 0, vi 2, vi 0, vi 10] := (f_s20 (N + 4) (by omega)).trans q4_s19
              have q5_s20 : s20 (N + 5) = ob 1 [vi 0, vi 2, vi 0, vi 10] := (f_s20 (N + 5) (by omega)).trans q5_s19
              refine go_dup (pc := 39) hF dX5_init_39 rfl ?_
              refine go_callIN (pc := 40) (k := (7, 32)) hF (7, 32) (N + 7) mi_X5_22 dX5_init_40 (c_X1_init E (N + 7) s20 (N + 6) (by omega) u_s20) (Nat.le_of_ble_eq_true rfl) (by decide) (by rw [hR]; exact Nat.le_of_ble_eq_true rfl) (by rw [hR]; exact Nat.le_of_ble_eq_true rfl) (fun _ => (show s.heap.size + 7 = ez E + (N + 7) by omega)) (fun _ => (Or.inl (by omega))) rfl rfl (fun s21 h_s21 => ?_)
              obtain ⟨u0_s21, f_s21⟩ := h_s21
              have u0_s21' : s21 (N + 6) = ob 1 [vi 0, vi 2, vi 0, vi 10] := u0_s21
              have x_s21 : s21 i₉ = ob 5 [vr E N, vi 0, vi 0] := (f_s21 i₉ (by omega)).trans x_s20
              have q0_s21 : s21 N = ar E 4 8 (up (up (up (up (up (fun _ => -1) 0 ((N + 1 : Nat) : Int)) 1 ((N + 2 : Nat) : Int)) 2 ((N + 3 : Nat) : Int)) 3 ((N + 4 : Nat) : Int)) 4 ((N + 5 : Nat) : Int)) := (f_s21 N (by omega)).trans q0_s20
              have q1_s21 : s21 (N + 1) = ob 1 [vi 0, vi 2, vi 0, vi 10] := (f_s21 (N + 1) (by omega)).trans q1_s20
              have q2_s21 : s21 (N + 2) = ob 1 [vi 0, vi 2, vi 0, vi 10] := (f_s21 (N + 2) (by omega)).trans q2_s20
              have q3_s21 : s21 (N + 3) = ob 1 [vi 0, vi 2, vi 0, vi 10] := (f_s21 (N + 3) (by omega)).trans q3_s20
              have q4_s21 : s21 (N + 4) = ob 1 [vi 0, vi 2, vi 0, vi 10] := (f_s21 (N + 4) (by omega)).trans q4_s20
              have q5_s21 : s21 (N + 5) = ob 1 [vi 0, vi 2, vi 0, vi 10] := (f_s21 (N + 5) (by omega)).trans q5_s20
              refine go_aast (pc := 43) hF 4 1 dX5_init_43 rfl rfl (by omega) q0_s21 (by omega) u0_s21' ⟨by decide, by decide⟩ (fun s22 u_s22 f_s22 => ?_)
              have x_s22 : s22 i₉ = ob 5 [vr E N, vi 0, vi 0] := (f_s22 i₉ (by omega)).trans x_s21
              have q1_s22 : s22 (N + 1) = ob 1 [vi 0, vi 2, vi 0, vi 10] := (f_s22 (N + 1) (by omega)).trans q1_s21
              have q2_s22 : s22 (N + 2) = ob 1 [vi 0, vi 2, vi 0, vi 10] := (f_s22 (N + 2) (by omega)).trans q2_s21
              have q3_s22 : s22 (N + 3) = ob 1 [vi 0, vi 2, vi 0, vi 10] := (f_s22 (N + 3) (by omega)).trans q3_s21
              have q4_s22 : s22 (N + 4) = ob 1 [vi 0, vi 2, vi 0, vi 10] := (f_s22 (N + 4) (by omega)).trans q4_s21
              have q5_s22 : s22 (N + 5) = ob 1 [vi 0, vi 2, vi 0, vi 10] := (f_s22 (N + 5) (by omega)).trans q5_s21
              have q6_s22 : s22 (N + 6) = ob 1 [vi 0, vi 2, vi 0, vi 10] := (f_s22 (N + 6) (by omega)).trans u0_s21'
              refine go_iinc (pc := 44) hF [(1, vi 6), (0, vr E i₉)] dX5_init_44 0 rfl rfl (by decide) ?_
              refine go_goto (pc := 47) hF 25 dX5_init_47 (by decide) ?_
              refine go_iload_n (pc := 25) hF dX5_init_25 0 rfl ?_
              refine go_bipush (pc := 26) hF dX5_init_26 (by decide) ?_
              refine go_icmp_ge (pc := 28) hF 50 dX5_init_28 (by decide) ⟨by decide, by decide⟩ ⟨by decide, by decide⟩ (fun bq28 => ?_) (fun bq28 => ?_)
              · exact absurd bq28 (by decide)
              · refine go_aload_n (pc := 31) hF dX5_init_31 1 rfl ?_
                refine go_get (pc := 32) hF fl_X5_11 dX5_init_32 (by omega) x_s22 rfl ?_
                refine go_iload_n (pc := 35) hF dX5_init_35 0 rfl ?_
                refine go_new (pc := 36) (k := (7, 32)) hF (8, 36) (N + 8) nw_X5_9 dX5_init_36 (show s.heap.size + 7 = ez E + (N + 7) by omega) (Or.inl (by omega)) (by rw [hR]; exact Nat.le_of_ble_eq_true rfl) (by rw [hR]; exact Nat.le_of_ble_eq_true rfl) rfl rfl (fun s23 u_s23 f_s23 => ?_)
                have x_s23 : s23 i₉ = ob 5 [vr E N, vi 0, vi 0] := (f_s23 i₉ (by omega)).trans x_s22
                have q0_s23 : s23 N = ar E 4 8 (up (up (up (up (up (up (fun _ => -1) 0 ((N + 1 : Nat) : Int)) 1 ((N + 2 : Nat) : Int)) 2 ((N + 3 : Nat) : Int)) 3 ((N + 4 : Nat) : Int)) 4 ((N + 5 : Nat) : Int)) 5 ((N + 6 : Nat) : Int)) := (f_s23 N (by omega)).trans u_s22
                have q1_s23 : s23 (N + 1) = ob 1 [vi 0, vi 2, vi 0, vi 10] := (f_s23 (N + 1) (by omega)).trans q1_s22
                have q2_s23 : s23 (N + 2) = ob 1 [vi 0, vi 2, vi 0, vi 10] := (f_s23 (N + 2) (by omega)).trans q2_s22
                have q3_s23 : s23 (N + 3) = ob 1 [vi 0, vi 2, vi 0, vi 10] := (f_s23 (N + 3) (by omega)).trans q3_s22
                have q4_s23 : s23 (N + 4) = ob 1 [vi 0, vi 2, vi 0, vi 10] := (f_s23 (N + 4) (by omega)).trans q4_s22
                have q5_s23 : s23 (N + 5) = ob 1 [vi 0, vi 2, vi 0, vi 10] := (f_s23 (N + 5) (by omega)).trans q5_s22
                have q6_s23 : s23 (N + 6) = ob 1 [vi 0, vi 2, vi 0, vi 10] := (f_s23 (N + 6) (by omega)).trans q6_s22
                refine go_dup (pc := 39) hF dX5_init_39 rfl ?_
                refine go_callIN (pc := 40) (k := (8, 36)) hF (8, 36) (N + 8) mi_X5_22 dX5_init_40 (c_X1_init E (N + 8) s23 (N + 7) (by omega) u_s23) (Nat.le_of_ble_eq_true rfl) (by decide) (by rw [hR]; exact Nat.le_of_ble_eq_true rfl) (by rw [hR]; exact Nat.le_of_ble_eq_true rfl) (fun _ => (show s.heap.size + 8 = ez E + (N + 8) by omega)) (fun _ => (Or.inl (by omega))) rfl rfl (fun s24 h_s24 => ?_)
                obtain ⟨u0_s24, f_s24⟩ := h_s24
                have u0_s24' : s24 (N + 7) = ob 1 [vi 0, vi 2, vi 0, vi 10] := u0_s24
                have x_s24 : s24 i₉ = ob 5 [vr E N, vi 0, vi 0] := (f_s24 i₉ (by omega)).trans x_s23
                have q0_s24 : s24 N = ar E 4 8 (up (up (up (up (up (up (fun _ => -1) 0 ((N + 1 : Nat) : Int)) 1 ((N + 2 : Nat) : Int)) 2 ((N + 3 : Nat) : Int)) 3 ((N + 4 : Nat) : Int)) 4 ((N + 5 : Nat) : Int)) 5 ((N + 6 : Nat) : Int)) := (f_s24 N (by omega)).trans q0_s23
                have q1_s24 : s24 (N + 1) = ob 1 [vi 0, vi 2, vi 0, vi 10] := (f_s24 (N + 1) (by omega)).trans q1_s23
                have q2_s24 : s24 (N + 2) = ob 1 [vi 0, vi 2, vi 0, vi 10] := (f_s24 (N + 2) (by omega)).trans q2_s23
                have q3_s24 : s24 (N + 3) = ob 1 [vi 0, vi 2, vi 0, vi 10] := (f_s24 (N + 3) (by omega)).trans q3_s23
                have q4_s24 : s24 (N + 4) = ob 1 [vi 0, vi 2, vi 0, vi 10] := (f_s24 (N + 4) (by omega)).trans q4_s23
                have q5_s24 : s24 (N + 5) = ob 1 [vi 0, vi 2, vi 0, vi 10] := (f_s24 (N + 5) (by omega)).trans q5_s23
                have q6_s24 : s24 (N + 6) = ob 1 [vi 0, vi 2, vi 0, vi 10] := (f_s24 (N + 6) (by omega)).trans q6_s23
                refine go_aast (pc := 43) hF 4 1 dX5_init_43 rfl rfl (by omega) q0_s24 (by omega) u0_s24' ⟨by decide, by decide⟩ (fun s25 u_s25 f_s25 => ?_)
                have x_s25 : s25 i₉ = ob 5 [vr E N, vi 0, vi 0] := (f_s25 i₉ (by omega)).trans x_s24
                have q1_s25 : s25 (N + 1) = ob 1 [vi 0, vi 2, vi 0, vi 10] := (f_s25 (N + 1) (by omega)).trans q1_s24
                have q2_s25 : s25 (N + 2) = ob 1 [vi 0, vi 2, vi 0, vi 10] := (f_s25 (N + 2) (by omega)).trans q2_s24
                have q3_s25 : s25 (N + 3) = ob 1 [vi 0, vi 2, vi 0, vi 10] := (f_s25 (N + 3) (by omega)).trans q3_s24
                have q4_s25 : s25 (N + 4) = ob 1 [vi 0, vi 2, vi 0, vi 10] := (f_s25 (N + 4) (by omega)).trans q4_s24
                have q5_s25 : s25 (N + 5) = ob 1 [vi 0, vi 2, vi 0, vi 10] := (f_s25 (N + 5) (by omega)).trans q5_s24
                have q6_s25 : s25 (N + 6) = ob 1 [vi 0, vi 2, vi 0, vi 10] := (f_s25 (N + 6) (by omega)).trans q6_s24
                have q7_s25 : s25 (N + 7) = ob 1 [vi 0, vi 2, vi 0, vi 10] := (f_s25 (N + 7) (by omega)).trans u0_s24'
                refine go_iinc (pc := 44) hF [(1, vi 7), (0, vr E i₉)] dX5_init_44 0 rfl rfl (by decide) ?_
                refine go_goto (pc := 47) hF 25 dX5_init_47 (by decide) ?_
                refine go_iload_n (pc := 25) hF dX5_init_25 0 rfl ?_
                refine go_bipush (pc := 26) hF dX5_init_26 (by decide) ?_
                refine go_icmp_ge (pc := 28) hF 50 dX5_init_28 (by decide) ⟨by decide, by decide⟩ ⟨by decide, by decide⟩ (fun bq28 => ?_) (fun bq28 => ?_)
                · exact absurd bq28 (by decide)
                · refine go_aload_n (pc := 31) hF dX5_init_31 1 rfl ?_
                  refine go_get (pc := 32) hF fl_X5_11 dX5_init_32 (by omega) x_s25 rfl ?_
                  refine go_iload_n (pc := 35) hF dX5_init_35 0 rfl ?_
                  refine go_new (pc := 36) (k := (8, 36)) hF (9, 40) (N + 9) nw_X5_9 dX5_init_36 (show s.heap.size + 8 = ez E + (N + 8) by omega) (Or.inl (by omega)) (by rw [hR]; exact Nat.le_of_ble_eq_true rfl) (by rw [hR]; exact Nat.le_of_ble_eq_true rfl) rfl rfl (fun s26 u_s26 f_s26 => ?_)
                  have x_s26 : s26 i₉ = ob 5 [vr E N, vi 0, vi 0] := (f_s26 i₉ (by omega)).trans x_s25
                  have q0_s26 : s26 N = ar E 4 8 (up (up (up (up (up (up (up (fun _ => -1) 0 ((N + 1 : Nat) : Int)) 1 ((N + 2 : Nat) : Int)) 2 ((N + 3 : Nat) : Int)) 3 ((N + 4 : Nat) : Int)) 4 ((N + 5 : Nat) : Int)) 5 ((N + 6 : Nat) : Int)) 6 ((N + 7 : Nat) : Int)) := (f_s26 N (by omega)).trans u_s25
                  have q1_s26 : s26 (N + 1) = ob 1 [vi 0, vi 2, vi 0, vi 10] := (f_s26 (N + 1) (by omega)).trans q1_s25
                  have q2_s26 : s26 (N + 2) = ob 1 [vi 0, vi 2, vi 0, vi 10] := (f_s26 (N + 2) (by omega)).trans q2_s25
                  have q3_s26 : s26 (N + 3) = ob 1 [vi 0, vi 2, vi 0, vi 10] := (f_s26 (N + 3) (by omega)).trans q3_s25
                  have q4_s26 : s26 (N + 4) = ob 1 [vi 0, vi 2, vi 0, vi 10] := (f_s26 (N + 4) (by omega)).trans q4_s25
                  have q5_s26 : s26 (N + 5) = ob 1 [vi 0, vi 2, vi 0, vi 10] := (f_s26 (N + 5) (by omega)).trans q5_s25
                  have q6_s26 : s26 (N + 6) = ob 1 [vi 0, vi 2, vi 0, vi 10] := (f_s26 (N + 6) (by omega)).trans q6_s25
                  have q7_s26 : s26 (N + 7) = ob 1 [vi 0, vi 2, vi 0, vi 10] := (f_s26 (N + 7) (by omega)).trans q7_s25
                  refine go_dup (pc := 39) hF dX5_init_39 rfl ?_
                  refine go_callIN (pc := 40) (k := (9, 40)) hF (9, 40) (N + 9) mi_X5_22 dX5_init_40 (c_X1_init E (N + 9) s26 (N + 8) (by omega) u_s26) (Nat.le_of_ble_eq_true rfl) (by decide) (by rw [hR]; exact Nat.le_of_ble_eq_true rfl) (by rw [hR]; exact Nat.le_of_ble_eq_true rfl) (fun _ => (show s.heap.size + 9 = ez E + (N + 9) by omega)) (fun _ => (Or.inl (by omega))) rfl rfl (fun s27 h_s27 => ?_)
                  obtain ⟨u0_s27, f_s27⟩ := h_s27
                  have u0_s27' : s27 (N + 8) = ob 1 [vi 0, vi 2, vi 0, vi 10] := u0_s27
                  have x_s27 : s27 i₉ = ob 5 [vr E N, vi 0, vi 0] := (f_s27 i₉ (by omega)).trans x_s26
                  have q0_s27 : s27 N = ar E 4 8 (up (up (up (up (up (up (up (fun _ => -1) 0 ((N + 1 : Nat) : Int)) 1 ((N + 2 : Nat) : Int)) 2 ((N + 3 : Nat) : Int)) 3 ((N + 4 : Nat) : Int)) 4 ((N + 5 : Nat) : Int)) 5 ((N + 6 : Nat) : Int)) 6 ((N + 7 : Nat) : Int)) := (f_s27 N (by omega)).trans q0_s26
                  have q1_s27 : s27 (N + 1) = ob 1 [vi 0, vi 2, vi 0, vi 10] := (f_s27 (N + 1) (by omega)).trans q1_s26
                  have q2_s27 : s27 (N + 2) = ob 1 [vi 0, vi 2, vi 0, vi 10] := (f_s27 (N + 2) (by omega)).trans q2_s26
                  have q3_s27 : s27 (N + 3) = ob 1 [vi 0, vi 2, vi 0, vi 10] := (f_s27 (N + 3) (by omega)).trans q3_s26
                  have q4_s27 : s27 (N + 4) = ob 1 [vi 0, vi 2, vi 0, vi 10] := (f_s27 (N + 4) (by omega)).trans q4_s26
                  have q5_s27 : s27 (N + 5) = ob 1 [vi 0, vi 2, vi 0, vi 10] := (f_s27 (N + 5) (by omega)).trans q5_s26
                  have q6_s27 : s27 (N + 6) = ob 1 [vi 0, vi 2, vi 0, vi 10] := (f_s27 (N + 6) (by omega)).trans q6_s26
                  have q7_s27 : s27 (N + 7) = ob 1 [vi 0, vi 2, vi 0, vi 10] := (f_s27 (N + 7) (by omega)).trans q7_s26
                  refine go_aast (pc := 43) hF 4 1 dX5_init_43 rfl rfl (by omega) q0_s27 (by omega) u0_s27' ⟨by decide, by decide⟩ (fun s28 u_s28 f_s28 => ?_)
                  have x_s28 : s28 i₉ = ob 5 [vr E N, vi 0, vi 0] := (f_s28 i₉ (by omega)).trans x_s27
                  have q1_s28 : s28 (N + 1) = ob 1 [vi 0, vi 2, vi 0, vi 10] := (f_s28 (N + 1) (by omega)).trans q1_s27
                  have q2_s28 : s28 (N + 2) = ob 1 [vi 0, vi 2, vi 0, vi 10] := (f_s28 (N + 2) (by omega)).trans q2_s27
                  have q3_s28 : s28 (N + 3) = ob 1 [vi 0, vi 2, vi 0, vi 10] := (f_s28 (N + 3) (by omega)).trans q3_s27
                  have q4_s28 : s28 (N + 4) = ob 1 [vi 0, vi 2, vi 0, vi 10] := (f_s28 (N + 4) (by omega)).trans q4_s27
                  have q5_s28 : s28 (N + 5) = ob 1 [vi 0, vi 2, vi 0, vi 10] := (f_s28 (N + 5) (by omega)).trans q5_s27
                  have q6_s28 : s28 (N + 6) = ob 1 [vi 0, vi 2, vi 0, vi 10] := (f_s28 (N + 6) (by omega)).trans q6_s27
                  have q7_s28 : s28 (N + 7) = ob 1 [vi 0, vi 2, vi 0, vi 10] := (f_s28 (N + 7) (by omega)).trans q7_s27
                  have q8_s28 : s28 (N + 8) = ob 1 [vi 0, vi 2, vi 0, vi 10] := (f_s28 (N + 8) (by omega)).trans u0_s27'
                  refine go_iinc (pc := 44) hF [(1, vi 8), (0, vr E i₉)] dX5_init_44 0 rfl rfl (by decide) ?_
                  refine go_goto (pc := 47) hF 25 dX5_init_47 (by decide) ?_
                  refine go_iload_n (pc := 25) hF dX5_init_25 0 rfl ?_
                  refine go_bipush (pc := 26) hF dX5_init_26 (by decide) ?_
                  refine go_icmp_ge (pc := 28) hF 50 dX5_init_28 (by decide) ⟨by decide, by decide⟩ ⟨by decide, by decide⟩ (fun bq28 => ?_) (fun bq28 => ?_)
                  · exact go_vretK hF hr hlk hQ rfl rfl dX5_init_50 ⟨x_s28, u_s28, q1_s28, q2_s28, q3_s28, q4_s28, q5_s28, q6_s28, q7_s28, q8_s28, (fun jj h1 => by rw [f_s28 jj (by omega), f_s27 jj (by omega), f_s26 jj (by omega), f_s25 jj (by omega), f_s24 jj (by omega), f_s23 jj (by omega), f_s22 jj (by omega), f_s21 jj (by omega), f_s20 jj (by omega), f_s19 jj (by omega), f_s18 jj (by omega), f_s17 jj (by omega), f_s16 jj (by omega), f_s15 jj (by omega), f_s14 jj (by omega), f_s13 jj (by omega), f_s12 jj (by omega), f_s11 jj (by omega), f_s10 jj (by omega), f_s9 jj (by omega), f_s8 jj (by omega), f_s7 jj (by omega), f_s6 jj (by omega), f_s5 jj (by omega), f_s4 jj (by omega), f_s3 jj (by omega), f_s2 jj (by omega), f_s1 jj (by omega)])⟩
                  · exact absurd bq28 (by decide)
set_option maxHeartbeats 4000000 in
set_option maxRecDepth 100000 in
theorem c_X3_init (E : En) (N : Nat) (σ : Nat → va_E) (i₉ : Nat) (hi₉ : i₉ < N) (hi0₉ : σ i₉ = ob 3 [.null, .null, .null, .null, vi 0, vi 0]) : CK E M_X3_init 4 25 153 [vr E i₉] N σ (fun σ' => σ' i₉ = ob 3 [vr E N, vr E (N + 1), vr E (N + 2), vr E (N + 3), vi 0, vi 0] ∧ σ' N = ai E 24 (fun _ => 0) ∧ σ' (N + 1) = ai E 24 (fun _ => 0) ∧ σ' (N + 2) = ar E 3 4 (up (up (up (up (fun _ => -1) 0 ((N + 4 : Nat) : Int)) 1 ((N + 7 : Nat) : Int)) 2 ((N + 10 : Nat) : Int)) 3 ((N + 13 : Nat) : Int)) ∧ σ' (N + 3) = ar E 3 3 (up (up (up (fun _ => -1) 0 ((N + 16 : Nat) : Int)) 1 ((N + 19 : Nat) : Int)) 2 ((N + 22 : Nat) : Int)) ∧ σ' (N + 4) = ob 0 [vr E (N + 5), vr E (N + 6)] ∧ σ' (N + 5) = ai E 6 (fun _ => 0) ∧ σ' (N + 6) = ai E 6 (fun _ => 0) ∧ σ' (N + 7) = ob 0 [vr E (N + 8), vr E (N + 9)] ∧ σ' (N + 8) = ai E 6 (fun _ => 0) ∧ σ' (N + 9) = ai E 6 (fun _ => 0) ∧ σ' (N + 10) = ob 0 [vr E (N + 11), vr E (N + 12)] ∧ σ' (N + 11) = ai E 6 (fun _ => 0) ∧ σ' (N + 12) = ai E 6 (fun _ => 0) ∧ σ' (N + 13) = ob 0 [vr E (N + 14), vr E (N + 15)] ∧ σ' (N + 14) = ai E 6 (fun _ => 0) ∧ σ' (N + 15) = ai E 6 (fun _ => 0) ∧ σ' (N + 16) = ob 0 [vr E (N + 17), vr E (N + 18)] ∧ σ' (N + 17) = ai E 6 (fun _ => 0) ∧ σ' (N + 18) = ai E 6 (fun _ => 0) ∧ σ' (N + 19) = ob 0 [vr E (N + 20), vr E (N + 21)] ∧ σ' (N + 20) = ai E 6 (fun _ => 0) ∧ σ' (N + 21) = ai E 6 (fun _ => 0) ∧ σ' (N + 22) = ob 0 [vr E (N + 23), vr E (N + 24)] ∧ σ' (N + 23) = ai E 6 (fun _ => 0) ∧ σ' (N + 24) = ai E 6 (fun _ => 0) ∧ ∀ q₉, (q₉ < N ∧ q₉ ≠ i₉) → σ' q₉ = σ q₉) := by
  refine CT.of2 (own := RX3) (by decide) rfl (Nat.le_of_ble_eq_true rfl) ?_
  intro p e R s m args below meth c Q hF hr hlk hnm hz hR hQ
  have hz0 := hz (by decide)
  refine go_aload_n (pc := 0) hF dX3_init_0 0 rfl ?_
  refine go_objInit (pc := 1) hF ol_X3_3 oi_1 oi_2 dX3_init_1 (Nat.le_of_ble_eq_true rfl) (by decide) ?_
  refine go_aload_n (pc := 4) hF dX3_init_4 0 rfl ?_
  refine go_bipush (pc := 5) hF dX3_init_5 (by decide) ?_
  refine go_newa (pc := 7) (k := (0, 0)) hF (1, 24) (N + 1) 0 24 (a0 := (24, .inl (fun _ => iI 0))) ac_int rfl rfl (fun _ _ h => h) (fun cA₉ => rfl) (by decide) (by decide) (Nat.le_of_ble_eq_true rfl) dX3_init_7 (show s.heap.size + 0 = ez E + (N) by omega) (Or.inl (by omega)) (by rw [hR]; exact Nat.le_of_ble_eq_true rfl) (by rw [hR]; exact Nat.le_of_ble_eq_true rfl) rfl rfl (fun s1₉ u_s1 f_s1 => ?_)
  have u_s1 : s1₉ N = ai E 24 (fun _ => 0) := u_s1
  have x_s1 : s1₉ i₉ = ob 3 [.null, .null, .null, .null, vi 0, vi 0] := (f_s1 i₉ (by omega)).trans hi0₉
  refine go_putF (pc := 9) hF [vr E N, .null, .null, .null, vi 0, vi 0] fl_X3_9 (fun C₉ T n₉ h => by have e9₉ : some (C₉, T, n₉) = some (RX3, TX3, 6) := h.symm; cases e9₉; rfl) hnm dX3_init_9 (by omega) x_s1 rfl rfl rfl (Nat.le_of_ble_eq_true rfl) (fun s2₉ u_s2 f_s2 => ?_)
  have q0_s2 : s2₉ N = ai E 24 (fun _ => 0) := (f_s2 N (by omega)).trans u_s1
  refine go_aload_n (pc := 12) hF dX3_init_12 0 rfl ?_
  refine go_bipush (pc := 13) hF dX3_init_13 (by decide) ?_
  refine go_newa (pc := 15) (k := (1, 24)) hF (2, 48) (N + 2) 0 24 (a0 := (24, .inl (fun _ => iI 0))) ac_int rfl rfl (fun _ _ h => h) (fun cA₉ => rfl) (by decide) (by decide) (Nat.le_of_ble_eq_true rfl) dX3_init_15 (show s.heap.size + 1 = ez E + (N + 1) by omega) (Or.inl (by omega)) (by rw [hR]; exact Nat.le_of_ble_eq_true rfl) (by rw [hR]; exact Nat.le_of_ble_eq_true rfl) rfl rfl (fun s3₉ u_s3 f_s3 => ?_)
  have u_s3 : s3₉ (N + 1) = ai E 24 (fun _ => 0) := u_s3
  have x_s3 : s3₉ i₉ = ob 3 [vr E N, .null, .null, .null, vi 0, vi 0] := (f_s3 i₉ (by omega)).trans u_s2
  have q0_s3 : s3₉ N = ai E 24 (fun _ => 0) := (f_s3 N (by omega)).trans q0_s2
  refine go_putF (pc := 17) hF [vr E N, vr E (N + 1), .null, .null, vi 0, vi 0] fl_X3_15 (fun C₉ T n₉ h => by have e9₉ : some (C₉, T, n₉) = some (RX3, TX3, 6) := h.symm; cases e9₉; rfl) hnm dX3_init_17 (by omega) x_s3 rfl rfl rfl (Nat.le_of_ble_eq_true rfl) (fun s4₉ u_s4 f_s4 => ?_)
  have q0_s4 : s4₉ N = ai E 24 (fun _ => 0) := (f_s4 N (by omega)).trans q0_s3
  have q1_s4 : s4₉ (N + 1) = ai E 24 (fun _ => 0) := (f_s4 (N + 1) (by omega)).trans u_s3
  refine go_aload_n (pc := 20) hF dX3_init_20 0 rfl ?_
  refine go_iconst (pc := 21) hF dX3_init_21 ?_
  refine go_newq (pc := 22) (k := (2, 48)) hF (3, 52) (N + 3) 3 4 cl_X3_18 (fun h => h.2.2.1) rfl (by decide) (by decide) (Nat.le_of_ble_eq_true rfl) dX3_init_22 (show s.heap.size + 2 = ez E + (N + 2) by omega) (Or.inl (by omega)) (by rw [hR]; exact Nat.le_of_ble_eq_true rfl) (by rw [hR]; exact Nat.le_of_ble_eq_true rfl) rfl rfl (fun s5 u_s5 f_s5 => ?_)
  have x_s5 : s5 i₉ = ob 3 [vr E N, vr E (N + 1), .null, .null, vi 0, vi 0] := (f_s5 i₉ (by omega)).trans u_s4
  have q0_s5 : s5 N = ai E 24 (fun _ => 0) := (f_s5 N (by omega)).trans q0_s4
  have q1_s5 : s5 (N + 1) = ai E 24 (fun _ => 0) := (f_s5 (N + 1) (by omega)).trans q1_s4
  refine go_putF (pc := 25) hF [vr E N, vr E (N + 1), vr E (N + 2), .null, vi 0, vi 0] fl_X3_20 (fun C₉ T n₉ h => by have e9₉ : some (C₉, T, n₉) = some (RX3, TX3, 6) := h.symm; cases e9₉; rfl) hnm dX3_init_25 (by omega) x_s5 rfl rfl rfl (Nat.le_of_ble_eq_true rfl) (fun s6₉ u_s6 f_s6 => ?_)
  have q0_s6 : s6₉ N = ai E 24 (fun _ => 0) := (f_s6 N (by omega)).trans q0_s5
  have q1_s6 : s6₉ (N + 1) = ai E 24 (fun _ => 0) := (f_s6 (N + 1) (by omega)).trans q1_s5
  have q2_s6 : s6₉ (N + 2) = ar E 3 4 (fun _ => -1) := (f_s6 (N + 2) (by omega)).trans u_s5
  refine go_aload_n (pc := 28) hF dX3_init_28 0 rfl ?_
  refine go_iconst (pc := 29) hF dX3_init_29 ?_
  refine go_newq (pc := 30) (k := (3, 52)) hF (4, 55) (N + 4) 3 3 cl_X3_18 (fun h => h.2.2.1) rfl (by decide) (by decide) (Nat.le_of_ble_eq_true rfl) dX3_init_30 (show s.heap.size + 3 = ez E + (N + 3) by omega) (Or.inl (by omega)) (by rw [hR]; exact Nat.le_of_ble_eq_true rfl) (by rw [hR]; exact Nat.le_of_ble_eq_true rfl) rfl rfl (fun s7 u_s7 f_s7 => ?_)
  have x_s7 : s7 i₉ = ob 3 [vr E N, vr E (N + 1), vr E (N + 2), .null, vi 0, vi 0] := (f_s7 i₉ (by omega)).trans u_s6
  have q0_s7 : s7 N = ai E 24 (fun _ => 0) := (f_s7 N (by omega)).trans q0_s6
  have q1_s7 : s7 (N + 1) = ai E 24 (fun _ => 0) := (f_s7 (N + 1) (by omega)).trans q1_s6
  have q2_s7 : s7 (N + 2) = ar E 3 4 (fun _ => -1) := (f_s7 (N + 2) (by omega)).trans q2_s6
  refine go_putF (pc := 33) hF [vr E N, vr E (N + 1), vr E (N + 2), vr E (N + 3), vi 0, vi 0] fl_X3_24 (fun C₉ T n₉ h => by have e9₉ : some (C₉, T, n₉) = some (RX3, TX3, 6) := h.symm; cases e9₉; rfl) hnm dX3_init_33 (by omega) x_s7 rfl rfl rfl (Nat.le_of_ble_eq_true rfl) (fun s8 u_s8 f_s8 => ?_)
  have q0_s8 : s8 N = ai E 24 (fun _ => 0) := (f_s8 N (by omega)).trans q0_s7
  have q1_s8 : s8 (N + 1) = ai E 24 (fun _ => 0) := (f_s8 (N + 1) (by omega)).trans q1_s7
  have q2_s8 : s8 (N + 2) = ar E 3 4 (fun _ => -1) := (f_s8 (N + 2) (by omega)).trans q2_s7
  have q3_s8 : s8 (N + 3) = ar E 3 3 (fun _ => -1) := (f_s8 (N + 3) (by omega)).trans u_s7
  refine go_aload_n (pc := 36) hF dX3_init_36 0 rfl ?_
  refine go_iconst (pc := 37) hF dX3_init_37 ?_
  refine go_put (pc := 38) hF [vr E N, vr E (N + 1), vr E (N + 2), vr E (N + 3), vi 0, vi 0] fl_X3_27 dX3_init_38 (by omega) u_s8 rfl rfl rfl (Nat.le_of_ble_eq_true rfl) (fun s9 u_s9 f_s9 => ?_)
  have q0_s9 : s9 N = ai E 24 (fun _ => 0) := (f_s9 N (by omega)).trans q0_s8
  have q1_s9 : s9 (N + 1) = ai E 24 (fun _ => 0) := (f_s9 (N + 1) (by omega)).trans q1_s8
  have q2_s9 : s9 (N + 2) = ar E 3 4 (fun _ => -1) := (f_s9 (N + 2) (by omega)).trans q2_s8
  have q3_s9 : s9 (N + 3) = ar E 3 3 (fun _ => -1) := (f_s9 (N + 3) (by omega)).trans q3_s8
  refine go_aload_n (pc := 41) hF dX3_init_41 0 rfl ?_
  refine go_iconst (pc := 42) hF dX3_init_42 ?_
  refine go_put (pc := 43) hF [vr E N, vr E (N + 1), vr E (N + 2), vr E (N + 3), vi 0, vi 0] fl_X3_31 dX3_init_43 (by omega) u_s9 rfl (by decide) rfl (Nat.le_of_ble_eq_true rfl) (fun s10 u_s10 f_s10 => ?_)
  have q0_s10 : s10 N = ai E 24 (fun _ => 0) := (f_s10 N (by omega)).trans q0_s9
  have q1_s10 : s10 (N + 1) = ai E 24 (fun _ => 0) := (f_s10 (N + 1) (by omega)).trans q1_s9
  have q2_s10 : s10 (N + 2) = ar E 3 4 (fun _ => -1) := (f_s10 (N + 2) (by omega)).trans q2_s9
  have q3_s10 : s10 (N + 3) = ar E 3 3 (fun _ => -1) := (f_s10 (N + 3) (by omega)).trans q3_s9
  refine go_iconst (pc := 46) hF dX3_init_46 ?_
  refine go_istore_n (pc := 47) hF [(1, vi 0), (0, vr E i₉)] dX3_init_47 rfl (by decide) ?_
  refine go_iload_n (pc := 48) hF dX3_init_48 0 rfl ?_
  refine go_iconst (pc := 49) hF dX3_init_49 ?_
  refine go_icmp_gt (pc := 50) hF 72 dX3_init_50 (by decide) ⟨by decide, by decide⟩ ⟨by decide, by decide⟩ (fun bq50 => ?_) (fun bq50 => ?_)
  · exact absurd bq50 (by decide)
  · refine go_aload_n (pc := 53) hF dX3_init_53 1 rfl ?_
    refine go_get (pc := 54) hF fl_X3_20 dX3_init_54 (by omega) u_s10 rfl ?_
    refine go_iload_n (pc := 57) hF dX3_init_57 0 rfl ?_
    refine go_new (pc := 58) (k := (4, 55)) hF (5, 57) (N + 5) nw_X3_18 dX3_init_58 (show s.heap.size + 4 = ez E + (N + 4) by omega) (Or.inl (by omega)) (by rw [hR]; exact Nat.le_of_ble_eq_true rfl) (by rw [hR]; exact Nat.le_of_ble_eq_true rfl) rfl rfl (fun s11 u_s11 f_s11 => ?_)
    have x_s11 : s11 i₉ = ob 3 [vr E N, vr E (N + 1), vr E (N + 2), vr E (N + 3), vi 0, vi 0] := (f_s11 i₉ (by omega)).trans u_s10
    have q0_s11 : s11 N = ai E 24 (fun _ => 0) := (f_s11 N (by omega)).trans q0_s10
    have q1_s11 : s11 (N + 1) = ai E 24 (fun _ => 0) := (f_s11 (N + 1) (by omega)).trans q1_s10
    have q2_s11 : s11 (N + 2) = ar E 3 4 (fun _ => -1) := (f_s11 (N + 2) (by omega)).trans q2_s10
    have q3_s11 : s11 (N + 3) = ar E 3 3 (fun _ => -1) := (f_s11 (N + 3) (by omega)).trans q3_s10
    refine go_dup (pc := 61) hF dX3_init_61 rfl ?_
    refine go_callIN (pc := 62) (k := (5, 57)) hF (7, 69) (N + 7) mi_X3_35 dX3_init_62 (c_X0_init E (N + 5) s11 (N + 4) (by omega) u_s11) (Nat.le_of_ble_eq_true rfl) (by decide) (by rw [hR]; exact Nat.le_of_ble_eq_true rfl) (by rw [hR]; exact Nat.le_of_ble_eq_true rfl) (fun _ => (show s.heap.size + 5 = ez E + (N + 5) by omega)) (fun _ => (Or.inl (by omega))) rfl rfl (fun s12 h_s12 => ?_)
    obtain ⟨u0_s12, u1_s12, u2_s12, f_s12⟩ := h_s12
    have u0_s12' : s12 (N + 4) = ob 0 [vr E (N + 5), vr E (N + 6)] := u0_s12
    have u1_s12' : s12 (N + 5) = ai E 6 (fun _ => 0) := u1_s12
    have u2_s12' : s12 (N + 6) = ai E 6 (fun _ => 0) := u2_s12
    have x_s12 : s12 i₉ = ob 3 [vr E N, vr E (N + 1), vr E (N + 2), vr E (N + 3), vi 0, vi 0] := (f_s12 i₉ (by omega)).trans x_s11
    have q0_s12 : s12 N = ai E 24 (fun _ => 0) := (f_s12 N (by omega)).trans q0_s11
    have q1_s12 : s12 (N + 1) = ai E 24 (fun _ => 0) := (f_s12 (N + 1) (by omega)).trans q1_s11
    have q2_s12 : s12 (N + 2) = ar E 3 4 (fun _ => -1) := (f_s12 (N + 2) (by omega)).trans q2_s11
    have q3_s12 : s12 (N + 3) = ar E 3 3 (fun _ => -1) := (f_s12 (N + 3) (by omega)).trans q3_s11
    refine go_aast (pc := 65) hF 3 0 dX3_init_65 rfl rfl (by omega) q2_s12 (by omega) u0_s12' ⟨by decide, by decide⟩ (fun s13 u_s13 f_s13 => ?_)
    have x_s13 : s13 i₉ = ob 3 [vr E N, vr E (N + 1), vr E (N + 2), vr E (N + 3), vi 0, vi 0] := (f_s13 i₉ (by omega)).trans x_s12
    have q0_s13 : s13 N = ai E 24 (fun _ => 0) := (f_s13 N (by omega)).trans q0_s12
    have q1_s13 : s13 (N + 1) = ai E 24 (fun _ => 0) := (f_s13 (N + 1) (by omega)).trans q1_s12
    have q3_s13 : s13 (N + 3) = ar E 3 3 (fun _ => -1) := (f_s13 (N + 3) (by omega)).trans q3_s12
    have q4_s13 : s13 (N + 4) = ob 0 [vr E (N + 5), vr E (N + 6)] := (f_s13 (N + 4) (by omega)).trans u0_s12'
    have q5_s13 : s13 (N + 5) = ai E 6 (fun _ => 0) := (f_s13 (N + 5) (by omega)).trans u1_s12'
    have q6_s13 : s13 (N + 6) = ai E 6 (fun _ => 0) := (f_s13 (N + 6) (by omega)).trans u2_s12'
    refine go_iinc (pc := 66) hF [(1, vi 1), (0, vr E i₉)] dX3_init_66 0 rfl rfl (by decide) ?_
    refine go_goto (pc := 69) hF 48 dX3_init_69 (by decide) ?_
    refine go_iload_n (pc := 48) hF dX3_init_48 0 rfl ?_
    refine go_iconst (pc := 49) hF dX3_init_49 ?_
    refine go_icmp_gt (pc := 50) hF 72 dX3_init_50 (by decide) ⟨by decide, by decide⟩ ⟨by decide, by decide⟩ (fun bq50 => ?_) (fun bq50 => ?_)
    · exact absurd bq50 (by decide)
    · refine go_aload_n (pc := 53) hF dX3_init_53 1 rfl ?_
      refine go_get (pc := 54) hF fl_X3_20 dX3_init_54 (by omega) x_s13 rfl ?_
      refine go_iload_n (pc := 57) hF dX3_init_57 0 rfl ?_
      refine go_new (pc := 58) (k := (7, 69)) hF (8, 71) (N + 8) nw_X3_18 dX3_init_58 (show s.heap.size + 7 = ez E + (N + 7) by omega) (Or.inl (by omega)) (by rw [hR]; exact Nat.le_of_ble_eq_true rfl) (by rw [hR]; exact Nat.le_of_ble_eq_true rfl) rfl rfl (fun s14 u_s14 f_s14 => ?_)
      have x_s14 : s14 i₉ = ob 3 [vr E N, vr E (N + 1), vr E (N + 2), vr E (N + 3), vi 0, vi 0] := (f_s14 i₉ (by omega)).trans x_s13
      have q0_s14 : s14 N = ai E 24 (fun _ => 0) := (f_s14 N (by omega)).trans q0_s13
      have q1_s14 : s14 (N + 1) = ai E 24 (fun _ => 0) := (f_s14 (N + 1) (by omega)).trans q1_s13
      have q2_s14 : s14 (N + 2) = ar E 3 4 (up (fun _ => -1) 0 ((N + 4 : Nat) : Int)) := (f_s14 (N + 2) (by omega)).trans u_s13
      have q3_s14 : s14 (N + 3) = ar E 3 3 (fun _ => -1) := (f_s14 (N + 3) (by omega)).trans q3_s13
      have q4_s14 : s14 (N + 4) = ob 0 [vr E (N + 5), vr E (N + 6)] := (f_s14 (N + 4) (by omega)).trans q4_s13
      have q5_s14 : s14 (N + 5) = ai E 6 (fun _ => 0) := (f_s14 (N + 5) (by omega)).trans q5_s13
      have q6_s14 : s14 (N + 6) = ai E 6 (fun _ => 0) := (f_s14 (N + 6) (by omega)).trans q6_s13
      refine go_dup (pc := 61) hF dX3_init_61 rfl ?_
      refine go_callIN (pc := 62) (k := (8, 71)) hF (10, 83) (N + 10) mi_X3_35 dX3_init_62 (c_X0_init E (N + 8) s14 (N + 7) (by omega) u_s14) (Nat.le_of_ble_eq_true rfl) (by decide) (by rw [hR]; exact Nat.le_of_ble_eq_true rfl) (by rw [hR]; exact Nat.le_of_ble_eq_true rfl) (fun _ => (show s.heap.size + 8 = ez E + (N + 8) by omega)) (fun _ => (Or.inl (by omega))) rfl rfl (fun s15 h_s15 => ?_)
      obtain ⟨u0_s15, u1_s15, u2_s15, f_s15⟩ := h_s15
      have u0_s15' : s15 (N + 7) = ob 0 [vr E (N + 8), vr E (N + 9)] := u0_s15
      have u1_s15' : s15 (N + 8) = ai E 6 (fun _ => 0) := u1_s15
      have u2_s15' : s15 (N + 9) = ai E 6 (fun _ => 0) := u2_s15
      have x_s15 : s15 i₉ = ob 3 [vr E N, vr E (N + 1), vr E (N + 2), vr E (N + 3), vi 0, vi 0] := (f_s15 i₉ (by omega)).trans x_s14
      have q0_s15 : s15 N = ai E 24 (fun _ => 0) := (f_s15 N (by omega)).trans q0_s14
      have q1_s15 : s15 (N + 1) = ai E 24 (fun _ => 0) := (f_s15 (N + 1) (by omega)).trans q1_s14
      have q2_s15 : s15 (N + 2) = ar E 3 4 (up (fun _ => -1) 0 ((N + 4 : Nat) : Int)) := (f_s15 (N + 2) (by omega)).trans q2_s14
      have q3_s15 : s15 (N + 3) = ar E 3 3 (fun _ => -1) := (f_s15 (N + 3) (by omega)).trans q3_s14
      have q4_s15 : s15 (N + 4) = ob 0 [vr E (N + 5), vr E (N + 6)] := (f_s15 (N + 4) (by omega)).trans q4_s14
      have q5_s15 : s15 (N + 5) = ai E 6 (fun _ => 0) := (f_s15 (N + 5) (by omega)).trans q5_s14
      have q6_s15 : s15 (N + 6) = ai E 6 (fun _ => 0) := (f_s15 (N + 6) (by omega)).trans q6_s14
      refine go_aast (pc := 65) hF 3 0 dX3_init_65 rfl rfl (by omega) q2_s15 (by omega) u0_s15' ⟨by decide, by decide⟩ (fun s16 u_s16 f_s16 => ?_)
      have x_s16 : s16 i₉ = ob 3 [vr E N, vr E (N + 1), vr E (N + 2), vr E (N + 3), vi 0, vi 0] := (f_s16 i₉ (by omega)).trans x_s15
      have q0_s16 : s16 N = ai E 24 (fun _ => 0) := (f_s16 N (by omega)).trans q0_s15
      have q1_s16 : s16 (N + 1) = ai E 24 (fun _ => 0) := (f_s16 (N + 1) (by omega)).trans q1_s15
      have q3_s16 : s16 (N + 3) = ar E 3 3 (fun _ => -1) := (f_s16 (N + 3) (by omega)).trans q3_s15
      have q4_s16 : s16 (N + 4) = ob 0 [vr E (N + 5), vr E (N + 6)] := (f_s16 (N + 4) (by omega)).trans q4_s15
      have q5_s16 : s16 (N + 5) = ai E 6 (fun _ => 0) := (f_s16 (N + 5) (by omega)).trans q5_s15
      have q6_s16 : s16 (N + 6) = ai E 6 (fun _ => 0) := (f_s16 (N + 6) (by omega)).trans q6_s15
      have q7_s16 : s16 (N + 7) = ob 0 [vr E (N + 8), vr E (N + 9)] := (f_s16 (N + 7) (by omega)).trans u0_s15'
      have q8_s16 : s16 (N + 8) = ai E 6 (fun _ => 0) := (f_s16 (N + 8) (by omega)).trans u1_s15'
      have q9_s16 : s16 (N + 9) = ai E 6 (fun _ => 0) := (f_s16 (N + 9) (by omega)).trans u2_s15'
      refine go_iinc (pc := 66) hF [(1, vi 2), (0, vr E i₉)] dX3_init_66 0 rfl rfl (by decide) ?_
      refine go_goto (pc := 69) hF 48 dX3_init_69 (by decide) ?_
      refine go_iload_n (pc := 48) hF dX3_init_48 0 rfl ?_
      refine go_iconst (pc := 49) hF dX3_init_49 ?_
      refine go_icmp_gt (pc := 50) hF 72 dX3_init_50 (by decide) ⟨by decide, by decide⟩ ⟨by decide, by decide⟩ (fun bq50 => ?_) (fun bq50 => ?_)
      · exact absurd bq50 (by decide)
      · refine go_aload_n (pc := 53) hF dX3_init_53 1 rfl ?_
        refine go_get (pc := 54) hF fl_X3_20 dX3_init_54 (by omega) x_s16 rfl ?_
        refine go_iload_n (pc := 57) hF dX3_init_57 0 rfl ?_
        refine go_new (pc := 58) (k := (10, 83)) hF (11, 85) (N + 11) nw_X3_18 dX3_init_58 (show s.heap.size + 10 = ez E + (N + 10) by omega) (Or.inl (by omega)) (by rw [hR]; exact Nat.le_of_ble_eq_true rfl) (by rw [hR]; exact Nat.le_of_ble_eq_true rfl) rfl rfl (fun s17 u_s17 f_s17 => ?_)
        have x_s17 : s17 i₉ = ob 3 [vr E N, vr E (N + 1), vr E (N + 2), vr E (N + 3), vi 0, vi 0] := (f_s17 i₉ (by omega)).trans x_s16
        have q0_s17 : s17 N = ai E 24 (fun _ => 0) := (f_s17 N (by omega)).trans q0_s16
        have q1_s17 : s17 (N + 1) = ai E 24 (fun _ => 0) := (f_s17 (N + 1) (by omega)).trans q1_s16
        have q2_s17 : s17 (N + 2) = ar E 3 4 (up (up (fun _ => -1) 0 ((N + 4 : Nat) : Int)) 1 ((N + 7 : Nat) : Int)) := (f_s17 (N + 2) (by omega)).trans u_s16
        have q3_s17 : s17 (N + 3) = ar E 3 3 (fun _ => -1) := (f_s17 (N + 3) (by omega)).trans q3_s16
        have q4_s17 : s17 (N + 4) = ob 0 [vr E (N + 5), vr E (N + 6)] := (f_s17 (N + 4) (by omega)).trans q4_s16
        have q5_s17 : s17 (N + 5) = ai E 6 (fun _ => 0) := (f_s17 (N + 5) (by omega)).trans q5_s16
        have q6_s17 : s17 (N + 6) = ai E 6 (fun _ => 0) := (f_s17 (N + 6) (by omega)).trans q6_s16
        have q7_s17 : s17 (N + 7) = ob 0 [vr E (N + 8), vr E (N + 9)] := (f_s17 (N + 7) (by omega)).trans q7_s16
        have q8_s17 : s17 (N + 8) = ai E 6 (fun _ => 0) := (f_s17 (N + 8) (by omega)).trans q8_s16
        have q9_s17 : s17 (N + 9) = ai E 6 (fun _ => 0) := (f_s17 (N + 9) (by omega)).trans q9_s16
        refine go_dup (pc := 61) hF dX3_init_61 rfl ?_
        refine go_callIN (pc := 62) (k := (11, 85)) hF (13, 97) (N + 13) mi_X3_35 dX3_init_62 (c_X0_init E (N + 11) s17 (N + 10) (by omega) u_s17) (Nat.le_of_ble_eq_true rfl) (by decide) (by rw [hR]; exact Nat.le_of_ble_eq_true rfl) (by rw [hR]; exact Nat.le_of_ble_eq_true rfl) (fun _ => (show s.heap.size + 11 = ez E + (N + 11) by omega)) (fun _ => (Or.inl (by omega))) rfl rfl (fun s18 h_s18 => ?_)
        obtain ⟨u0_s18, u1_s18, u2_s18, f_s18⟩ := h_s18
        have u0_s18' : s18 (N + 10) = ob 0 [vr E (N + 11), vr E (N + 12)] := u0_s18
        have u1_s18' : s18 (N + 11) = ai E 6 (fun _ => 0) := u1_s18
        have u2_s18' : s18 (N + 12) = ai E 6 (fun _ => 0) := u2_s18
        have x_s18 : s18 i₉ = ob 3 [vr E N, vr E (N + 1), vr E (N + 2), vr E (N + 3), vi 0, vi 0] := (f_s18 i₉ (by omega)).trans x_s17
        have q0_s18 : s18 N = ai E 24 (fun _ => 0) := (f_s18 N (by omega)).trans q0_s17
        have q1_s18 : s18 (N + 1) = ai E 24 (fun _ => 0) := (f_s18 (N + 1) (by omega)).trans q1_s17
        have q2_s18 : s18 (N + 2) = ar E 3 4 (up (up (fun _ => -1) 0 ((N + 4 : Nat) : Int)) 1 ((N + 7 : Nat) : Int)) := (f_s18 (N + 2) (by omega)).trans q2_s17
        have q3_s18 : s18 (N + 3) = ar E 3 3 (fun _ => -1) := (f_s18 (N + 3) (by omega)).trans q3_s17
        have q4_s18 : s18 (N + 4) = ob 0 [vr E (N + 5), vr E (N + 6)] := (f_s18 (N + 4) (by omega)).trans q4_s17
        have q5_s18 : s18 (N + 5) = ai E 6 (fun _ => 0) := (f_s18 (N + 5) (by omega)).trans q5_s17
        have q6_s18 : s18 (N + 6) = ai E 6 (fun _ => 0) := (f_s18 (N + 6) (by omega)).trans q6_s17
        have q7_s18 : s18 (N + 7) = ob 0 [vr E (N + 8), vr E (N + 9)] := (f_s18 (N + 7) (by omega)).trans q7_s17
        have q8_s18 : s18 (N + 8) = ai E 6 (fun _ => 0) := (f_s18 (N + 8) (by omega)).trans q8_s17
        have q9_s18 : s18 (N + 9) = ai E 6 (fun _ => 0) := (f_s18 (N + 9) (by omega)).trans q9_s17
        refine go_aast (pc := 65) hF 3 0 dX3_init_65 rfl rfl (by omega) q2_s18 (by omega) u0_s18' ⟨by decide, by decide⟩ (fun s19 u_s19 f_s19 => ?_)
        have x_s19 : s19 i₉ = ob 3 [vr E N, vr E (N + 1), vr E (N + 2), vr E (N + 3), vi 0, vi 0] := (f_s19 i₉ (by omega)).trans x_s18
        have q0_s19 : s19 N = ai E 24 (fun _ => 0) := (f_s19 N (by omega)).trans q0_s18
        have q1_s19 : s19 (N + 1) = ai E 24 (fun _ => 0) := (f_s19 (N + 1) (by omega)).trans q1_s18
        have q3_s19 : s19 (N + 3) = ar E 3 3 (fun _ => -1) := (f_s19 (N + 3) (by omega)).trans q3_s18
        have q4_s19 : s19 (N + 4) = ob 0 [vr E (N + 5), vr E (N + 6)] := (f_s19 (N + 4) (by omega)).trans q4_s18
        have q5_s19 : s19 (N + 5) = ai E 6 (fun _ => 0) := (f_s19 (N + 5) (by omega)).trans q5_s18
        have q6_s19 : s19 (N + 6) = ai E 6 (fun _ => 0) := (f_s19 (N + 6) (by omega)).trans q6_s18
        have q7_s19 : s19 (N + 7) = ob 0 [vr E (N + 8), vr E (N + 9)] := (f_s19 (N + 7) (by omega)).trans q7_s18
        have q8_s19 : s19 (N + 8) = ai E 6 (fun _ => 0) := (f_s19 (N + 8) (by omega)).trans q8_s18
        have q9_s19 : s19 (N + 9) = ai E 6 (fun _ => 0) := (f_s19 (N + 9) (by omega)).trans q9_s18
        have q10_s19 : s19 (N + 10) = ob 0 [vr E (N + 11), vr E (N + 12)] := (f_s19 (N + 10) (by omega)).trans u0_s18'
        have q11_s19 : s19 (N + 11) = ai E 6 (fun _ => 0) := (f_s19 (N + 11) (by omega)).trans u1_s18'
        have q12_s19 : s19 (N + 12) = ai E 6 (fun _ => 0) := (f_s19 (N + 12) (by omega)).trans u2_s18'
        refine go_iinc (pc := 66) hF [(1, vi 3), (0, vr E i₉)] dX3_init_66 0 rfl rfl (by decide) ?_
        refine go_goto (pc := 69) hF 48 dX3_init_69 (by decide) ?_
        refine go_iload_n (pc := 48) hF dX3_init_48 0 rfl ?_
        refine go_iconst (pc := 49) hF dX3_init_49 ?_
        refine go_icmp_gt (pc := 50) hF 72 dX3_init_50 (by decide) ⟨by decide, by decide⟩ ⟨by decide, by decide⟩ (fun bq50 => ?_) (fun bq50 => ?_)
        · exact absurd bq50 (by decide)
        · refine go_aload_n (pc := 53) hF dX3_init_53 1 rfl ?_
          refine go_get (pc := 54) hF fl_X3_20 dX3_init_54 (by omega) x_s19 rfl ?_
          refine go_iload_n (pc := 57) hF dX3_init_57 0 rfl ?_
          refine go_new (pc := 58) (k := (13, 97)) hF (14, 99) (N + 14) nw_X3_18 dX3_init_58 (show s.heap.size + 13 = ez E + (N + 13) by omega) (Or.inl (by omega)) (by rw [hR]; exact Nat.le_of_ble_eq_true rfl) (by rw [hR]; exact Nat.le_of_ble_eq_true rfl) rfl rfl (fun s20 u_s20 f_s20 => ?_)
          have x_s20 : s20 i₉ = ob 3 [vr E N, vr E (N + 1), vr E (N + 2), vr E (N + 3), vi 0, vi 0] := (f_s20 i₉ (by omega)).trans x_s19
          have q0_s20 : s20 N = ai E 24 (fun _ => 0) := (f_s20 N (by omega)).trans q0_s19
          have q1_s20 : s20 (N + 1) = ai E 24 (fun _ => 0) := (f_s20 (N + 1) (by omega)).trans q1_s19
          have q2_s20 : s20 (N + 2) = ar E 3 4 (up (up (up (fun _ => -1) 0 ((N + 4 : Nat) : Int)) 1 ((N + 7 : Nat) : Int)) 2 ((N + 10 : Nat) : Int)) := (f_s20 (N + 2) (by omega)).trans u_s19
          have q3_s20 : s20 (N + 3) = ar E 3 3 (fun _ => -1) := (f_s20 (N + 3) (by omega)).trans q3_s19
          have q4_s20 : s20 (N + 4) = ob 0 [vr E (N + 5), vr E (N + 6)] := (f_s20 (N + 4) (by omega)).trans q4_s19
          have q5_s20 : s20 (N + 5) = ai E 6 (fun _ => 0) := (f_s20 (N + 5) (by omega)).trans q5_s19
          have q6_s20 : s20 (N + 6) = ai E 6 (fun _ => 0) := (f_s20 (N + 6) (by omega)).trans q6_s19
          have q7_s20 : s20 (N + 7) = ob 0 [vr E (N + 8), vr E (N + 9)] := (f_s20 (N + 7) (by omega)).trans q7_s19
          have q8_s20 : s20 (N + 8) = ai E 6 (fun _ => 0) := (f_s20 (N + 8) (by omega)).trans q8_s19
          have q9_s20 : s20 (N + 9) = ai E 6 (fun _ => 0) := (f_s20 (N + 9) (by omega)).trans q9_s19
          have q10_s20 : s20 (N + 10) = ob 0 [vr E (N + 11), vr E (N + 12)] := (f_s20 (N + 10) (by omega)).trans q10_s19
          have q11_s20 : s20 (N + 11) = ai E 6 (fun _ => 0) := (f_s20 (N + 11) (by omega)).trans q11_s19
          have q12_s20 : s20 (N + 12) = ai E 6 (fun _ => 0) := (f_s20 (N + 12) (by omega)).trans q12_s19
          refine go_dup (pc := 61) hF dX3_init_61 rfl ?_
          refine go_callIN (pc := 62) (k := (14, 99)) hF (16, 111) (N + 16) mi_X3_35 dX3_init_62 (c_X0_init E (N + 14) s20 (N + 13) (by omega) u_s20) (Nat.le_of_ble_eq_true rfl) (by decide) (by rw [hR]; exact Nat.le_of_ble_eq_true rfl) (by rw [hR]; exact Nat.le_of_ble_eq_true rfl) (fun _ => (show s.heap.size + 14 = ez E + (N + 14) by omega)) (fun _ => (Or.inl (by omega))) rfl rfl (fun s21 h_s21 => ?_)
          obtain ⟨u0_s21, u1_s21, u2_s21, f_s21⟩ := h_s21
          have u0_s21' : s21 (N + 13) = ob 0 [vr E (N + 14), vr E (N + 15)] := u0_s21
          have u1_s21' : s21 (N + 14) = ai E 6 (fun _ => 0) := u1_s21
          have u2_s21' : s21 (N + 15) = ai E 6 (fun _ => 0) := u2_s21
          have x_s21 : s21 i₉ = ob 3 [vr E N, vr E (N + 1), vr E (N + 2), vr E (N + 3), vi 0, vi 0] := (f_s21 i₉ (by omega)).trans x_s20
          have q0_s21 : s21 N = ai E 24 (fun _ => 0) := (f_s21 N (by omega)).trans q0_s20
          have q1_s21 : s21 (N + 1) = ai E 24 (fun _ => 0) := (f_s21 (N + 1) (by omega)).trans q1_s20
          have q2_s21 : s21 (N + 2) = ar E 3 4 (up (up (up (fun _ => -1) 0 ((N + 4 : Nat) : Int)) 1 ((N + 7 : Nat) : Int)) 2 ((N + 10 : Nat) : Int)) := (f_s21 (N + 2) (by omega)).trans q2_s20
          have q3_s21 : s21 (N + 3) = ar E 3 3 (fun _ => -1) := (f_s21 (N + 3) (by omega)).trans q3_s20
          have q4_s21 : s21 (N + 4) = ob 0 [vr E (N + 5), vr E (N + 6)] := (f_s21 (N + 4) (by omega)).trans q4_s20
          have q5_s21 : s21 (N + 5) = ai E 6 (fun _ => 0) := (f_s21 (N + 5) (by omega)).trans q5_s20
          have q6_s21 : s21 (N + 6) = ai E 6 (fun _ => 0) := (f_s21 (N + 6) (by omega)).trans q6_s20
          have q7_s21 : s21 (N + 7) = ob 0 [vr E (N + 8), vr E (N + 9)] := (f_s21 (N + 7) (by omega)).trans q7_s20
          have q8_s21 : s21 (N + 8) = ai E 6 (fun _ => 0) := (f_s21 (N + 8) (by omega)).trans q8_s20
          have q9_s21 : s21 (N + 9) = ai E 6 (fun _ => 0) := (f_s21 (N + 9) (by omega)).trans q9_s20
          have q10_s21 : s21 (N + 10) = ob 0 [vr E (N + 11), vr E (N + 12)] := (f_s21 (N + 10) (by omega)).trans q10_s20
          have q11_s21 : s21 (N + 11) = ai E 6 (fun _ => 0) := (f_s21 (N + 11) (by omega)).trans q11_s20
          have q12_s21 : s21 (N + 12) = ai E 6 (fun _ => 0) := (f_s21 (N + 12) (by omega)).trans q12_s20
          refine go_aast (pc := 65) hF 3 0 dX3_init_65 rfl rfl (by omega) q2_s21 (by omega) u0_s21' ⟨by decide, by decide⟩ (fun s22 u_s22 f_s22 => ?_)
          have x_s22 : s22 i₉ = ob 3 [vr E N, vr E (N + 1), vr E (N + 2), vr E (N + 3), vi 0, vi 0] := (f_s22 i₉ (by omega)).trans x_s21
          have q0_s22 : s22 N = ai E 24 (fun _ => 0) := (f_s22 N (by omega)).trans q0_s21
          have q1_s22 : s22 (N + 1) = ai E 24 (fun _ => 0) := (f_s22 (N + 1) (by omega)).trans q1_s21
          have q3_s22 : s22 (N + 3) = ar E 3 3 (fun _ => -1) := (f_s22 (N + 3) (by omega)).trans q3_s21
          have q4_s22 : s22 (N + 4) = ob 0 [vr E (N + 5), vr E (N + 6)] := (f_s22 (N + 4) (by omega)).trans q4_s21
          have q5_s22 : s22 (N + 5) = ai E 6 (fun _ => 0) := (f_s22 (N + 5) (by omega)).trans q5_s21
          have q6_s22 : s22 (N + 6) = ai E 6 (fun _ => 0) := (f_s22 (N + 6) (by omega)).trans q6_s21
          have q7_s22 : s22 (N + 7) = ob 0 [vr E (N + 8), vr E (N + 9)] := (f_s22 (N + 7) (by omega)).trans q7_s21
          have q8_s22 : s22 (N + 8) = ai E 6 (fun _ => 0) := (f_s22 (N + 8) (by omega)).trans q8_s21
          have q9_s22 : s22 (N + 9) = ai E 6 (fun _ => 0) := (f_s22 (N + 9) (by omega)).trans q9_s21
          have q10_s22 : s22 (N + 10) = ob 0 [vr E (N + 11), vr E (N + 12)] := (f_s22 (N + 10) (by omega)).trans q10_s21
          have q11_s22 : s22 (N + 11) = ai E 6 (fun _ => 0) := (f_s22 (N + 11) (by omega)).trans q11_s21
          have q12_s22 : s22 (N + 12) = ai E 6 (fun _ => 0) := (f_s22 (N + 12) (by omega)).trans q12_s21
          have q13_s22 : s22 (N + 13) = ob 0 [vr E (N + 14), vr E (N + 15)] := (f_s22 (N + 13) (by omega)).trans u0_s21'
          have q14_s22 : s22 (N + 14) = ai E 6 (fun _ => 0) := (f_s22 (N + 14) (by omega)).trans u1_s21'
          have q15_s22 : s22 (N + 15) = ai E 6 (fun _ => 0) := (f_s22 (N + 15) (by omega)).trans u2_s21'
          refine go_iinc (pc := 66) hF [(1, vi 4), (0, vr E i₉)] dX3_init_66 0 rfl rfl (by decide) ?_
          refine go_goto (pc := 69) hF 48 dX3_init_69 (by decide) ?_
          refine go_iload_n (pc := 48) hF dX3_init_48 0 rfl ?_
          refine go_iconst (pc := 49) hF dX3_init_49 ?_
          refine go_icmp_gt (pc := 50) hF 72 dX3_init_50 (by decide) ⟨by decide, by decide⟩ ⟨by decide, by decide⟩ (fun bq50 => ?_) (fun bq50 => ?_)
          · refine go_iconst (pc := 72) hF dX3_init_72 ?_
            refine go_istore_n (pc := 73) hF [(1, vi 0), (0, vr E i₉)] dX3_init_73 rfl (by decide) ?_
            refine go_iload_n (pc := 74) hF dX3_init_74 0 rfl ?_
            refine go_iconst (pc := 75) hF dX3_init_75 ?_
            refine go_icmp_ge (pc := 76) hF 98 dX3_init_76 (by decide) ⟨by decide, by decide⟩ ⟨by decide, by decide⟩ (fun bq76 => ?_) (fun bq76 => ?_)
            · exact absurd bq76 (by decide)
            · refine go_aload_n (pc := 79) hF dX3_init_79 1 rfl ?_
              refine go_get (pc := 80) hF fl_X3_24 dX3_init_80 (by omega) x_s22 rfl ?_
              refine go_iload_n (pc := 83) hF dX3_init_83 0 rfl ?_
              refine go_new (pc := 84) (k := (16, 111)) hF (17, 113) (N + 17) nw_X3_18 dX3_init_84 (show s.heap.size + 16 = ez E + (N + 16) by omega) (Or.inl (by omega)) (by rw [hR]; exact Nat.le_of_ble_eq_true rfl) (by rw [hR]; exact Nat.le_of_ble_eq_true rfl) rfl rfl (fun s23 u_s23 f_s23 => ?_)
              have x_s23 : s23 i₉ = ob 3 [vr E N, vr E (N + 1), vr E (N + 2), vr E (N + 3), vi 0, vi 0] := (f_s23 i₉ (by omega)).trans x_s22
              have q0_s23 : s23 N = ai E 24 (fun _ => 0) := (f_s23 N (by omega)).trans q0_s22
              have q1_s23 : s23 (N + 1) = ai E 24 (fun _ => 0) := (f_s23 (N + 1) (by omega)).trans q1_s22
              have q2_s23 : s23 (N + 2) = ar E 3 4 (up (up (up (up (fun _ => -1) 0 ((N + 4 : Nat) : Int)) 1 ((N + 7 : Nat) : Int)) 2 ((N + 10 : Nat) : Int)) 3 ((N + 13 : Nat) : Int)) := (f_s23 (N + 2) (by omega)).trans u_s22
              have q3_s23 : s23 (N + 3) = ar E 3 3 (fun _ => -1) := (f_s23 (N + 3) (by omega)).trans q3_s22
              have q4_s23 : s23 (N + 4) = ob 0 [vr E (N + 5), vr E (N + 6)] := (f_s23 (N + 4) (by omega)).trans q4_s22
              have q5_s23 : s23 (N + 5) = ai E 6 (fun _ => 0) := (f_s23 (N + 5) (by omega)).trans q5_s22
              have q6_s23 : s23 (N + 6) = ai E 6 (fun _ => 0) := (f_s23 (N + 6) (by omega)).trans q6_s22
              have q7_s23 : s23 (N + 7) = ob 0 [vr E (N + 8), vr E (N + 9)] := (f_s23 (N + 7) (by omega)).trans q7_s22
              have q8_s23 : s23 (N + 8) = ai E 6 (fun _ => 0) := (f_s23 (N + 8) (by omega)).trans q8_s22
              have q9_s23 : s23 (N + 9) = ai E 6 (fun _ => 0) := (f_s23 (N + 9) (by omega)).trans q9_s22
              have q10_s23 : s23 (N + 10) = ob 0 [vr E (N + 11), vr E (N + 12)] := (f_s23 (N + 10) (by omega)).trans q10_s22
              have q11_s23 : s23 (N + 11) = ai E 6 (fun _ => 0) := (f_s23 (N + 11) (by omega)).trans q11_s22
              have q12_s23 : s23 (N + 12) = ai E 6 (fun _ => 0) := (f_s23 (N + 12) (by omega)).trans q12_s22
              have q13_s23 : s23 (N + 13) = ob 0 [vr E (N + 14), vr E (N + 15)] := (f_s23 (N + 13) (by omega)).trans q13_s22
              have q14_s23 : s23 (N + 14) = ai E 6 (fun _ => 0) := (f_s23 (N + 14) (by omega)).trans q14_s22
              have q15_s23 : s23 (N + 15) = ai E 6 (fun _ => 0) := (f_s23 (N + 15) (by omega)).trans q15_s22
              refine go_dup (pc := 87) hF dX3_init_87 rfl ?_
              refine go_callIN (pc := 88) (k := (17, 113)) hF (19, 125) (N + 19) mi_X3_35 dX3_init_88 (c_X0_init E (N + 17) s23 (N + 16) (by omega) u_s23) (Nat.le_of_ble_eq_true rfl) (by decide) (by rw [hR]; exact Nat.le_of_ble_eq_true rfl) (by rw [hR]; exact Nat.le_of_ble_eq_true rfl) (fun _ => (show s.heap.size + 17 = ez E + (N + 17) by omega)) (fun _ => (Or.inl (by omega))) rfl rfl (fun s24 h_s24 => ?_)
              obtain ⟨u0_s24, u1_s24, u2_s24, f_s24⟩ := h_s24
              have u0_s24' : s24 (N + 16) = ob 0 [vr E (N + 17), vr E (N + 18)] := u0_s24
              have u1_s24' : s24 (N + 17) = ai E 6 (fun _ => 0) := u1_s24
              have u2_s24' : s24 (N + 18) = ai E 6 (fun _ => 0) := u2_s24
              have x_s24 : s24 i₉ = ob 3 [vr E N, vr E (N + 1), vr E (N + 2), vr E (N + 3), vi 0, vi 0] := (f_s24 i₉ (by omega)).trans x_s23
              have q0_s24 : s24 N = ai E 24 (fun _ => 0) := (f_s24 N (by omega)).trans q0_s23
              have q1_s24 : s24 (N + 1) = ai E 24 (fun _ => 0) := (f_s24 (N + 1) (by omega)).trans q1_s23
              have q2_s24 : s24 (N + 2) = ar E 3 4 (up (up (up (up (fun _ => -1) 0 ((N + 4 : Nat) : Int)) 1 ((N + 7 : Nat) : Int)) 2 ((N + 10 : Nat) : Int)) 3 ((N + 13 : Nat) : Int)) := (f_s24 (N + 2) (by omega)).trans q2_s23
              have q3_s24 : s24 (N + 3) = ar E 3 3 (fun _ => -1) := (f_s24 (N + 3) (by omega)).trans q3_s23
              have q4_s24 : s24 (N + 4) = ob 0 [vr E (N + 5), vr E (N + 6)] := (f_s24 (N + 4) (by omega)).trans q4_s23
              have q5_s24 : s24 (N + 5) = ai E 6 (fun _ => 0) := (f_s24 (N + 5) (by omega)).trans q5_s23
              have q6_s24 : s24 (N + 6) = ai E 6 (fun _ => 0) := (f_s24 (N + 6) (by omega)).trans q6_s23
              have q7_s24 : s24 (N + 7) = ob 0 [vr E (N + 8), vr E (N + 9)] := (f_s24 (N + 7) (by omega)).trans q7_s23
              have q8_s24 : s24 (N + 8) = ai E 6 (fun _ => 0) := (f_s24 (N + 8) (by omega)).trans q8_s23
              have q9_s24 : s24 (N + 9) = ai E 6 (fun _ => 0) := (f_s24 (N + 9) (by omega)).trans q9_s23
              have q10_s24 : s24 (N + 10) = ob 0 [vr E (N + 11), vr E (N + 12)] := (f_s24 (N + 10) (by omega)).trans q10_s23
              have q11_s24 : s24 (N + 11) = ai E 6 (fun _ => 0) := (f_s24 (N + 11) (by omega)).trans q11_s23
              have q12_s24 : s24 (N + 12) = ai E 6 (fun _ => 0) := (f_s24 (N + 12) (by omega)).trans q12_s23
              have q13_s24 : s24 (N + 13) = ob 0 [vr E (N + 14), vr E (N + 15)] := (f_s24 (N + 13) (by omega)).trans q13_s23
              have q14_s24 : s24 (N + 14) = ai E 6 (fun _ => 0) := (f_s24 (N + 14) (by omega)).trans q14_s23
              have q15_s24 : s24 (N + 15) = ai E 6 (fun _ => 0) := (f_s24 (N + 15) (by omega)).trans q15_s23
              refine go_aast (pc := 91) hF 3 0 dX3_init_91 rfl rfl (by omega) q3_s24 (by omega) u0_s24' ⟨by decide, by decide⟩ (fun s25 u_s25 f_s25 => ?_)
              have x_s25 : s25 i₉ = ob 3 [vr E N, vr E (N + 1), vr E (N + 2), vr E (N + 3), vi 0, vi 0] := (f_s25 i₉ (by omega)).trans x_s24
              have q0_s25 : s25 N = ai E 24 (fun _ => 0) := (f_s25 N (by omega)).trans q0_s24
              have q1_s25 : s25 (N + 1) = ai E 24 (fun _ => 0) := (f_s25 (N + 1) (by omega)).trans q1_s24
              have q2_s25 : s25 (N + 2) = ar E 3 4 (up (up (up (up (fun _ => -1) 0 ((N + 4 : Nat) : Int)) 1 ((N + 7 : Nat) : Int)) 2 ((N + 10 : Nat) : Int)) 3 ((N + 13 : Nat) : Int)) := (f_s25 (N + 2) (by omega)).trans q2_s24
              have q4_s25 : s25 (N + 4) = ob 0 [vr E (N + 5), vr E (N + 6)] := (f_s25 (N + 4) (by omega)).trans q4_s24
              have q5_s25 : s25 (N + 5) = ai E 6 (fun _ => 0) := (f_s25 (N + 5) (by omega)).trans q5_s24
              have q6_s25 : s25 (N + 6) = ai E 6 (fun _ => 0) := (f_s25 (N + 6) (by omega)).trans q6_s24
              have q7_s25 : s25 (N + 7) = ob 0 [vr E (N + 8), vr E (N + 9)] := (f_s25 (N + 7) (by omega)).trans q7_s24
              have q8_s25 : s25 (N + 8) = ai E 6 (fun _ => 0) := (f_s25 (N + 8) (by omega)).trans q8_s24
              have q9_s25 : s25 (N + 9) = ai E 6 (fun _ => 0) := (f_s25 (N + 9) (by omega)).trans q9_s24
              have q10_s25 : s25 (N + 10) = ob 0 [vr E (N + 11), vr E (N + 12)] := (f_s25 (N + 10) (by omega)).trans q10_s24
              have q11_s25 : s25 (N + 11) = ai E 6 (fun _ => 0) := (f_s25 (N + 11) (by omega)).trans q11_s24
              have q12_s25 : s25 (N + 12) = ai E 6 (fun _ => 0) := (f_s25 (N + 12) (by omega)).trans q12_s24
              have q13_s25 : s25 (N + 13) = ob 0 [vr E (N + 14), vr E (N + 15)] := (f_s25 (N + 13) (by omega)).trans q13_s24
              have q14_s25 : s25 (N + 14) = ai E 6 (fun _ => 0) := (f_s25 (N + 14) (by omega)).trans q14_s24
              have q15_s25 : s25 (N + 15) = ai E 6 (fun _ => 0) := (f_s25 (N + 15) (by omega)).trans q15_s24
              have q16_s25 : s25 (N + 16) = ob 0 [vr E (N + 17), vr E (N + 18)] := (f_s25 (N + 16) (by omega)).trans u0_s24'
              have q17_s25 : s25 (N + 17) = ai E 6 (fun _ => 0) := (f_s25 (N + 17) (by omega)).trans u1_s24'
              have q18_s25 : s25 (N + 18) = ai E 6 (fun _ => 0) := (f_s25 (N + 18) (by omega)).trans u2_s24'
              refine go_iinc (pc := 92) hF [(1, vi 1), (0, vr E i₉)] dX3_init_92 0 rfl rfl (by decide) ?_
              refine go_goto (pc := 95) hF 74 dX3_init_95 (by decide) ?_
              refine go_iload_n (pc := 74) hF dX3_init_74 0 rfl ?_
              refine go_iconst (pc := 75) hF dX3_init_75 ?_
              refine go_icmp_ge (pc := 76) hF 98 dX3_init_76 (by decide) ⟨by decide, by decide⟩ ⟨by decide, by decide⟩ (fun bq76 => ?_) (fun bq76 => ?_)
              · exact absurd bq76 (by decide)
              · refine go_aload_n (pc := 79) hF dX3_init_79 1 rfl ?_
                refine go_get (pc := 80) hF fl_X3_24 dX3_init_80 (by omega) x_s25 rfl ?_
                refine go_iload_n (pc := 83) hF dX3_init_83 0 rfl ?_
                refine go_new (pc := 84) (k := (19, 125)) hF (20, 127) (N + 20) nw_X3_18 dX3_init_84 (show s.heap.size + 19 = ez E + (N + 19) by omega) (Or.inl (by omega)) (by rw [hR]; exact Nat.le_of_ble_eq_true rfl) (by rw [hR]; exact Nat.le_of_ble_eq_true rfl) rfl rfl (fun s26 u_s26 f_s26 => ?_)
                have x_s26 : s26 i₉ = ob 3 [vr E N, vr E (N + 1), vr E (N + 2), vr E (N + 3), vi 0, vi 0] := (f_s26 i₉ (by omega)).trans x_s25
                have q0_s26 : s26 N = ai E 24 (fun _ => 0) := (f_s26 N (by omega)).trans q0_s25
                have q1_s26 : s26 (N + 1) = ai E 24 (fun _ => 0) := (f_s26 (N + 1) (by omega)).trans q1_s25
                have q2_s26 : s26 (N + 2) = ar E 3 4 (up (up (up (up (fun _ => -1) 0 ((N + 4 : Nat) : Int)) 1 ((N + 7 : Nat) : Int)) 2 ((N + 10 : Nat) : Int)) 3 ((N + 13 : Nat) : Int)) := (f_s26 (N + 2) (by omega)).trans q2_s25
                have q3_s26 : s26 (N + 3) = ar E 3 3 (up (fun _ => -1) 0 ((N + 16 : Nat) : Int)) := (f_s26 (N + 3) (by omega)).trans u_s25
                have q4_s26 : s26 (N + 4) = ob 0 [vr E (N + 5), vr E (N + 6)] := (f_s26 (N + 4) (by omega)).trans q4_s25
                have q5_s26 : s26 (N + 5) = ai E 6 (fun _ => 0) := (f_s26 (N + 5) (by omega)).trans q5_s25
                have q6_s26 : s26 (N + 6) = ai E 6 (fun _ => 0) := (f_s26 (N + 6) (by omega)).trans q6_s25
                have q7_s26 : s26 (N + 7) = ob 0 [vr E (N + 8), vr E (N + 9)] := (f_s26 (N + 7) (by omega)).trans q7_s25
                have q8_s26 : s26 (N + 8) = ai E 6 (fun _ => 0) := (f_s26 (N + 8) (by omega)).trans q8_s25
                have q9_s26 : s26 (N + 9) = ai E 6 (fun _ => 0) := (f_s26 (N + 9) (by omega)).trans q9_s25
                have q10_s26 : s26 (N + 10) = ob 0 [vr E (N + 11), vr E (N + 12)] := (f_s26 (N + 10) (by omega)).trans q10_s25
                have q11_s26 : s26 (N + 11) = ai E 6 (fun _ => 0) := (f_s26 (N + 11) (by omega)).trans q11_s25
                have q12_s26 : s26 (N + 12) = ai E 6 (fun _ => 0) := (f_s26 (N + 12) (by omega)).trans q12_s25
                have q13_s26 : s26 (N + 13) = ob 0 [vr E (N + 14), vr E (N + 15)] := (f_s26 (N + 13) (by omega)).trans q13_s25
                have q14_s26 : s26 (N + 14) = ai E 6 (fun _ => 0) := (f_s26 (N + 14) (by omega)).trans q14_s25
                have q15_s26 : s26 (N + 15) = ai E 6 (fun _ => 0) := (f_s26 (N + 15) (by omega)).trans q15_s25
                have q16_s26 : s26 (N + 16) = ob 0 [vr E (N + 17), vr E (N + 18)] := (f_s26 (N + 16) (by omega)).trans q16_s25
                have q17_s26 : s26 (N + 17) = ai E 6 (fun _ => 0) := (f_s26 (N + 17) (by omega)).trans q17_s25
                have q18_s26 : s26 (N + 18) = ai E 6 (fun _ => 0) := (f_s26 (N + 18) (by omega)).trans q18_s25
                refine go_dup (pc := 87) hF dX3_init_87 rfl ?_
                refine go_callIN (pc := 88) (k := (20, 127)) hF (22, 139) (N + 22) mi_X3_35 dX3_init_88 (c_X0_init E (N + 20) s26 (N + 19) (by omega) u_s26) (Nat.le_of_ble_eq_true rfl) (by decide) (by rw [hR]; exact Nat.le_of_ble_eq_true rfl) (by rw [hR]; exact Nat.le_of_ble_eq_true rfl) (fun _ => (show s.heap.size + 20 = ez E + (N + 20) by omega)) (fun _ => (Or.inl (by omega))) rfl rfl (fun s27 h_s27 => ?_)
                obtain ⟨u0_s27, u1_s27, u2_s27, f_s27⟩ := h_s27
                have u0_s27' : s27 (N + 19) = ob 0 [vr E (N + 20), vr E (N + 21)] := u0_s27
                have u1_s27' : s27 (N + 20) = ai E 6 (fun _ => 0) := u1_s27
                have u2_s27' : s27 (N + 21) = ai E 6 (fun _ => 0) := u2_s27
                have x_s27 : s27 i₉ = ob 3 [vr E N, vr E (N + 1), vr E (N + 2), vr E (N + 3), vi 0, vi 0] := (f_s27 i₉ (by omega)).trans x_s26
                have q0_s27 : s27 N = ai E 24 (fun _ => 0) := (f_s27 N (by omega)).trans q0_s26
                have q1_s27 : s27 (N + 1) = ai E 24 (fun _ => 0) := (f_s27 (N + 1) (by omega)).trans q1_s26
                have q2_s27 : s27 (N + 2) = ar E 3 4 (up (up (up (up (fun _ => -1) 0 ((N + 4 : Nat) : Int)) 1 ((N + 7 : Nat) : Int)) 2 ((N + 10 : Nat) : Int)) 3 ((N + 13 : Nat) : Int)) := (f_s27 (N + 2) (by omega)).trans q2_s26
                have q3_s27 : s27 (N + 3) = ar E 3 3 (up (fun _ => -1) 0 ((N + 16 : Nat) : Int)) := (f_s27 (N + 3) (by omega)).trans q3_s26
                have q4_s27 : s27 (N + 4) = ob 0 [vr E (N + 5), vr E (N + 6)] := (f_s27 (N + 4) (by omega)).trans q4_s26
                have q5_s27 : s27 (N + 5) = ai E 6 (fun _ => 0) := (f_s27 (N + 5) (by omega)).trans q5_s26
                have q6_s27 : s27 (N + 6) = ai E 6 (fun _ => 0) := (f_s27 (N + 6) (by omega)).trans q6_s26
                have q7_s27 : s27 (N + 7) = ob 0 [vr E (N + 8), vr E (N + 9)] := (f_s27 (N + 7) (by omega)).trans q7_s26
                have q8_s27 : s27 (N + 8) = ai E 6 (fun _ => 0) := (f_s27 (N + 8) (by omega)).trans q8_s26
                have q9_s27 : s27 (N + 9) = ai E 6 (fun _ => 0) := (f_s27 (N + 9) (by omega)).trans q9_s26
                have q10_s27 : s27 (N + 10) = ob 0 [vr E (N + 11), vr E (N + 12)] := (f_s27 (N + 10) (by omega)).trans q10_s26
                have q11_s27 : s27 (N + 11) = ai E 6 (fun _ => 0) := (f_s27 (N + 11) (by omega)).trans q11_s26
                have q12_s27 : s27 (N + 12) = ai E 6 (fun _ => 0) := (f_s27 (N + 12) (by omega)).trans q12_s26
                have q13_s27 : s27 (N + 13) = ob 0 [vr E (N + 14), vr E (N + 15)] := (f_s27 (N + 13) (by omega)).trans q13_s26
                have q14_s27 : s27 (N + 14) = ai E 6 (fun _ => 0) := (f_s27 (N + 14) (by omega)).trans q14_s26
                have q15_s27 : s27 (N + 15) = ai E 6 (fun _ => 0) := (f_s27 (N + 15) (by omega)).trans q15_s26
                have q16_s27 : s27 (N + 16) = ob 0 [vr E (N + 17), vr E (N + 18)] := (f_s27 (N + 16) (by omega)).trans q16_s26
                have q17_s27 : s27 (N + 17) = ai E 6 (fun _ => 0) := (f_s27 (N + 17) (by omega)).trans q17_s26
                have q18_s27 : s27 (N + 18) = ai E 6 (fun _ => 0) := (f_s27 (N + 18) (by omega)).trans q18_s26
                refine go_aast (pc := 91) hF 3 0 dX3_init_91 rfl rfl (by omega) q3_s27 (by omega) u0_s27' ⟨by decide, by decide⟩ (fun s28 u_s28 f_s28 => ?_)
                have x_s28 : s28 i₉ = ob 3 [vr E N, vr E (N + 1), vr E (N + 2), vr E (N + 3), vi 0, vi 0] := (f_s28 i₉ (by omega)).trans x_s27
                have q0_s28 : s28 N = ai E 24 (fun _ => 0) := (f_s28 N (by omega)).trans q0_s27
                have q1_s28 : s28 (N + 1) = ai E 24 (fun _ => 0) := (f_s28 (N + 1) (by omega)).trans q1_s27
                have q2_s28 : s28 (N + 2) = ar E 3 4 (up (up (up (up (fun _ => -1) 0 ((N + 4 : Nat) : Int)) 1 ((N + 7 : Nat) : Int)) 2 ((N + 10 : Nat) : Int)) 3 ((N + 13 : Nat) : Int)) := (f_s28 (N + 2) (by omega)).trans q2_s27
                have q4_s28 : s28 (N + 4) = ob 0 [vr E (N + 5), vr E (N + 6)] := (f_s28 (N + 4) (by omega)).trans q4_s27
                have q5_s28 : s28 (N + 5) = ai E 6 (fun _ => 0) := (f_s28 (N + 5) (by omega)).trans q5_s27
                have q6_s28 : s28 (N + 6) = ai E 6 (fun _ => 0) := (f_s28 (N + 6) (by omega)).trans q6_s27
                have q7_s28 : s28 (N + 7) = ob 0 [vr E (N + 8), vr E (N + 9)] := (f_s28 (N + 7) (by omega)).trans q7_s27
                have q8_s28 : s28 (N + 8) = ai E 6 (fun _ => 0) := (f_s28 (N + 8) (by omega)).trans q8_s27
                have q9_s28 : s28 (N + 9) = ai E 6 (fun _ => 0) := (f_s28 (N + 9) (by omega)).trans q9_s27
                have q10_s28 : s28 (N + 10) = ob 0 [vr E (N + 11), vr E (N + 12)] := (f_s28 (N + 10) (by omega)).trans q10_s27
                have q11_s28 : s28 (N + 11) = ai E 6 (fun _ => 0) := (f_s28 (N + 11) (by omega)).trans q11_s27
                have q12_s28 : s28 (N + 12) = ai E 6 (fun _ => 0) := (f_s28 (N + 12) (by omega)).trans q12_s27
                have q13_s28 : s28 (N + 13) = ob 0 [vr E (N + 14), vr E (N + 15)] := (f_s28 (N + 13) (by omega)).trans q13_s27
                have q14_s28 : s28 (N + 14) = ai E 6 (fun _ => 0) := (f_s28 (N + 14) (by omega)).trans q14_s27
                have q15_s28 : s28 (N + 15) = ai E 6 (fun _ => 0) := (f_s28 (N + 15) (by omega)).trans q15_s27
                have q16_s28 : s28 (N + 16) = ob 0 [vr E (N + 17), vr E (N + 18)] := (f_s28 (N + 16) (by omega)).trans q16_s27
                have q17_s28 : s28 (N + 17) = ai E 6 (fun _ => 0) := (f_s28 (N + 17) (by omega)).trans q17_s27
                have q18_s28 : s28 (N + 18) = ai E 6 (fun _ => 0) := (f_s28 (N + 18) (by omega)).trans q18_s27
                have q19_s28 : s28 (N + 19) = ob 0 [vr E (N + 20), vr E (N + 21)] := (f_s28 (N + 19) (by omega)).trans u0_s27'
                have q20_s28 : s28 (N + 20) = ai E 6 (fun _ => 0) := (f_s28 (N + 20) (by omega)).trans u1_s27'
                have q21_s28 : s28 (N + 21) = ai E 6 (fun _ => 0) := (f_s28 (N + 21) (by omega)).trans u2_s27'
                refine go_iinc (pc := 92) hF [(1, vi 2), (0, vr E i₉)] dX3_init_92 0 rfl rfl (by decide) ?_
                refine go_goto (pc := 95) hF 74 dX3_init_95 (by decide) ?_
                refine go_iload_n (pc := 74) hF dX3_init_74 0 rfl ?_
                refine go_iconst (pc := 75) hF dX3_init_75 ?_
                refine go_icmp_ge (pc := 76) hF 98 dX3_init_76 (by decide) ⟨by decide, by decide⟩ ⟨by decide, by decide⟩ (fun bq76 => ?_) (fun bq76 => ?_)
                · exact absurd bq76 (by decide)
                · refine go_aload_n (pc := 79) hF dX3_init_79 1 rfl ?_
                  refine go_get (pc := 80) hF fl_X3_24 dX3_init_80 (by omega) x_s28 rfl ?_
                  refine go_iload_n (pc := 83) hF dX3_init_83 0 rfl ?_
                  refine go_new (pc := 84) (k := (22, 139)) hF (23, 141) (N + 23) nw_X3_18 dX3_init_84 (show s.heap.size + 22 = ez E + (N + 22) by omega) (Or.inl (by omega)) (by rw [hR]; exact Nat.le_of_ble_eq_true rfl) (by rw [hR]; exact Nat.le_of_ble_eq_true rfl) rfl rfl (fun s29 u_s29 f_s29 => ?_)
                  have x_s29 : s29 i₉ = ob 3 [vr E N, vr E (N + 1), vr E (N + 2), vr E (N + 3), vi 0, vi 0] := (f_s29 i₉ (by omega)).trans x_s28
                  have q0_s29 : s29 N = ai E 24 (fun _ => 0) := (f_s29 N (by omega)).trans q0_s28
                  have q1_s29 : s29 (N + 1) = ai E 24 (fun _ => 0) := (f_s29 (N + 1) (by omega)).trans q1_s28
                  have q2_s29 : s29 (N + 2) = ar E 3 4 (up (up (up (up (fun _ => -1) 0 ((N + 4 : Nat) : Int)) 1 ((N + 7 : Nat) : Int)) 2 ((N + 10 : Nat) : Int)) 3 ((N + 13 : Nat) : Int)) := (f_s29 (N + 2) (by omega)).trans q2_s28
                  have q3_s29 : s29 (N + 3) = ar E 3 3 (up (up (fun _ => -1) 0 ((N + 16 : Nat) : Int)) 1 ((N + 19 : Nat) : Int)) := (f_s29 (N + 3) (by omega)).trans u_s28
                  have q4_s29 : s29 (N + 4) = ob 0 [vr E (N + 5), vr E (N + 6)] := (f_s29 (N + 4) (by omega)).trans q4_s28
                  have q5_s29 : s29 (N + 5) = ai E 6 (fun _ => 0) := (f_s29 (N + 5) (by omega)).trans q5_s28
                  have q6_s29 : s29 (N + 6) = ai E 6 (fun _ => 0) := (f_s29 (N + 6) (by omega)).trans q6_s28
                  have q7_s29 : s29 (N + 7) = ob 0 [vr E (N + 8), vr E (N + 9)] := (f_s29 (N + 7) (by omega)).trans q7_s28
                  have q8_s29 : s29 (N + 8) = ai E 6 (fun _ => 0) := (f_s29 (N + 8) (by omega)).trans q8_s28
                  have q9_s29 : s29 (N + 9) = ai E 6 (fun _ => 0) := (f_s29 (N + 9) (by omega)).trans q9_s28
                  have q10_s29 : s29 (N + 10) = ob 0 [vr E (N + 11), vr E (N + 12)] := (f_s29 (N + 10) (by omega)).trans q10_s28
                  have q11_s29 : s29 (N + 11) = ai E 6 (fun _ => 0) := (f_s29 (N + 11) (by omega)).trans q11_s28
                  have q12_s29 : s29 (N + 12) = ai E 6 (fun _ => 0) := (f_s29 (N + 12) (by omega)).trans q12_s28
                  have q13_s29 : s29 (N + 13) = ob 0 [vr E (N + 14), vr E (N + 15)] := (f_s29 (N + 13) (by omega)).trans q13_s28
                  have q14_s29 : s29 (N + 14) = ai E 6 (fun _ => 0) := (f_s29 (N + 14) (by omega)).trans q14_s28
                  have q15_s29 : s29 (N + 15) = ai E 6 (fun _ => 0) := (f_s29 (N + 15) (by omega)).trans q15_s28
                  have q16_s29 : s29 (N + 16) = ob 0 [vr E (N + 17), vr E (N + 18)] := (f_s29 (N + 16) (by omega)).trans q16_s28
                  have q17_s29 : s29 (N + 17) = ai E 6 (fun _ => 0) := (f_s29 (N + 17) (by omega)).trans q17_s28
                  have q18_s29 : s29 (N + 18) = ai E 6 (fun _ => 0) := (f_s29 (N + 18) (by omega)).trans q18_s28
                  have q19_s29 : s29 (N + 19) = ob 0 [vr E (N + 20), vr E (N + 21)] := (f_s29 (N + 19) (by omega)).trans q19_s28
                  have q20_s29 : s29 (N + 20) = ai E 6 (fun _ => 0) := (f_s29 (N + 20) (by omega)).trans q20_s28
                  have q21_s29 : s29 (N + 21) = ai E 6 (fun _ => 0) := (f_s29 (N + 21) (by omega)).trans q21_s28
                  refine go_dup (pc := 87) hF dX3_init_87 rfl ?_
                  refine go_callIN (pc := 88) (k := (23, 141)) hF (25, 153) (N + 25) mi_X3_35 dX3_init_88 (c_X0_init E (N + 23) s29 (N + 22) (by omega) u_s29) (Nat.le_of_ble_eq_true rfl) (by decide) (by rw [hR]; exact Nat.le_of_ble_eq_true rfl) (by rw [hR]; exact Nat.le_of_ble_eq_true rfl) (fun _ => (show s.heap.size + 23 = ez E + (N + 23) by omega)) (fun _ => (Or.inl (by omega))) rfl rfl (fun s30 h_s30 => ?_)
                  obtain ⟨u0_s30, u1_s30, u2_s30, f_s30⟩ := h_s30
                  have u0_s30' : s30 (N + 22) = ob 0 [vr E (N + 23), vr E (N + 24)] := u0_s30
                  have u1_s30' : s30 (N + 23) = ai E 6 (fun _ => 0) := u1_s30
                  have u2_s30' : s30 (N + 24) = ai E 6 (fun _ => 0) := u2_s30
                  have x_s30 : s30 i₉ = ob 3 [vr E N, vr E (N + 1), vr E (N + 2), vr E (N + 3), vi 0, vi 0] := (f_s30 i₉ (by omega)).trans x_s29
                  have q0_s30 : s30 N = ai E 24 (fun _ => 0) := (f_s30 N (by omega)).trans q0_s29
                  have q1_s30 : s30 (N + 1) = ai E 24 (fun _ => 0) := (f_s30 (N + 1) (by omega)).trans q1_s29
                  have q2_s30 : s30 (N + 2) = ar E 3 4 (up (up (up (up (fun _ => -1) 0 ((N + 4 : Nat) : Int)) 1 ((N + 7 : Nat) : Int)) 2 ((N + 10 : Nat) : Int)) 3 ((N + 13 : Nat) : Int)) := (f_s30 (N + 2) (by omega)).trans q2_s29
                  have q3_s30 : s30 (N + 3) = ar E 3 3 (up (up (fun _ => -1) 0 ((N + 16 : Nat) : Int)) 1 ((N + 19 : Nat) : Int)) := (f_s30 (N + 3) (by omega)).trans q3_s29
                  have q4_s30 : s30 (N + 4) = ob 0 [vr E (N + 5), vr E (N + 6)] := (f_s30 (N + 4) (by omega)).trans q4_s29
                  have q5_s30 : s30 (N + 5) = ai E 6 (fun _ => 0) := (f_s30 (N + 5) (by omega)).trans q5_s29
                  have q6_s30 : s30 (N + 6) = ai E 6 (fun _ => 0) := (f_s30 (N + 6) (by omega)).trans q6_s29
                  have q7_s30 : s30 (N + 7) = ob 0 [vr E (N + 8), vr E (N + 9)] := (f_s30 (N + 7) (by omega)).trans q7_s29
                  have q8_s30 : s30 (N + 8) = ai E 6 (fun _ => 0) := (f_s30 (N + 8) (by omega)).trans q8_s29
                  have q9_s30 : s30 (N + 9) = ai E 6 (fun _ => 0) := (f_s30 (N + 9) (by omega)).trans q9_s29
                  have q10_s30 : s30 (N + 10) = ob 0 [vr E (N + 11), vr E (N + 12)] := (f_s30 (N + 10) (by omega)).trans q10_s29
                  have q11_s30 : s30 (N + 11) = ai E 6 (fun _ => 0) := (f_s30 (N + 11) (by omega)).trans q11_s29
                  have q12_s30 : s30 (N + 12) = ai E 6 (fun _ => 0) := (f_s30 (N + 12) (by omega)).trans q12_s29
                  have q13_s30 : s30 (N + 13) = ob 0 [vr E (N + 14), vr E (N + 15)] := (f_s30 (N + 13) (by omega)).trans q13_s29
                  have q14_s30 : s30 (N + 14) = ai E 6 (fun _ => 0) := (f_s30 (N + 14) (by omega)).trans q14_s29
                  have q15_s30 : s30 (N + 15) = ai E 6 (fun _ => 0) := (f_s30 (N + 15) (by omega)).trans q15_s29
                  have q16_s30 : s30 (N + 16) = ob 0 [vr E (N + 17), vr E (N + 18)] := (f_s30 (N + 16) (by omega)).trans q16_s29
                  have q17_s30 : s30 (N + 17) = ai E 6 (fun _ => 0) := (f_s30 (N + 17) (by omega)).trans q17_s29
                  have q18_s30 : s30 (N + 18) = ai E 6 (fun _ => 0) := (f_s30 (N + 18) (by omega)).trans q18_s29
                  have q19_s30 : s30 (N + 19) = ob 0 [vr E (N + 20), vr E (N + 21)] := (f_s30 (N + 19) (by omega)).trans q19_s29
                  have q20_s30 : s30 (N + 20) = ai E 6 (fun _ => 0) := (f_s30 (N + 20) (by omega)).trans q20_s29
                  have q21_s30 : s30 (N + 21) = ai E 6 (fun _ => 0) := (f_s30 (N + 21) (by omega)).trans q21_s29
                  refine go_aast (pc := 91) hF 3 0 dX3_init_91 rfl rfl (by omega) q3_s30 (by omega) u0_s30' ⟨by decide, by decide⟩ (fun s31 u_s31 f_s31 => ?_)
                  have x_s31 : s31 i₉ = ob 3 [vr E N, vr E (N + 1), vr E (N + 2), vr E (N + 3), vi 0, vi 0] := (f_s31 i₉ (by omega)).trans x_s30
                  have q0_s31 : s31 N = ai E 24 (fun _ => 0) := (f_s31 N (by omega)).trans q0_s30
                  have q1_s31 : s31 (N + 1) = ai E 24 (fun _ => 0) := (f_s31 (N + 1) (by omega)).trans q1_s30
                  have q2_s31 : s31 (N + 2) = ar E 3 4 (up (up (up (up (fun _ => -1) 0 ((N + 4 : Nat) : Int)) 1 ((N + 7 : Nat) : Int)) 2 ((N + 10 : Nat) : Int)) 3 ((N + 13 : Nat) : Int)) := (f_s31 (N + 2) (by omega)).trans q2_s30
                  have q4_s31 : s31 (N + 4) = ob 0 [vr E (N + 5), vr E (N + 6)] := (f_s31 (N + 4) (by omega)).trans q4_s30
                  have q5_s31 : s31 (N + 5) = ai E 6 (fun _ => 0) := (f_s31 (N + 5) (by omega)).trans q5_s30
                  have q6_s31 : s31 (N + 6) = ai E 6 (fun _ => 0) := (f_s31 (N + 6) (by omega)).trans q6_s30
                  have q7_s31 : s31 (N + 7) = ob 0 [vr E (N + 8), vr E (N + 9)] := (f_s31 (N + 7) (by omega)).trans q7_s30
                  have q8_s31 : s31 (N + 8) = ai E 6 (fun _ => 0) := (f_s31 (N + 8) (by omega)).trans q8_s30
                  have q9_s31 : s31 (N + 9) = ai E 6 (fun _ => 0) := (f_s31 (N + 9) (by omega)).trans q9_s30
                  have q10_s31 : s31 (N + 10) = ob 0 [vr E (N + 11), vr E (N + 12)] := (f_s31 (N + 10) (by omega)).trans q10_s30
                  have q11_s31 : s31 (N + 11) = ai E 6 (fun _ => 0) := (f_s31 (N + 11) (by omega)).trans q11_s30
                  have q12_s31 : s31 (N + 12) = ai E 6 (fun _ => 0) := (f_s31 (N + 12) (by omega)).trans q12_s30
                  have q13_s31 : s31 (N + 13) = ob 0 [vr E (N + 14), vr E (N + 15)] := (f_s31 (N + 13) (by omega)).trans q13_s30
                  have q14_s31 : s31 (N + 14) = ai E 6 (fun _ => 0) := (f_s31 (N + 14) (by omega)).trans q14_s30
                  have q15_s31 : s31 (N + 15) = ai E 6 (fun _ => 0) := (f_s31 (N + 15) (by omega)).trans q15_s30
                  have q16_s31 : s31 (N + 16) = ob 0 [vr E (N + 17), vr E (N + 18)] := (f_s31 (N + 16) (by omega)).trans q16_s30
                  have q17_s31 : s31 (N + 17) = ai E 6 (fun _ => 0) := (f_s31 (N + 17) (by omega)).trans q17_s30
                  have q18_s31 : s31 (N + 18) = ai E 6 (fun _ => 0) := (f_s31 (N + 18) (by omega)).trans q18_s30
                  have q19_s31 : s31 (N + 19) = ob 0 [vr E (N + 20), vr E (N + 21)] := (f_s31 (N + 19) (by omega)).trans q19_s30
                  have q20_s31 : s31 (N + 20) = ai E 6 (fun _ => 0) := (f_s31 (N + 20) (by omega)).trans q20_s30
                  have q21_s31 : s31 (N + 21) = ai E 6 (fun _ => 0) := (f_s31 (N + 21) (by omega)).trans q21_s30
                  have q22_s31 : s31 (N + 22) = ob 0 [vr E (N + 23), vr E (N + 24)] := (f_s31 (N + 22) (by omega)).trans u0_s30'
                  have q23_s31 : s31 (N + 23) = ai E 6 (fun _ => 0) := (f_s31 (N + 23) (by omega)).trans u1_s30'
                  have q24_s31 : s31 (N + 24) = ai E 6 (fun _ => 0) := (f_s31 (N + 24) (by omega)).trans u2_s30'
                  refine go_iinc (pc := 92) hF [(1, vi 3), (0, vr E i₉)] dX3_init_92 0 rfl rfl (by decide) ?_
                  refine go_goto (pc := 95) hF 74 dX3_init_95 (by decide) ?_
                  refine go_iload_n (pc := 74) hF dX3_init_74 0 rfl ?_
                  refine go_iconst (pc := 75) hF dX3_init_75 ?_
                  refine go_icmp_ge (pc := 76) hF 98 dX3_init_76 (by decide) ⟨by decide, by decide⟩ ⟨by decide, by decide⟩ (fun bq76 => ?_) (fun bq76 => ?_)
                  · exact go_vretK hF hr hlk hQ rfl rfl dX3_init_98 ⟨x_s31, q0_s31, q1_s31, q2_s31, u_s31, q4_s31, q5_s31, q6_s31, q7_s31, q8_s31, q9_s31, q10_s31, q11_s31, q12_s31, q13_s31, q14_s31, q15_s31, q16_s31, q17_s31, q18_s31, q19_s31, q20_s31, q21_s31, q22_s31, q23_s31, q24_s31, (fun jj h1 => by rw [f_s31 jj (by omega), f_s30 jj (by omega), f_s29 jj (by omega), f_s28 jj (by omega), f_s27 jj (by omega), f_s26 jj (by omega), f_s25 jj (by omega), f_s24 jj (by omega), f_s23 jj (by omega), f_s22 jj (by omega), f_s21 jj (by omega), f_s20 jj (by omega), f_s19 jj (by omega), f_s18 jj (by omega), f_s17 jj (by omega), f_s16 jj (by omega), f_s15 jj (by omega), f_s14 jj (by omega), f_s13 jj (by omega), f_s12 jj (by omega), f_s11 jj (by omega), f_s10 jj (by omega), f_s9 jj (by omega), f_s8 jj (by omega), f_s7 jj (by omega), f_s6 jj (by omega), f_s5 jj (by omega), f_s4 jj (by omega), f_s3 jj (by omega), f_s2 jj (by omega), f_s1 jj (by omega)])⟩
                  · exact absurd bq76 (by decide)
          · exact absurd bq50 (by decide)
set_option maxHeartbeats 4000000 in
set_option maxRecDepth 100000 in
theorem c_X2_init (E : En) (N : Nat) (σ : Nat → va_E) (i₉ : Nat) (hi₉ : i₉ < N) (hi0₉ : σ i₉ = ob 2 [.null, .null, .null, .null, vi 0]) : CK E M_X2_init 5 35 9491 [vr E i₉] N σ (fun σ' => σ' i₉ = ob 2 [vr E N, vr E (N + 1), vr E (N + 2), vr E (N + 6), vi 0] ∧ σ' N = ar E 5 4 (up (up (up (up (fun _ => -1) 0 ((N + 7 : Nat) : Int)) 1 ((N + 11 : Nat) : Int)) 2 ((N + 15 : Nat) : Int)) 3 ((N + 19 : Nat) : Int)) ∧ σ' (N + 1) = ar E 5 3 (up (up (up (fun _ => -1) 0 ((N + 23 : Nat) : Int)) 1 ((N + 27 : Nat) : Int)) 2 ((N + 31 : Nat) : Int)) ∧ σ' (N + 2) = ob 4 [vr E (N + 3), vr E (N + 4), vr E (N + 5), vi 0] ∧ σ' (N + 3) = ai E 157 (fun _ => 0) ∧ σ' (N + 4) = ai E 512 (fun _ => -1) ∧ σ' (N + 5) = ai E 512 (fun _ => 0) ∧ σ' (N + 6) = ob 1 [vi 0, vi 2, vi 0, vi 10] ∧ σ' (N + 7) = ob 4 [vr E (N + 8), vr E (N + 9), vr E (N + 10), vi 0] ∧ σ' (N + 8) = ai E 157 (fun _ => 0) ∧ σ' (N + 9) = ai E 512 (fun _ => -1) ∧ σ' (N + 10) = ai E 512 (fun _ => 0) ∧ σ' (N + 11) = ob 4 [vr E (N + 12), vr E (N + 13), vr E (N + 14), vi 0] ∧ σ' (N + 12) = ai E 157 (fun _ => 0) ∧ σ' (N + 13) = ai E 512 (fun _ => -1) ∧ σ' (N + 14) = ai E 512 (fun _ => 0) ∧ σ' (N + 15) = ob 4 [vr E (N + 16), vr E (N + 17), vr E (N + 18), vi 0] ∧ σ' (N + 16) = ai E 157 (fun _ => 0) ∧ σ' (N + 17) = ai E 512 (fun _ => -1) ∧ σ' (N + 18) = ai E 512 (fun _ => 0) ∧ σ' (N + 19) = ob 4 [vr E (N + 20), vr E (N + 21), vr E (N + 22), vi 0] ∧ σ' (N + 20) = ai E 157 (fun _ => 0) ∧ σ' (N + 21) = ai E 512 (fun _ => -1) ∧ σ' (N + 22) = ai E 512 (fun _ => 0) ∧ σ' (N + 23) = ob 4 [vr E (N + 24), vr E (N + 25), vr E (N + 26), vi 0] ∧ σ' (N + 24) = ai E 157 (fun _ => 0) ∧ σ' (N + 25) = ai E 512 (fun _ => -1) ∧ σ' (N + 26) = ai E 512 (fun _ => 0) ∧ σ' (N + 27) = ob 4 [vr E (N + 28), vr E (N + 29), vr E (N + 30), vi 0] ∧ σ' (N + 28) = ai E 157 (fun _ => 0) ∧ σ' (N + 29) = ai E 512 (fun _ => -1) ∧ σ' (N + 30) = ai E 512 (fun _ => 0) ∧ σ' (N + 31) = ob 4 [vr E (N + 32), vr E (N + 33), vr E (N + 34), vi 0] ∧ σ' (N + 32) = ai E 157 (fun _ => 0) ∧ σ' (N + 33) = ai E 512 (fun _ => -1) ∧ σ' (N + 34) = ai E 512 (fun _ => 0) ∧ ∀ q₉, (q₉ < N ∧ q₉ ≠ i₉) → σ' q₉ = σ q₉) := by
  refine CT.of2 (own := RX2) (by decide) rfl (Nat.le_of_ble_eq_true rfl) ?_
  intro p e R s m args below meth c Q hF hr hlk hnm hz hR hQ
  have hz0 := hz (by decide)
  refine go_aload_n (pc := 0) hF dX2_init_0 0 rfl ?_
  refine go_objInit (pc := 1) hF ol_X2_3 oi_1 oi_2 dX2_init_1 (Nat.le_of_ble_eq_true rfl) (by decide) ?_
  refine go_aload_n (pc := 4) hF dX2_init_4 0 rfl ?_
  refine go_iconst (pc := 5) hF dX2_init_5 ?_
  refine go_newq (pc := 6) (k := (0, 0)) hF (1, 4) (N + 1) 5 4 cl_X2_9 (fun h => h.2.2.2.2) rfl (by decide) (by decide) (Nat.le_of_ble_eq_true rfl) dX2_init_6 (show s.heap.size + 0 = ez E + (N) by omega) (Or.inl (by omega)) (by rw [hR]; exact Nat.le_of_ble_eq_true rfl) (by rw [hR]; exact Nat.le_of_ble_eq_true rfl) rfl rfl (fun s1₉ u_s1 f_s1 => ?_)
  have x_s1 : s1₉ i₉ = ob 2 [.null, .null, .null, .null, vi 0] := (f_s1 i₉ (by omega)).trans hi0₉
  refine go_putF (pc := 9) hF [vr E N, .null, .null, .null, vi 0] fl_X2_11 (fun C₉ T n₉ h => by have e9₉ : some (C₉, T, n₉) = some (RX2, TX2, 5) := h.symm; cases e9₉; rfl) hnm dX2_init_9 (by omega) x_s1 rfl rfl rfl (Nat.le_of_ble_eq_true rfl) (fun s2₉ u_s2 f_s2 => ?_)
  have q0_s2 : s2₉ N = ar E 5 4 (fun _ => -1) := (f_s2 N (by omega)).trans u_s1
  refine go_aload_n (pc := 12) hF dX2_init_12 0 rfl ?_
  refine go_iconst (pc := 13) hF dX2_init_13 ?_
  refine go_newq (pc := 14) (k := (1, 4)) hF (2, 7) (N + 2) 5 3 cl_X2_9 (fun h => h.2.2.2.2) rfl (by decide) (by decide) (Nat.le_of_ble_eq_true rfl) dX2_init_14 (show s.heap.size + 1 = ez E + (N + 1) by omega) (Or.inl (by omega)) (by rw [hR]; exact Nat.le_of_ble_eq_true rfl) (by rw [hR]; exact Nat.le_of_ble_eq_true rfl) rfl rfl (fun s3₉ u_s3 f_s3 => ?_)
  have x_s3 : s3₉ i₉ = ob 2 [vr E N, .null, .null, .null, vi 0] := (f_s3 i₉ (by omega)).trans u_s2
  have q0_s3 : s3₉ N = ar E 5 4 (fun _ => -1) := (f_s3 N (by omega)).trans q0_s2
  refine go_putF (pc := 17) hF [vr E N, vr E (N + 1), .null, .null, vi 0] fl_X2_17 (fun C₉ T n₉ h => by have e9₉ : some (C₉, T, n₉) = some (RX2, TX2, 5) := h.symm; cases e9₉; rfl) hnm dX2_init_17 (by omega) x_s3 rfl rfl rfl (Nat.le_of_ble_eq_true rfl) (fun s4₉ u_s4 f_s4 => ?_)
  have q0_s4 : s4₉ N = ar E 5 4 (fun _ => -1) := (f_s4 N (by omega)).trans q0_s3
  have q1_s4 : s4₉ (N + 1) = ar E 5 3 (fun _ => -1) := (f_s4 (N + 1) (by omega)).trans u_s3
  refine go_aload_n (pc := 20) hF dX2_init_20 0 rfl ?_
  refine go_new (pc := 21) (k := (2, 7)) hF (3, 11) (N + 3) nw_X2_9 dX2_init_21 (show s.heap.size + 2 = ez E + (N + 2) by omega) (Or.inl (by omega)) (by rw [hR]; exact Nat.le_of_ble_eq_true rfl) (by rw [hR]; exact Nat.le_of_ble_eq_true rfl) rfl rfl (fun s5 u_s5 f_s5 => ?_)
  have x_s5 : s5 i₉ = ob 2 [vr E N, vr E (N + 1), .null, .null, vi 0] := (f_s5 i₉ (by omega)).trans u_s4
  have q0_s5 : s5 N = ar E 5 4 (fun _ => -1) := (f_s5 N (by omega)).trans q0_s4
  have q1_s5 : s5 (N + 1) = ar E 5 3 (fun _ => -1) := (f_s5 (N + 1) (by omega)).trans q1_s4
  refine go_dup (pc := 24) hF dX2_init_24 rfl ?_
  refine go_callI (pc := 25) (k := (3, 11)) hF (6, 1192) (N + 6) mi_X2_20 dX2_init_25 (c_X4_init E (N + 3) s5 (N + 2) (by omega) u_s5) (Nat.le_of_ble_eq_true rfl) (by decide) (by rw [hR]; exact Nat.le_of_ble_eq_true rfl) (by rw [hR]; exact Nat.le_of_ble_eq_true rfl) (fun _ => (show s.heap.size + 3 = ez E + (N + 3) by omega)) (fun _ => (Or.inl (by omega))) rfl rfl (fun s6₉ h_s6 => ?_)
  obtain ⟨u0_s6, u1_s6, u2_s6, u3_s6, f_s6⟩ := h_s6
  have u0_s6' : s6₉ (N + 2) = ob 4 [vr E (N + 3), vr E (N + 4), vr E (N + 5), vi 0] := u0_s6
  have u1_s6' : s6₉ (N + 3) = ai E 157 (fun _ => 0) := u1_s6
  have u2_s6' : s6₉ (N + 4) = ai E 512 (fun _ => -1) := u2_s6
  have u3_s6' : s6₉ (N + 5) = ai E 512 (fun _ => 0) := u3_s6
  have x_s6 : s6₉ i₉ = ob 2 [vr E N, vr E (N + 1), .null, .null, vi 0] := (f_s6 i₉ (by omega)).trans x_s5
  have q0_s6 : s6₉ N = ar E 5 4 (fun _ => -1) := (f_s6 N (by omega)).trans q0_s5
  have q1_s6 : s6₉ (N + 1) = ar E 5 3 (fun _ => -1) := (f_s6 (N + 1) (by omega)).trans q1_s5
  refine go_put (pc := 28) hF [vr E N, vr E (N + 1), vr E (N + 2), .null, vi 0] fl_X2_21 dX2_init_28 (by omega) x_s6 rfl rfl rfl (Nat.le_of_ble_eq_true rfl) (fun s7 u_s7 f_s7 => ?_)
  have q0_s7 : s7 N = ar E 5 4 (fun _ => -1) := (f_s7 N (by omega)).trans q0_s6
  have q1_s7 : s7 (N + 1) = ar E 5 3 (fun _ => -1) := (f_s7 (N + 1) (by omega)).trans q1_s6
  have q2_s7 : s7 (N + 2) = ob 4 [vr E (N + 3), vr E (N + 4), vr E (N + 5), vi 0] := (f_s7 (N + 2) (by omega)).trans u0_s6'
  have q3_s7 : s7 (N + 3) = ai E 157 (fun _ => 0) := (f_s7 (N + 3) (by omega)).trans u1_s6'
  have q4_s7 : s7 (N + 4) = ai E 512 (fun _ => -1) := (f_s7 (N + 4) (by omega)).trans u2_s6'
  have q5_s7 : s7 (N + 5) = ai E 512 (fun _ => 0) := (f_s7 (N + 5) (by omega)).trans u3_s6'
  refine go_aload_n (pc := 31) hF dX2_init_31 0 rfl ?_
  refine go_new (pc := 32) (k := (6, 1192)) hF (7, 1196) (N + 7) nw_X2_25 dX2_init_32 (show s.heap.size + 6 = ez E + (N + 6) by omega) (Or.inl (by omega)) (by rw [hR]; exact Nat.le_of_ble_eq_true rfl) (by rw [hR]; exact Nat.le_of_ble_eq_true rfl) rfl rfl (fun s8 u_s8 f_s8 => ?_)
  have x_s8 : s8 i₉ = ob 2 [vr E N, vr E (N + 1), vr E (N + 2), .null, vi 0] := (f_s8 i₉ (by omega)).trans u_s7
  have q0_s8 : s8 N = ar E 5 4 (fun _ => -1) := (f_s8 N (by omega)).trans q0_s7
  have q1_s8 : s8 (N + 1) = ar E 5 3 (fun _ => -1) := (f_s8 (N + 1) (by omega)).trans q1_s7
  have q2_s8 : s8 (N + 2) = ob 4 [vr E (N + 3), vr E (N + 4), vr E (N + 5), vi 0] := (f_s8 (N + 2) (by omega)).trans q2_s7
  have q3_s8 : s8 (N + 3) = ai E 157 (fun _ => 0) := (f_s8 (N + 3) (by omega)).trans q3_s7
  have q4_s8 : s8 (N + 4) = ai E 512 (fun _ => -1) := (f_s8 (N + 4) (by omega)).trans q4_s7
  have q5_s8 : s8 (N + 5) = ai E 512 (fun _ => 0) := (f_s8 (N + 5) (by omega)).trans q5_s7
  refine go_dup (pc := 35) hF dX2_init_35 rfl ?_
  refine go_callIN (pc := 36) (k := (7, 1196)) hF (7, 1196) (N + 7) mi_X2_27 dX2_init_36 (c_X1_init E (N + 7) s8 (N + 6) (by omega) u_s8) (Nat.le_of_ble_eq_true rfl) (by decide) (by rw [hR]; exact Nat.le_of_ble_eq_true rfl) (by rw [hR]; exact Nat.le_of_ble_eq_true rfl) (fun _ => (show s.heap.size + 7 = ez E + (N + 7) by omega)) (fun _ => (Or.inl (by omega))) rfl rfl (fun s9 h_s9 => ?_)
  obtain ⟨u0_s9, f_s9⟩ := h_s9
  have u0_s9' : s9 (N + 6) = ob 1 [vi 0, vi 2, vi 0, vi 10] := u0_s9
  have x_s9 : s9 i₉ = ob 2 [vr E N, vr E (N + 1), vr E (N + 2), .null, vi 0] := (f_s9 i₉ (by omega)).trans x_s8
  have q0_s9 : s9 N = ar E 5 4 (fun _ => -1) := (f_s9 N (by omega)).trans q0_s8
  have q1_s9 : s9 (N + 1) = ar E 5 3 (fun _ => -1) := (f_s9 (N + 1) (by omega)).trans q1_s8
  have q2_s9 : s9 (N + 2) = ob 4 [vr E (N + 3), vr E (N + 4), vr E (N + 5), vi 0] := (f_s9 (N + 2) (by omega)).trans q2_s8
  have q3_s9 : s9 (N + 3) = ai E 157 (fun _ => 0) := (f_s9 (N + 3) (by omega)).trans q3_s8
  have q4_s9 : s9 (N + 4) = ai E 512 (fun _ => -1) := (f_s9 (N + 4) (by omega)).trans q4_s8
  have q5_s9 : s9 (N + 5) = ai E 512 (fun _ => 0) := (f_s9 (N + 5) (by omega)).trans q5_s8
  refine go_putF (pc := 39) hF [vr E N, vr E (N + 1), vr E (N + 2), vr E (N + 6), vi 0] fl_X2_28 (fun C₉ T n₉ h => by have e9₉ : some (C₉, T, n₉) = some (RX2, TX2, 5) := h.symm; cases e9₉; rfl) hnm dX2_init_39 (by omega) x_s9 rfl rfl rfl (Nat.le_of_ble_eq_true rfl) (fun s10 u_s10 f_s10 => ?_)
  have q0_s10 : s10 N = ar E 5 4 (fun _ => -1) := (f_s10 N (by omega)).trans q0_s9
  have q1_s10 : s10 (N + 1) = ar E 5 3 (fun _ => -1) := (f_s10 (N + 1) (by omega)).trans q1_s9
  have q2_s10 : s10 (N + 2) = ob 4 [vr E (N + 3), vr E (N + 4), vr E (N + 5), vi 0] := (f_s10 (N + 2) (by omega)).trans q2_s9
  have q3_s10 : s10 (N + 3) = ai E 157 (fun _ => 0) := (f_s10 (N + 3) (by omega)).trans q3_s9
  have q4_s10 : s10 (N + 4) = ai E 512 (fun _ => -1) := (f_s10 (N + 4) (by omega)).trans q4_s9
  have q5_s10 : s10 (N + 5) = ai E 512 (fun _ => 0) := (f_s10 (N + 5) (by omega)).trans q5_s9
  have q6_s10 : s10 (N + 6) = ob 1 [vi 0, vi 2, vi 0, vi 10] := (f_s10 (N + 6) (by omega)).trans u0_s9'
  refine go_aload_n (pc := 42) hF dX2_init_42 0 rfl ?_
  refine go_iconst (pc := 43) hF dX2_init_43 ?_
  refine go_put (pc := 44) hF [vr E N, vr E (N + 1), vr E (N + 2), vr E (N + 6), vi 0] fl_X2_32 dX2_init_44 (by omega) u_s10 rfl (by decide) rfl (Nat.le_of_ble_eq_true rfl) (fun s11 u_s11 f_s11 => ?_)
  have q0_s11 : s11 N = ar E 5 4 (fun _ => -1) := (f_s11 N (by omega)).trans q0_s10
  have q1_s11 : s11 (N + 1) = ar E 5 3 (fun _ => -1) := (f_s11 (N + 1) (by omega)).trans q1_s10
  have q2_s11 : s11 (N + 2) = ob 4 [vr E (N + 3), vr E (N + 4), vr E (N + 5), vi 0] := (f_s11 (N + 2) (by omega)).trans q2_s10
  have q3_s11 : s11 (N + 3) = ai E 157 (fun _ => 0) := (f_s11 (N + 3) (by omega)).trans q3_s10
  have q4_s11 : s11 (N + 4) = ai E 512 (fun _ => -1) := (f_s11 (N + 4) (by omega)).trans q4_s10
  have q5_s11 : s11 (N + 5) = ai E 512 (fun _ => 0) := (f_s11 (N + 5) (by omega)).trans q5_s10
  have q6_s11 : s11 (N + 6) = ob 1 [vi 0, vi 2, vi 0, vi 10] := (f_s11 (N + 6) (by omega)).trans q6_s10
  refine go_iconst (pc := 47) hF dX2_init_47 ?_
  refine go_istore_n (pc := 48) hF [(1, vi 0), (0, vr E i₉)] dX2_init_48 rfl (by decide) ?_
  refine go_iload_n (pc := 49) hF dX2_init_49 0 rfl ?_
  refine go_iconst (pc := 50) hF dX2_init_50 ?_
  refine go_icmp_gt (pc := 51) hF 73 dX2_init_51 (by decide) ⟨by decide, by decide⟩ ⟨by decide, by decide⟩ (fun bq51 => ?_) (fun bq51 => ?_)
  · exact absurd bq51 (by decide)
  · refine go_aload_n (pc := 54) hF dX2_init_54 1 rfl ?_
    refine go_get (pc := 55) hF fl_X2_11 dX2_init_55 (by omega) u_s11 rfl ?_
    refine go_iload_n (pc := 58) hF dX2_init_58 0 rfl ?_
    refine go_new (pc := 59) (k := (7, 1196)) hF (8, 1200) (N + 8) nw_X2_9 dX2_init_59 (show s.heap.size + 7 = ez E + (N + 7) by omega) (Or.inl (by omega)) (by rw [hR]; exact Nat.le_of_ble_eq_true rfl) (by rw [hR]; exact Nat.le_of_ble_eq_true rfl) rfl rfl (fun s12 u_s12 f_s12 => ?_)
    have x_s12 : s12 i₉ = ob 2 [vr E N, vr E (N + 1), vr E (N + 2), vr E (N + 6), vi 0] := (f_s12 i₉ (by omega)).trans u_s11
    have q0_s12 : s12 N = ar E 5 4 (fun _ => -1) := (f_s12 N (by omega)).trans q0_s11
    have q1_s12 : s12 (N + 1) = ar E 5 3 (fun _ => -1) := (f_s12 (N + 1) (by omega)).trans q1_s11
    have q2_s12 : s12 (N + 2) = ob 4 [vr E (N + 3), vr E (N + 4), vr E (N + 5), vi 0] := (f_s12 (N + 2) (by omega)).trans q2_s11
    have q3_s12 : s12 (N + 3) = ai E 157 (fun _ => 0) := (f_s12 (N + 3) (by omega)).trans q3_s11
    have q4_s12 : s12 (N + 4) = ai E 512 (fun _ => -1) := (f_s12 (N + 4) (by omega)).trans q4_s11
    have q5_s12 : s12 (N + 5) = ai E 512 (fun _ => 0) := (f_s12 (N + 5) (by omega)).trans q5_s11
    have q6_s12 : s12 (N + 6) = ob 1 [vi 0, vi 2, vi 0, vi 10] := (f_s12 (N + 6) (by omega)).trans q6_s11
    refine go_dup (pc := 62) hF dX2_init_62 rfl ?_
    refine go_callI (pc := 63) (k := (8, 1200)) hF (11, 2381) (N + 11) mi_X2_20 dX2_init_63 (c_X4_init E (N + 8) s12 (N + 7) (by omega) u_s12) (Nat.le_of_ble_eq_true rfl) (by decide) (by rw [hR]; exact Nat.le_of_ble_eq_true rfl) (by rw [hR]; exact Nat.le_of_ble_eq_true rfl) (fun _ => (show s.heap.size + 8 = ez E + (N + 8) by omega)) (fun _ => (Or.inl (by omega))) rfl rfl (fun s13 h_s13 => ?_)
    obtain ⟨u0_s13, u1_s13, u2_s13, u3_s13, f_s13⟩ := h_s13
    have u0_s13' : s13 (N + 7) = ob 4 [vr E (N + 8), vr E (N + 9), vr E (N + 10), vi 0] := u0_s13
    have u1_s13' : s13 (N + 8) = ai E 157 (fun _ => 0) := u1_s13
    have u2_s13' : s13 (N + 9) = ai E 512 (fun _ => -1) := u2_s13
    have u3_s13' : s13 (N + 10) = ai E 512 (fun _ => 0) := u3_s13
    have x_s13 : s13 i₉ = ob 2 [vr E N, vr E (N + 1), vr E (N + 2), vr E (N + 6), vi 0] := (f_s13 i₉ (by omega)).trans x_s12
    have q0_s13 : s13 N = ar E 5 4 (fun _ => -1) := (f_s13 N (by omega)).trans q0_s12
    have q1_s13 : s13 (N + 1) = ar E 5 3 (fun _ => -1) := (f_s13 (N + 1) (by omega)).trans q1_s12
    have q2_s13 : s13 (N + 2) = ob 4 [vr E (N + 3), vr E (N + 4), vr E (N + 5), vi 0] := (f_s13 (N + 2) (by omega)).trans q2_s12
    have q3_s13 : s13 (N + 3) = ai E 157 (fun _ => 0) := (f_s13 (N + 3) (by omega)).trans q3_s12
    have q4_s13 : s13 (N + 4) = ai E 512 (fun _ => -1) := (f_s13 (N + 4) (by omega)).trans q4_s12
    have q5_s13 : s13 (N + 5) = ai E 512 (fun _ => 0) := (f_s13 (N + 5) (by omega)).trans q5_s12
    have q6_s13 : s13 (N + 6) = ob 1 [vi 0, vi 2, vi 0, vi 10] := (f_s13 (N + 6) (by omega)).trans q6_s12
    refine go_aast (pc := 66) hF 5 4 dX2_init_66 rfl rfl (by omega) q0_s13 (by omega) u0_s13' ⟨by decide, by decide⟩ (fun s14 u_s14 f_s14 => ?_)
    have x_s14 : s14 i₉ = ob 2 [vr E N, vr E (N + 1), vr E (N + 2), vr E (N + 6), vi 0] := (f_s14 i₉ (by omega)).trans x_s13
    have q1_s14 : s14 (N + 1) = ar E 5 3 (fun _ => -1) := (f_s14 (N + 1) (by omega)).trans q1_s13
    have q2_s14 : s14 (N + 2) = ob 4 [vr E (N + 3), vr E (N + 4), vr E (N + 5), vi 0] := (f_s14 (N + 2) (by omega)).trans q2_s13
    have q3_s14 : s14 (N + 3) = ai E 157 (fun _ => 0) := (f_s14 (N + 3) (by omega)).trans q3_s13
    have q4_s14 : s14 (N + 4) = ai E 512 (fun _ => -1) := (f_s14 (N + 4) (by omega)).trans q4_s13
    have q5_s14 : s14 (N + 5) = ai E 512 (fun _ => 0) := (f_s14 (N + 5) (by omega)).trans q5_s13
    have q6_s14 : s14 (N + 6) = ob 1 [vi 0, vi 2, vi 0, vi 10] := (f_s14 (N + 6) (by omega)).trans q6_s13
    have q7_s14 : s14 (N + 7) = ob 4 [vr E (N + 8), vr E (N + 9), vr E (N + 10), vi 0] := (f_s14 (N + 7) (by omega)).trans u0_s13'
    have q8_s14 : s14 (N + 8) = ai E 157 (fun _ => 0) := (f_s14 (N + 8) (by omega)).trans u1_s13'
    have q9_s14 : s14 (N + 9) = ai E 512 (fun _ => -1) := (f_s14 (N + 9) (by omega)).trans u2_s13'
    have q10_s14 : s14 (N + 10) = ai E 512 (fun _ => 0) := (f_s14 (N + 10) (by omega)).trans u3_s13'
    refine go_iinc (pc := 67) hF [(1, vi 1), (0, vr E i₉)] dX2_init_67 0 rfl rfl (by decide) ?_
    refine go_goto (pc := 70) hF 49 dX2_init_70 (by decide) ?_
    refine go_iload_n (pc := 49) hF dX2_init_49 0 rfl ?_
    refine go_iconst (pc := 50) hF dX2_init_50 ?_
    refine go_icmp_gt (pc := 51) hF 73 dX2_init_51 (by decide) ⟨by decide, by decide⟩ ⟨by decide, by decide⟩ (fun bq51 => ?_) (fun bq51 => ?_)
    · exact absurd bq51 (by decide)
    · refine go_aload_n (pc := 54) hF dX2_init_54 1 rfl ?_
      refine go_get (pc := 55) hF fl_X2_11 dX2_init_55 (by omega) x_s14 rfl ?_
      refine go_iload_n (pc := 58) hF dX2_init_58 0 rfl ?_
      refine go_new (pc := 59) (k := (11, 2381)) hF (12, 2385) (N + 12) nw_X2_9 dX2_init_59 (show s.heap.size + 11 = ez E + (N + 11) by omega) (Or.inl (by omega)) (by rw [hR]; exact Nat.le_of_ble_eq_true rfl) (by rw [hR]; exact Nat.le_of_ble_eq_true rfl) rfl rfl (fun s15 u_s15 f_s15 => ?_)
      have x_s15 : s15 i₉ = ob 2 [vr E N, vr E (N + 1), vr E (N + 2), vr E (N + 6), vi 0] := (f_s15 i₉ (by omega)).trans x_s14
      have q0_s15 : s15 N = ar E 5 4 (up (fun _ => -1) 0 ((N + 7 : Nat) : Int)) := (f_s15 N (by omega)).trans u_s14
      have q1_s15 : s15 (N + 1) = ar E 5 3 (fun _ => -1) := (f_s15 (N + 1) (by omega)).trans q1_s14
      have q2_s15 : s15 (N + 2) = ob 4 [vr E (N + 3), vr E (N + 4), vr E (N + 5), vi 0] := (f_s15 (N + 2) (by omega)).trans q2_s14
      have q3_s15 : s15 (N + 3) = ai E 157 (fun _ => 0) := (f_s15 (N + 3) (by omega)).trans q3_s14
      have q4_s15 : s15 (N + 4) = ai E 512 (fun _ => -1) := (f_s15 (N + 4) (by omega)).trans q4_s14
      have q5_s15 : s15 (N + 5) = ai E 512 (fun _ => 0) := (f_s15 (N + 5) (by omega)).trans q5_s14
      have q6_s15 : s15 (N + 6) = ob 1 [vi 0, vi 2, vi 0, vi 10] := (f_s15 (N + 6) (by omega)).trans q6_s14
      have q7_s15 : s15 (N + 7) = ob 4 [vr E (N + 8), vr E (N + 9), vr E (N + 10), vi 0] := (f_s15 (N + 7) (by omega)).trans q7_s14
      have q8_s15 : s15 (N + 8) = ai E 157 (fun _ => 0) := (f_s15 (N + 8) (by omega)).trans q8_s14
      have q9_s15 : s15 (N + 9) = ai E 512 (fun _ => -1) := (f_s15 (N + 9) (by omega)).trans q9_s14
      have q10_s15 : s15 (N + 10) = ai E 512 (fun _ => 0) := (f_s15 (N + 10) (by omega)).trans q10_s14
      refine go_dup (pc := 62) hF dX2_init_62 rfl ?_
      refine go_callI (pc := 63) (k := (12, 2385)) hF (15, 3566) (N + 15) mi_X2_20 dX2_init_63 (c_X4_init E (N + 12) s15 (N + 11) (by omega) u_s15) (Nat.le_of_ble_eq_true rfl) (by decide) (by rw [hR]; exact Nat.le_of_ble_eq_true rfl) (by rw [hR]; exact Nat.le_of_ble_eq_true rfl) (fun _ => (show s.heap.size + 12 = ez E + (N + 12) by omega)) (fun _ => (Or.inl (by omega))) rfl rfl (fun s16 h_s16 => ?_)
      obtain ⟨u0_s16, u1_s16, u2_s16, u3_s16, f_s16⟩ := h_s16
      have u0_s16' : s16 (N + 11) = ob 4 [vr E (N + 12), vr E (N + 13), vr E (N + 14), vi 0] := u0_s16
      have u1_s16' : s16 (N + 12) = ai E 157 (fun _ => 0) := u1_s16
      have u2_s16' : s16 (N + 13) = ai E 512 (fun _ => -1) := u2_s16
      have u3_s16' : s16 (N + 14) = ai E 512 (fun _ => 0) := u3_s16
      have x_s16 : s16 i₉ = ob 2 [vr E N, vr E (N + 1), vr E (N + 2), vr E (N + 6), vi 0] := (f_s16 i₉ (by omega)).trans x_s15
      have q0_s16 : s16 N = ar E 5 4 (up (fun _ => -1) 0 ((N + 7 : Nat) : Int)) := (f_s16 N (by omega)).trans q0_s15
      have q1_s16 : s16 (N + 1) = ar E 5 3 (fun _ => -1) := (f_s16 (N + 1) (by omega)).trans q1_s15
      have q2_s16 : s16 (N + 2) = ob 4 [vr E (N + 3), vr E (N + 4), vr E (N + 5), vi 0] := (f_s16 (N + 2) (by omega)).trans q2_s15
      have q3_s16 : s16 (N + 3) = ai E 157 (fun _ => 0) := (f_s16 (N + 3) (by omega)).trans q3_s15
      have q4_s16 : s16 (N + 4) = ai E 512 (fun _ => -1) := (f_s16 (N + 4) (by omega)).trans q4_s15
      have q5_s16 : s16 (N + 5) = ai E 512 (fun _ => 0) := (f_s16 (N + 5) (by omega)).trans q5_s15
      have q6_s16 : s16 (N + 6) = ob 1 [vi 0, vi 2, vi 0, vi 10] := (f_s16 (N + 6) (by omega)).trans q6_s15
      have q7_s16 : s16 (N + 7) = ob 4 [vr E (N + 8), vr E (N + 9), vr E (N + 10), vi 0] := (f_s16 (N + 7) (by omega)).trans q7_s15
      have q8_s16 : s16 (N + 8) = ai E 157 (fun _ => 0) := (f_s16 (N + 8) (by omega)).trans q8_s15
      have q9_s16 : s16 (N + 9) = ai E 512 (fun _ => -1) := (f_s16 (N + 9) (by omega)).trans q9_s15
      have q10_s16 : s16 (N + 10) = ai E 512 (fun _ => 0) := (f_s16 (N + 10) (by omega)).trans q10_s15
      refine go_aast (pc := 66) hF 5 4 dX2_init_66 rfl rfl (by omega) q0_s16 (by omega) u0_s16' ⟨by decide, by decide⟩ (fun s17 u_s17 f_s17 => ?_)
      have x_s17 : s17 i₉ = ob 2 [vr E N, vr E (N + 1), vr E (N + 2), vr E (N + 6), vi 0] := (f_s17 i₉ (by omega)).trans x_s16
      have q1_s17 : s17 (N + 1) = ar E 5 3 (fun _ => -1) := (f_s17 (N + 1) (by omega)).trans q1_s16
      have q2_s17 : s17 (N + 2) = ob 4 [vr E (N + 3), vr E (N + 4), vr E (N + 5), vi 0] := (f_s17 (N + 2) (by omega)).trans q2_s16
      have q3_s17 : s17 (N + 3) = ai E 157 (fun _ => 0) := (f_s17 (N + 3) (by omega)).trans q3_s16
      have q4_s17 : s17 (N + 4) = ai E 512 (fun _ => -1) := (f_s17 (N + 4) (by omega)).trans q4_s16
      have q5_s17 : s17 (N + 5) = ai E 512 (fun _ => 0) := (f_s17 (N + 5) (by omega)).trans q5_s16
      have q6_s17 : s17 (N + 6) = ob 1 [vi 0, vi 2, vi 0, vi 10] := (f_s17 (N + 6) (by omega)).trans q6_s16
      have q7_s17 : s17 (N + 7) = ob 4 [vr E (N + 8), vr E (N + 9), vr E (N + 10), vi 0] := (f_s17 (N + 7) (by omega)).trans q7_s16
      have q8_s17 : s17 (N + 8) = ai E 157 (fun _ => 0) := (f_s17 (N + 8) (by omega)).trans q8_s16
      have q9_s17 : s17 (N + 9) = ai E 512 (fun _ => -1) := (f_s17 (N + 9) (by omega)).trans q9_s16
      have q10_s17 : s17 (N + 10) = ai E 512 (fun _ => 0) := (f_s17 (N + 10) (by omega)).trans q10_s16
      have q11_s17 : s17 (N + 11) = ob 4 [vr E (N + 12), vr E (N + 13), vr E (N + 14), vi 0] := (f_s17 (N + 11) (by omega)).trans u0_s16'
      have q12_s17 : s17 (N + 12) = ai E 157 (fun _ => 0) := (f_s17 (N + 12) (by omega)).trans u1_s16'
      have q13_s17 : s17 (N + 13) = ai E 512 (fun _ => -1) := (f_s17 (N + 13) (by omega)).trans u2_s16'
      have q14_s17 : s17 (N + 14) = ai E 512 (fun _ => 0) := (f_s17 (N + 14) (by omega)).trans u3_s16'
      refine go_iinc (pc := 67) hF [(1, vi 2), (0, vr E i₉)] dX2_init_67 0 rfl rfl (by decide) ?_
      refine go_goto (pc := 70) hF 49 dX2_init_70 (by decide) ?_
      refine go_iload_n (pc := 49) hF dX2_init_49 0 rfl ?_
      refine go_iconst (pc := 50) hF dX2_init_50 ?_
      refine go_icmp_gt (pc := 51) hF 73 dX2_init_51 (by decide) ⟨by decide, by decide⟩ ⟨by decide, by decide⟩ (fun bq51 => ?_) (fun bq51 => ?_)
      · exact absurd bq51 (by decide)
      · refine go_aload_n (pc := 54) hF dX2_init_54 1 rfl ?_
        refine go_get (pc := 55) hF fl_X2_11 dX2_init_55 (by omega) x_s17 rfl ?_
        refine go_iload_n (pc := 58) hF dX2_init_58 0 rfl ?_
        refine go_new (pc := 59) (k := (15, 3566)) hF (16, 3570) (N + 16) nw_X2_9 dX2_init_59 (show s.heap.size + 15 = ez E + (N + 15) by omega) (Or.inl (by omega)) (by rw [hR]; exact Nat.le_of_ble_eq_true rfl) (by rw [hR]; exact Nat.le_of_ble_eq_true rfl) rfl rfl (fun s18 u_s18 f_s18 => ?_)
        have x_s18 : s18 i₉ = ob 2 [vr E N, vr E (N + 1), vr E (N + 2), vr E (N + 6), vi 0] := (f_s18 i₉ (by omega)).trans x_s17
        have q0_s18 : s18 N = ar E 5 4 (up (up (fun _ => -1) 0 ((N + 7 : Nat) : Int)) 1 ((N + 11 : Nat) : Int)) := (f_s18 N (by omega)).trans u_s17
        have q1_s18 : s18 (N + 1) = ar E 5 3 (fun _ => -1) := (f_s18 (N + 1) (by omega)).trans q1_s17
        have q2_s18 : s18 (N + 2) = ob 4 [vr E (N + 3), vr E (N + 4), vr E (N + 5), vi 0] := (f_s18 (N + 2) (by omega)).trans q2_s17
        have q3_s18 : s18 (N + 3) = ai E 157 (fun _ => 0) := (f_s18 (N + 3) (by omega)).trans q3_s17
        have q4_s18 : s18 (N + 4) = ai E 512 (fun _ => -1) := (f_s18 (N + 4) (by omega)).trans q4_s17
        have q5_s18 : s18 (N + 5) = ai E 512 (fun _ => 0) := (f_s18 (N + 5) (by omega)).trans q5_s17
        have q6_s18 : s18 (N + 6) = ob 1 [vi 0, vi 2, vi 0, vi 10] := (f_s18 (N + 6) (by omega)).trans q6_s17
        have q7_s18 : s18 (N + 7) = ob 4 [vr E (N + 8), vr E (N + 9), vr E (N + 10), vi 0] := (f_s18 (N + 7) (by omega)).trans q7_s17
        have q8_s18 : s18 (N + 8) = ai E 157 (fun _ => 0) := (f_s18 (N + 8) (by omega)).trans q8_s17
        have q9_s18 : s18 (N + 9) = ai E 512 (fun _ => -1) := (f_s18 (N + 9) (by omega)).trans q9_s17
        have q10_s18 : s18 (N + 10) = ai E 512 (fun _ => 0) := (f_s18 (N + 10) (by omega)).trans q10_s17
        have q11_s18 : s18 (N + 11) = ob 4 [vr E (N + 12), vr E (N + 13), vr E (N + 14), vi 0] := (f_s18 (N + 11) (by omega)).trans q11_s17
        have q12_s18 : s18 (N + 12) = ai E 157 (fun _ => 0) := (f_s18 (N + 12) (by omega)).trans q12_s17
        have q13_s18 : s18 (N + 13) = ai E 512 (fun _ => -1) := (f_s18 (N + 13) (by omega)).trans q13_s17
        have q14_s18 : s18 (N + 14) = ai E 512 (fun _ => 0) := (f_s18 (N + 14) (by omega)).trans q14_s17
        refine go_dup (pc := 62) hF dX2_init_62 rfl ?_
        refine go_callI (pc := 63) (k := (16, 3570)) hF (19, 4751) (N + 19) mi_X2_20 dX2_init_63 (c_X4_init E (N + 16) s18 (N + 15) (by omega) u_s18) (Nat.le_of_ble_eq_true rfl) (by decide) (by rw [hR]; exact Nat.le_of_ble_eq_true rfl) (by rw [hR]; exact Nat.le_of_ble_eq_true rfl) (fun _ => (show s.heap.size + 16 = ez E + (N + 16) by omega)) (fun _ => (Or.inl (by omega))) rfl rfl (fun s19 h_s19 => ?_)
        obtain ⟨u0_s19, u1_s19, u2_s19, u3_s19, f_s19⟩ := h_s19
        have u0_s19' : s19 (N + 15) = ob 4 [vr E (N + 16), vr E (N + 17), vr E (N + 18), vi 0] := u0_s19
        have u1_s19' : s19 (N + 16) = ai E 157 (fun _ => 0) := u1_s19
        have u2_s19' : s19 (N + 17) = ai E 512 (fun _ => -1) := u2_s19
        have u3_s19' : s19 (N + 18) = ai E 512 (fun _ => 0) := u3_s19
        have x_s19 : s19 i₉ = ob 2 [vr E N, vr E (N + 1), vr E (N + 2), vr E (N + 6), vi 0] := (f_s19 i₉ (by omega)).trans x_s18
        have q0_s19 : s19 N = ar E 5 4 (up (up (fun _ => -1) 0 ((N + 7 : Nat) : Int)) 1 ((N + 11 : Nat) : Int)) := (f_s19 N (by omega)).trans q0_s18
        have q1_s19 : s19 (N + 1) = ar E 5 3 (fun _ => -1) := (f_s19 (N + 1) (by omega)).trans q1_s18
        have q2_s19 : s19 (N + 2) = ob 4 [vr E (N + 3), vr E (N + 4), vr E (N + 5), vi 0] := (f_s19 (N + 2) (by omega)).trans q2_s18
        have q3_s19 : s19 (N + 3) = ai E 157 (fun _ => 0) := (f_s19 (N + 3) (by omega)).trans q3_s18
        have q4_s19 : s19 (N + 4) = ai E 512 (fun _ => -1) := (f_s19 (N + 4) (by omega)).trans q4_s18
        have q5_s19 : s19 (N + 5) = ai E 512 (fun _ => 0) := (f_s19 (N + 5) (by omega)).trans q5_s18
        have q6_s19 : s19 (N + 6) = ob 1 [vi 0, vi 2, vi 0, vi 10] := (f_s19 (N + 6) (by omega)).trans q6_s18
        have q7_s19 : s19 (N + 7) = ob 4 [vr E (N + 8), vr E (N + 9), vr E (N + 10), vi 0] := (f_s19 (N + 7) (by omega)).trans q7_s18
        have q8_s19 : s19 (N + 8) = ai E 157 (fun _ => 0) := (f_s19 (N + 8) (by omega)).trans q8_s18
        have q9_s19 : s19 (N + 9) = ai E 512 (fun _ => -1) := (f_s19 (N + 9) (by omega)).trans q9_s18
        have q10_s19 : s19 (N + 10) = ai E 512 (fun _ => 0) := (f_s19 (N + 10) (by omega)).trans q10_s18
        have q11_s19 : s19 (N + 11) = ob 4 [vr E (N + 12), vr E (N + 13), vr E (N + 14), vi 0] := (f_s19 (N + 11) (by omega)).trans q11_s18
        have q12_s19 : s19 (N + 12) = ai E 157 (fun _ => 0) := (f_s19 (N + 12) (by omega)).trans q12_s18
        have q13_s19 : s19 (N + 13) = ai E 512 (fun _ => -1) := (f_s19 (N + 13) (by omega)).trans q13_s18
        have q14_s19 : s19 (N + 14) = ai E 512 (fun _ => 0) := (f_s19 (N + 14) (by omega)).trans q14_s18
        refine go_aast (pc := 66) hF 5 4 dX2_init_66 rfl rfl (by omega) q0_s19 (by omega) u0_s19' ⟨by decide, by decide⟩ (fun s20 u_s20 f_s20 => ?_)
        have x_s20 : s20 i₉ = ob 2 [vr E N, vr E (N + 1), vr E (N + 2), vr E (N + 6), vi 0] := (f_s20 i₉ (by omega)).trans x_s19
        have q1_s20 : s20 (N + 1) = ar E 5 3 (fun _ => -1) := (f_s20 (N + 1) (by omega)).trans q1_s19
        have q2_s20 : s20 (N + 2) = ob 4 [vr E (N + 3), vr E (N + 4), vr E (N + 5), vi 0] := (f_s20 (N + 2) (by omega)).trans q2_s19
        have q3_s20 : s20 (N + 3) = ai E 157 (fun _ => 0) := (f_s20 (N + 3) (by omega)).trans q3_s19
        have q4_s20 : s20 (N + 4) = ai E 512 (fun _ => -1) := (f_s20 (N + 4) (by omega)).trans q4_s19
        have q5_s20 : s20 (N + 5) = ai E 512 (fun _ => 0) := (f_s20 (N + 5) (by omega)).trans q5_s19
        have q6_s20 : s20 (N + 6) = ob 1 [vi 0, vi 2, vi 0, vi 10] := (f_s20 (N + 6) (by omega)).trans q6_s19
        have q7_s20 : s20 (N + 7) = ob 4 [vr E (N + 8), vr E (N + 9), vr E (N + 10), vi 0] := (f_s20 (N + 7) (by omega)).trans q7_s19
        have q8_s20 : s20 (N + 8) = ai E 157 (fun _ => 0) := (f_s20 (N + 8) (by omega)).trans q8_s19
        have q9_s20 : s20 (N + 9) = ai E 512 (fun _ => -1) := (f_s20 (N + 9) (by omega)).trans q9_s19
        have q10_s20 : s20 (N + 10) = ai E 512 (fun _ => 0) := (f_s20 (N + 10) (by omega)).trans q10_s19
        have q11_s20 : s20 (N + 11) = ob 4 [vr E (N + 12), vr E (N + 13), vr E (N + 14), vi 0] := (f_s20 (N + 11) (by omega)).trans q11_s19
        have q12_s20 : s20 (N + 12) = ai E 157 (fun _ => 0) := (f_s20 (N + 12) (by omega)).trans q12_s19
        have q13_s20 : s20 (N + 13) = ai E 512 (fun _ => -1) := (f_s20 (N + 13) (by omega)).trans q13_s19
        have q14_s20 : s20 (N + 14) = ai E 512 (fun _ => 0) := (f_s20 (N + 14) (by omega)).trans q14_s19
        have q15_s20 : s20 (N + 15) = ob 4 [vr E (N + 16), vr E (N + 17), vr E (N + 18), vi 0] := (f_s20 (N + 15) (by omega)).trans u0_s19'
        have q16_s20 : s20 (N + 16) = ai E 157 (fun _ => 0) := (f_s20 (N + 16) (by omega)).trans u1_s19'
        have q17_s20 : s20 (N + 17) = ai E 512 (fun _ => -1) := (f_s20 (N + 17) (by omega)).trans u2_s19'
        have q18_s20 : s20 (N + 18) = ai E 512 (fun _ => 0) := (f_s20 (N + 18) (by omega)).trans u3_s19'
        refine go_iinc (pc := 67) hF [(1, vi 3), (0, vr E i₉)] dX2_init_67 0 rfl rfl (by decide) ?_
        refine go_goto (pc := 70) hF 49 dX2_init_70 (by decide) ?_
        refine go_iload_n (pc := 49) hF dX2_init_49 0 rfl ?_
        refine go_iconst (pc := 50) hF dX2_init_50 ?_
        refine go_icmp_gt (pc := 51) hF 73 dX2_init_51 (by decide) ⟨by decide, by decide⟩ ⟨by decide, by decide⟩ (fun bq51 => ?_) (fun bq51 => ?_)
        · exact absurd bq51 (by decide)
        · refine go_aload_n (pc := 54) hF dX2_init_54 1 rfl ?_
          refine go_get (pc := 55) hF fl_X2_11 dX2_init_55 (by omega) x_s20 rfl ?_
          refine go_iload_n (pc := 58) hF dX2_init_58 0 rfl ?_
          refine go_new (pc := 59) (k := (19, 4751)) hF (20, 4755) (N + 20) nw_X2_9 dX2_init_59 (show s.heap.size + 19 = ez E + (N + 19) by omega) (Or.inl (by omega)) (by rw [hR]; exact Nat.le_of_ble_eq_true rfl) (by rw [hR]; exact Nat.le_of_ble_eq_true rfl) rfl rfl (fun s21 u_s21 f_s21 => ?_)
          have x_s21 : s21 i₉ = ob 2 [vr E N, vr E (N + 1), vr E (N + 2), vr E (N + 6), vi 0] := (f_s21 i₉ (by omega)).trans x_s20
          have q0_s21 : s21 N = ar E 5 4 (up (up (up (fun _ => -1) 0 ((N + 7 : Nat) : Int)) 1 ((N + 11 : Nat) : Int)) 2 ((N + 15 : Nat) : Int)) := (f_s21 N (by omega)).trans u_s20
          have q1_s21 : s21 (N + 1) = ar E 5 3 (fun _ => -1) := (f_s21 (N + 1) (by omega)).trans q1_s20
          have q2_s21 : s21 (N + 2) = ob 4 [vr E (N + 3), vr E (N + 4), vr E (N + 5), vi 0] := (f_s21 (N + 2) (by omega)).trans q2_s20
          have q3_s21 : s21 (N + 3) = ai E 157 (fun _ => 0) := (f_s21 (N + 3) (by omega)).trans q3_s20
          have q4_s21 : s21 (N + 4) = ai E 512 (fun _ => -1) := (f_s21 (N + 4) (by omega)).trans q4_s20
          have q5_s21 : s21 (N + 5) = ai E 512 (fun _ => 0) := (f_s21 (N + 5) (by omega)).trans q5_s20
          have q6_s21 : s21 (N + 6) = ob 1 [vi 0, vi 2, vi 0, vi 10] := (f_s21 (N + 6) (by omega)).trans q6_s20
          have q7_s21 : s21 (N + 7) = ob 4 [vr E (N + 8), vr E (N + 9), vr E (N + 10), vi 0] := (f_s21 (N + 7) (by omega)).trans q7_s20
          have q8_s21 : s21 (N + 8) = ai E 157 (fun _ => 0) := (f_s21 (N + 8) (by omega)).trans q8_s20
          have q9_s21 : s21 (N + 9) = ai E 512 (fun _ => -1) := (f_s21 (N + 9) (by omega)).trans q9_s20
          have q10_s21 : s21 (N + 10) = ai E 512 (fun _ => 0) := (f_s21 (N + 10) (by omega)).trans q10_s20
          have q11_s21 : s21 (N + 11) = ob 4 [vr E (N + 12), vr E (N + 13), vr E (N + 14), vi 0] := (f_s21 (N + 11) (by omega)).trans q11_s20
          have q12_s21 : s21 (N + 12) = ai E 157 (fun _ => 0) := (f_s21 (N + 12) (by omega)).trans q12_s20
          have q13_s21 : s21 (N + 13) = ai E 512 (fun _ => -1) := (f_s21 (N + 13) (by omega)).trans q13_s20
          have q14_s21 : s21 (N + 14) = ai E 512 (fun _ => 0) := (f_s21 (N + 14) (by omega)).trans q14_s20
          have q15_s21 : s21 (N + 15) = ob 4 [vr E (N + 16), vr E (N + 17), vr E (N + 18), vi 0] := (f_s21 (N + 15) (by omega)).trans q15_s20
          have q16_s21 : s21 (N + 16) = ai E 157 (fun _ => 0) := (f_s21 (N + 16) (by omega)).trans q16_s20
          have q17_s21 : s21 (N + 17) = ai E 512 (fun _ => -1) := (f_s21 (N + 17) (by omega)).trans q17_s20
          have q18_s21 : s21 (N + 18) = ai E 512 (fun _ => 0) := (f_s21 (N + 18) (by omega)).trans q18_s20
          refine go_dup (pc := 62) hF dX2_init_62 rfl ?_
          refine go_callI (pc := 63) (k := (20, 4755)) hF (23, 5936) (N + 23) mi_X2_20 dX2_init_63 (c_X4_init E (N + 20) s21 (N + 19) (by omega) u_s21) (Nat.le_of_ble_eq_true rfl) (by decide) (by rw [hR]; exact Nat.le_of_ble_eq_true rfl) (by rw [hR]; exact Nat.le_of_ble_eq_true rfl) (fun _ => (show s.heap.size + 20 = ez E + (N + 20) by omega)) (fun _ => (Or.inl (by omega))) rfl rfl (fun s22 h_s22 => ?_)
          obtain ⟨u0_s22, u1_s22, u2_s22, u3_s22, f_s22⟩ := h_s22
          have u0_s22' : s22 (N + 19) = ob 4 [vr E (N + 20), vr E (N + 21), vr E (N + 22), vi 0] := u0_s22
          have u1_s22' : s22 (N + 20) = ai E 157 (fun _ => 0) := u1_s22
          have u2_s22' : s22 (N + 21) = ai E 512 (fun _ => -1) := u2_s22
          have u3_s22' : s22 (N + 22) = ai E 512 (fun _ => 0) := u3_s22
          have x_s22 : s22 i₉ = ob 2 [vr E N, vr E (N + 1), vr E (N + 2), vr E (N + 6), vi 0] := (f_s22 i₉ (by omega)).trans x_s21
          have q0_s22 : s22 N = ar E 5 4 (up (up (up (fun _ => -1) 0 ((N + 7 : Nat) : Int)) 1 ((N + 11 : Nat) : Int)) 2 ((N + 15 : Nat) : Int)) := (f_s22 N (by omega)).trans q0_s21
          have q1_s22 : s22 (N + 1) = ar E 5 3 (fun _ => -1) := (f_s22 (N + 1) (by omega)).trans q1_s21
          have q2_s22 : s22 (N + 2) = ob 4 [vr E (N + 3), vr E (N + 4), vr E (N + 5), vi 0] := (f_s22 (N + 2) (by omega)).trans q2_s21
          have q3_s22 : s22 (N + 3) = ai E 157 (fun _ => 0) := (f_s22 (N + 3) (by omega)).trans q3_s21
          have q4_s22 : s22 (N + 4) = ai E 512 (fun _ => -1) := (f_s22 (N + 4) (by omega)).trans q4_s21
          have q5_s22 : s22 (N + 5) = ai E 512 (fun _ => 0) := (f_s22 (N + 5) (by omega)).trans q5_s21
          have q6_s22 : s22 (N + 6) = ob 1 [vi 0, vi 2, vi 0, vi 10] := (f_s22 (N + 6) (by omega)).trans q6_s21
          have q7_s22 : s22 (N + 7) = ob 4 [vr E (N + 8), vr E (N + 9), vr E (N + 10), vi 0] := (f_s22 (N + 7) (by omega)).trans q7_s21
          have q8_s22 : s22 (N + 8) = ai E 157 (fun _ => 0) := (f_s22 (N + 8) (by omega)).trans q8_s21
          have q9_s22 : s22 (N + 9) = ai E 512 (fun _ => -1) := (f_s22 (N + 9) (by omega)).trans q9_s21
          have q10_s22 : s22 (N + 10) = ai E 512 (fun _ => 0) := (f_s22 (N + 10) (by omega)).trans q10_s21
          have q11_s22 : s22 (N + 11) = ob 4 [vr E (N + 12), vr E (N + 13), vr E (N + 14), vi 0] := (f_s22 (N + 11) (by omega)).trans q11_s21
          have q12_s22 : s22 (N + 12) = ai E 157 (fun _ => 0) := (f_s22 (N + 12) (by omega)).trans q12_s21
          have q13_s22 : s22 (N + 13) = ai E 512 (fun _ => -1) := (f_s22 (N + 13) (by omega)).trans q13_s21
          have q14_s22 : s22 (N + 14) = ai E 512 (fun _ => 0) := (f_s22 (N + 14) (by omega)).trans q14_s21
          have q15_s22 : s22 (N + 15) = ob 4 [vr E (N + 16), vr E (N + 17), vr E (N + 18), vi 0] := (f_s22 (N + 15) (by omega)).trans q15_s21
          have q16_s22 : s22 (N + 16) = ai E 157 (fun _ => 0) := (f_s22 (N + 16) (by omega)).trans q16_s21
          have q17_s22 : s22 (N + 17) = ai E 512 (fun _ => -1) := (f_s22 (N + 17) (by omega)).trans q17_s21
          have q18_s22 : s22 (N + 18) = ai E 512 (fun _ => 0) := (f_s22 (N + 18) (by omega)).trans q18_s21
          refine go_aast (pc := 66) hF 5 4 dX2_init_66 rfl rfl (by omega) q0_s22 (by omega) u0_s22' ⟨by decide, by decide⟩ (fun s23 u_s23 f_s23 => ?_)
          have x_s23 : s23 i₉ = ob 2 [vr E N, vr E (N + 1), vr E (N + 2), vr E (N + 6), vi 0] := (f_s23 i₉ (by omega)).trans x_s22
          have q1_s23 : s23 (N + 1) = ar E 5 3 (fun _ => -1) := (f_s23 (N + 1) (by omega)).trans q1_s22
          have q2_s23 : s23 (N + 2) = ob 4 [vr E (N + 3), vr E (N + 4), vr E (N + 5), vi 0] := (f_s23 (N + 2) (by omega)).trans q2_s22
          have q3_s23 : s23 (N + 3) = ai E 157 (fun _ => 0) := (f_s23 (N + 3) (by omega)).trans q3_s22
          have q4_s23 : s23 (N + 4) = ai E 512 (fun _ => -1) := (f_s23 (N + 4) (by omega)).trans q4_s22
          have q5_s23 : s23 (N + 5) = ai E 512 (fun _ => 0) := (f_s23 (N + 5) (by omega)).trans q5_s22
          have q6_s23 : s23 (N + 6) = ob 1 [vi 0, vi 2, vi 0, vi 10] := (f_s23 (N + 6) (by omega)).trans q6_s22
          have q7_s23 : s23 (N + 7) = ob 4 [vr E (N + 8), vr E (N + 9), vr E (N + 10), vi 0] := (f_s23 (N + 7) (by omega)).trans q7_s22
          have q8_s23 : s23 (N + 8) = ai E 157 (fun _ => 0) := (f_s23 (N + 8) (by omega)).trans q8_s22
          have q9_s23 : s23 (N + 9) = ai E 512 (fun _ => -1) := (f_s23 (N + 9) (by omega)).trans q9_s22
          have q10_s23 : s23 (N + 10) = ai E 512 (fun _ => 0) := (f_s23 (N + 10) (by omega)).trans q10_s22
          have q11_s23 : s23 (N + 11) = ob 4 [vr E (N + 12), vr E (N + 13), vr E (N + 14), vi 0] := (f_s23 (N + 11) (by omega)).trans q11_s22
          have q12_s23 : s23 (N + 12) = ai E 157 (fun _ => 0) := (f_s23 (N + 12) (by omega)).trans q12_s22
          have q13_s23 : s23 (N + 13) = ai E 512 (fun _ => -1) := (f_s23 (N + 13) (by omega)).trans q13_s22
          have q14_s23 : s23 (N + 14) = ai E 512 (fun _ => 0) := (f_s23 (N + 14) (by omega)).trans q14_s22
          have q15_s23 : s23 (N + 15) = ob 4 [vr E (N + 16), vr E (N + 17), vr E (N + 18), vi 0] := (f_s23 (N + 15) (by omega)).trans q15_s22
          have q16_s23 : s23 (N + 16) = ai E 157 (fun _ => 0) := (f_s23 (N + 16) (by omega)).trans q16_s22
          have q17_s23 : s23 (N + 17) = ai E 512 (fun _ => -1) := (f_s23 (N + 17) (by omega)).trans q17_s22
          have q18_s23 : s23 (N + 18) = ai E 512 (fun _ => 0) := (f_s23 (N + 18) (by omega)).trans q18_s22
          have q19_s23 : s23 (N + 19) = ob 4 [vr E (N + 20), vr E (N + 21), vr E (N + 22), vi 0] := (f_s23 (N + 19) (by omega)).trans u0_s22'
          have q20_s23 : s23 (N + 20) = ai E 157 (fun _ => 0) := (f_s23 (N + 20) (by omega)).trans u1_s22'
          have q21_s23 : s23 (N + 21) = ai E 512 (fun _ => -1) := (f_s23 (N + 21) (by omega)).trans u2_s22'
          have q22_s23 : s23 (N + 22) = ai E 512 (fun _ => 0) := (f_s23 (N + 22) (by omega)).trans u3_s22'
          refine go_iinc (pc := 67) hF [(1, vi 4), (0, vr E i₉)] dX2_init_67 0 rfl rfl (by decide) ?_
          refine go_goto (pc := 70) hF 49 dX2_init_70 (by decide) ?_
          refine go_iload_n (pc := 49) hF dX2_init_49 0 rfl ?_
          refine go_iconst (pc := 50) hF dX2_init_50 ?_
          refine go_icmp_gt (pc := 51) hF 73 dX2_init_51 (by decide) ⟨by decide, by decide⟩ ⟨by decide, by decide⟩ (fun bq51 => ?_) (fun bq51 => ?_)
          · refine go_iconst (pc := 73) hF dX2_init_73 ?_
            refine go_istore_n (pc := 74) hF [(1, vi 0), (0, vr E i₉)] dX2_init_74 rfl (by decide) ?_
            refine go_iload_n (pc := 75) hF dX2_init_75 0 rfl ?_
            refine go_iconst (pc := 76) hF dX2_init_76 ?_
            refine go_icmp_ge (pc := 77) hF 99 dX2_init_77 (by decide) ⟨by decide, by decide⟩ ⟨by decide, by decide⟩ (fun bq77 => ?_) (fun bq77 => ?_)
            · exact absurd bq77 (by decide)
            · refine go_aload_n (pc := 80) hF dX2_init_80 1 rfl ?_
              refine go_get (pc := 81) hF fl_X2_17 dX2_init_81 (by omega) x_s23 rfl ?_
              refine go_iload_n (pc := 84) hF dX2_init_84 0 rfl ?_
              refine go_new (pc := 85) (k := (23, 5936)) hF (24, 5940) (N + 24) nw_X2_9 dX2_init_85 (show s.heap.size + 23 = ez E + (N + 23) by omega) (Or.inl (by omega)) (by rw [hR]; exact Nat.le_of_ble_eq_true rfl) (by rw [hR]; exact Nat.le_of_ble_eq_true rfl) rfl rfl (fun s24 u_s24 f_s24 => ?_)
              have x_s24 : s24 i₉ = ob 2 [vr E N, vr E (N + 1), vr E (N + 2), vr E (N + 6), vi 0] := (f_s24 i₉ (by omega)).trans x_s23
              have q0_s24 : s24 N = ar E 5 4 (up (up (up (up (fun _ => -1) 0 ((N + 7 : Nat) : Int)) 1 ((N + 11 : Nat) : Int)) 2 ((N + 15 : Nat) : Int)) 3 ((N + 19 : Nat) : Int)) := (f_s24 N (by omega)).trans u_s23
              have q1_s24 : s24 (N + 1) = ar E 5 3 (fun _ => -1) := (f_s24 (N + 1) (by omega)).trans q1_s23
              have q2_s24 : s24 (N + 2) = ob 4 [vr E (N + 3), vr E (N + 4), vr E (N + 5), vi 0] := (f_s24 (N + 2) (by omega)).trans q2_s23
              have q3_s24 : s24 (N + 3) = ai E 157 (fun _ => 0) := (f_s24 (N + 3) (by omega)).trans q3_s23
              have q4_s24 : s24 (N + 4) = ai E 512 (fun _ => -1) := (f_s24 (N + 4) (by omega)).trans q4_s23
              have q5_s24 : s24 (N + 5) = ai E 512 (fun _ => 0) := (f_s24 (N + 5) (by omega)).trans q5_s23
              have q6_s24 : s24 (N + 6) = ob 1 [vi 0, vi 2, vi 0, vi 10] := (f_s24 (N + 6) (by omega)).trans q6_s23
              have q7_s24 : s24 (N + 7) = ob 4 [vr E (N + 8), vr E (N + 9), vr E (N + 10), vi 0] := (f_s24 (N + 7) (by omega)).trans q7_s23
              have q8_s24 : s24 (N + 8) = ai E 157 (fun _ => 0) := (f_s24 (N + 8) (by omega)).trans q8_s23
              have q9_s24 : s24 (N + 9) = ai E 512 (fun _ => -1) := (f_s24 (N + 9) (by omega)).trans q9_s23
              have q10_s24 : s24 (N + 10) = ai E 512 (fun _ => 0) := (f_s24 (N + 10) (by omega)).trans q10_s23
              have q11_s24 : s24 (N + 11) = ob 4 [vr E (N + 12), vr E (N + 13), vr E (N + 14), vi 0] := (f_s24 (N + 11) (by omega)).trans q11_s23
              have q12_s24 : s24 (N + 12) = ai E 157 (fun _ => 0) := (f_s24 (N + 12) (by omega)).trans q12_s23
              have q13_s24 : s24 (N + 13) = ai E 512 (fun _ => -1) := (f_s24 (N + 13) (by omega)).trans q13_s23
              have q14_s24 : s24 (N + 14) = ai E 512 (fun _ => 0) := (f_s24 (N + 14) (by omega)).trans q14_s23
              have q15_s24 : s24 (N + 15) = ob 4 [vr E (N + 16), vr E (N + 17), vr E (N + 18), vi 0] := (f_s24 (N + 15) (by omega)).trans q15_s23
              have q16_s24 : s24 (N + 16) = ai E 157 (fun _ => 0) := (f_s24 (N + 16) (by omega)).trans q16_s23
              have q17_s24 : s24 (N + 17) = ai E 512 (fun _ => -1) := (f_s24 (N + 17) (by omega)).trans q17_s23
              have q18_s24 : s24 (N + 18) = ai E 512 (fun _ => 0) := (f_s24 (N + 18) (by omega)).trans q18_s23
              have q19_s24 : s24 (N + 19) = ob 4 [vr E (N + 20), vr E (N + 21), vr E (N + 22), vi 0] := (f_s24 (N + 19) (by omega)).trans q19_s23
              have q20_s24 : s24 (N + 20) = ai E 157 (fun _ => 0) := (f_s24 (N + 20) (by omega)).trans q20_s23
              have q21_s24 : s24 (N + 21) = ai E 512 (fun _ => -1) := (f_s24 (N + 21) (by omega)).trans q21_s23
              have q22_s24 : s24 (N + 22) = ai E 512 (fun _ => 0) := (f_s24 (N + 22) (by omega)).trans q22_s23
              refine go_dup (pc := 88) hF dX2_init_88 rfl ?_
              refine go_callI (pc := 89) (k := (24, 5940)) hF (27, 7121) (N + 27) mi_X2_20 dX2_init_89 (c_X4_init E (N + 24) s24 (N + 23) (by omega) u_s24) (Nat.le_of_ble_eq_true rfl) (by decide) (by rw [hR]; exact Nat.le_of_ble_eq_true rfl) (by rw [hR]; exact Nat.le_of_ble_eq_true rfl) (fun _ => (show s.heap.size + 24 = ez E + (N + 24) by omega)) (fun _ => (Or.inl (by omega))) rfl rfl (fun s25 h_s25 => ?_)
              obtain ⟨u0_s25, u1_s25, u2_s25, u3_s25, f_s25⟩ := h_s25
              have u0_s25' : s25 (N + 23) = ob 4 [vr E (N + 24), vr E (N + 25), vr E (N + 26), vi 0] := u0_s25
              have u1_s25' : s25 (N + 24) = ai E 157 (fun _ => 0) := u1_s25
              have u2_s25' : s25 (N + 25) = ai E 512 (fun _ => -1) := u2_s25
              have u3_s25' : s25 (N + 26) = ai E 512 (fun _ => 0) := u3_s25
              have x_s25 : s25 i₉ = ob 2 [vr E N, vr E (N + 1), vr E (N + 2), vr E (N + 6), vi 0] := (f_s25 i₉ (by omega)).trans x_s24
              have q0_s25 : s25 N = ar E 5 4 (up (up (up (up (fun _ => -1) 0 ((N + 7 : Nat) : Int)) 1 ((N + 11 : Nat) : Int)) 2 ((N + 15 : Nat) : Int)) 3 ((N + 19 : Nat) : Int)) := (f_s25 N (by omega)).trans q0_s24
              have q1_s25 : s25 (N + 1) = ar E 5 3 (fun _ => -1) := (f_s25 (N + 1) (by omega)).trans q1_s24
              have q2_s25 : s25 (N + 2) = ob 4 [vr E (N + 3), vr E (N + 4), vr E (N + 5), vi 0] := (f_s25 (N + 2) (by omega)).trans q2_s24
              have q3_s25 : s25 (N + 3) = ai E 157 (fun _ => 0) := (f_s25 (N + 3) (by omega)).trans q3_s24
              have q4_s25 : s25 (N + 4) = ai E 512 (fun _ => -1) := (f_s25 (N + 4) (by omega)).trans q4_s24
              have q5_s25 : s25 (N + 5) = ai E 512 (fun _ => 0) := (f_s25 (N + 5) (by omega)).trans q5_s24
              have q6_s25 : s25 (N + 6) = ob 1 [vi 0, vi 2, vi 0, vi 10] := (f_s25 (N + 6) (by omega)).trans q6_s24
              have q7_s25 : s25 (N + 7) = ob 4 [vr E (N + 8), vr E (N + 9), vr E (N + 10), vi 0] := (f_s25 (N + 7) (by omega)).trans q7_s24
              have q8_s25 : s25 (N + 8) = ai E 157 (fun _ => 0) := (f_s25 (N + 8) (by omega)).trans q8_s24
              have q9_s25 : s25 (N + 9) = ai E 512 (fun _ => -1) := (f_s25 (N + 9) (by omega)).trans q9_s24
              have q10_s25 : s25 (N + 10) = ai E 512 (fun _ => 0) := (f_s25 (N + 10) (by omega)).trans q10_s24
              have q11_s25 : s25 (N + 11) = ob 4 [vr E (N + 12), vr E (N + 13), vr E (N + 14), vi 0] := (f_s25 (N + 11) (by omega)).trans q11_s24
              have q12_s25 : s25 (N + 12) = ai E 157 (fun _ => 0) := (f_s25 (N + 12) (by omega)).trans q12_s24
              have q13_s25 : s25 (N + 13) = ai E 512 (fun _ => -1) := (f_s25 (N + 13) (by omega)).trans q13_s24
              have q14_s25 : s25 (N + 14) = ai E 512 (fun _ => 0) := (f_s25 (N + 14) (by omega)).trans q14_s24
              have q15_s25 : s25 (N + 15) = ob 4 [vr E (N + 16), vr E (N + 17), vr E (N + 18), vi 0] := (f_s25 (N + 15) (by omega)).trans q15_s24
              have q16_s25 : s25 (N + 16) = ai E 157 (fun _ => 0) := (f_s25 (N + 16) (by omega)).trans q16_s24
              have q17_s25 : s25 (N + 17) = ai E 512 (fun _ => -1) := (f_s25 (N + 17) (by omega)).trans q17_s24
              have q18_s25 : s25 (N + 18) = ai E 512 (fun _ => 0) := (f_s25 (N + 18) (by omega)).trans q18_s24
              have q19_s25 : s25 (N + 19) = ob 4 [vr E (N + 20), vr E (N + 21), vr E (N + 22), vi 0] := (f_s25 (N + 19) (by omega)).trans q19_s24
              have q20_s25 : s25 (N + 20) = ai E 157 (fun _ => 0) := (f_s25 (N + 20) (by omega)).trans q20_s24
              have q21_s25 : s25 (N + 21) = ai E 512 (fun _ => -1) := (f_s25 (N + 21) (by omega)).trans q21_s24
              have q22_s25 : s25 (N + 22) = ai E 512 (fun _ => 0) := (f_s25 (N + 22) (by omega)).trans q22_s24
              refine go_aast (pc := 92) hF 5 4 dX2_init_92 rfl rfl (by omega) q1_s25 (by omega) u0_s25' ⟨by decide, by decide⟩ (fun s26 u_s26 f_s26 => ?_)
              have x_s26 : s26 i₉ = ob 2 [vr E N, vr E (N + 1), vr E (N + 2), vr E (N + 6), vi 0] := (f_s26 i₉ (by omega)).trans x_s25
              have q0_s26 : s26 N = ar E 5 4 (up (up (up (up (fun _ => -1) 0 ((N + 7 : Nat) : Int)) 1 ((N + 11 : Nat) : Int)) 2 ((N + 15 : Nat) : Int)) 3 ((N + 19 : Nat) : Int)) := (f_s26 N (by omega)).trans q0_s25
              have q2_s26 : s26 (N + 2) = ob 4 [vr E (N + 3), vr E (N + 4), vr E (N + 5), vi 0] := (f_s26 (N + 2) (by omega)).trans q2_s25
              have q3_s26 : s26 (N + 3) = ai E 157 (fun _ => 0) := (f_s26 (N + 3) (by omega)).trans q3_s25
              have q4_s26 : s26 (N + 4) = ai E 512 (fun _ => -1) := (f_s26 (N + 4) (by omega)).trans q4_s25
              have q5_s26 : s26 (N + 5) = ai E 512 (fun _ => 0) := (f_s26 (N + 5) (by omega)).trans q5_s25
              have q6_s26 : s26 (N + 6) = ob 1 [vi 0, vi 2, vi 0, vi 10] := (f_s26 (N + 6) (by omega)).trans q6_s25
              have q7_s26 : s26 (N + 7) = ob 4 [vr E (N + 8), vr E (N + 9), vr E (N + 10), vi 0] := (f_s26 (N + 7) (by omega)).trans q7_s25
              have q8_s26 : s26 (N + 8) = ai E 157 (fun _ => 0) := (f_s26 (N + 8) (by omega)).trans q8_s25
              have q9_s26 : s26 (N + 9) = ai E 512 (fun _ => -1) := (f_s26 (N + 9) (by omega)).trans q9_s25
              have q10_s26 : s26 (N + 10) = ai E 512 (fun _ => 0) := (f_s26 (N + 10) (by omega)).trans q10_s25
              have q11_s26 : s26 (N + 11) = ob 4 [vr E (N + 12), vr E (N + 13), vr E (N + 14), vi 0] := (f_s26 (N + 11) (by omega)).trans q11_s25
              have q12_s26 : s26 (N + 12) = ai E 157 (fun _ => 0) := (f_s26 (N + 12) (by omega)).trans q12_s25
              have q13_s26 : s26 (N + 13) = ai E 512 (fun _ => -1) := (f_s26 (N + 13) (by omega)).trans q13_s25
              have q14_s26 : s26 (N + 14) = ai E 512 (fun _ => 0) := (f_s26 (N + 14) (by omega)).trans q14_s25
              have q15_s26 : s26 (N + 15) = ob 4 [vr E (N + 16), vr E (N + 17), vr E (N + 18), vi 0] := (f_s26 (N + 15) (by omega)).trans q15_s25
              have q16_s26 : s26 (N + 16) = ai E 157 (fun _ => 0) := (f_s26 (N + 16) (by omega)).trans q16_s25
              have q17_s26 : s26 (N + 17) = ai E 512 (fun _ => -1) := (f_s26 (N + 17) (by omega)).trans q17_s25
              have q18_s26 : s26 (N + 18) = ai E 512 (fun _ => 0) := (f_s26 (N + 18) (by omega)).trans q18_s25
              have q19_s26 : s26 (N + 19) = ob 4 [vr E (N + 20), vr E (N + 21), vr E (N + 22), vi 0] := (f_s26 (N + 19) (by omega)).trans q19_s25
              have q20_s26 : s26 (N + 20) = ai E 157 (fun _ => 0) := (f_s26 (N + 20) (by omega)).trans q20_s25
              have q21_s26 : s26 (N + 21) = ai E 512 (fun _ => -1) := (f_s26 (N + 21) (by omega)).trans q21_s25
              have q22_s26 : s26 (N + 22) = ai E 512 (fun _ => 0) := (f_s26 (N + 22) (by omega)).trans q22_s25
              have q23_s26 : s26 (N + 23) = ob 4 [vr E (N + 24), vr E (N + 25), vr E (N + 26), vi 0] := (f_s26 (N + 23) (by omega)).trans u0_s25'
              have q24_s26 : s26 (N + 24) = ai E 157 (fun _ => 0) := (f_s26 (N + 24) (by omega)).trans u1_s25'
              have q25_s26 : s26 (N + 25) = ai E 512 (fun _ => -1) := (f_s26 (N + 25) (by omega)).trans u2_s25'
              have q26_s26 : s26 (N + 26) = ai E 512 (fun _ => 0) := (f_s26 (N + 26) (by omega)).trans u3_s25'
              refine go_iinc (pc := 93) hF [(1, vi 1), (0, vr E i₉)] dX2_init_93 0 rfl rfl (by decide) ?_
              refine go_goto (pc := 96) hF 75 dX2_init_96 (by decide) ?_
              refine go_iload_n (pc := 75) hF dX2_init_75 0 rfl ?_
              refine go_iconst (pc := 76) hF dX2_init_76 ?_
              refine go_icmp_ge (pc := 77) hF 99 dX2_init_77 (by decide) ⟨by decide, by decide⟩ ⟨by decide, by decide⟩ (fun bq77 => ?_) (fun bq77 => ?_)
              · exact absurd bq77 (by decide)
              · refine go_aload_n (pc := 80) hF dX2_init_80 1 rfl ?_
                refine go_get (pc := 81) hF fl_X2_17 dX2_init_81 (by omega) x_s26 rfl ?_
                refine go_iload_n (pc := 84) hF dX2_init_84 0 rfl ?_
                refine go_new (pc := 85) (k := (27, 7121)) hF (28, 7125) (N + 28) nw_X2_9 dX2_init_85 (show s.heap.size + 27 = ez E + (N + 27) by omega) (Or.inl (by omega)) (by rw [hR]; exact Nat.le_of_ble_eq_true rfl) (by rw [hR]; exact Nat.le_of_ble_eq_true rfl) rfl rfl (fun s27 u_s27 f_s27 => ?_)
                have x_s27 : s27 i₉ = ob 2 [vr E N, vr E (N + 1), vr E (N + 2), vr E (N + 6), vi 0] := (f_s27 i₉ (by omega)).trans x_s26
                have q0_s27 : s27 N = ar E 5 4 (up (up (up (up (fun _ => -1) 0 ((N + 7 : Nat) : Int)) 1 ((N + 11 : Nat) : Int)) 2 ((N + 15 : Nat) : Int)) 3 ((N + 19 : Nat) : Int)) := (f_s27 N (by omega)).trans q0_s26
                have q1_s27 : s27 (N + 1) = ar E 5 3 (up (fun _ => -1) 0 ((N + 23 : Nat) : Int)) := (f_s27 (N + 1) (by omega)).trans u_s26
                have q2_s27 : s27 (N + 2) = ob 4 [vr E (N + 3), vr E (N + 4), vr E (N + 5), vi 0] := (f_s27 (N + 2) (by omega)).trans q2_s26
                have q3_s27 : s27 (N + 3) = ai E 157 (fun _ => 0) := (f_s27 (N + 3) (by omega)).trans q3_s26
                have q4_s27 : s27 (N + 4) = ai E 512 (fun _ => -1) := (f_s27 (N + 4) (by omega)).trans q4_s26
                have q5_s27 : s27 (N + 5) = ai E 512 (fun _ => 0) := (f_s27 (N + 5) (by omega)).trans q5_s26
                have q6_s27 : s27 (N + 6) = ob 1 [vi 0, vi 2, vi 0, vi 10] := (f_s27 (N + 6) (by omega)).trans q6_s26
                have q7_s27 : s27 (N + 7) = ob 4 [vr E (N + 8), vr E (N + 9), vr E (N + 10), vi 0] := (f_s27 (N + 7) (by omega)).trans q7_s26
                have q8_s27 : s27 (N + 8) = ai E 157 (fun _ => 0) := (f_s27 (N + 8) (by omega)).trans q8_s26
                have q9_s27 : s27 (N + 9) = ai E 512 (fun _ => -1) := (f_s27 (N + 9) (by omega)).trans q9_s26
                have q10_s27 : s27 (N + 10) = ai E 512 (fun _ => 0) := (f_s27 (N + 10) (by omega)).trans q10_s26
                have q11_s27 : s27 (N + 11) = ob 4 [vr E (N + 12), vr E (N + 13), vr E (N + 14), vi 0] := (f_s27 (N + 11) (by omega)).trans q11_s26
                have q12_s27 : s27 (N + 12) = ai E 157 (fun _ => 0) := (f_s27 (N + 12) (by omega)).trans q12_s26
                have q13_s27 : s27 (N + 13) = ai E 512 (fun _ => -1) := (f_s27 (N + 13) (by omega)).trans q13_s26
                have q14_s27 : s27 (N + 14) = ai E 512 (fun _ => 0) := (f_s27 (N + 14) (by omega)).trans q14_s26
                have q15_s27 : s27 (N + 15) = ob 4 [vr E (N + 16), vr E (N + 17), vr E (N + 18), vi 0] := (f_s27 (N + 15) (by omega)).trans q15_s26
                have q16_s27 : s27 (N + 16) = ai E 157 (fun _ => 0) := (f_s27 (N + 16) (by omega)).trans q16_s26
                have q17_s27 : s27 (N + 17) = ai E 512 (fun _ => -1) := (f_s27 (N + 17) (by omega)).trans q17_s26
                have q18_s27 : s27 (N + 18) = ai E 512 (fun _ => 0) := (f_s27 (N + 18) (by omega)).trans q18_s26
                have q19_s27 : s27 (N + 19) = ob 4 [vr E (N + 20), vr E (N + 21), vr E (N + 22), vi 0] := (f_s27 (N + 19) (by omega)).trans q19_s26
                have q20_s27 : s27 (N + 20) = ai E 157 (fun _ => 0) := (f_s27 (N + 20) (by omega)).trans q20_s26
                have q21_s27 : s27 (N + 21) = ai E 512 (fun _ => -1) := (f_s27 (N + 21) (by omega)).trans q21_s26
                have q22_s27 : s27 (N + 22) = ai E 512 (fun _ => 0) := (f_s27 (N + 22) (by omega)).trans q22_s26
                have q23_s27 : s27 (N + 23) = ob 4 [vr E (N + 24), vr E (N + 25), vr E (N + 26), vi 0] := (f_s27 (N + 23) (by omega)).trans q23_s26
                have q24_s27 : s27 (N + 24) = ai E 157 (fun _ => 0) := (f_s27 (N + 24) (by omega)).trans q24_s26
                have q25_s27 : s27 (N + 25) = ai E 512 (fun _ => -1) := (f_s27 (N + 25) (by omega)).trans q25_s26
                have q26_s27 : s27 (N + 26) = ai E 512 (fun _ => 0) := (f_s27 (N + 26) (by omega)).trans q26_s26
                refine go_dup (pc := 88) hF dX2_init_88 rfl ?_
                refine go_callI (pc := 89) (k := (28, 7125)) hF (31, 8306) (N + 31) mi_X2_20 dX2_init_89 (c_X4_init E (N + 28) s27 (N + 27) (by omega) u_s27) (Nat.le_of_ble_eq_true rfl) (by decide) (by rw [hR]; exact Nat.le_of_ble_eq_true rfl) (by rw [hR]; exact Nat.le_of_ble_eq_true rfl) (fun _ => (show s.heap.size + 28 = ez E + (N + 28) by omega)) (fun _ => (Or.inl (by omega))) rfl rfl (fun s28 h_s28 => ?_)
                obtain ⟨u0_s28, u1_s28, u2_s28, u3_s28, f_s28⟩ := h_s28
                have u0_s28' : s28 (N + 27) = ob 4 [vr E (N + 28), vr E (N + 29), vr E (N + 30), vi 0] := u0_s28
                have u1_s28' : s28 (N + 28) = ai E 157 (fun _ => 0) := u1_s28
                have u2_s28' : s28 (N + 29) = ai E 512 (fun _ => -1) := u2_s28
                have u3_s28' : s28 (N + 30) = ai E 512 (fun _ => 0) := u3_s28
                have x_s28 : s28 i₉ = ob 2 [vr E N, vr E (N + 1), vr E (N + 2), vr E (N + 6), vi 0] := (f_s28 i₉ (by omega)).trans x_s27
                have q0_s28 : s28 N = ar E 5 4 (up (up (up (up (fun _ => -1) 0 ((N + 7 : Nat) : Int)) 1 ((N + 11 : Nat) : Int)) 2 ((N + 15 : Nat) : Int)) 3 ((N + 19 : Nat) : Int)) := (f_s28 N (by omega)).trans q0_s27
                have q1_s28 : s28 (N + 1) = ar E 5 3 (up (fun _ => -1) 0 ((N + 23 : Nat) : Int)) := (f_s28 (N + 1) (by omega)).trans q1_s27
                have q2_s28 : s28 (N + 2) = ob 4 [vr E (N + 3), vr E (N + 4), vr E (N + 5), vi 0] := (f_s28 (N + 2) (by omega)).trans q2_s27
                have q3_s28 : s28 (N + 3) = ai E 157 (fun _ => 0) := (f_s28 (N + 3) (by omega)).trans q3_s27
                have q4_s28 : s28 (N + 4) = ai E 512 (fun _ => -1) := (f_s28 (N + 4) (by omega)).trans q4_s27
                have q5_s28 : s28 (N + 5) = ai E 512 (fun _ => 0) := (f_s28 (N + 5) (by omega)).trans q5_s27
                have q6_s28 : s28 (N + 6) = ob 1 [vi 0, vi 2, vi 0, vi 10] := (f_s28 (N + 6) (by omega)).trans q6_s27
                have q7_s28 : s28 (N + 7) = ob 4 [vr E (N + 8), vr E (N + 9), vr E (N + 10), vi 0] := (f_s28 (N + 7) (by omega)).trans q7_s27
                have q8_s28 : s28 (N + 8) = ai E 157 (fun _ => 0) := (f_s28 (N + 8) (by omega)).trans q8_s27
                have q9_s28 : s28 (N + 9) = ai E 512 (fun _ => -1) := (f_s28 (N + 9) (by omega)).trans q9_s27
                have q10_s28 : s28 (N + 10) = ai E 512 (fun _ => 0) := (f_s28 (N + 10) (by omega)).trans q10_s27
                have q11_s28 : s28 (N + 11) = ob 4 [vr E (N + 12), vr E (N + 13), vr E (N + 14), vi 0] := (f_s28 (N + 11) (by omega)).trans q11_s27
                have q12_s28 : s28 (N + 12) = ai E 157 (fun _ => 0) := (f_s28 (N + 12) (by omega)).trans q12_s27
                have q13_s28 : s28 (N + 13) = ai E 512 (fun _ => -1) := (f_s28 (N + 13) (by omega)).trans q13_s27
                have q14_s28 : s28 (N + 14) = ai E 512 (fun _ => 0) := (f_s28 (N + 14) (by omega)).trans q14_s27
                have q15_s28 : s28 (N + 15) = ob 4 [vr E (N + 16), vr E (N + 17), vr E (N + 18), vi 0] := (f_s28 (N + 15) (by omega)).trans q15_s27
                have q16_s28 : s28 (N + 16) = ai E 157 (fun _ => 0) := (f_s28 (N + 16) (by omega)).trans q16_s27
                have q17_s28 : s28 (N + 17) = ai E 512 (fun _ => -1) := (f_s28 (N + 17) (by omega)).trans q17_s27
                have q18_s28 : s28 (N + 18) = ai E 512 (fun _ => 0) := (f_s28 (N + 18) (by omega)).trans q18_s27
                have q19_s28 : s28 (N + 19) = ob 4 [vr E (N + 20), vr E (N + 21), vr E (N + 22), vi 0] := (f_s28 (N + 19) (by omega)).trans q19_s27
                have q20_s28 : s28 (N + 20) = ai E 157 (fun _ => 0) := (f_s28 (N + 20) (by omega)).trans q20_s27
                have q21_s28 : s28 (N + 21) = ai E 512 (fun _ => -1) := (f_s28 (N + 21) (by omega)).trans q21_s27
                have q22_s28 : s28 (N + 22) = ai E 512 (fun _ => 0) := (f_s28 (N + 22) (by omega)).trans q22_s27
                have q23_s28 : s28 (N + 23) = ob 4 [vr E (N + 24), vr E (N + 25), vr E (N + 26), vi 0] := (f_s28 (N + 23) (by omega)).trans q23_s27
                have q24_s28 : s28 (N + 24) = ai E 157 (fun _ => 0) := (f_s28 (N + 24) (by omega)).trans q24_s27
                have q25_s28 : s28 (N + 25) = ai E 512 (fun _ => -1) := (f_s28 (N + 25) (by omega)).trans q25_s27
                have q26_s28 : s28 (N + 26) = ai E 512 (fun _ => 0) := (f_s28 (N + 26) (by omega)).trans q26_s27
                refine go_aast (pc := 92) hF 5 4 dX2_init_92 rfl rfl (by omega) q1_s28 (by omega) u0_s28' ⟨by decide, by decide⟩ (fun s29 u_s29 f_s29 => ?_)
                have x_s29 : s29 i₉ = ob 2 [vr E N, vr E (N + 1), vr E (N + 2), vr E (N + 6), vi 0] := (f_s29 i₉ (by omega)).trans x_s28
                have q0_s29 : s29 N = ar E 5 4 (up (up (up (up (fun _ => -1) 0 ((N + 7 : Nat) : Int)) 1 ((N + 11 : Nat) : Int)) 2 ((N + 15 : Nat) : Int)) 3 ((N + 19 : Nat) : Int)) := (f_s29 N (by omega)).trans q0_s28
                have q2_s29 : s29 (N + 2) = ob 4 [vr E (N + 3), vr E (N + 4), vr E (N + 5), vi 0] := (f_s29 (N + 2) (by omega)).trans q2_s28
                have q3_s29 : s29 (N + 3) = ai E 157 (fun _ => 0) := (f_s29 (N + 3) (by omega)).trans q3_s28
                have q4_s29 : s29 (N + 4) = ai E 512 (fun _ => -1) := (f_s29 (N + 4) (by omega)).trans q4_s28
                have q5_s29 : s29 (N + 5) = ai E 512 (fun _ => 0) := (f_s29 (N + 5) (by omega)).trans q5_s28
                have q6_s29 : s29 (N + 6) = ob 1 [vi 0, vi 2, vi 0, vi 10] := (f_s29 (N + 6) (by omega)).trans q6_s28
                have q7_s29 : s29 (N + 7) = ob 4 [vr E (N + 8), vr E (N + 9), vr E (N + 10), vi 0] := (f_s29 (N + 7) (by omega)).trans q7_s28
                have q8_s29 : s29 (N + 8) = ai E 157 (fun _ => 0) := (f_s29 (N + 8) (by omega)).trans q8_s28
                have q9_s29 : s29 (N + 9) = ai E 512 (fun _ => -1) := (f_s29 (N + 9) (by omega)).trans q9_s28
                have q10_s29 : s29 (N + 10) = ai E 512 (fun _ => 0) := (f_s29 (N + 10) (by omega)).trans q10_s28
                have q11_s29 : s29 (N + 11) = ob 4 [vr E (N + 12), vr E (N + 13), vr E (N + 14), vi 0] := (f_s29 (N + 11) (by omega)).trans q11_s28
                have q12_s29 : s29 (N + 12) = ai E 157 (fun _ => 0) := (f_s29 (N + 12) (by omega)).trans q12_s28
                have q13_s29 : s29 (N + 13) = ai E 512 (fun _ => -1) := (f_s29 (N + 13) (by omega)).trans q13_s28
                have q14_s29 : s29 (N + 14) = ai E 512 (fun _ => 0) := (f_s29 (N + 14) (by omega)).trans q14_s28
                have q15_s29 : s29 (N + 15) = ob 4 [vr E (N + 16), vr E (N + 17), vr E (N + 18), vi 0] := (f_s29 (N + 15) (by omega)).trans q15_s28
                have q16_s29 : s29 (N + 16) = ai E 157 (fun _ => 0) := (f_s29 (N + 16) (by omega)).trans q16_s28
                have q17_s29 : s29 (N + 17) = ai E 512 (fun _ => -1) := (f_s29 (N + 17) (by omega)).trans q17_s28
                have q18_s29 : s29 (N + 18) = ai E 512 (fun _ => 0) := (f_s29 (N + 18) (by omega)).trans q18_s28
                have q19_s29 : s29 (N + 19) = ob 4 [vr E (N + 20), vr E (N + 21), vr E (N + 22), vi 0] := (f_s29 (N + 19) (by omega)).trans q19_s28
                have q20_s29 : s29 (N + 20) = ai E 157 (fun _ => 0) := (f_s29 (N + 20) (by omega)).trans q20_s28
                have q21_s29 : s29 (N + 21) = ai E 512 (fun _ => -1) := (f_s29 (N + 21) (by omega)).trans q21_s28
                have q22_s29 : s29 (N + 22) = ai E 512 (fun _ => 0) := (f_s29 (N + 22) (by omega)).trans q22_s28
                have q23_s29 : s29 (N + 23) = ob 4 [vr E (N + 24), vr E (N + 25), vr E (N + 26), vi 0] := (f_s29 (N + 23) (by omega)).trans q23_s28
                have q24_s29 : s29 (N + 24) = ai E 157 (fun _ => 0) := (f_s29 (N + 24) (by omega)).trans q24_s28
                have q25_s29 : s29 (N + 25) = ai E 512 (fun _ => -1) := (f_s29 (N + 25) (by omega)).trans q25_s28
                have q26_s29 : s29 (N + 26) = ai E 512 (fun _ => 0) := (f_s29 (N + 26) (by omega)).trans q26_s28
                have q27_s29 : s29 (N + 27) = ob 4 [vr E (N + 28), vr E (N + 29), vr E (N + 30), vi 0] := (f_s29 (N + 27) (by omega)).trans u0_s28'
                have q28_s29 : s29 (N + 28) = ai E 157 (fun _ => 0) := (f_s29 (N + 28) (by omega)).trans u1_s28'
                have q29_s29 : s29 (N + 29) = ai E 512 (fun _ => -1) := (f_s29 (N + 29) (by omega)).trans u2_s28'
                have q30_s29 : s29 (N + 30) = ai E 512 (fun _ => 0) := (f_s29 (N + 30) (by omega)).trans u3_s28'
                refine go_iinc (pc := 93) hF [(1, vi 2), (0, vr E i₉)] dX2_init_93 0 rfl rfl (by decide) ?_
                refine go_goto (pc := 96) hF 75 dX2_init_96 (by decide) ?_
                refine go_iload_n (pc := 75) hF dX2_init_75 0 rfl ?_
                refine go_iconst (pc := 76) hF dX2_init_76 ?_
                refine go_icmp_ge (pc := 77) hF 99 dX2_init_77 (by decide) ⟨by decide, by decide⟩ ⟨by decide, by decide⟩ (fun bq77 => ?_) (fun bq77 => ?_)
                · exact absurd bq77 (by decide)
                · refine go_aload_n (pc := 80) hF dX2_init_80 1 rfl ?_
                  refine go_get (pc := 81) hF fl_X2_17 dX2_init_81 (by omega) x_s29 rfl ?_
                  refine go_iload_n (pc := 84) hF dX2_init_84 0 rfl ?_
                  refine go_new (pc := 85) (k := (31, 8306)) hF (32, 8310) (N + 32) nw_X2_9 dX2_init_85 (show s.heap.size + 31 = ez E + (N + 31) by omega) (Or.inl (by omega)) (by rw [hR]; exact Nat.le_of_ble_eq_true rfl) (by rw [hR]; exact Nat.le_of_ble_eq_true rfl) rfl rfl (fun s30 u_s30 f_s30 => ?_)
                  have x_s30 : s30 i₉ = ob 2 [vr E N, vr E (N + 1), vr E (N + 2), vr E (N + 6), vi 0] := (f_s30 i₉ (by omega)).trans x_s29
                  have q0_s30 : s30 N = ar E 5 4 (up (up (up (up (fun _ => -1) 0 ((N + 7 : Nat) : Int)) 1 ((N + 11 : Nat) : Int)) 2 ((N + 15 : Nat) : Int)) 3 ((N + 19 : Nat) : Int)) := (f_s30 N (by omega)).trans q0_s29
                  have q1_s30 : s30 (N + 1) = ar E 5 3 (up (up (fun _ => -1) 0 ((N + 23 : Nat) : Int)) 1 ((N + 27 : Nat) : Int)) := (f_s30 (N + 1) (by omega)).trans u_s29
                  have q2_s30 : s30 (N + 2) = ob 4 [vr E (N + 3), vr E (N + 4), vr E (N + 5), vi 0] := (f_s30 (N + 2) (by omega)).trans q2_s29
                  have q3_s30 : s30 (N + 3) = ai E 157 (fun _ => 0) := (f_s30 (N + 3) (by omega)).trans q3_s29
                  have q4_s30 : s30 (N + 4) = ai E 512 (fun _ => -1) := (f_s30 (N + 4) (by omega)).trans q4_s29
                  have q5_s30 : s30 (N + 5) = ai E 512 (fun _ => 0) := (f_s30 (N + 5) (by omega)).trans q5_s29
                  have q6_s30 : s30 (N + 6) = ob 1 [vi 0, vi 2, vi 0, vi 10] := (f_s30 (N + 6) (by omega)).trans q6_s29
                  have q7_s30 : s30 (N + 7) = ob 4 [vr E (N + 8), vr E (N + 9), vr E (N + 10), vi 0] := (f_s30 (N + 7) (by omega)).trans q7_s29
                  have q8_s30 : s30 (N + 8) = ai E 157 (fun _ => 0) := (f_s30 (N + 8) (by omega)).trans q8_s29
                  have q9_s30 : s30 (N + 9) = ai E 512 (fun _ => -1) := (f_s30 (N + 9) (by omega)).trans q9_s29
                  have q10_s30 : s30 (N + 10) = ai E 512 (fun _ => 0) := (f_s30 (N + 10) (by omega)).trans q10_s29
                  have q11_s30 : s30 (N + 11) = ob 4 [vr E (N + 12), vr E (N + 13), vr E (N + 14), vi 0] := (f_s30 (N + 11) (by omega)).trans q11_s29
                  have q12_s30 : s30 (N + 12) = ai E 157 (fun _ => 0) := (f_s30 (N + 12) (by omega)).trans q12_s29
                  have q13_s30 : s30 (N + 13) = ai E 512 (fun _ => -1) := (f_s30 (N + 13) (by omega)).trans q13_s29
                  have q14_s30 : s30 (N + 14) = ai E 512 (fun _ => 0) := (f_s30 (N + 14) (by omega)).trans q14_s29
                  have q15_s30 : s30 (N + 15) = ob 4 [vr E (N + 16), vr E (N + 17), vr E (N + 18), vi 0] := (f_s30 (N + 15) (by omega)).trans q15_s29
                  have q16_s30 : s30 (N + 16) = ai E 157 (fun _ => 0) := (f_s30 (N + 16) (by omega)).trans q16_s29
                  have q17_s30 : s30 (N + 17) = ai E 512 (fun _ => -1) := (f_s30 (N + 17) (by omega)).trans q17_s29
                  have q18_s30 : s30 (N + 18) = ai E 512 (fun _ => 0) := (f_s30 (N + 18) (by omega)).trans q18_s29
                  have q19_s30 : s30 (N + 19) = ob 4 [vr E (N + 20), vr E (N + 21), vr E (N + 22), vi 0] := (f_s30 (N + 19) (by omega)).trans q19_s29
                  have q20_s30 : s30 (N + 20) = ai E 157 (fun _ => 0) := (f_s30 (N + 20) (by omega)).trans q20_s29
                  have q21_s30 : s30 (N + 21) = ai E 512 (fun _ => -1) := (f_s30 (N + 21) (by omega)).trans q21_s29
                  have q22_s30 : s30 (N + 22) = ai E 512 (fun _ => 0) := (f_s30 (N + 22) (by omega)).trans q22_s29
                  have q23_s30 : s30 (N + 23) = ob 4 [vr E (N + 24), vr E (N + 25), vr E (N + 26), vi 0] := (f_s30 (N + 23) (by omega)).trans q23_s29
                  have q24_s30 : s30 (N + 24) = ai E 157 (fun _ => 0) := (f_s30 (N + 24) (by omega)).trans q24_s29
                  have q25_s30 : s30 (N + 25) = ai E 512 (fun _ => -1) := (f_s30 (N + 25) (by omega)).trans q25_s29
                  have q26_s30 : s30 (N + 26) = ai E 512 (fun _ => 0) := (f_s30 (N + 26) (by omega)).trans q26_s29
                  have q27_s30 : s30 (N + 27) = ob 4 [vr E (N + 28), vr E (N + 29), vr E (N + 30), vi 0] := (f_s30 (N + 27) (by omega)).trans q27_s29
                  have q28_s30 : s30 (N + 28) = ai E 157 (fun _ => 0) := (f_s30 (N + 28) (by omega)).trans q28_s29
                  have q29_s30 : s30 (N + 29) = ai E 512 (fun _ => -1) := (f_s30 (N + 29) (by omega)).trans q29_s29
                  have q30_s30 : s30 (N + 30) = ai E 512 (fun _ => 0) := (f_s30 (N + 30) (by omega)).trans q30_s29
                  refine go_dup (pc := 88) hF dX2_init_88 rfl ?_
                  refine go_callI (pc := 89) (k := (32, 8310)) hF (35, 9491) (N + 35) mi_X2_20 dX2_init_89 (c_X4_init E (N + 32) s30 (N + 31) (by omega) u_s30) (Nat.le_of_ble_eq_true rfl) (by decide) (by rw [hR]; exact Nat.le_of_ble_eq_true rfl) (by rw [hR]; exact Nat.le_of_ble_eq_true rfl) (fun _ => (show s.heap.size + 32 = ez E + (N + 32) by omega)) (fun _ => (Or.inl (by omega))) rfl rfl (fun s31 h_s31 => ?_)
                  obtain ⟨u0_s31, u1_s31, u2_s31, u3_s31, f_s31⟩ := h_s31
                  have u0_s31' : s31 (N + 31) = ob 4 [vr E (N + 32), vr E (N + 33), vr E (N + 34), vi 0] := u0_s31
                  have u1_s31' : s31 (N + 32) = ai E 157 (fun _ => 0) := u1_s31
                  have u2_s31' : s31 (N + 33) = ai E 512 (fun _ => -1) := u2_s31
                  have u3_s31' : s31 (N + 34) = ai E 512 (fun _ => 0) := u3_s31
                  have x_s31 : s31 i₉ = ob 2 [vr E N, vr E (N + 1), vr E (N + 2), vr E (N + 6), vi 0] := (f_s31 i₉ (by omega)).trans x_s30
                  have q0_s31 : s31 N = ar E 5 4 (up (up (up (up (fun _ => -1) 0 ((N + 7 : Nat) : Int)) 1 ((N + 11 : Nat) : Int)) 2 ((N + 15 : Nat) : Int)) 3 ((N + 19 : Nat) : Int)) := (f_s31 N (by omega)).trans q0_s30
                  have q1_s31 : s31 (N + 1) = ar E 5 3 (up (up (fun _ => -1) 0 ((N + 23 : Nat) : Int)) 1 ((N + 27 : Nat) : Int)) := (f_s31 (N + 1) (by omega)).trans q1_s30
                  have q2_s31 : s31 (N + 2) = ob 4 [vr E (N + 3), vr E (N + 4), vr E (N + 5), vi 0] := (f_s31 (N + 2) (by omega)).trans q2_s30
                  have q3_s31 : s31 (N + 3) = ai E 157 (fun _ => 0) := (f_s31 (N + 3) (by omega)).trans q3_s30
                  have q4_s31 : s31 (N + 4) = ai E 512 (fun _ => -1) := (f_s31 (N + 4) (by omega)).trans q4_s30
                  have q5_s31 : s31 (N + 5) = ai E 512 (fun _ => 0) := (f_s31 (N + 5) (by omega)).trans q5_s30
                  have q6_s31 : s31 (N + 6) = ob 1 [vi 0, vi 2, vi 0, vi 10] := (f_s31 (N + 6) (by omega)).trans q6_s30
                  have q7_s31 : s31 (N + 7) = ob 4 [vr E (N + 8), vr E (N + 9), vr E (N + 10), vi 0] := (f_s31 (N + 7) (by omega)).trans q7_s30
                  have q8_s31 : s31 (N + 8) = ai E 157 (fun _ => 0) := (f_s31 (N + 8) (by omega)).trans q8_s30
                  have q9_s31 : s31 (N + 9) = ai E 512 (fun _ => -1) := (f_s31 (N + 9) (by omega)).trans q9_s30
                  have q10_s31 : s31 (N + 10) = ai E 512 (fun _ => 0) := (f_s31 (N + 10) (by omega)).trans q10_s30
                  have q11_s31 : s31 (N + 11) = ob 4 [vr E (N + 12), vr E (N + 13), vr E (N + 14), vi 0] := (f_s31 (N + 11) (by omega)).trans q11_s30
                  have q12_s31 : s31 (N + 12) = ai E 157 (fun _ => 0) := (f_s31 (N + 12) (by omega)).trans q12_s30
                  have q13_s31 : s31 (N + 13) = ai E 512 (fun _ => -1) := (f_s31 (N + 13) (by omega)).trans q13_s30
                  have q14_s31 : s31 (N + 14) = ai E 512 (fun _ => 0) := (f_s31 (N + 14) (by omega)).trans q14_s30
                  have q15_s31 : s31 (N + 15) = ob 4 [vr E (N + 16), vr E (N + 17), vr E (N + 18), vi 0] := (f_s31 (N + 15) (by omega)).trans q15_s30
                  have q16_s31 : s31 (N + 16) = ai E 157 (fun _ => 0) := (f_s31 (N + 16) (by omega)).trans q16_s30
                  have q17_s31 : s31 (N + 17) = ai E 512 (fun _ => -1) := (f_s31 (N + 17) (by omega)).trans q17_s30
                  have q18_s31 : s31 (N + 18) = ai E 512 (fun _ => 0) := (f_s31 (N + 18) (by omega)).trans q18_s30
                  have q19_s31 : s31 (N + 19) = ob 4 [vr E (N + 20), vr E (N + 21), vr E (N + 22), vi 0] := (f_s31 (N + 19) (by omega)).trans q19_s30
                  have q20_s31 : s31 (N + 20) = ai E 157 (fun _ => 0) := (f_s31 (N + 20) (by omega)).trans q20_s30
                  have q21_s31 : s31 (N + 21) = ai E 512 (fun _ => -1) := (f_s31 (N + 21) (by omega)).trans q21_s30
                  have q22_s31 : s31 (N + 22) = ai E 512 (fun _ => 0) := (f_s31 (N + 22) (by omega)).trans q22_s30
                  have q23_s31 : s31 (N + 23) = ob 4 [vr E (N + 24), vr E (N + 25), vr E (N + 26), vi 0] := (f_s31 (N + 23) (by omega)).trans q23_s30
                  have q24_s31 : s31 (N + 24) = ai E 157 (fun _ => 0) := (f_s31 (N + 24) (by omega)).trans q24_s30
                  have q25_s31 : s31 (N + 25) = ai E 512 (fun _ => -1) := (f_s31 (N + 25) (by omega)).trans q25_s30
                  have q26_s31 : s31 (N + 26) = ai E 512 (fun _ => 0) := (f_s31 (N + 26) (by omega)).trans q26_s30
                  have q27_s31 : s31 (N + 27) = ob 4 [vr E (N + 28), vr E (N + 29), vr E (N + 30), vi 0] := (f_s31 (N + 27) (by omega)).trans q27_s30
                  have q28_s31 : s31 (N + 28) = ai E 157 (fun _ => 0) := (f_s31 (N + 28) (by omega)).trans q28_s30
                  have q29_s31 : s31 (N + 29) = ai E 512 (fun _ => -1) := (f_s31 (N + 29) (by omega)).trans q29_s30
                  have q30_s31 : s31 (N + 30) = ai E 512 (fun _ => 0) := (f_s31 (N + 30) (by omega)).trans q30_s30
                  refine go_aast (pc := 92) hF 5 4 dX2_init_92 rfl rfl (by omega) q1_s31 (by omega) u0_s31' ⟨by decide, by decide⟩ (fun s32 u_s32 f_s32 => ?_)
                  have x_s32 : s32 i₉ = ob 2 [vr E N, vr E (N + 1), vr E (N + 2), vr E (N + 6), vi 0] := (f_s32 i₉ (by omega)).trans x_s31
                  have q0_s32 : s32 N = ar E 5 4 (up (up (up (up (fun _ => -1) 0 ((N + 7 : Nat) : Int)) 1 ((N + 11 : Nat) : Int)) 2 ((N + 15 : Nat) : Int)) 3 ((N + 19 : Nat) : Int)) := (f_s32 N (by omega)).trans q0_s31
                  have q2_s32 : s32 (N + 2) = ob 4 [vr E (N + 3), vr E (N + 4), vr E (N + 5), vi 0] := (f_s32 (N + 2) (by omega)).trans q2_s31
                  have q3_s32 : s32 (N + 3) = ai E 157 (fun _ => 0) := (f_s32 (N + 3) (by omega)).trans q3_s31
                  have q4_s32 : s32 (N + 4) = ai E 512 (fun _ => -1) := (f_s32 (N + 4) (by omega)).trans q4_s31
                  have q5_s32 : s32 (N + 5) = ai E 512 (fun _ => 0) := (f_s32 (N + 5) (by omega)).trans q5_s31
                  have q6_s32 : s32 (N + 6) = ob 1 [vi 0, vi 2, vi 0, vi 10] := (f_s32 (N + 6) (by omega)).trans q6_s31
                  have q7_s32 : s32 (N + 7) = ob 4 [vr E (N + 8), vr E (N + 9), vr E (N + 10), vi 0] := (f_s32 (N + 7) (by omega)).trans q7_s31
                  have q8_s32 : s32 (N + 8) = ai E 157 (fun _ => 0) := (f_s32 (N + 8) (by omega)).trans q8_s31
                  have q9_s32 : s32 (N + 9) = ai E 512 (fun _ => -1) := (f_s32 (N + 9) (by omega)).trans q9_s31
                  have q10_s32 : s32 (N + 10) = ai E 512 (fun _ => 0) := (f_s32 (N + 10) (by omega)).trans q10_s31
                  have q11_s32 : s32 (N + 11) = ob 4 [vr E (N + 12), vr E (N + 13), vr E (N + 14), vi 0] := (f_s32 (N + 11) (by omega)).trans q11_s31
                  have q12_s32 : s32 (N + 12) = ai E 157 (fun _ => 0) := (f_s32 (N + 12) (by omega)).trans q12_s31
                  have q13_s32 : s32 (N + 13) = ai E 512 (fun _ => -1) := (f_s32 (N + 13) (by omega)).trans q13_s31
                  have q14_s32 : s32 (N + 14) = ai E 512 (fun _ => 0) := (f_s32 (N + 14) (by omega)).trans q14_s31
                  have q15_s32 : s32 (N + 15) = ob 4 [vr E (N + 16), vr E (N + 17), vr E (N + 18), vi 0] := (f_s32 (N + 15) (by omega)).trans q15_s31
                  have q16_s32 : s32 (N + 16) = ai E 157 (fun _ => 0) := (f_s32 (N + 16) (by omega)).trans q16_s31
                  have q17_s32 : s32 (N + 17) = ai E 512 (fun _ => -1) := (f_s32 (N + 17) (by omega)).trans q17_s31
                  have q18_s32 : s32 (N + 18) = ai E 512 (fun _ => 0) := (f_s32 (N + 18) (by omega)).trans q18_s31
                  have q19_s32 : s32 (N + 19) = ob 4 [vr E (N + 20), vr E (N + 21), vr E (N + 22), vi 0] := (f_s32 (N + 19) (by omega)).trans q19_s31
                  have q20_s32 : s32 (N + 20) = ai E 157 (fun _ => 0) := (f_s32 (N + 20) (by omega)).trans q20_s31
                  have q21_s32 : s32 (N + 21) = ai E 512 (fun _ => -1) := (f_s32 (N + 21) (by omega)).trans q21_s31
                  have q22_s32 : s32 (N + 22) = ai E 512 (fun _ => 0) := (f_s32 (N + 22) (by omega)).trans q22_s31
                  have q23_s32 : s32 (N + 23) = ob 4 [vr E (N + 24), vr E (N + 25), vr E (N + 26), vi 0] := (f_s32 (N + 23) (by omega)).trans q23_s31
                  have q24_s32 : s32 (N + 24) = ai E 157 (fun _ => 0) := (f_s32 (N + 24) (by omega)).trans q24_s31
                  have q25_s32 : s32 (N + 25) = ai E 512 (fun _ => -1) := (f_s32 (N + 25) (by omega)).trans q25_s31
                  have q26_s32 : s32 (N + 26) = ai E 512 (fun _ => 0) := (f_s32 (N + 26) (by omega)).trans q26_s31
                  have q27_s32 : s32 (N + 27) = ob 4 [vr E (N + 28), vr E (N + 29), vr E (N + 30), vi 0] := (f_s32 (N + 27) (by omega)).trans q27_s31
                  have q28_s32 : s32 (N + 28) = ai E 157 (fun _ => 0) := (f_s32 (N + 28) (by omega)).trans q28_s31
                  have q29_s32 : s32 (N + 29) = ai E 512 (fun _ => -1) := (f_s32 (N + 29) (by omega)).trans q29_s31
                  have q30_s32 : s32 (N + 30) = ai E 512 (fun _ => 0) := (f_s32 (N + 30) (by omega)).trans q30_s31
                  have q31_s32 : s32 (N + 31) = ob 4 [vr E (N + 32), vr E (N + 33), vr E (N + 34), vi 0] := (f_s32 (N + 31) (by omega)).trans u0_s31'
                  have q32_s32 : s32 (N + 32) = ai E 157 (fun _ => 0) := (f_s32 (N + 32) (by omega)).trans u1_s31'
                  have q33_s32 : s32 (N + 33) = ai E 512 (fun _ => -1) := (f_s32 (N + 33) (by omega)).trans u2_s31'
                  have q34_s32 : s32 (N + 34) = ai E 512 (fun _ => 0) := (f_s32 (N + 34) (by omega)).trans u3_s31'
                  refine go_iinc (pc := 93) hF [(1, vi 3), (0, vr E i₉)] dX2_init_93 0 rfl rfl (by decide) ?_
                  refine go_goto (pc := 96) hF 75 dX2_init_96 (by decide) ?_
                  refine go_iload_n (pc := 75) hF dX2_init_75 0 rfl ?_
                  refine go_iconst (pc := 76) hF dX2_init_76 ?_
                  refine go_icmp_ge (pc := 77) hF 99 dX2_init_77 (by decide) ⟨by decide, by decide⟩ ⟨by decide, by decide⟩ (fun bq77 => ?_) (fun bq77 => ?_)
                  · exact go_vretK hF hr hlk hQ rfl rfl dX2_init_99 ⟨x_s32, q0_s32, u_s32, q2_s32, q3_s32, q4_s32, q5_s32, q6_s32, q7_s32, q8_s32, q9_s32, q10_s32, q11_s32, q12_s32, q13_s32, q14_s32, q15_s32, q16_s32, q17_s32, q18_s32, q19_s32, q20_s32, q21_s32, q22_s32, q23_s32, q24_s32, q25_s32, q26_s32, q27_s32, q28_s32, q29_s32, q30_s32, q31_s32, q32_s32, q33_s32, q34_s32, (fun jj h1 => by rw [f_s32 jj (by omega), f_s31 jj (by omega), f_s30 jj (by omega), f_s29 jj (by omega), f_s28 jj (by omega), f_s27 jj (by omega), f_s26 jj (by omega), f_s25 jj (by omega), f_s24 jj (by omega), f_s23 jj (by omega), f_s22 jj (by omega), f_s21 jj (by omega), f_s20 jj (by omega), f_s19 jj (by omega), f_s18 jj (by omega), f_s17 jj (by omega), f_s16 jj (by omega), f_s15 jj (by omega), f_s14 jj (by omega), f_s13 jj (by omega), f_s12 jj (by omega), f_s11 jj (by omega), f_s10 jj (by omega), f_s9 jj (by omega), f_s8 jj (by omega), f_s7 jj (by omega), f_s6 jj (by omega), f_s5 jj (by omega), f_s4 jj (by omega), f_s3 jj (by omega), f_s2 jj (by omega), f_s1 jj (by omega)])⟩
                  · exact absurd bq77 (by decide)
          · exact absurd bq51 (by decide)
