/-! The class at first. -/
set_option maxHeartbeats 4000000 in
set_option maxRecDepth 100000 in
theorem c_X10_init (E : En) (σ : Nat → va_E) (hi0₉ : σ 0 = ob 9 [.null, .null, .null, .null, vi 0, .null, .null, .null, .null, .null, .null, vi 0, vi 0, vi 0]) : CK E M_X10_init 8 93 10563 [vr E 0] 1 σ (fun σ' => clS E σ' 0 2 0 10 (fun _ => 0) (fun _ => 0) (fun _ => 0) (fun _ => 0) 0 (fun _ => 0) 0 .nil 0 0 0 0 0 0 ∧ ∀ q₉, (q₉ < 1 ∧ q₉ ≠ 0) → σ' q₉ = σ q₉) := by
  refine CT.of2 (own := RX10) (by decide) rfl (Nat.le_of_ble_eq_true rfl) ?_
  intro p e R s m args below meth c Q hF hr hlk hnm hz hR hQ
  have hz0 := hz (by decide)
  refine go_aload_n (pc := 0) hF dX10_init_0 0 rfl ?_
  refine go_objInit (pc := 1) hF ol_X10_1 oi_1 oi_2 dX10_init_1 (Nat.le_of_ble_eq_true rfl) (by decide) ?_
  refine go_aload_n (pc := 4) hF dX10_init_4 0 rfl ?_
  refine go_new (pc := 5) (k := (0, 0)) hF (1, 4) (2) nw_X10_7 dX10_init_5 (show s.heap.size + 0 = ez E + (1) by omega) (Or.inl (by omega)) (by rw [hR]; exact Nat.le_of_ble_eq_true rfl) (by rw [hR]; exact Nat.le_of_ble_eq_true rfl) rfl rfl (fun s1₉ u_s1 f_s1 => ?_)
  have x_s1 : s1₉ 0 = ob 9 [.null, .null, .null, .null, vi 0, .null, .null, .null, .null, .null, .null, vi 0, vi 0, vi 0] := (f_s1 0 (by decide)).trans hi0₉
  refine go_dup (pc := 8) hF dX10_init_8 rfl ?_
  refine go_callIN (pc := 9) (k := (1, 4)) hF (1, 4) (2) mi_X10_9 dX10_init_9 (c_X1_init E (2) s1₉ 1 (by omega) u_s1) (Nat.le_of_ble_eq_true rfl) (by decide) (by rw [hR]; exact Nat.le_of_ble_eq_true rfl) (by rw [hR]; exact Nat.le_of_ble_eq_true rfl) (fun _ => (show s.heap.size + 1 = ez E + (2) by omega)) (fun _ => (Or.inl (by omega))) rfl rfl (fun s2₉ h_s2 => ?_)
  obtain ⟨u0_s2, f_s2⟩ := h_s2
  have u0_s2' : s2₉ 1 = ob 1 [vi 0, vi 2, vi 0, vi 10] := u0_s2
  have x_s2 : s2₉ 0 = ob 9 [.null, .null, .null, .null, vi 0, .null, .null, .null, .null, .null, .null, vi 0, vi 0, vi 0] := (f_s2 0 (by decide)).trans x_s1
  refine go_putF (pc := 12) hF [vr E 1, .null, .null, .null, vi 0, .null, .null, .null, .null, .null, .null, vi 0, vi 0, vi 0] fl_X10_10 (fun C₉ T n₉ h => by have e9₉ : some (C₉, T, n₉) = some (RX10, TX10, 14) := h.symm; cases e9₉; rfl) hnm dX10_init_12 (by omega) x_s2 rfl rfl rfl (Nat.le_of_ble_eq_true rfl) (fun s3₉ u_s3 f_s3 => ?_)
  have q1_s3 : s3₉ 1 = ob 1 [vi 0, vi 2, vi 0, vi 10] := (f_s3 1 (by decide)).trans u0_s2'
  refine go_aload_n (pc := 15) hF dX10_init_15 0 rfl ?_
  refine go_new (pc := 16) (k := (1, 4)) hF (2, 8) (3) nw_X10_7 dX10_init_16 (show s.heap.size + 1 = ez E + (2) by omega) (Or.inl (by omega)) (by rw [hR]; exact Nat.le_of_ble_eq_true rfl) (by rw [hR]; exact Nat.le_of_ble_eq_true rfl) rfl rfl (fun s4₉ u_s4 f_s4 => ?_)
  have x_s4 : s4₉ 0 = ob 9 [vr E 1, .null, .null, .null, vi 0, .null, .null, .null, .null, .null, .null, vi 0, vi 0, vi 0] := (f_s4 0 (by decide)).trans u_s3
  have q1_s4 : s4₉ 1 = ob 1 [vi 0, vi 2, vi 0, vi 10] := (f_s4 1 (by decide)).trans q1_s3
  refine go_dup (pc := 19) hF dX10_init_19 rfl ?_
  refine go_callIN (pc := 20) (k := (2, 8)) hF (2, 8) (3) mi_X10_9 dX10_init_20 (c_X1_init E (3) s4₉ 2 (by omega) u_s4) (Nat.le_of_ble_eq_true rfl) (by decide) (by rw [hR]; exact Nat.le_of_ble_eq_true rfl) (by rw [hR]; exact Nat.le_of_ble_eq_true rfl) (fun _ => (show s.heap.size + 2 = ez E + (3) by omega)) (fun _ => (Or.inl (by omega))) rfl rfl (fun s5 h_s5 => ?_)
  obtain ⟨u0_s5, f_s5⟩ := h_s5
  have u0_s5' : s5 2 = ob 1 [vi 0, vi 2, vi 0, vi 10] := u0_s5
  have x_s5 : s5 0 = ob 9 [vr E 1, .null, .null, .null, vi 0, .null, .null, .null, .null, .null, .null, vi 0, vi 0, vi 0] := (f_s5 0 (by decide)).trans x_s4
  have q1_s5 : s5 1 = ob 1 [vi 0, vi 2, vi 0, vi 10] := (f_s5 1 (by decide)).trans q1_s4
  refine go_putF (pc := 23) hF [vr E 1, vr E 2, .null, .null, vi 0, .null, .null, .null, .null, .null, .null, vi 0, vi 0, vi 0] fl_X10_16 (fun C₉ T n₉ h => by have e9₉ : some (C₉, T, n₉) = some (RX10, TX10, 14) := h.symm; cases e9₉; rfl) hnm dX10_init_23 (by omega) x_s5 rfl rfl rfl (Nat.le_of_ble_eq_true rfl) (fun s6₉ u_s6 f_s6 => ?_)
  have q1_s6 : s6₉ 1 = ob 1 [vi 0, vi 2, vi 0, vi 10] := (f_s6 1 (by decide)).trans q1_s5
  have q2_s6 : s6₉ 2 = ob 1 [vi 0, vi 2, vi 0, vi 10] := (f_s6 2 (by decide)).trans u0_s5'
  refine go_aload_n (pc := 26) hF dX10_init_26 0 rfl ?_
  refine go_new (pc := 27) (k := (2, 8)) hF (3, 11) (4) nw_X10_19 dX10_init_27 (show s.heap.size + 2 = ez E + (3) by omega) (Or.inl (by omega)) (by rw [hR]; exact Nat.le_of_ble_eq_true rfl) (by rw [hR]; exact Nat.le_of_ble_eq_true rfl) rfl rfl (fun s7 u_s7 f_s7 => ?_)
  have x_s7 : s7 0 = ob 9 [vr E 1, vr E 2, .null, .null, vi 0, .null, .null, .null, .null, .null, .null, vi 0, vi 0, vi 0] := (f_s7 0 (by decide)).trans u_s6
  have q1_s7 : s7 1 = ob 1 [vi 0, vi 2, vi 0, vi 10] := (f_s7 1 (by decide)).trans q1_s6
  have q2_s7 : s7 2 = ob 1 [vi 0, vi 2, vi 0, vi 10] := (f_s7 2 (by decide)).trans q2_s6
  refine go_dup (pc := 30) hF dX10_init_30 rfl ?_
  refine go_callI (pc := 31) (k := (3, 11)) hF (12, 51) (13) mi_X10_21 dX10_init_31 (c_X5_init E (4) s7 3 (by omega) u_s7) (Nat.le_of_ble_eq_true rfl) (by decide) (by rw [hR]; exact Nat.le_of_ble_eq_true rfl) (by rw [hR]; exact Nat.le_of_ble_eq_true rfl) (fun _ => (show s.heap.size + 3 = ez E + (4) by omega)) (fun _ => (Or.inl (by omega))) rfl rfl (fun s8 h_s8 => ?_)
  obtain ⟨u0_s8, u1_s8, u2_s8, u3_s8, u4_s8, u5_s8, u6_s8, u7_s8, u8_s8, u9_s8, f_s8⟩ := h_s8
  have u0_s8' : s8 3 = ob 5 [vr E 4, vi 0, vi 0] := u0_s8
  have u1_s8' : s8 4 = ar E 4 8 (up (up (up (up (up (up (up (up (fun _ => -1) 0 ((5 : Nat) : Int)) 1 ((6 : Nat) : Int)) 2 ((7 : Nat) : Int)) 3 ((8 : Nat) : Int)) 4 ((9 : Nat) : Int)) 5 ((10 : Nat) : Int)) 6 ((11 : Nat) : Int)) 7 ((12 : Nat) : Int)) := u1_s8
  have u2_s8' : s8 5 = ob 1 [vi 0, vi 2, vi 0, vi 10] := u2_s8
  have u3_s8' : s8 6 = ob 1 [vi 0, vi 2, vi 0, vi 10] := u3_s8
  have u4_s8' : s8 7 = ob 1 [vi 0, vi 2, vi 0, vi 10] := u4_s8
  have u5_s8' : s8 8 = ob 1 [vi 0, vi 2, vi 0, vi 10] := u5_s8
  have u6_s8' : s8 9 = ob 1 [vi 0, vi 2, vi 0, vi 10] := u6_s8
  have u7_s8' : s8 10 = ob 1 [vi 0, vi 2, vi 0, vi 10] := u7_s8
  have u8_s8' : s8 11 = ob 1 [vi 0, vi 2, vi 0, vi 10] := u8_s8
  have u9_s8' : s8 12 = ob 1 [vi 0, vi 2, vi 0, vi 10] := u9_s8
  have x_s8 : s8 0 = ob 9 [vr E 1, vr E 2, .null, .null, vi 0, .null, .null, .null, .null, .null, .null, vi 0, vi 0, vi 0] := (f_s8 0 (by decide)).trans x_s7
  have q1_s8 : s8 1 = ob 1 [vi 0, vi 2, vi 0, vi 10] := (f_s8 1 (by decide)).trans q1_s7
  have q2_s8 : s8 2 = ob 1 [vi 0, vi 2, vi 0, vi 10] := (f_s8 2 (by decide)).trans q2_s7
  refine go_putF (pc := 34) hF [vr E 1, vr E 2, vr E 3, .null, vi 0, .null, .null, .null, .null, .null, .null, vi 0, vi 0, vi 0] fl_X10_22 (fun C₉ T n₉ h => by have e9₉ : some (C₉, T, n₉) = some (RX10, TX10, 14) := h.symm; cases e9₉; rfl) hnm dX10_init_34 (by omega) x_s8 rfl rfl rfl (Nat.le_of_ble_eq_true rfl) (fun s9 u_s9 f_s9 => ?_)
  have q1_s9 : s9 1 = ob 1 [vi 0, vi 2, vi 0, vi 10] := (f_s9 1 (by decide)).trans q1_s8
  have q2_s9 : s9 2 = ob 1 [vi 0, vi 2, vi 0, vi 10] := (f_s9 2 (by decide)).trans q2_s8
  have q3_s9 : s9 3 = ob 5 [vr E 4, vi 0, vi 0] := (f_s9 3 (by decide)).trans u0_s8'
  have q4_s9 : s9 4 = ar E 4 8 (up (up (up (up (up (up (up (up (fun _ => -1) 0 ((5 : Nat) : Int)) 1 ((6 : Nat) : Int)) 2 ((7 : Nat) : Int)) 3 ((8 : Nat) : Int)) 4 ((9 : Nat) : Int)) 5 ((10 : Nat) : Int)) 6 ((11 : Nat) : Int)) 7 ((12 : Nat) : Int)) := (f_s9 4 (by decide)).trans u1_s8'
  have q5_s9 : s9 5 = ob 1 [vi 0, vi 2, vi 0, vi 10] := (f_s9 5 (by decide)).trans u2_s8'
  have q6_s9 : s9 6 = ob 1 [vi 0, vi 2, vi 0, vi 10] := (f_s9 6 (by decide)).trans u3_s8'
  have q7_s9 : s9 7 = ob 1 [vi 0, vi 2, vi 0, vi 10] := (f_s9 7 (by decide)).trans u4_s8'
  have q8_s9 : s9 8 = ob 1 [vi 0, vi 2, vi 0, vi 10] := (f_s9 8 (by decide)).trans u5_s8'
  have q9_s9 : s9 9 = ob 1 [vi 0, vi 2, vi 0, vi 10] := (f_s9 9 (by decide)).trans u6_s8'
  have q10_s9 : s9 10 = ob 1 [vi 0, vi 2, vi 0, vi 10] := (f_s9 10 (by decide)).trans u7_s8'
  have q11_s9 : s9 11 = ob 1 [vi 0, vi 2, vi 0, vi 10] := (f_s9 11 (by decide)).trans u8_s8'
  have q12_s9 : s9 12 = ob 1 [vi 0, vi 2, vi 0, vi 10] := (f_s9 12 (by decide)).trans u9_s8'
  refine go_aload_n (pc := 37) hF dX10_init_37 0 rfl ?_
  refine go_bipush (pc := 38) hF dX10_init_38 (by decide) ?_
  refine go_newa (pc := 40) (k := (12, 51)) hF (13, 131) (14) 0 80 (a0 := (80, .inl (fun _ => iI 0))) ac_int rfl rfl (fun _ _ h => h) (fun cA₉ => rfl) (by decide) (by decide) (Nat.le_of_ble_eq_true rfl) dX10_init_40 (show s.heap.size + 12 = ez E + (13) by omega) (Or.inl (by omega)) (by rw [hR]; exact Nat.le_of_ble_eq_true rfl) (by rw [hR]; exact Nat.le_of_ble_eq_true rfl) rfl rfl (fun s10 u_s10 f_s10 => ?_)
  have u_s10 : s10 13 = ai E 80 (fun _ => 0) := u_s10
  have x_s10 : s10 0 = ob 9 [vr E 1, vr E 2, vr E 3, .null, vi 0, .null, .null, .null, .null, .null, .null, vi 0, vi 0, vi 0] := (f_s10 0 (by decide)).trans u_s9
  have q1_s10 : s10 1 = ob 1 [vi 0, vi 2, vi 0, vi 10] := (f_s10 1 (by decide)).trans q1_s9
  have q2_s10 : s10 2 = ob 1 [vi 0, vi 2, vi 0, vi 10] := (f_s10 2 (by decide)).trans q2_s9
  have q3_s10 : s10 3 = ob 5 [vr E 4, vi 0, vi 0] := (f_s10 3 (by decide)).trans q3_s9
  have q4_s10 : s10 4 = ar E 4 8 (up (up (up (up (up (up (up (up (fun _ => -1) 0 ((5 : Nat) : Int)) 1 ((6 : Nat) : Int)) 2 ((7 : Nat) : Int)) 3 ((8 : Nat) : Int)) 4 ((9 : Nat) : Int)) 5 ((10 : Nat) : Int)) 6 ((11 : Nat) : Int)) 7 ((12 : Nat) : Int)) := (f_s10 4 (by decide)).trans q4_s9
  have q5_s10 : s10 5 = ob 1 [vi 0, vi 2, vi 0, vi 10] := (f_s10 5 (by decide)).trans q5_s9
  have q6_s10 : s10 6 = ob 1 [vi 0, vi 2, vi 0, vi 10] := (f_s10 6 (by decide)).trans q6_s9
  have q7_s10 : s10 7 = ob 1 [vi 0, vi 2, vi 0, vi 10] := (f_s10 7 (by decide)).trans q7_s9
  have q8_s10 : s10 8 = ob 1 [vi 0, vi 2, vi 0, vi 10] := (f_s10 8 (by decide)).trans q8_s9
  have q9_s10 : s10 9 = ob 1 [vi 0, vi 2, vi 0, vi 10] := (f_s10 9 (by decide)).trans q9_s9
  have q10_s10 : s10 10 = ob 1 [vi 0, vi 2, vi 0, vi 10] := (f_s10 10 (by decide)).trans q10_s9
  have q11_s10 : s10 11 = ob 1 [vi 0, vi 2, vi 0, vi 10] := (f_s10 11 (by decide)).trans q11_s9
  have q12_s10 : s10 12 = ob 1 [vi 0, vi 2, vi 0, vi 10] := (f_s10 12 (by decide)).trans q12_s9
  refine go_putF (pc := 42) hF [vr E 1, vr E 2, vr E 3, vr E 13, vi 0, .null, .null, .null, .null, .null, .null, vi 0, vi 0, vi 0] fl_X10_26 (fun C₉ T n₉ h => by have e9₉ : some (C₉, T, n₉) = some (RX10, TX10, 14) := h.symm; cases e9₉; rfl) hnm dX10_init_42 (by omega) x_s10 rfl rfl rfl (Nat.le_of_ble_eq_true rfl) (fun s11 u_s11 f_s11 => ?_)
  have q1_s11 : s11 1 = ob 1 [vi 0, vi 2, vi 0, vi 10] := (f_s11 1 (by decide)).trans q1_s10
  have q2_s11 : s11 2 = ob 1 [vi 0, vi 2, vi 0, vi 10] := (f_s11 2 (by decide)).trans q2_s10
  have q3_s11 : s11 3 = ob 5 [vr E 4, vi 0, vi 0] := (f_s11 3 (by decide)).trans q3_s10
  have q4_s11 : s11 4 = ar E 4 8 (up (up (up (up (up (up (up (up (fun _ => -1) 0 ((5 : Nat) : Int)) 1 ((6 : Nat) : Int)) 2 ((7 : Nat) : Int)) 3 ((8 : Nat) : Int)) 4 ((9 : Nat) : Int)) 5 ((10 : Nat) : Int)) 6 ((11 : Nat) : Int)) 7 ((12 : Nat) : Int)) := (f_s11 4 (by decide)).trans q4_s10
  have q5_s11 : s11 5 = ob 1 [vi 0, vi 2, vi 0, vi 10] := (f_s11 5 (by decide)).trans q5_s10
  have q6_s11 : s11 6 = ob 1 [vi 0, vi 2, vi 0, vi 10] := (f_s11 6 (by decide)).trans q6_s10
  have q7_s11 : s11 7 = ob 1 [vi 0, vi 2, vi 0, vi 10] := (f_s11 7 (by decide)).trans q7_s10
  have q8_s11 : s11 8 = ob 1 [vi 0, vi 2, vi 0, vi 10] := (f_s11 8 (by decide)).trans q8_s10
  have q9_s11 : s11 9 = ob 1 [vi 0, vi 2, vi 0, vi 10] := (f_s11 9 (by decide)).trans q9_s10
  have q10_s11 : s11 10 = ob 1 [vi 0, vi 2, vi 0, vi 10] := (f_s11 10 (by decide)).trans q10_s10
  have q11_s11 : s11 11 = ob 1 [vi 0, vi 2, vi 0, vi 10] := (f_s11 11 (by decide)).trans q11_s10
  have q12_s11 : s11 12 = ob 1 [vi 0, vi 2, vi 0, vi 10] := (f_s11 12 (by decide)).trans q12_s10
  have q13_s11 : s11 13 = ai E 80 (fun _ => 0) := (f_s11 13 (by decide)).trans u_s10
  refine go_aload_n (pc := 45) hF dX10_init_45 0 rfl ?_
  refine go_iconst (pc := 46) hF dX10_init_46 ?_
  refine go_put (pc := 47) hF [vr E 1, vr E 2, vr E 3, vr E 13, vi 0, .null, .null, .null, .null, .null, .null, vi 0, vi 0, vi 0] fl_X10_30 dX10_init_47 (by omega) u_s11 rfl rfl rfl (Nat.le_of_ble_eq_true rfl) (fun s12 u_s12 f_s12 => ?_)
  have q1_s12 : s12 1 = ob 1 [vi 0, vi 2, vi 0, vi 10] := (f_s12 1 (by decide)).trans q1_s11
  have q2_s12 : s12 2 = ob 1 [vi 0, vi 2, vi 0, vi 10] := (f_s12 2 (by decide)).trans q2_s11
  have q3_s12 : s12 3 = ob 5 [vr E 4, vi 0, vi 0] := (f_s12 3 (by decide)).trans q3_s11
  have q4_s12 : s12 4 = ar E 4 8 (up (up (up (up (up (up (up (up (fun _ => -1) 0 ((5 : Nat) : Int)) 1 ((6 : Nat) : Int)) 2 ((7 : Nat) : Int)) 3 ((8 : Nat) : Int)) 4 ((9 : Nat) : Int)) 5 ((10 : Nat) : Int)) 6 ((11 : Nat) : Int)) 7 ((12 : Nat) : Int)) := (f_s12 4 (by decide)).trans q4_s11
  have q5_s12 : s12 5 = ob 1 [vi 0, vi 2, vi 0, vi 10] := (f_s12 5 (by decide)).trans q5_s11
  have q6_s12 : s12 6 = ob 1 [vi 0, vi 2, vi 0, vi 10] := (f_s12 6 (by decide)).trans q6_s11
  have q7_s12 : s12 7 = ob 1 [vi 0, vi 2, vi 0, vi 10] := (f_s12 7 (by decide)).trans q7_s11
  have q8_s12 : s12 8 = ob 1 [vi 0, vi 2, vi 0, vi 10] := (f_s12 8 (by decide)).trans q8_s11
  have q9_s12 : s12 9 = ob 1 [vi 0, vi 2, vi 0, vi 10] := (f_s12 9 (by decide)).trans q9_s11
  have q10_s12 : s12 10 = ob 1 [vi 0, vi 2, vi 0, vi 10] := (f_s12 10 (by decide)).trans q10_s11
  have q11_s12 : s12 11 = ob 1 [vi 0, vi 2, vi 0, vi 10] := (f_s12 11 (by decide)).trans q11_s11
  have q12_s12 : s12 12 = ob 1 [vi 0, vi 2, vi 0, vi 10] := (f_s12 12 (by decide)).trans q12_s11
  have q13_s12 : s12 13 = ai E 80 (fun _ => 0) := (f_s12 13 (by decide)).trans q13_s11
  refine go_aload_n (pc := 50) hF dX10_init_50 0 rfl ?_
  refine go_new (pc := 51) (k := (13, 131)) hF (14, 135) (15) nw_X10_34 dX10_init_51 (show s.heap.size + 13 = ez E + (14) by omega) (Or.inl (by omega)) (by rw [hR]; exact Nat.le_of_ble_eq_true rfl) (by rw [hR]; exact Nat.le_of_ble_eq_true rfl) rfl rfl (fun s13 u_s13 f_s13 => ?_)
  have x_s13 : s13 0 = ob 9 [vr E 1, vr E 2, vr E 3, vr E 13, vi 0, .null, .null, .null, .null, .null, .null, vi 0, vi 0, vi 0] := (f_s13 0 (by decide)).trans u_s12
  have q1_s13 : s13 1 = ob 1 [vi 0, vi 2, vi 0, vi 10] := (f_s13 1 (by decide)).trans q1_s12
  have q2_s13 : s13 2 = ob 1 [vi 0, vi 2, vi 0, vi 10] := (f_s13 2 (by decide)).trans q2_s12
  have q3_s13 : s13 3 = ob 5 [vr E 4, vi 0, vi 0] := (f_s13 3 (by decide)).trans q3_s12
  have q4_s13 : s13 4 = ar E 4 8 (up (up (up (up (up (up (up (up (fun _ => -1) 0 ((5 : Nat) : Int)) 1 ((6 : Nat) : Int)) 2 ((7 : Nat) : Int)) 3 ((8 : Nat) : Int)) 4 ((9 : Nat) : Int)) 5 ((10 : Nat) : Int)) 6 ((11 : Nat) : Int)) 7 ((12 : Nat) : Int)) := (f_s13 4 (by decide)).trans q4_s12
  have q5_s13 : s13 5 = ob 1 [vi 0, vi 2, vi 0, vi 10] := (f_s13 5 (by decide)).trans q5_s12
  have q6_s13 : s13 6 = ob 1 [vi 0, vi 2, vi 0, vi 10] := (f_s13 6 (by decide)).trans q6_s12
  have q7_s13 : s13 7 = ob 1 [vi 0, vi 2, vi 0, vi 10] := (f_s13 7 (by decide)).trans q7_s12
  have q8_s13 : s13 8 = ob 1 [vi 0, vi 2, vi 0, vi 10] := (f_s13 8 (by decide)).trans q8_s12
  have q9_s13 : s13 9 = ob 1 [vi 0, vi 2, vi 0, vi 10] := (f_s13 9 (by decide)).trans q9_s12
  have q10_s13 : s13 10 = ob 1 [vi 0, vi 2, vi 0, vi 10] := (f_s13 10 (by decide)).trans q10_s12
  have q11_s13 : s13 11 = ob 1 [vi 0, vi 2, vi 0, vi 10] := (f_s13 11 (by decide)).trans q11_s12
  have q12_s13 : s13 12 = ob 1 [vi 0, vi 2, vi 0, vi 10] := (f_s13 12 (by decide)).trans q12_s12
  have q13_s13 : s13 13 = ai E 80 (fun _ => 0) := (f_s13 13 (by decide)).trans q13_s12
  refine go_dup (pc := 54) hF dX10_init_54 rfl ?_
  refine go_callIN (pc := 55) (k := (14, 135)) hF (22, 518) (23) mi_X10_36 dX10_init_55 (c_X7_init E (15) s13 14 (by omega) u_s13) (Nat.le_of_ble_eq_true rfl) (by decide) (by rw [hR]; exact Nat.le_of_ble_eq_true rfl) (by rw [hR]; exact Nat.le_of_ble_eq_true rfl) (fun _ => (show s.heap.size + 14 = ez E + (15) by omega)) (fun _ => (Or.inl (by omega))) rfl rfl (fun s14 h_s14 => ?_)
  obtain ⟨u0_s14, u1_s14, u2_s14, u3_s14, u4_s14, u5_s14, u6_s14, u7_s14, u8_s14, f_s14⟩ := h_s14
  have u0_s14' : s14 14 = ob 7 [vr E 15, vi 0, vi 0, vr E 16] := u0_s14
  have u1_s14' : s14 15 = ai E 3 (fun _ => 0) := u1_s14
  have u2_s14' : s14 16 = ob 6 [vr E 17, vr E 18, vr E 19, vr E 20, vr E 21, vr E 22, vi 0, vi 0, vi 0, vi 0, vi 0, vi 0] := u2_s14
  have u3_s14' : s14 17 = ai E 80 (fun _ => 0) := u3_s14
  have u4_s14' : s14 18 = ai E 80 (fun _ => 0) := u4_s14
  have u5_s14' : s14 19 = ai E 80 (fun _ => 0) := u5_s14
  have u6_s14' : s14 20 = ai E 80 (fun _ => 0) := u6_s14
  have u7_s14' : s14 21 = ai E 24 (fun _ => 0) := u7_s14
  have u8_s14' : s14 22 = ai E 24 (fun _ => 0) := u8_s14
  have x_s14 : s14 0 = ob 9 [vr E 1, vr E 2, vr E 3, vr E 13, vi 0, .null, .null, .null, .null, .null, .null, vi 0, vi 0, vi 0] := (f_s14 0 (by decide)).trans x_s13
  have q1_s14 : s14 1 = ob 1 [vi 0, vi 2, vi 0, vi 10] := (f_s14 1 (by decide)).trans q1_s13
  have q2_s14 : s14 2 = ob 1 [vi 0, vi 2, vi 0, vi 10] := (f_s14 2 (by decide)).trans q2_s13
  have q3_s14 : s14 3 = ob 5 [vr E 4, vi 0, vi 0] := (f_s14 3 (by decide)).trans q3_s13
  have q4_s14 : s14 4 = ar E 4 8 (up (up (up (up (up (up (up (up (fun _ => -1) 0 ((5 : Nat) : Int)) 1 ((6 : Nat) : Int)) 2 ((7 : Nat) : Int)) 3 ((8 : Nat) : Int)) 4 ((9 : Nat) : Int)) 5 ((10 : Nat) : Int)) 6 ((11 : Nat) : Int)) 7 ((12 : Nat) : Int)) := (f_s14 4 (by decide)).trans q4_s13
  have q5_s14 : s14 5 = ob 1 [vi 0, vi 2, vi 0, vi 10] := (f_s14 5 (by decide)).trans q5_s13
  have q6_s14 : s14 6 = ob 1 [vi 0, vi 2, vi 0, vi 10] := (f_s14 6 (by decide)).trans q6_s13
  have q7_s14 : s14 7 = ob 1 [vi 0, vi 2, vi 0, vi 10] := (f_s14 7 (by decide)).trans q7_s13
  have q8_s14 : s14 8 = ob 1 [vi 0, vi 2, vi 0, vi 10] := (f_s14 8 (by decide)).trans q8_s13
  have q9_s14 : s14 9 = ob 1 [vi 0, vi 2, vi 0, vi 10] := (f_s14 9 (by decide)).trans q9_s13
  have q10_s14 : s14 10 = ob 1 [vi 0, vi 2, vi 0, vi 10] := (f_s14 10 (by decide)).trans q10_s13
  have q11_s14 : s14 11 = ob 1 [vi 0, vi 2, vi 0, vi 10] := (f_s14 11 (by decide)).trans q11_s13
  have q12_s14 : s14 12 = ob 1 [vi 0, vi 2, vi 0, vi 10] := (f_s14 12 (by decide)).trans q12_s13
  have q13_s14 : s14 13 = ai E 80 (fun _ => 0) := (f_s14 13 (by decide)).trans q13_s13
  refine go_putF (pc := 58) hF [vr E 1, vr E 2, vr E 3, vr E 13, vi 0, vr E 14, .null, .null, .null, .null, .null, vi 0, vi 0, vi 0] fl_X10_37 (fun C₉ T n₉ h => by have e9₉ : some (C₉, T, n₉) = some (RX10, TX10, 14) := h.symm; cases e9₉; rfl) hnm dX10_init_58 (by omega) x_s14 rfl rfl rfl (Nat.le_of_ble_eq_true rfl) (fun s15 u_s15 f_s15 => ?_)
  have q1_s15 : s15 1 = ob 1 [vi 0, vi 2, vi 0, vi 10] := (f_s15 1 (by decide)).trans q1_s14
  have q2_s15 : s15 2 = ob 1 [vi 0, vi 2, vi 0, vi 10] := (f_s15 2 (by decide)).trans q2_s14
  have q3_s15 : s15 3 = ob 5 [vr E 4, vi 0, vi 0] := (f_s15 3 (by decide)).trans q3_s14
  have q4_s15 : s15 4 = ar E 4 8 (up (up (up (up (up (up (up (up (fun _ => -1) 0 ((5 : Nat) : Int)) 1 ((6 : Nat) : Int)) 2 ((7 : Nat) : Int)) 3 ((8 : Nat) : Int)) 4 ((9 : Nat) : Int)) 5 ((10 : Nat) : Int)) 6 ((11 : Nat) : Int)) 7 ((12 : Nat) : Int)) := (f_s15 4 (by decide)).trans q4_s14
  have q5_s15 : s15 5 = ob 1 [vi 0, vi 2, vi 0, vi 10] := (f_s15 5 (by decide)).trans q5_s14
  have q6_s15 : s15 6 = ob 1 [vi 0, vi 2, vi 0, vi 10] := (f_s15 6 (by decide)).trans q6_s14
  have q7_s15 : s15 7 = ob 1 [vi 0, vi 2, vi 0, vi 10] := (f_s15 7 (by decide)).trans q7_s14
  have q8_s15 : s15 8 = ob 1 [vi 0, vi 2, vi 0, vi 10] := (f_s15 8 (by decide)).trans q8_s14
  have q9_s15 : s15 9 = ob 1 [vi 0, vi 2, vi 0, vi 10] := (f_s15 9 (by decide)).trans q9_s14
  have q10_s15 : s15 10 = ob 1 [vi 0, vi 2, vi 0, vi 10] := (f_s15 10 (by decide)).trans q10_s14
  have q11_s15 : s15 11 = ob 1 [vi 0, vi 2, vi 0, vi 10] := (f_s15 11 (by decide)).trans q11_s14
  have q12_s15 : s15 12 = ob 1 [vi 0, vi 2, vi 0, vi 10] := (f_s15 12 (by decide)).trans q12_s14
  have q13_s15 : s15 13 = ai E 80 (fun _ => 0) := (f_s15 13 (by decide)).trans q13_s14
  have q14_s15 : s15 14 = ob 7 [vr E 15, vi 0, vi 0, vr E 16] := (f_s15 14 (by decide)).trans u0_s14'
  have q15_s15 : s15 15 = ai E 3 (fun _ => 0) := (f_s15 15 (by decide)).trans u1_s14'
  have q16_s15 : s15 16 = ob 6 [vr E 17, vr E 18, vr E 19, vr E 20, vr E 21, vr E 22, vi 0, vi 0, vi 0, vi 0, vi 0, vi 0] := (f_s15 16 (by decide)).trans u2_s14'
  have q17_s15 : s15 17 = ai E 80 (fun _ => 0) := (f_s15 17 (by decide)).trans u3_s14'
  have q18_s15 : s15 18 = ai E 80 (fun _ => 0) := (f_s15 18 (by decide)).trans u4_s14'
  have q19_s15 : s15 19 = ai E 80 (fun _ => 0) := (f_s15 19 (by decide)).trans u5_s14'
  have q20_s15 : s15 20 = ai E 80 (fun _ => 0) := (f_s15 20 (by decide)).trans u6_s14'
  have q21_s15 : s15 21 = ai E 24 (fun _ => 0) := (f_s15 21 (by decide)).trans u7_s14'
  have q22_s15 : s15 22 = ai E 24 (fun _ => 0) := (f_s15 22 (by decide)).trans u8_s14'
  refine go_aload_n (pc := 61) hF dX10_init_61 0 rfl ?_
  refine go_new (pc := 62) (k := (22, 518)) hF (23, 530) (24) nw_X10_41 dX10_init_62 (show s.heap.size + 22 = ez E + (23) by omega) (Or.inl (by omega)) (by rw [hR]; exact Nat.le_of_ble_eq_true rfl) (by rw [hR]; exact Nat.le_of_ble_eq_true rfl) rfl rfl (fun s16 u_s16 f_s16 => ?_)
  have x_s16 : s16 0 = ob 9 [vr E 1, vr E 2, vr E 3, vr E 13, vi 0, vr E 14, .null, .null, .null, .null, .null, vi 0, vi 0, vi 0] := (f_s16 0 (by decide)).trans u_s15
  have q1_s16 : s16 1 = ob 1 [vi 0, vi 2, vi 0, vi 10] := (f_s16 1 (by decide)).trans q1_s15
  have q2_s16 : s16 2 = ob 1 [vi 0, vi 2, vi 0, vi 10] := (f_s16 2 (by decide)).trans q2_s15
  have q3_s16 : s16 3 = ob 5 [vr E 4, vi 0, vi 0] := (f_s16 3 (by decide)).trans q3_s15
  have q4_s16 : s16 4 = ar E 4 8 (up (up (up (up (up (up (up (up (fun _ => -1) 0 ((5 : Nat) : Int)) 1 ((6 : Nat) : Int)) 2 ((7 : Nat) : Int)) 3 ((8 : Nat) : Int)) 4 ((9 : Nat) : Int)) 5 ((10 : Nat) : Int)) 6 ((11 : Nat) : Int)) 7 ((12 : Nat) : Int)) := (f_s16 4 (by decide)).trans q4_s15
  have q5_s16 : s16 5 = ob 1 [vi 0, vi 2, vi 0, vi 10] := (f_s16 5 (by decide)).trans q5_s15
  have q6_s16 : s16 6 = ob 1 [vi 0, vi 2, vi 0, vi 10] := (f_s16 6 (by decide)).trans q6_s15
  have q7_s16 : s16 7 = ob 1 [vi 0, vi 2, vi 0, vi 10] := (f_s16 7 (by decide)).trans q7_s15
  have q8_s16 : s16 8 = ob 1 [vi 0, vi 2, vi 0, vi 10] := (f_s16 8 (by decide)).trans q8_s15
  have q9_s16 : s16 9 = ob 1 [vi 0, vi 2, vi 0, vi 10] := (f_s16 9 (by decide)).trans q9_s15
  have q10_s16 : s16 10 = ob 1 [vi 0, vi 2, vi 0, vi 10] := (f_s16 10 (by decide)).trans q10_s15
  have q11_s16 : s16 11 = ob 1 [vi 0, vi 2, vi 0, vi 10] := (f_s16 11 (by decide)).trans q11_s15
  have q12_s16 : s16 12 = ob 1 [vi 0, vi 2, vi 0, vi 10] := (f_s16 12 (by decide)).trans q12_s15
  have q13_s16 : s16 13 = ai E 80 (fun _ => 0) := (f_s16 13 (by decide)).trans q13_s15
  have q14_s16 : s16 14 = ob 7 [vr E 15, vi 0, vi 0, vr E 16] := (f_s16 14 (by decide)).trans q14_s15
  have q15_s16 : s16 15 = ai E 3 (fun _ => 0) := (f_s16 15 (by decide)).trans q15_s15
  have q16_s16 : s16 16 = ob 6 [vr E 17, vr E 18, vr E 19, vr E 20, vr E 21, vr E 22, vi 0, vi 0, vi 0, vi 0, vi 0, vi 0] := (f_s16 16 (by decide)).trans q16_s15
  have q17_s16 : s16 17 = ai E 80 (fun _ => 0) := (f_s16 17 (by decide)).trans q17_s15
  have q18_s16 : s16 18 = ai E 80 (fun _ => 0) := (f_s16 18 (by decide)).trans q18_s15
  have q19_s16 : s16 19 = ai E 80 (fun _ => 0) := (f_s16 19 (by decide)).trans q19_s15
  have q20_s16 : s16 20 = ai E 80 (fun _ => 0) := (f_s16 20 (by decide)).trans q20_s15
  have q21_s16 : s16 21 = ai E 24 (fun _ => 0) := (f_s16 21 (by decide)).trans q21_s15
  have q22_s16 : s16 22 = ai E 24 (fun _ => 0) := (f_s16 22 (by decide)).trans q22_s15
  refine go_dup (pc := 65) hF dX10_init_65 rfl ?_
  refine go_callIN (pc := 66) (k := (23, 530)) hF (29, 898) (30) mi_X10_43 dX10_init_66 (c_X6_init E (24) s16 23 (by omega) u_s16) (Nat.le_of_ble_eq_true rfl) (by decide) (by rw [hR]; exact Nat.le_of_ble_eq_true rfl) (by rw [hR]; exact Nat.le_of_ble_eq_true rfl) (fun _ => (show s.heap.size + 23 = ez E + (24) by omega)) (fun _ => (Or.inl (by omega))) rfl rfl (fun s17 h_s17 => ?_)
  obtain ⟨u0_s17, u1_s17, u2_s17, u3_s17, u4_s17, u5_s17, u6_s17, f_s17⟩ := h_s17
  have u0_s17' : s17 23 = ob 6 [vr E 24, vr E 25, vr E 26, vr E 27, vr E 28, vr E 29, vi 0, vi 0, vi 0, vi 0, vi 0, vi 0] := u0_s17
  have u1_s17' : s17 24 = ai E 80 (fun _ => 0) := u1_s17
  have u2_s17' : s17 25 = ai E 80 (fun _ => 0) := u2_s17
  have u3_s17' : s17 26 = ai E 80 (fun _ => 0) := u3_s17
  have u4_s17' : s17 27 = ai E 80 (fun _ => 0) := u4_s17
  have u5_s17' : s17 28 = ai E 24 (fun _ => 0) := u5_s17
  have u6_s17' : s17 29 = ai E 24 (fun _ => 0) := u6_s17
  have x_s17 : s17 0 = ob 9 [vr E 1, vr E 2, vr E 3, vr E 13, vi 0, vr E 14, .null, .null, .null, .null, .null, vi 0, vi 0, vi 0] := (f_s17 0 (by decide)).trans x_s16
  have q1_s17 : s17 1 = ob 1 [vi 0, vi 2, vi 0, vi 10] := (f_s17 1 (by decide)).trans q1_s16
  have q2_s17 : s17 2 = ob 1 [vi 0, vi 2, vi 0, vi 10] := (f_s17 2 (by decide)).trans q2_s16
  have q3_s17 : s17 3 = ob 5 [vr E 4, vi 0, vi 0] := (f_s17 3 (by decide)).trans q3_s16
  have q4_s17 : s17 4 = ar E 4 8 (up (up (up (up (up (up (up (up (fun _ => -1) 0 ((5 : Nat) : Int)) 1 ((6 : Nat) : Int)) 2 ((7 : Nat) : Int)) 3 ((8 : Nat) : Int)) 4 ((9 : Nat) : Int)) 5 ((10 : Nat) : Int)) 6 ((11 : Nat) : Int)) 7 ((12 : Nat) : Int)) := (f_s17 4 (by decide)).trans q4_s16
  have q5_s17 : s17 5 = ob 1 [vi 0, vi 2, vi 0, vi 10] := (f_s17 5 (by decide)).trans q5_s16
  have q6_s17 : s17 6 = ob 1 [vi 0, vi 2, vi 0, vi 10] := (f_s17 6 (by decide)).trans q6_s16
  have q7_s17 : s17 7 = ob 1 [vi 0, vi 2, vi 0, vi 10] := (f_s17 7 (by decide)).trans q7_s16
  have q8_s17 : s17 8 = ob 1 [vi 0, vi 2, vi 0, vi 10] := (f_s17 8 (by decide)).trans q8_s16
  have q9_s17 : s17 9 = ob 1 [vi 0, vi 2, vi 0, vi 10] := (f_s17 9 (by decide)).trans q9_s16
  have q10_s17 : s17 10 = ob 1 [vi 0, vi 2, vi 0, vi 10] := (f_s17 10 (by decide)).trans q10_s16
  have q11_s17 : s17 11 = ob 1 [vi 0, vi 2, vi 0, vi 10] := (f_s17 11 (by decide)).trans q11_s16
  have q12_s17 : s17 12 = ob 1 [vi 0, vi 2, vi 0, vi 10] := (f_s17 12 (by decide)).trans q12_s16
  have q13_s17 : s17 13 = ai E 80 (fun _ => 0) := (f_s17 13 (by decide)).trans q13_s16
  have q14_s17 : s17 14 = ob 7 [vr E 15, vi 0, vi 0, vr E 16] := (f_s17 14 (by decide)).trans q14_s16
  have q15_s17 : s17 15 = ai E 3 (fun _ => 0) := (f_s17 15 (by decide)).trans q15_s16
  have q16_s17 : s17 16 = ob 6 [vr E 17, vr E 18, vr E 19, vr E 20, vr E 21, vr E 22, vi 0, vi 0, vi 0, vi 0, vi 0, vi 0] := (f_s17 16 (by decide)).trans q16_s16
  have q17_s17 : s17 17 = ai E 80 (fun _ => 0) := (f_s17 17 (by decide)).trans q17_s16
  have q18_s17 : s17 18 = ai E 80 (fun _ => 0) := (f_s17 18 (by decide)).trans q18_s16
  have q19_s17 : s17 19 = ai E 80 (fun _ => 0) := (f_s17 19 (by decide)).trans q19_s16
  have q20_s17 : s17 20 = ai E 80 (fun _ => 0) := (f_s17 20 (by decide)).trans q20_s16
  have q21_s17 : s17 21 = ai E 24 (fun _ => 0) := (f_s17 21 (by decide)).trans q21_s16
  have q22_s17 : s17 22 = ai E 24 (fun _ => 0) := (f_s17 22 (by decide)).trans q22_s16
  refine go_putF (pc := 69) hF [vr E 1, vr E 2, vr E 3, vr E 13, vi 0, vr E 14, vr E 23, .null, .null, .null, .null, vi 0, vi 0, vi 0] fl_X10_44 (fun C₉ T n₉ h => by have e9₉ : some (C₉, T, n₉) = some (RX10, TX10, 14) := h.symm; cases e9₉; rfl) hnm dX10_init_69 (by omega) x_s17 rfl rfl rfl (Nat.le_of_ble_eq_true rfl) (fun s18 u_s18 f_s18 => ?_)
  have q1_s18 : s18 1 = ob 1 [vi 0, vi 2, vi 0, vi 10] := (f_s18 1 (by decide)).trans q1_s17
  have q2_s18 : s18 2 = ob 1 [vi 0, vi 2, vi 0, vi 10] := (f_s18 2 (by decide)).trans q2_s17
  have q3_s18 : s18 3 = ob 5 [vr E 4, vi 0, vi 0] := (f_s18 3 (by decide)).trans q3_s17
  have q4_s18 : s18 4 = ar E 4 8 (up (up (up (up (up (up (up (up (fun _ => -1) 0 ((5 : Nat) : Int)) 1 ((6 : Nat) : Int)) 2 ((7 : Nat) : Int)) 3 ((8 : Nat) : Int)) 4 ((9 : Nat) : Int)) 5 ((10 : Nat) : Int)) 6 ((11 : Nat) : Int)) 7 ((12 : Nat) : Int)) := (f_s18 4 (by decide)).trans q4_s17
  have q5_s18 : s18 5 = ob 1 [vi 0, vi 2, vi 0, vi 10] := (f_s18 5 (by decide)).trans q5_s17
  have q6_s18 : s18 6 = ob 1 [vi 0, vi 2, vi 0, vi 10] := (f_s18 6 (by decide)).trans q6_s17
  have q7_s18 : s18 7 = ob 1 [vi 0, vi 2, vi 0, vi 10] := (f_s18 7 (by decide)).trans q7_s17
  have q8_s18 : s18 8 = ob 1 [vi 0, vi 2, vi 0, vi 10] := (f_s18 8 (by decide)).trans q8_s17
  have q9_s18 : s18 9 = ob 1 [vi 0, vi 2, vi 0, vi 10] := (f_s18 9 (by decide)).trans q9_s17
  have q10_s18 : s18 10 = ob 1 [vi 0, vi 2, vi 0, vi 10] := (f_s18 10 (by decide)).trans q10_s17
  have q11_s18 : s18 11 = ob 1 [vi 0, vi 2, vi 0, vi 10] := (f_s18 11 (by decide)).trans q11_s17
  have q12_s18 : s18 12 = ob 1 [vi 0, vi 2, vi 0, vi 10] := (f_s18 12 (by decide)).trans q12_s17
  have q13_s18 : s18 13 = ai E 80 (fun _ => 0) := (f_s18 13 (by decide)).trans q13_s17
  have q14_s18 : s18 14 = ob 7 [vr E 15, vi 0, vi 0, vr E 16] := (f_s18 14 (by decide)).trans q14_s17
  have q15_s18 : s18 15 = ai E 3 (fun _ => 0) := (f_s18 15 (by decide)).trans q15_s17
  have q16_s18 : s18 16 = ob 6 [vr E 17, vr E 18, vr E 19, vr E 20, vr E 21, vr E 22, vi 0, vi 0, vi 0, vi 0, vi 0, vi 0] := (f_s18 16 (by decide)).trans q16_s17
  have q17_s18 : s18 17 = ai E 80 (fun _ => 0) := (f_s18 17 (by decide)).trans q17_s17
  have q18_s18 : s18 18 = ai E 80 (fun _ => 0) := (f_s18 18 (by decide)).trans q18_s17
  have q19_s18 : s18 19 = ai E 80 (fun _ => 0) := (f_s18 19 (by decide)).trans q19_s17
  have q20_s18 : s18 20 = ai E 80 (fun _ => 0) := (f_s18 20 (by decide)).trans q20_s17
  have q21_s18 : s18 21 = ai E 24 (fun _ => 0) := (f_s18 21 (by decide)).trans q21_s17
  have q22_s18 : s18 22 = ai E 24 (fun _ => 0) := (f_s18 22 (by decide)).trans q22_s17
  have q23_s18 : s18 23 = ob 6 [vr E 24, vr E 25, vr E 26, vr E 27, vr E 28, vr E 29, vi 0, vi 0, vi 0, vi 0, vi 0, vi 0] := (f_s18 23 (by decide)).trans u0_s17'
  have q24_s18 : s18 24 = ai E 80 (fun _ => 0) := (f_s18 24 (by decide)).trans u1_s17'
  have q25_s18 : s18 25 = ai E 80 (fun _ => 0) := (f_s18 25 (by decide)).trans u2_s17'
  have q26_s18 : s18 26 = ai E 80 (fun _ => 0) := (f_s18 26 (by decide)).trans u3_s17'
  have q27_s18 : s18 27 = ai E 80 (fun _ => 0) := (f_s18 27 (by decide)).trans u4_s17'
  have q28_s18 : s18 28 = ai E 24 (fun _ => 0) := (f_s18 28 (by decide)).trans u5_s17'
  have q29_s18 : s18 29 = ai E 24 (fun _ => 0) := (f_s18 29 (by decide)).trans u6_s17'
  refine go_aload_n (pc := 72) hF dX10_init_72 0 rfl ?_
  refine go_new (pc := 73) (k := (29, 898)) hF (30, 904) (31) nw_X10_48 dX10_init_73 (show s.heap.size + 29 = ez E + (30) by omega) (Or.inl (by omega)) (by rw [hR]; exact Nat.le_of_ble_eq_true rfl) (by rw [hR]; exact Nat.le_of_ble_eq_true rfl) rfl rfl (fun s19 u_s19 f_s19 => ?_)
  have x_s19 : s19 0 = ob 9 [vr E 1, vr E 2, vr E 3, vr E 13, vi 0, vr E 14, vr E 23, .null, .null, .null, .null, vi 0, vi 0, vi 0] := (f_s19 0 (by decide)).trans u_s18
  have q1_s19 : s19 1 = ob 1 [vi 0, vi 2, vi 0, vi 10] := (f_s19 1 (by decide)).trans q1_s18
  have q2_s19 : s19 2 = ob 1 [vi 0, vi 2, vi 0, vi 10] := (f_s19 2 (by decide)).trans q2_s18
  have q3_s19 : s19 3 = ob 5 [vr E 4, vi 0, vi 0] := (f_s19 3 (by decide)).trans q3_s18
  have q4_s19 : s19 4 = ar E 4 8 (up (up (up (up (up (up (up (up (fun _ => -1) 0 ((5 : Nat) : Int)) 1 ((6 : Nat) : Int)) 2 ((7 : Nat) : Int)) 3 ((8 : Nat) : Int)) 4 ((9 : Nat) : Int)) 5 ((10 : Nat) : Int)) 6 ((11 : Nat) : Int)) 7 ((12 : Nat) : Int)) := (f_s19 4 (by decide)).trans q4_s18
  have q5_s19 : s19 5 = ob 1 [vi 0, vi 2, vi 0, vi 10] := (f_s19 5 (by decide)).trans q5_s18
  have q6_s19 : s19 6 = ob 1 [vi 0, vi 2, vi 0, vi 10] := (f_s19 6 (by decide)).trans q6_s18
  have q7_s19 : s19 7 = ob 1 [vi 0, vi 2, vi 0, vi 10] := (f_s19 7 (by decide)).trans q7_s18
  have q8_s19 : s19 8 = ob 1 [vi 0, vi 2, vi 0, vi 10] := (f_s19 8 (by decide)).trans q8_s18
  have q9_s19 : s19 9 = ob 1 [vi 0, vi 2, vi 0, vi 10] := (f_s19 9 (by decide)).trans q9_s18
  have q10_s19 : s19 10 = ob 1 [vi 0, vi 2, vi 0, vi 10] := (f_s19 10 (by decide)).trans q10_s18
  have q11_s19 : s19 11 = ob 1 [vi 0, vi 2, vi 0, vi 10] := (f_s19 11 (by decide)).trans q11_s18
  have q12_s19 : s19 12 = ob 1 [vi 0, vi 2, vi 0, vi 10] := (f_s19 12 (by decide)).trans q12_s18
  have q13_s19 : s19 13 = ai E 80 (fun _ => 0) := (f_s19 13 (by decide)).trans q13_s18
  have q14_s19 : s19 14 = ob 7 [vr E 15, vi 0, vi 0, vr E 16] := (f_s19 14 (by decide)).trans q14_s18
  have q15_s19 : s19 15 = ai E 3 (fun _ => 0) := (f_s19 15 (by decide)).trans q15_s18
  have q16_s19 : s19 16 = ob 6 [vr E 17, vr E 18, vr E 19, vr E 20, vr E 21, vr E 22, vi 0, vi 0, vi 0, vi 0, vi 0, vi 0] := (f_s19 16 (by decide)).trans q16_s18
  have q17_s19 : s19 17 = ai E 80 (fun _ => 0) := (f_s19 17 (by decide)).trans q17_s18
  have q18_s19 : s19 18 = ai E 80 (fun _ => 0) := (f_s19 18 (by decide)).trans q18_s18
  have q19_s19 : s19 19 = ai E 80 (fun _ => 0) := (f_s19 19 (by decide)).trans q19_s18
  have q20_s19 : s19 20 = ai E 80 (fun _ => 0) := (f_s19 20 (by decide)).trans q20_s18
  have q21_s19 : s19 21 = ai E 24 (fun _ => 0) := (f_s19 21 (by decide)).trans q21_s18
  have q22_s19 : s19 22 = ai E 24 (fun _ => 0) := (f_s19 22 (by decide)).trans q22_s18
  have q23_s19 : s19 23 = ob 6 [vr E 24, vr E 25, vr E 26, vr E 27, vr E 28, vr E 29, vi 0, vi 0, vi 0, vi 0, vi 0, vi 0] := (f_s19 23 (by decide)).trans q23_s18
  have q24_s19 : s19 24 = ai E 80 (fun _ => 0) := (f_s19 24 (by decide)).trans q24_s18
  have q25_s19 : s19 25 = ai E 80 (fun _ => 0) := (f_s19 25 (by decide)).trans q25_s18
  have q26_s19 : s19 26 = ai E 80 (fun _ => 0) := (f_s19 26 (by decide)).trans q26_s18
  have q27_s19 : s19 27 = ai E 80 (fun _ => 0) := (f_s19 27 (by decide)).trans q27_s18
  have q28_s19 : s19 28 = ai E 24 (fun _ => 0) := (f_s19 28 (by decide)).trans q28_s18
  have q29_s19 : s19 29 = ai E 24 (fun _ => 0) := (f_s19 29 (by decide)).trans q29_s18
  refine go_dup (pc := 76) hF dX10_init_76 rfl ?_
  refine go_callI (pc := 77) (k := (30, 904)) hF (55, 1057) (56) mi_X10_50 dX10_init_77 (c_X3_init E (31) s19 30 (by omega) u_s19) (Nat.le_of_ble_eq_true rfl) (by decide) (by rw [hR]; exact Nat.le_of_ble_eq_true rfl) (by rw [hR]; exact Nat.le_of_ble_eq_true rfl) (fun _ => (show s.heap.size + 30 = ez E + (31) by omega)) (fun _ => (Or.inl (by omega))) rfl rfl (fun s20 h_s20 => ?_)
  obtain ⟨u0_s20, u1_s20, u2_s20, u3_s20, u4_s20, u5_s20, u6_s20, u7_s20, u8_s20, u9_s20, u10_s20, u11_s20, u12_s20, u13_s20, u14_s20, u15_s20, u16_s20, u17_s20, u18_s20, u19_s20, u20_s20, u21_s20, u22_s20, u23_s20, u24_s20, u25_s20, f_s20⟩ := h_s20
  have u0_s20' : s20 30 = ob 3 [vr E 31, vr E 32, vr E 33, vr E 34, vi 0, vi 0] := u0_s20
  have u1_s20' : s20 31 = ai E 24 (fun _ => 0) := u1_s20
  have u2_s20' : s20 32 = ai E 24 (fun _ => 0) := u2_s20
  have u3_s20' : s20 33 = ar E 3 4 (up (up (up (up (fun _ => -1) 0 ((35 : Nat) : Int)) 1 ((38 : Nat) : Int)) 2 ((41 : Nat) : Int)) 3 ((44 : Nat) : Int)) := u3_s20
  have u4_s20' : s20 34 = ar E 3 3 (up (up (up (fun _ => -1) 0 ((47 : Nat) : Int)) 1 ((50 : Nat) : Int)) 2 ((53 : Nat) : Int)) := u4_s20
  have u5_s20' : s20 35 = ob 0 [vr E 36, vr E 37] := u5_s20
  have u6_s20' : s20 36 = ai E 6 (fun _ => 0) := u6_s20
  have u7_s20' : s20 37 = ai E 6 (fun _ => 0) := u7_s20
  have u8_s20' : s20 38 = ob 0 [vr E 39, vr E 40] := u8_s20
  have u9_s20' : s20 39 = ai E 6 (fun _ => 0) := u9_s20
  have u10_s20' : s20 40 = ai E 6 (fun _ => 0) := u10_s20
  have u11_s20' : s20 41 = ob 0 [vr E 42, vr E 43] := u11_s20
  have u12_s20' : s20 42 = ai E 6 (fun _ => 0) := u12_s20
  have u13_s20' : s20 43 = ai E 6 (fun _ => 0) := u13_s20
  have u14_s20' : s20 44 = ob 0 [vr E 45, vr E 46] := u14_s20
  have u15_s20' : s20 45 = ai E 6 (fun _ => 0) := u15_s20
  have u16_s20' : s20 46 = ai E 6 (fun _ => 0) := u16_s20
  have u17_s20' : s20 47 = ob 0 [vr E 48, vr E 49] := u17_s20
  have u18_s20' : s20 48 = ai E 6 (fun _ => 0) := u18_s20
  have u19_s20' : s20 49 = ai E 6 (fun _ => 0) := u19_s20
  have u20_s20' : s20 50 = ob 0 [vr E 51, vr E 52] := u20_s20
  have u21_s20' : s20 51 = ai E 6 (fun _ => 0) := u21_s20
  have u22_s20' : s20 52 = ai E 6 (fun _ => 0) := u22_s20
  have u23_s20' : s20 53 = ob 0 [vr E 54, vr E 55] := u23_s20
  have u24_s20' : s20 54 = ai E 6 (fun _ => 0) := u24_s20
  have u25_s20' : s20 55 = ai E 6 (fun _ => 0) := u25_s20
  have x_s20 : s20 0 = ob 9 [vr E 1, vr E 2, vr E 3, vr E 13, vi 0, vr E 14, vr E 23, .null, .null, .null, .null, vi 0, vi 0, vi 0] := (f_s20 0 (by decide)).trans x_s19
  have q1_s20 : s20 1 = ob 1 [vi 0, vi 2, vi 0, vi 10] := (f_s20 1 (by decide)).trans q1_s19
  have q2_s20 : s20 2 = ob 1 [vi 0, vi 2, vi 0, vi 10] := (f_s20 2 (by decide)).trans q2_s19
  have q3_s20 : s20 3 = ob 5 [vr E 4, vi 0, vi 0] := (f_s20 3 (by decide)).trans q3_s19
  have q4_s20 : s20 4 = ar E 4 8 (up (up (up (up (up (up (up (up (fun _ => -1) 0 ((5 : Nat) : Int)) 1 ((6 : Nat) : Int)) 2 ((7 : Nat) : Int)) 3 ((8 : Nat) : Int)) 4 ((9 : Nat) : Int)) 5 ((10 : Nat) : Int)) 6 ((11 : Nat) : Int)) 7 ((12 : Nat) : Int)) := (f_s20 4 (by decide)).trans q4_s19
  have q5_s20 : s20 5 = ob 1 [vi 0, vi 2, vi 0, vi 10] := (f_s20 5 (by decide)).trans q5_s19
  have q6_s20 : s20 6 = ob 1 [vi 0, vi 2, vi 0, vi 10] := (f_s20 6 (by decide)).trans q6_s19
  have q7_s20 : s20 7 = ob 1 [vi 0, vi 2, vi 0, vi 10] := (f_s20 7 (by decide)).trans q7_s19
  have q8_s20 : s20 8 = ob 1 [vi 0, vi 2, vi 0, vi 10] := (f_s20 8 (by decide)).trans q8_s19
  have q9_s20 : s20 9 = ob 1 [vi 0, vi 2, vi 0, vi 10] := (f_s20 9 (by decide)).trans q9_s19
  have q10_s20 : s20 10 = ob 1 [vi 0, vi 2, vi 0, vi 10] := (f_s20 10 (by decide)).trans q10_s19
  have q11_s20 : s20 11 = ob 1 [vi 0, vi 2, vi 0, vi 10] := (f_s20 11 (by decide)).trans q11_s19
  have q12_s20 : s20 12 = ob 1 [vi 0, vi 2, vi 0, vi 10] := (f_s20 12 (by decide)).trans q12_s19
  have q13_s20 : s20 13 = ai E 80 (fun _ => 0) := (f_s20 13 (by decide)).trans q13_s19
  have q14_s20 : s20 14 = ob 7 [vr E 15, vi 0, vi 0, vr E 16] := (f_s20 14 (by decide)).trans q14_s19
  have q15_s20 : s20 15 = ai E 3 (fun _ => 0) := (f_s20 15 (by decide)).trans q15_s19
  have q16_s20 : s20 16 = ob 6 [vr E 17, vr E 18, vr E 19, vr E 20, vr E 21, vr E 22, vi 0, vi 0, vi 0, vi 0, vi 0, vi 0] := (f_s20 16 (by decide)).trans q16_s19
  have q17_s20 : s20 17 = ai E 80 (fun _ => 0) := (f_s20 17 (by decide)).trans q17_s19
  have q18_s20 : s20 18 = ai E 80 (fun _ => 0) := (f_s20 18 (by decide)).trans q18_s19
  have q19_s20 : s20 19 = ai E 80 (fun _ => 0) := (f_s20 19 (by decide)).trans q19_s19
  have q20_s20 : s20 20 = ai E 80 (fun _ => 0) := (f_s20 20 (by decide)).trans q20_s19
  have q21_s20 : s20 21 = ai E 24 (fun _ => 0) := (f_s20 21 (by decide)).trans q21_s19
  have q22_s20 : s20 22 = ai E 24 (fun _ => 0) := (f_s20 22 (by decide)).trans q22_s19
  have q23_s20 : s20 23 = ob 6 [vr E 24, vr E 25, vr E 26, vr E 27, vr E 28, vr E 29, vi 0, vi 0, vi 0, vi 0, vi 0, vi 0] := (f_s20 23 (by decide)).trans q23_s19
  have q24_s20 : s20 24 = ai E 80 (fun _ => 0) := (f_s20 24 (by decide)).trans q24_s19
  have q25_s20 : s20 25 = ai E 80 (fun _ => 0) := (f_s20 25 (by decide)).trans q25_s19
  have q26_s20 : s20 26 = ai E 80 (fun _ => 0) := (f_s20 26 (by decide)).trans q26_s19
  have q27_s20 : s20 27 = ai E 80 (fun _ => 0) := (f_s20 27 (by decide)).trans q27_s19
  have q28_s20 : s20 28 = ai E 24 (fun _ => 0) := (f_s20 28 (by decide)).trans q28_s19
  have q29_s20 : s20 29 = ai E 24 (fun _ => 0) := (f_s20 29 (by decide)).trans q29_s19
  refine go_putF (pc := 80) hF [vr E 1, vr E 2, vr E 3, vr E 13, vi 0, vr E 14, vr E 23, vr E 30, .null, .null, .null, vi 0, vi 0, vi 0] fl_X10_51 (fun C₉ T n₉ h => by have e9₉ : some (C₉, T, n₉) = some (RX10, TX10, 14) := h.symm; cases e9₉; rfl) hnm dX10_init_80 (by omega) x_s20 rfl rfl rfl (Nat.le_of_ble_eq_true rfl) (fun s21 u_s21 f_s21 => ?_)
  have q1_s21 : s21 1 = ob 1 [vi 0, vi 2, vi 0, vi 10] := (f_s21 1 (by decide)).trans q1_s20
  have q2_s21 : s21 2 = ob 1 [vi 0, vi 2, vi 0, vi 10] := (f_s21 2 (by decide)).trans q2_s20
  have q3_s21 : s21 3 = ob 5 [vr E 4, vi 0, vi 0] := (f_s21 3 (by decide)).trans q3_s20
  have q4_s21 : s21 4 = ar E 4 8 (up (up (up (up (up (up (up (up (fun _ => -1) 0 ((5 : Nat) : Int)) 1 ((6 : Nat) : Int)) 2 ((7 : Nat) : Int)) 3 ((8 : Nat) : Int)) 4 ((9 : Nat) : Int)) 5 ((10 : Nat) : Int)) 6 ((11 : Nat) : Int)) 7 ((12 : Nat) : Int)) := (f_s21 4 (by decide)).trans q4_s20
  have q5_s21 : s21 5 = ob 1 [vi 0, vi 2, vi 0, vi 10] := (f_s21 5 (by decide)).trans q5_s20
  have q6_s21 : s21 6 = ob 1 [vi 0, vi 2, vi 0, vi 10] := (f_s21 6 (by decide)).trans q6_s20
  have q7_s21 : s21 7 = ob 1 [vi 0, vi 2, vi 0, vi 10] := (f_s21 7 (by decide)).trans q7_s20
  have q8_s21 : s21 8 = ob 1 [vi 0, vi 2, vi 0, vi 10] := (f_s21 8 (by decide)).trans q8_s20
  have q9_s21 : s21 9 = ob 1 [vi 0, vi 2, vi 0, vi 10] := (f_s21 9 (by decide)).trans q9_s20
  have q10_s21 : s21 10 = ob 1 [vi 0, vi 2, vi 0, vi 10] := (f_s21 10 (by decide)).trans q10_s20
  have q11_s21 : s21 11 = ob 1 [vi 0, vi 2, vi 0, vi 10] := (f_s21 11 (by decide)).trans q11_s20
  have q12_s21 : s21 12 = ob 1 [vi 0, vi 2, vi 0, vi 10] := (f_s21 12 (by decide)).trans q12_s20
  have q13_s21 : s21 13 = ai E 80 (fun _ => 0) := (f_s21 13 (by decide)).trans q13_s20
  have q14_s21 : s21 14 = ob 7 [vr E 15, vi 0, vi 0, vr E 16] := (f_s21 14 (by decide)).trans q14_s20
  have q15_s21 : s21 15 = ai E 3 (fun _ => 0) := (f_s21 15 (by decide)).trans q15_s20
  have q16_s21 : s21 16 = ob 6 [vr E 17, vr E 18, vr E 19, vr E 20, vr E 21, vr E 22, vi 0, vi 0, vi 0, vi 0, vi 0, vi 0] := (f_s21 16 (by decide)).trans q16_s20
  have q17_s21 : s21 17 = ai E 80 (fun _ => 0) := (f_s21 17 (by decide)).trans q17_s20
  have q18_s21 : s21 18 = ai E 80 (fun _ => 0) := (f_s21 18 (by decide)).trans q18_s20
  have q19_s21 : s21 19 = ai E 80 (fun _ => 0) := (f_s21 19 (by decide)).trans q19_s20
  have q20_s21 : s21 20 = ai E 80 (fun _ => 0) := (f_s21 20 (by decide)).trans q20_s20
  have q21_s21 : s21 21 = ai E 24 (fun _ => 0) := (f_s21 21 (by decide)).trans q21_s20
  have q22_s21 : s21 22 = ai E 24 (fun _ => 0) := (f_s21 22 (by decide)).trans q22_s20
  have q23_s21 : s21 23 = ob 6 [vr E 24, vr E 25, vr E 26, vr E 27, vr E 28, vr E 29, vi 0, vi 0, vi 0, vi 0, vi 0, vi 0] := (f_s21 23 (by decide)).trans q23_s20
  have q24_s21 : s21 24 = ai E 80 (fun _ => 0) := (f_s21 24 (by decide)).trans q24_s20
  have q25_s21 : s21 25 = ai E 80 (fun _ => 0) := (f_s21 25 (by decide)).trans q25_s20
  have q26_s21 : s21 26 = ai E 80 (fun _ => 0) := (f_s21 26 (by decide)).trans q26_s20
  have q27_s21 : s21 27 = ai E 80 (fun _ => 0) := (f_s21 27 (by decide)).trans q27_s20
  have q28_s21 : s21 28 = ai E 24 (fun _ => 0) := (f_s21 28 (by decide)).trans q28_s20
  have q29_s21 : s21 29 = ai E 24 (fun _ => 0) := (f_s21 29 (by decide)).trans q29_s20
  have q30_s21 : s21 30 = ob 3 [vr E 31, vr E 32, vr E 33, vr E 34, vi 0, vi 0] := (f_s21 30 (by decide)).trans u0_s20'
  have q31_s21 : s21 31 = ai E 24 (fun _ => 0) := (f_s21 31 (by decide)).trans u1_s20'
  have q32_s21 : s21 32 = ai E 24 (fun _ => 0) := (f_s21 32 (by decide)).trans u2_s20'
  have q33_s21 : s21 33 = ar E 3 4 (up (up (up (up (fun _ => -1) 0 ((35 : Nat) : Int)) 1 ((38 : Nat) : Int)) 2 ((41 : Nat) : Int)) 3 ((44 : Nat) : Int)) := (f_s21 33 (by decide)).trans u3_s20'
  have q34_s21 : s21 34 = ar E 3 3 (up (up (up (fun _ => -1) 0 ((47 : Nat) : Int)) 1 ((50 : Nat) : Int)) 2 ((53 : Nat) : Int)) := (f_s21 34 (by decide)).trans u4_s20'
  have q35_s21 : s21 35 = ob 0 [vr E 36, vr E 37] := (f_s21 35 (by decide)).trans u5_s20'
  have q36_s21 : s21 36 = ai E 6 (fun _ => 0) := (f_s21 36 (by decide)).trans u6_s20'
  have q37_s21 : s21 37 = ai E 6 (fun _ => 0) := (f_s21 37 (by decide)).trans u7_s20'
  have q38_s21 : s21 38 = ob 0 [vr E 39, vr E 40] := (f_s21 38 (by decide)).trans u8_s20'
  have q39_s21 : s21 39 = ai E 6 (fun _ => 0) := (f_s21 39 (by decide)).trans u9_s20'
  have q40_s21 : s21 40 = ai E 6 (fun _ => 0) := (f_s21 40 (by decide)).trans u10_s20'
  have q41_s21 : s21 41 = ob 0 [vr E 42, vr E 43] := (f_s21 41 (by decide)).trans u11_s20'
  have q42_s21 : s21 42 = ai E 6 (fun _ => 0) := (f_s21 42 (by decide)).trans u12_s20'
  have q43_s21 : s21 43 = ai E 6 (fun _ => 0) := (f_s21 43 (by decide)).trans u13_s20'
  have q44_s21 : s21 44 = ob 0 [vr E 45, vr E 46] := (f_s21 44 (by decide)).trans u14_s20'
  have q45_s21 : s21 45 = ai E 6 (fun _ => 0) := (f_s21 45 (by decide)).trans u15_s20'
  have q46_s21 : s21 46 = ai E 6 (fun _ => 0) := (f_s21 46 (by decide)).trans u16_s20'
  have q47_s21 : s21 47 = ob 0 [vr E 48, vr E 49] := (f_s21 47 (by decide)).trans u17_s20'
  have q48_s21 : s21 48 = ai E 6 (fun _ => 0) := (f_s21 48 (by decide)).trans u18_s20'
  have q49_s21 : s21 49 = ai E 6 (fun _ => 0) := (f_s21 49 (by decide)).trans u19_s20'
  have q50_s21 : s21 50 = ob 0 [vr E 51, vr E 52] := (f_s21 50 (by decide)).trans u20_s20'
  have q51_s21 : s21 51 = ai E 6 (fun _ => 0) := (f_s21 51 (by decide)).trans u21_s20'
  have q52_s21 : s21 52 = ai E 6 (fun _ => 0) := (f_s21 52 (by decide)).trans u22_s20'
  have q53_s21 : s21 53 = ob 0 [vr E 54, vr E 55] := (f_s21 53 (by decide)).trans u23_s20'
  have q54_s21 : s21 54 = ai E 6 (fun _ => 0) := (f_s21 54 (by decide)).trans u24_s20'
  have q55_s21 : s21 55 = ai E 6 (fun _ => 0) := (f_s21 55 (by decide)).trans u25_s20'
  refine go_aload_n (pc := 83) hF dX10_init_83 0 rfl ?_
  refine go_new (pc := 84) (k := (55, 1057)) hF (56, 1062) (57) nw_X10_55 dX10_init_84 (show s.heap.size + 55 = ez E + (56) by omega) (Or.inl (by omega)) (by rw [hR]; exact Nat.le_of_ble_eq_true rfl) (by rw [hR]; exact Nat.le_of_ble_eq_true rfl) rfl rfl (fun s22 u_s22 f_s22 => ?_)
  have x_s22 : s22 0 = ob 9 [vr E 1, vr E 2, vr E 3, vr E 13, vi 0, vr E 14, vr E 23, vr E 30, .null, .null, .null, vi 0, vi 0, vi 0] := (f_s22 0 (by decide)).trans u_s21
  have q1_s22 : s22 1 = ob 1 [vi 0, vi 2, vi 0, vi 10] := (f_s22 1 (by decide)).trans q1_s21
  have q2_s22 : s22 2 = ob 1 [vi 0, vi 2, vi 0, vi 10] := (f_s22 2 (by decide)).trans q2_s21
  have q3_s22 : s22 3 = ob 5 [vr E 4, vi 0, vi 0] := (f_s22 3 (by decide)).trans q3_s21
  have q4_s22 : s22 4 = ar E 4 8 (up (up (up (up (up (up (up (up (fun _ => -1) 0 ((5 : Nat) : Int)) 1 ((6 : Nat) : Int)) 2 ((7 : Nat) : Int)) 3 ((8 : Nat) : Int)) 4 ((9 : Nat) : Int)) 5 ((10 : Nat) : Int)) 6 ((11 : Nat) : Int)) 7 ((12 : Nat) : Int)) := (f_s22 4 (by decide)).trans q4_s21
  have q5_s22 : s22 5 = ob 1 [vi 0, vi 2, vi 0, vi 10] := (f_s22 5 (by decide)).trans q5_s21
  have q6_s22 : s22 6 = ob 1 [vi 0, vi 2, vi 0, vi 10] := (f_s22 6 (by decide)).trans q6_s21
  have q7_s22 : s22 7 = ob 1 [vi 0, vi 2, vi 0, vi 10] := (f_s22 7 (by decide)).trans q7_s21
  have q8_s22 : s22 8 = ob 1 [vi 0, vi 2, vi 0, vi 10] := (f_s22 8 (by decide)).trans q8_s21
  have q9_s22 : s22 9 = ob 1 [vi 0, vi 2, vi 0, vi 10] := (f_s22 9 (by decide)).trans q9_s21
  have q10_s22 : s22 10 = ob 1 [vi 0, vi 2, vi 0, vi 10] := (f_s22 10 (by decide)).trans q10_s21
  have q11_s22 : s22 11 = ob 1 [vi 0, vi 2, vi 0, vi 10] := (f_s22 11 (by decide)).trans q11_s21
  have q12_s22 : s22 12 = ob 1 [vi 0, vi 2, vi 0, vi 10] := (f_s22 12 (by decide)).trans q12_s21
  have q13_s22 : s22 13 = ai E 80 (fun _ => 0) := (f_s22 13 (by decide)).trans q13_s21
  have q14_s22 : s22 14 = ob 7 [vr E 15, vi 0, vi 0, vr E 16] := (f_s22 14 (by decide)).trans q14_s21
  have q15_s22 : s22 15 = ai E 3 (fun _ => 0) := (f_s22 15 (by decide)).trans q15_s21
  have q16_s22 : s22 16 = ob 6 [vr E 17, vr E 18, vr E 19, vr E 20, vr E 21, vr E 22, vi 0, vi 0, vi 0, vi 0, vi 0, vi 0] := (f_s22 16 (by decide)).trans q16_s21
  have q17_s22 : s22 17 = ai E 80 (fun _ => 0) := (f_s22 17 (by decide)).trans q17_s21
  have q18_s22 : s22 18 = ai E 80 (fun _ => 0) := (f_s22 18 (by decide)).trans q18_s21
  have q19_s22 : s22 19 = ai E 80 (fun _ => 0) := (f_s22 19 (by decide)).trans q19_s21
  have q20_s22 : s22 20 = ai E 80 (fun _ => 0) := (f_s22 20 (by decide)).trans q20_s21
  have q21_s22 : s22 21 = ai E 24 (fun _ => 0) := (f_s22 21 (by decide)).trans q21_s21
  have q22_s22 : s22 22 = ai E 24 (fun _ => 0) := (f_s22 22 (by decide)).trans q22_s21
  have q23_s22 : s22 23 = ob 6 [vr E 24, vr E 25, vr E 26, vr E 27, vr E 28, vr E 29, vi 0, vi 0, vi 0, vi 0, vi 0, vi 0] := (f_s22 23 (by decide)).trans q23_s21
  have q24_s22 : s22 24 = ai E 80 (fun _ => 0) := (f_s22 24 (by decide)).trans q24_s21
  have q25_s22 : s22 25 = ai E 80 (fun _ => 0) := (f_s22 25 (by decide)).trans q25_s21
  have q26_s22 : s22 26 = ai E 80 (fun _ => 0) := (f_s22 26 (by decide)).trans q26_s21
  have q27_s22 : s22 27 = ai E 80 (fun _ => 0) := (f_s22 27 (by decide)).trans q27_s21
  have q28_s22 : s22 28 = ai E 24 (fun _ => 0) := (f_s22 28 (by decide)).trans q28_s21
  have q29_s22 : s22 29 = ai E 24 (fun _ => 0) := (f_s22 29 (by decide)).trans q29_s21
  have q30_s22 : s22 30 = ob 3 [vr E 31, vr E 32, vr E 33, vr E 34, vi 0, vi 0] := (f_s22 30 (by decide)).trans q30_s21
  have q31_s22 : s22 31 = ai E 24 (fun _ => 0) := (f_s22 31 (by decide)).trans q31_s21
  have q32_s22 : s22 32 = ai E 24 (fun _ => 0) := (f_s22 32 (by decide)).trans q32_s21
  have q33_s22 : s22 33 = ar E 3 4 (up (up (up (up (fun _ => -1) 0 ((35 : Nat) : Int)) 1 ((38 : Nat) : Int)) 2 ((41 : Nat) : Int)) 3 ((44 : Nat) : Int)) := (f_s22 33 (by decide)).trans q33_s21
  have q34_s22 : s22 34 = ar E 3 3 (up (up (up (fun _ => -1) 0 ((47 : Nat) : Int)) 1 ((50 : Nat) : Int)) 2 ((53 : Nat) : Int)) := (f_s22 34 (by decide)).trans q34_s21
  have q35_s22 : s22 35 = ob 0 [vr E 36, vr E 37] := (f_s22 35 (by decide)).trans q35_s21
  have q36_s22 : s22 36 = ai E 6 (fun _ => 0) := (f_s22 36 (by decide)).trans q36_s21
  have q37_s22 : s22 37 = ai E 6 (fun _ => 0) := (f_s22 37 (by decide)).trans q37_s21
  have q38_s22 : s22 38 = ob 0 [vr E 39, vr E 40] := (f_s22 38 (by decide)).trans q38_s21
  have q39_s22 : s22 39 = ai E 6 (fun _ => 0) := (f_s22 39 (by decide)).trans q39_s21
  have q40_s22 : s22 40 = ai E 6 (fun _ => 0) := (f_s22 40 (by decide)).trans q40_s21
  have q41_s22 : s22 41 = ob 0 [vr E 42, vr E 43] := (f_s22 41 (by decide)).trans q41_s21
  have q42_s22 : s22 42 = ai E 6 (fun _ => 0) := (f_s22 42 (by decide)).trans q42_s21
  have q43_s22 : s22 43 = ai E 6 (fun _ => 0) := (f_s22 43 (by decide)).trans q43_s21
  have q44_s22 : s22 44 = ob 0 [vr E 45, vr E 46] := (f_s22 44 (by decide)).trans q44_s21
  have q45_s22 : s22 45 = ai E 6 (fun _ => 0) := (f_s22 45 (by decide)).trans q45_s21
  have q46_s22 : s22 46 = ai E 6 (fun _ => 0) := (f_s22 46 (by decide)).trans q46_s21
  have q47_s22 : s22 47 = ob 0 [vr E 48, vr E 49] := (f_s22 47 (by decide)).trans q47_s21
  have q48_s22 : s22 48 = ai E 6 (fun _ => 0) := (f_s22 48 (by decide)).trans q48_s21
  have q49_s22 : s22 49 = ai E 6 (fun _ => 0) := (f_s22 49 (by decide)).trans q49_s21
  have q50_s22 : s22 50 = ob 0 [vr E 51, vr E 52] := (f_s22 50 (by decide)).trans q50_s21
  have q51_s22 : s22 51 = ai E 6 (fun _ => 0) := (f_s22 51 (by decide)).trans q51_s21
  have q52_s22 : s22 52 = ai E 6 (fun _ => 0) := (f_s22 52 (by decide)).trans q52_s21
  have q53_s22 : s22 53 = ob 0 [vr E 54, vr E 55] := (f_s22 53 (by decide)).trans q53_s21
  have q54_s22 : s22 54 = ai E 6 (fun _ => 0) := (f_s22 54 (by decide)).trans q54_s21
  have q55_s22 : s22 55 = ai E 6 (fun _ => 0) := (f_s22 55 (by decide)).trans q55_s21
  refine go_dup (pc := 87) hF dX10_init_87 rfl ?_
  refine go_callI (pc := 88) (k := (56, 1062)) hF (91, 10553) (92) mi_X10_57 dX10_init_88 (c_X2_init E (57) s22 56 (by omega) u_s22) (Nat.le_of_ble_eq_true rfl) (by decide) (by rw [hR]; exact Nat.le_of_ble_eq_true rfl) (by rw [hR]; exact Nat.le_of_ble_eq_true rfl) (fun _ => (show s.heap.size + 56 = ez E + (57) by omega)) (fun _ => (Or.inl (by omega))) rfl rfl (fun s23 h_s23 => ?_)
  obtain ⟨u0_s23, u1_s23, u2_s23, u3_s23, u4_s23, u5_s23, u6_s23, u7_s23, u8_s23, u9_s23, u10_s23, u11_s23, u12_s23, u13_s23, u14_s23, u15_s23, u16_s23, u17_s23, u18_s23, u19_s23, u20_s23, u21_s23, u22_s23, u23_s23, u24_s23, u25_s23, u26_s23, u27_s23, u28_s23, u29_s23, u30_s23, u31_s23, u32_s23, u33_s23, u34_s23, u35_s23, f_s23⟩ := h_s23
  have u0_s23' : s23 56 = ob 2 [vr E 57, vr E 58, vr E 59, vr E 63, vi 0] := u0_s23
  have u1_s23' : s23 57 = ar E 5 4 (up (up (up (up (fun _ => -1) 0 ((64 : Nat) : Int)) 1 ((68 : Nat) : Int)) 2 ((72 : Nat) : Int)) 3 ((76 : Nat) : Int)) := u1_s23
  have u2_s23' : s23 58 = ar E 5 3 (up (up (up (fun _ => -1) 0 ((80 : Nat) : Int)) 1 ((84 : Nat) : Int)) 2 ((88 : Nat) : Int)) := u2_s23
  have u3_s23' : s23 59 = ob 4 [vr E 60, vr E 61, vr E 62, vi 0] := u3_s23
  have u4_s23' : s23 60 = ai E 157 (fun _ => 0) := u4_s23
  have u5_s23' : s23 61 = ai E 512 (fun _ => -1) := u5_s23
  have u6_s23' : s23 62 = ai E 512 (fun _ => 0) := u6_s23
  have u7_s23' : s23 63 = ob 1 [vi 0, vi 2, vi 0, vi 10] := u7_s23
  have u8_s23' : s23 64 = ob 4 [vr E 65, vr E 66, vr E 67, vi 0] := u8_s23
  have u9_s23' : s23 65 = ai E 157 (fun _ => 0) := u9_s23
  have u10_s23' : s23 66 = ai E 512 (fun _ => -1) := u10_s23
  have u11_s23' : s23 67 = ai E 512 (fun _ => 0) := u11_s23
  have u12_s23' : s23 68 = ob 4 [vr E 69, vr E 70, vr E 71, vi 0] := u12_s23
  have u13_s23' : s23 69 = ai E 157 (fun _ => 0) := u13_s23
  have u14_s23' : s23 70 = ai E 512 (fun _ => -1) := u14_s23
  have u15_s23' : s23 71 = ai E 512 (fun _ => 0) := u15_s23
  have u16_s23' : s23 72 = ob 4 [vr E 73, vr E 74, vr E 75, vi 0] := u16_s23
  have u17_s23' : s23 73 = ai E 157 (fun _ => 0) := u17_s23
  have u18_s23' : s23 74 = ai E 512 (fun _ => -1) := u18_s23
  have u19_s23' : s23 75 = ai E 512 (fun _ => 0) := u19_s23
  have u20_s23' : s23 76 = ob 4 [vr E 77, vr E 78, vr E 79, vi 0] := u20_s23
  have u21_s23' : s23 77 = ai E 157 (fun _ => 0) := u21_s23
  have u22_s23' : s23 78 = ai E 512 (fun _ => -1) := u22_s23
  have u23_s23' : s23 79 = ai E 512 (fun _ => 0) := u23_s23
  have u24_s23' : s23 80 = ob 4 [vr E 81, vr E 82, vr E 83, vi 0] := u24_s23
  have u25_s23' : s23 81 = ai E 157 (fun _ => 0) := u25_s23
  have u26_s23' : s23 82 = ai E 512 (fun _ => -1) := u26_s23
  have u27_s23' : s23 83 = ai E 512 (fun _ => 0) := u27_s23
  have u28_s23' : s23 84 = ob 4 [vr E 85, vr E 86, vr E 87, vi 0] := u28_s23
  have u29_s23' : s23 85 = ai E 157 (fun _ => 0) := u29_s23
  have u30_s23' : s23 86 = ai E 512 (fun _ => -1) := u30_s23
  have u31_s23' : s23 87 = ai E 512 (fun _ => 0) := u31_s23
  have u32_s23' : s23 88 = ob 4 [vr E 89, vr E 90, vr E 91, vi 0] := u32_s23
  have u33_s23' : s23 89 = ai E 157 (fun _ => 0) := u33_s23
  have u34_s23' : s23 90 = ai E 512 (fun _ => -1) := u34_s23
  have u35_s23' : s23 91 = ai E 512 (fun _ => 0) := u35_s23
  have x_s23 : s23 0 = ob 9 [vr E 1, vr E 2, vr E 3, vr E 13, vi 0, vr E 14, vr E 23, vr E 30, .null, .null, .null, vi 0, vi 0, vi 0] := (f_s23 0 (by decide)).trans x_s22
  have q1_s23 : s23 1 = ob 1 [vi 0, vi 2, vi 0, vi 10] := (f_s23 1 (by decide)).trans q1_s22
  have q2_s23 : s23 2 = ob 1 [vi 0, vi 2, vi 0, vi 10] := (f_s23 2 (by decide)).trans q2_s22
  have q3_s23 : s23 3 = ob 5 [vr E 4, vi 0, vi 0] := (f_s23 3 (by decide)).trans q3_s22
  have q4_s23 : s23 4 = ar E 4 8 (up (up (up (up (up (up (up (up (fun _ => -1) 0 ((5 : Nat) : Int)) 1 ((6 : Nat) : Int)) 2 ((7 : Nat) : Int)) 3 ((8 : Nat) : Int)) 4 ((9 : Nat) : Int)) 5 ((10 : Nat) : Int)) 6 ((11 : Nat) : Int)) 7 ((12 : Nat) : Int)) := (f_s23 4 (by decide)).trans q4_s22
  have q5_s23 : s23 5 = ob 1 [vi 0, vi 2, vi 0, vi 10] := (f_s23 5 (by decide)).trans q5_s22
  have q6_s23 : s23 6 = ob 1 [vi 0, vi 2, vi 0, vi 10] := (f_s23 6 (by decide)).trans q6_s22
  have q7_s23 : s23 7 = ob 1 [vi 0, vi 2, vi 0, vi 10] := (f_s23 7 (by decide)).trans q7_s22
  have q8_s23 : s23 8 = ob 1 [vi 0, vi 2, vi 0, vi 10] := (f_s23 8 (by decide)).trans q8_s22
  have q9_s23 : s23 9 = ob 1 [vi 0, vi 2, vi 0, vi 10] := (f_s23 9 (by decide)).trans q9_s22
  have q10_s23 : s23 10 = ob 1 [vi 0, vi 2, vi 0, vi 10] := (f_s23 10 (by decide)).trans q10_s22
  have q11_s23 : s23 11 = ob 1 [vi 0, vi 2, vi 0, vi 10] := (f_s23 11 (by decide)).trans q11_s22
  have q12_s23 : s23 12 = ob 1 [vi 0, vi 2, vi 0, vi 10] := (f_s23 12 (by decide)).trans q12_s22
  have q13_s23 : s23 13 = ai E 80 (fun _ => 0) := (f_s23 13 (by decide)).trans q13_s22
  have q14_s23 : s23 14 = ob 7 [vr E 15, vi 0, vi 0, vr E 16] := (f_s23 14 (by decide)).trans q14_s22
  have q15_s23 : s23 15 = ai E 3 (fun _ => 0) := (f_s23 15 (by decide)).trans q15_s22
  have q16_s23 : s23 16 = ob 6 [vr E 17, vr E 18, vr E 19, vr E 20, vr E 21, vr E 22, vi 0, vi 0, vi 0, vi 0, vi 0, vi 0] := (f_s23 16 (by decide)).trans q16_s22
  have q17_s23 : s23 17 = ai E 80 (fun _ => 0) := (f_s23 17 (by decide)).trans q17_s22
  have q18_s23 : s23 18 = ai E 80 (fun _ => 0) := (f_s23 18 (by decide)).trans q18_s22
  have q19_s23 : s23 19 = ai E 80 (fun _ => 0) := (f_s23 19 (by decide)).trans q19_s22
  have q20_s23 : s23 20 = ai E 80 (fun _ => 0) := (f_s23 20 (by decide)).trans q20_s22
  have q21_s23 : s23 21 = ai E 24 (fun _ => 0) := (f_s23 21 (by decide)).trans q21_s22
  have q22_s23 : s23 22 = ai E 24 (fun _ => 0) := (f_s23 22 (by decide)).trans q22_s22
  have q23_s23 : s23 23 = ob 6 [vr E 24, vr E 25, vr E 26, vr E 27, vr E 28, vr E 29, vi 0, vi 0, vi 0, vi 0, vi 0, vi 0] := (f_s23 23 (by decide)).trans q23_s22
  have q24_s23 : s23 24 = ai E 80 (fun _ => 0) := (f_s23 24 (by decide)).trans q24_s22
  have q25_s23 : s23 25 = ai E 80 (fun _ => 0) := (f_s23 25 (by decide)).trans q25_s22
  have q26_s23 : s23 26 = ai E 80 (fun _ => 0) := (f_s23 26 (by decide)).trans q26_s22
  have q27_s23 : s23 27 = ai E 80 (fun _ => 0) := (f_s23 27 (by decide)).trans q27_s22
  have q28_s23 : s23 28 = ai E 24 (fun _ => 0) := (f_s23 28 (by decide)).trans q28_s22
  have q29_s23 : s23 29 = ai E 24 (fun _ => 0) := (f_s23 29 (by decide)).trans q29_s22
  have q30_s23 : s23 30 = ob 3 [vr E 31, vr E 32, vr E 33, vr E 34, vi 0, vi 0] := (f_s23 30 (by decide)).trans q30_s22
  have q31_s23 : s23 31 = ai E 24 (fun _ => 0) := (f_s23 31 (by decide)).trans q31_s22
  have q32_s23 : s23 32 = ai E 24 (fun _ => 0) := (f_s23 32 (by decide)).trans q32_s22
  have q33_s23 : s23 33 = ar E 3 4 (up (up (up (up (fun _ => -1) 0 ((35 : Nat) : Int)) 1 ((38 : Nat) : Int)) 2 ((41 : Nat) : Int)) 3 ((44 : Nat) : Int)) := (f_s23 33 (by decide)).trans q33_s22
  have q34_s23 : s23 34 = ar E 3 3 (up (up (up (fun _ => -1) 0 ((47 : Nat) : Int)) 1 ((50 : Nat) : Int)) 2 ((53 : Nat) : Int)) := (f_s23 34 (by decide)).trans q34_s22
  have q35_s23 : s23 35 = ob 0 [vr E 36, vr E 37] := (f_s23 35 (by decide)).trans q35_s22
  have q36_s23 : s23 36 = ai E 6 (fun _ => 0) := (f_s23 36 (by decide)).trans q36_s22
  have q37_s23 : s23 37 = ai E 6 (fun _ => 0) := (f_s23 37 (by decide)).trans q37_s22
  have q38_s23 : s23 38 = ob 0 [vr E 39, vr E 40] := (f_s23 38 (by decide)).trans q38_s22
  have q39_s23 : s23 39 = ai E 6 (fun _ => 0) := (f_s23 39 (by decide)).trans q39_s22
  have q40_s23 : s23 40 = ai E 6 (fun _ => 0) := (f_s23 40 (by decide)).trans q40_s22
  have q41_s23 : s23 41 = ob 0 [vr E 42, vr E 43] := (f_s23 41 (by decide)).trans q41_s22
  have q42_s23 : s23 42 = ai E 6 (fun _ => 0) := (f_s23 42 (by decide)).trans q42_s22
  have q43_s23 : s23 43 = ai E 6 (fun _ => 0) := (f_s23 43 (by decide)).trans q43_s22
  have q44_s23 : s23 44 = ob 0 [vr E 45, vr E 46] := (f_s23 44 (by decide)).trans q44_s22
  have q45_s23 : s23 45 = ai E 6 (fun _ => 0) := (f_s23 45 (by decide)).trans q45_s22
  have q46_s23 : s23 46 = ai E 6 (fun _ => 0) := (f_s23 46 (by decide)).trans q46_s22
  have q47_s23 : s23 47 = ob 0 [vr E 48, vr E 49] := (f_s23 47 (by decide)).trans q47_s22
  have q48_s23 : s23 48 = ai E 6 (fun _ => 0) := (f_s23 48 (by decide)).trans q48_s22
  have q49_s23 : s23 49 = ai E 6 (fun _ => 0) := (f_s23 49 (by decide)).trans q49_s22
  have q50_s23 : s23 50 = ob 0 [vr E 51, vr E 52] := (f_s23 50 (by decide)).trans q50_s22
  have q51_s23 : s23 51 = ai E 6 (fun _ => 0) := (f_s23 51 (by decide)).trans q51_s22
  have q52_s23 : s23 52 = ai E 6 (fun _ => 0) := (f_s23 52 (by decide)).trans q52_s22
  have q53_s23 : s23 53 = ob 0 [vr E 54, vr E 55] := (f_s23 53 (by decide)).trans q53_s22
  have q54_s23 : s23 54 = ai E 6 (fun _ => 0) := (f_s23 54 (by decide)).trans q54_s22
  have q55_s23 : s23 55 = ai E 6 (fun _ => 0) := (f_s23 55 (by decide)).trans q55_s22
  refine go_putF (pc := 91) hF [vr E 1, vr E 2, vr E 3, vr E 13, vi 0, vr E 14, vr E 23, vr E 30, vr E 56, .null, .null, vi 0, vi 0, vi 0] fl_X10_58 (fun C₉ T n₉ h => by have e9₉ : some (C₉, T, n₉) = some (RX10, TX10, 14) := h.symm; cases e9₉; rfl) hnm dX10_init_91 (by omega) x_s23 rfl rfl rfl (Nat.le_of_ble_eq_true rfl) (fun s24 u_s24 f_s24 => ?_)
  have q1_s24 : s24 1 = ob 1 [vi 0, vi 2, vi 0, vi 10] := (f_s24 1 (by decide)).trans q1_s23
  have q2_s24 : s24 2 = ob 1 [vi 0, vi 2, vi 0, vi 10] := (f_s24 2 (by decide)).trans q2_s23
  have q3_s24 : s24 3 = ob 5 [vr E 4, vi 0, vi 0] := (f_s24 3 (by decide)).trans q3_s23
  have q4_s24 : s24 4 = ar E 4 8 (up (up (up (up (up (up (up (up (fun _ => -1) 0 ((5 : Nat) : Int)) 1 ((6 : Nat) : Int)) 2 ((7 : Nat) : Int)) 3 ((8 : Nat) : Int)) 4 ((9 : Nat) : Int)) 5 ((10 : Nat) : Int)) 6 ((11 : Nat) : Int)) 7 ((12 : Nat) : Int)) := (f_s24 4 (by decide)).trans q4_s23
  have q5_s24 : s24 5 = ob 1 [vi 0, vi 2, vi 0, vi 10] := (f_s24 5 (by decide)).trans q5_s23
  have q6_s24 : s24 6 = ob 1 [vi 0, vi 2, vi 0, vi 10] := (f_s24 6 (by decide)).trans q6_s23
  have q7_s24 : s24 7 = ob 1 [vi 0, vi 2, vi 0, vi 10] := (f_s24 7 (by decide)).trans q7_s23
  have q8_s24 : s24 8 = ob 1 [vi 0, vi 2, vi 0, vi 10] := (f_s24 8 (by decide)).trans q8_s23
  have q9_s24 : s24 9 = ob 1 [vi 0, vi 2, vi 0, vi 10] := (f_s24 9 (by decide)).trans q9_s23
  have q10_s24 : s24 10 = ob 1 [vi 0, vi 2, vi 0, vi 10] := (f_s24 10 (by decide)).trans q10_s23
  have q11_s24 : s24 11 = ob 1 [vi 0, vi 2, vi 0, vi 10] := (f_s24 11 (by decide)).trans q11_s23
  have q12_s24 : s24 12 = ob 1 [vi 0, vi 2, vi 0, vi 10] := (f_s24 12 (by decide)).trans q12_s23
  have q13_s24 : s24 13 = ai E 80 (fun _ => 0) := (f_s24 13 (by decide)).trans q13_s23
  have q14_s24 : s24 14 = ob 7 [vr E 15, vi 0, vi 0, vr E 16] := (f_s24 14 (by decide)).trans q14_s23
  have q15_s24 : s24 15 = ai E 3 (fun _ => 0) := (f_s24 15 (by decide)).trans q15_s23
  have q16_s24 : s24 16 = ob 6 [vr E 17, vr E 18, vr E 19, vr E 20, vr E 21, vr E 22, vi 0, vi 0, vi 0, vi 0, vi 0, vi 0] := (f_s24 16 (by decide)).trans q16_s23
  have q17_s24 : s24 17 = ai E 80 (fun _ => 0) := (f_s24 17 (by decide)).trans q17_s23
  have q18_s24 : s24 18 = ai E 80 (fun _ => 0) := (f_s24 18 (by decide)).trans q18_s23
  have q19_s24 : s24 19 = ai E 80 (fun _ => 0) := (f_s24 19 (by decide)).trans q19_s23
  have q20_s24 : s24 20 = ai E 80 (fun _ => 0) := (f_s24 20 (by decide)).trans q20_s23
  have q21_s24 : s24 21 = ai E 24 (fun _ => 0) := (f_s24 21 (by decide)).trans q21_s23
  have q22_s24 : s24 22 = ai E 24 (fun _ => 0) := (f_s24 22 (by decide)).trans q22_s23
  have q23_s24 : s24 23 = ob 6 [vr E 24, vr E 25, vr E 26, vr E 27, vr E 28, vr E 29, vi 0, vi 0, vi 0, vi 0, vi 0, vi 0] := (f_s24 23 (by decide)).trans q23_s23
  have q24_s24 : s24 24 = ai E 80 (fun _ => 0) := (f_s24 24 (by decide)).trans q24_s23
  have q25_s24 : s24 25 = ai E 80 (fun _ => 0) := (f_s24 25 (by decide)).trans q25_s23
  have q26_s24 : s24 26 = ai E 80 (fun _ => 0) := (f_s24 26 (by decide)).trans q26_s23
  have q27_s24 : s24 27 = ai E 80 (fun _ => 0) := (f_s24 27 (by decide)).trans q27_s23
  have q28_s24 : s24 28 = ai E 24 (fun _ => 0) := (f_s24 28 (by decide)).trans q28_s23
  have q29_s24 : s24 29 = ai E 24 (fun _ => 0) := (f_s24 29 (by decide)).trans q29_s23
  have q30_s24 : s24 30 = ob 3 [vr E 31, vr E 32, vr E 33, vr E 34, vi 0, vi 0] := (f_s24 30 (by decide)).trans q30_s23
  have q31_s24 : s24 31 = ai E 24 (fun _ => 0) := (f_s24 31 (by decide)).trans q31_s23
  have q32_s24 : s24 32 = ai E 24 (fun _ => 0) := (f_s24 32 (by decide)).trans q32_s23
  have q33_s24 : s24 33 = ar E 3 4 (up (up (up (up (fun _ => -1) 0 ((35 : Nat) : Int)) 1 ((38 : Nat) : Int)) 2 ((41 : Nat) : Int)) 3 ((44 : Nat) : Int)) := (f_s24 33 (by decide)).trans q33_s23
  have q34_s24 : s24 34 = ar E 3 3 (up (up (up (fun _ => -1) 0 ((47 : Nat) : Int)) 1 ((50 : Nat) : Int)) 2 ((53 : Nat) : Int)) := (f_s24 34 (by decide)).trans q34_s23
  have q35_s24 : s24 35 = ob 0 [vr E 36, vr E 37] := (f_s24 35 (by decide)).trans q35_s23
  have q36_s24 : s24 36 = ai E 6 (fun _ => 0) := (f_s24 36 (by decide)).trans q36_s23
  have q37_s24 : s24 37 = ai E 6 (fun _ => 0) := (f_s24 37 (by decide)).trans q37_s23
  have q38_s24 : s24 38 = ob 0 [vr E 39, vr E 40] := (f_s24 38 (by decide)).trans q38_s23
  have q39_s24 : s24 39 = ai E 6 (fun _ => 0) := (f_s24 39 (by decide)).trans q39_s23
  have q40_s24 : s24 40 = ai E 6 (fun _ => 0) := (f_s24 40 (by decide)).trans q40_s23
  have q41_s24 : s24 41 = ob 0 [vr E 42, vr E 43] := (f_s24 41 (by decide)).trans q41_s23
  have q42_s24 : s24 42 = ai E 6 (fun _ => 0) := (f_s24 42 (by decide)).trans q42_s23
  have q43_s24 : s24 43 = ai E 6 (fun _ => 0) := (f_s24 43 (by decide)).trans q43_s23
  have q44_s24 : s24 44 = ob 0 [vr E 45, vr E 46] := (f_s24 44 (by decide)).trans q44_s23
  have q45_s24 : s24 45 = ai E 6 (fun _ => 0) := (f_s24 45 (by decide)).trans q45_s23
  have q46_s24 : s24 46 = ai E 6 (fun _ => 0) := (f_s24 46 (by decide)).trans q46_s23
  have q47_s24 : s24 47 = ob 0 [vr E 48, vr E 49] := (f_s24 47 (by decide)).trans q47_s23
  have q48_s24 : s24 48 = ai E 6 (fun _ => 0) := (f_s24 48 (by decide)).trans q48_s23
  have q49_s24 : s24 49 = ai E 6 (fun _ => 0) := (f_s24 49 (by decide)).trans q49_s23
  have q50_s24 : s24 50 = ob 0 [vr E 51, vr E 52] := (f_s24 50 (by decide)).trans q50_s23
  have q51_s24 : s24 51 = ai E 6 (fun _ => 0) := (f_s24 51 (by decide)).trans q51_s23
  have q52_s24 : s24 52 = ai E 6 (fun _ => 0) := (f_s24 52 (by decide)).trans q52_s23
  have q53_s24 : s24 53 = ob 0 [vr E 54, vr E 55] := (f_s24 53 (by decide)).trans q53_s23
  have q54_s24 : s24 54 = ai E 6 (fun _ => 0) := (f_s24 54 (by decide)).trans q54_s23
  have q55_s24 : s24 55 = ai E 6 (fun _ => 0) := (f_s24 55 (by decide)).trans q55_s23
  have q56_s24 : s24 56 = ob 2 [vr E 57, vr E 58, vr E 59, vr E 63, vi 0] := (f_s24 56 (by decide)).trans u0_s23'
  have q57_s24 : s24 57 = ar E 5 4 (up (up (up (up (fun _ => -1) 0 ((64 : Nat) : Int)) 1 ((68 : Nat) : Int)) 2 ((72 : Nat) : Int)) 3 ((76 : Nat) : Int)) := (f_s24 57 (by decide)).trans u1_s23'
  have q58_s24 : s24 58 = ar E 5 3 (up (up (up (fun _ => -1) 0 ((80 : Nat) : Int)) 1 ((84 : Nat) : Int)) 2 ((88 : Nat) : Int)) := (f_s24 58 (by decide)).trans u2_s23'
  have q59_s24 : s24 59 = ob 4 [vr E 60, vr E 61, vr E 62, vi 0] := (f_s24 59 (by decide)).trans u3_s23'
  have q60_s24 : s24 60 = ai E 157 (fun _ => 0) := (f_s24 60 (by decide)).trans u4_s23'
  have q61_s24 : s24 61 = ai E 512 (fun _ => -1) := (f_s24 61 (by decide)).trans u5_s23'
  have q62_s24 : s24 62 = ai E 512 (fun _ => 0) := (f_s24 62 (by decide)).trans u6_s23'
  have q63_s24 : s24 63 = ob 1 [vi 0, vi 2, vi 0, vi 10] := (f_s24 63 (by decide)).trans u7_s23'
  have q64_s24 : s24 64 = ob 4 [vr E 65, vr E 66, vr E 67, vi 0] := (f_s24 64 (by decide)).trans u8_s23'
  have q65_s24 : s24 65 = ai E 157 (fun _ => 0) := (f_s24 65 (by decide)).trans u9_s23'
  have q66_s24 : s24 66 = ai E 512 (fun _ => -1) := (f_s24 66 (by decide)).trans u10_s23'
  have q67_s24 : s24 67 = ai E 512 (fun _ => 0) := (f_s24 67 (by decide)).trans u11_s23'
  have q68_s24 : s24 68 = ob 4 [vr E 69, vr E 70, vr E 71, vi 0] := (f_s24 68 (by decide)).trans u12_s23'
  have q69_s24 : s24 69 = ai E 157 (fun _ => 0) := (f_s24 69 (by decide)).trans u13_s23'
  have q70_s24 : s24 70 = ai E 512 (fun _ => -1) := (f_s24 70 (by decide)).trans u14_s23'
  have q71_s24 : s24 71 = ai E 512 (fun _ => 0) := (f_s24 71 (by decide)).trans u15_s23'
  have q72_s24 : s24 72 = ob 4 [vr E 73, vr E 74, vr E 75, vi 0] := (f_s24 72 (by decide)).trans u16_s23'
  have q73_s24 : s24 73 = ai E 157 (fun _ => 0) := (f_s24 73 (by decide)).trans u17_s23'
  have q74_s24 : s24 74 = ai E 512 (fun _ => -1) := (f_s24 74 (by decide)).trans u18_s23'
  have q75_s24 : s24 75 = ai E 512 (fun _ => 0) := (f_s24 75 (by decide)).trans u19_s23'
  have q76_s24 : s24 76 = ob 4 [vr E 77, vr E 78, vr E 79, vi 0] := (f_s24 76 (by decide)).trans u20_s23'
  have q77_s24 : s24 77 = ai E 157 (fun _ => 0) := (f_s24 77 (by decide)).trans u21_s23'
  have q78_s24 : s24 78 = ai E 512 (fun _ => -1) := (f_s24 78 (by decide)).trans u22_s23'
  have q79_s24 : s24 79 = ai E 512 (fun _ => 0) := (f_s24 79 (by decide)).trans u23_s23'
  have q80_s24 : s24 80 = ob 4 [vr E 81, vr E 82, vr E 83, vi 0] := (f_s24 80 (by decide)).trans u24_s23'
  have q81_s24 : s24 81 = ai E 157 (fun _ => 0) := (f_s24 81 (by decide)).trans u25_s23'
  have q82_s24 : s24 82 = ai E 512 (fun _ => -1) := (f_s24 82 (by decide)).trans u26_s23'
  have q83_s24 : s24 83 = ai E 512 (fun _ => 0) := (f_s24 83 (by decide)).trans u27_s23'
  have q84_s24 : s24 84 = ob 4 [vr E 85, vr E 86, vr E 87, vi 0] := (f_s24 84 (by decide)).trans u28_s23'
  have q85_s24 : s24 85 = ai E 157 (fun _ => 0) := (f_s24 85 (by decide)).trans u29_s23'
  have q86_s24 : s24 86 = ai E 512 (fun _ => -1) := (f_s24 86 (by decide)).trans u30_s23'
  have q87_s24 : s24 87 = ai E 512 (fun _ => 0) := (f_s24 87 (by decide)).trans u31_s23'
  have q88_s24 : s24 88 = ob 4 [vr E 89, vr E 90, vr E 91, vi 0] := (f_s24 88 (by decide)).trans u32_s23'
  have q89_s24 : s24 89 = ai E 157 (fun _ => 0) := (f_s24 89 (by decide)).trans u33_s23'
  have q90_s24 : s24 90 = ai E 512 (fun _ => -1) := (f_s24 90 (by decide)).trans u34_s23'
  have q91_s24 : s24 91 = ai E 512 (fun _ => 0) := (f_s24 91 (by decide)).trans u35_s23'
  refine go_aload_n (pc := 94) hF dX10_init_94 0 rfl ?_
  refine go_new (pc := 95) (k := (91, 10553)) hF (92, 10558) (93) nw_X10_62 dX10_init_95 (show s.heap.size + 91 = ez E + (92) by omega) (Or.inl (by omega)) (by rw [hR]; exact Nat.le_of_ble_eq_true rfl) (by rw [hR]; exact Nat.le_of_ble_eq_true rfl) rfl rfl (fun s25 u_s25 f_s25 => ?_)
  have x_s25 : s25 0 = ob 9 [vr E 1, vr E 2, vr E 3, vr E 13, vi 0, vr E 14, vr E 23, vr E 30, vr E 56, .null, .null, vi 0, vi 0, vi 0] := (f_s25 0 (by decide)).trans u_s24
  have q1_s25 : s25 1 = ob 1 [vi 0, vi 2, vi 0, vi 10] := (f_s25 1 (by decide)).trans q1_s24
  have q2_s25 : s25 2 = ob 1 [vi 0, vi 2, vi 0, vi 10] := (f_s25 2 (by decide)).trans q2_s24
  have q3_s25 : s25 3 = ob 5 [vr E 4, vi 0, vi 0] := (f_s25 3 (by decide)).trans q3_s24
  have q4_s25 : s25 4 = ar E 4 8 (up (up (up (up (up (up (up (up (fun _ => -1) 0 ((5 : Nat) : Int)) 1 ((6 : Nat) : Int)) 2 ((7 : Nat) : Int)) 3 ((8 : Nat) : Int)) 4 ((9 : Nat) : Int)) 5 ((10 : Nat) : Int)) 6 ((11 : Nat) : Int)) 7 ((12 : Nat) : Int)) := (f_s25 4 (by decide)).trans q4_s24
  have q5_s25 : s25 5 = ob 1 [vi 0, vi 2, vi 0, vi 10] := (f_s25 5 (by decide)).trans q5_s24
  have q6_s25 : s25 6 = ob 1 [vi 0, vi 2, vi 0, vi 10] := (f_s25 6 (by decide)).trans q6_s24
  have q7_s25 : s25 7 = ob 1 [vi 0, vi 2, vi 0, vi 10] := (f_s25 7 (by decide)).trans q7_s24
  have q8_s25 : s25 8 = ob 1 [vi 0, vi 2, vi 0, vi 10] := (f_s25 8 (by decide)).trans q8_s24
  have q9_s25 : s25 9 = ob 1 [vi 0, vi 2, vi 0, vi 10] := (f_s25 9 (by decide)).trans q9_s24
  have q10_s25 : s25 10 = ob 1 [vi 0, vi 2, vi 0, vi 10] := (f_s25 10 (by decide)).trans q10_s24
  have q11_s25 : s25 11 = ob 1 [vi 0, vi 2, vi 0, vi 10] := (f_s25 11 (by decide)).trans q11_s24
  have q12_s25 : s25 12 = ob 1 [vi 0, vi 2, vi 0, vi 10] := (f_s25 12 (by decide)).trans q12_s24
  have q13_s25 : s25 13 = ai E 80 (fun _ => 0) := (f_s25 13 (by decide)).trans q13_s24
  have q14_s25 : s25 14 = ob 7 [vr E 15, vi 0, vi 0, vr E 16] := (f_s25 14 (by decide)).trans q14_s24
  have q15_s25 : s25 15 = ai E 3 (fun _ => 0) := (f_s25 15 (by decide)).trans q15_s24
  have q16_s25 : s25 16 = ob 6 [vr E 17, vr E 18, vr E 19, vr E 20, vr E 21, vr E 22, vi 0, vi 0, vi 0, vi 0, vi 0, vi 0] := (f_s25 16 (by decide)).trans q16_s24
  have q17_s25 : s25 17 = ai E 80 (fun _ => 0) := (f_s25 17 (by decide)).trans q17_s24
  have q18_s25 : s25 18 = ai E 80 (fun _ => 0) := (f_s25 18 (by decide)).trans q18_s24
  have q19_s25 : s25 19 = ai E 80 (fun _ => 0) := (f_s25 19 (by decide)).trans q19_s24
  have q20_s25 : s25 20 = ai E 80 (fun _ => 0) := (f_s25 20 (by decide)).trans q20_s24
  have q21_s25 : s25 21 = ai E 24 (fun _ => 0) := (f_s25 21 (by decide)).trans q21_s24
  have q22_s25 : s25 22 = ai E 24 (fun _ => 0) := (f_s25 22 (by decide)).trans q22_s24
  have q23_s25 : s25 23 = ob 6 [vr E 24, vr E 25, vr E 26, vr E 27, vr E 28, vr E 29, vi 0, vi 0, vi 0, vi 0, vi 0, vi 0] := (f_s25 23 (by decide)).trans q23_s24
  have q24_s25 : s25 24 = ai E 80 (fun _ => 0) := (f_s25 24 (by decide)).trans q24_s24
  have q25_s25 : s25 25 = ai E 80 (fun _ => 0) := (f_s25 25 (by decide)).trans q25_s24
  have q26_s25 : s25 26 = ai E 80 (fun _ => 0) := (f_s25 26 (by decide)).trans q26_s24
  have q27_s25 : s25 27 = ai E 80 (fun _ => 0) := (f_s25 27 (by decide)).trans q27_s24
  have q28_s25 : s25 28 = ai E 24 (fun _ => 0) := (f_s25 28 (by decide)).trans q28_s24
  have q29_s25 : s25 29 = ai E 24 (fun _ => 0) := (f_s25 29 (by decide)).trans q29_s24
  have q30_s25 : s25 30 = ob 3 [vr E 31, vr E 32, vr E 33, vr E 34, vi 0, vi 0] := (f_s25 30 (by decide)).trans q30_s24
  have q31_s25 : s25 31 = ai E 24 (fun _ => 0) := (f_s25 31 (by decide)).trans q31_s24
  have q32_s25 : s25 32 = ai E 24 (fun _ => 0) := (f_s25 32 (by decide)).trans q32_s24
  have q33_s25 : s25 33 = ar E 3 4 (up (up (up (up (fun _ => -1) 0 ((35 : Nat) : Int)) 1 ((38 : Nat) : Int)) 2 ((41 : Nat) : Int)) 3 ((44 : Nat) : Int)) := (f_s25 33 (by decide)).trans q33_s24
  have q34_s25 : s25 34 = ar E 3 3 (up (up (up (fun _ => -1) 0 ((47 : Nat) : Int)) 1 ((50 : Nat) : Int)) 2 ((53 : Nat) : Int)) := (f_s25 34 (by decide)).trans q34_s24
  have q35_s25 : s25 35 = ob 0 [vr E 36, vr E 37] := (f_s25 35 (by decide)).trans q35_s24
  have q36_s25 : s25 36 = ai E 6 (fun _ => 0) := (f_s25 36 (by decide)).trans q36_s24
  have q37_s25 : s25 37 = ai E 6 (fun _ => 0) := (f_s25 37 (by decide)).trans q37_s24
  have q38_s25 : s25 38 = ob 0 [vr E 39, vr E 40] := (f_s25 38 (by decide)).trans q38_s24
  have q39_s25 : s25 39 = ai E 6 (fun _ => 0) := (f_s25 39 (by decide)).trans q39_s24
  have q40_s25 : s25 40 = ai E 6 (fun _ => 0) := (f_s25 40 (by decide)).trans q40_s24
  have q41_s25 : s25 41 = ob 0 [vr E 42, vr E 43] := (f_s25 41 (by decide)).trans q41_s24
  have q42_s25 : s25 42 = ai E 6 (fun _ => 0) := (f_s25 42 (by decide)).trans q42_s24
  have q43_s25 : s25 43 = ai E 6 (fun _ => 0) := (f_s25 43 (by decide)).trans q43_s24
  have q44_s25 : s25 44 = ob 0 [vr E 45, vr E 46] := (f_s25 44 (by decide)).trans q44_s24
  have q45_s25 : s25 45 = ai E 6 (fun _ => 0) := (f_s25 45 (by decide)).trans q45_s24
  have q46_s25 : s25 46 = ai E 6 (fun _ => 0) := (f_s25 46 (by decide)).trans q46_s24
  have q47_s25 : s25 47 = ob 0 [vr E 48, vr E 49] := (f_s25 47 (by decide)).trans q47_s24
  have q48_s25 : s25 48 = ai E 6 (fun _ => 0) := (f_s25 48 (by decide)).trans q48_s24
  have q49_s25 : s25 49 = ai E 6 (fun _ => 0) := (f_s25 49 (by decide)).trans q49_s24
  have q50_s25 : s25 50 = ob 0 [vr E 51, vr E 52] := (f_s25 50 (by decide)).trans q50_s24
  have q51_s25 : s25 51 = ai E 6 (fun _ => 0) := (f_s25 51 (by decide)).trans q51_s24
  have q52_s25 : s25 52 = ai E 6 (fun _ => 0) := (f_s25 52 (by decide)).trans q52_s24
  have q53_s25 : s25 53 = ob 0 [vr E 54, vr E 55] := (f_s25 53 (by decide)).trans q53_s24
  have q54_s25 : s25 54 = ai E 6 (fun _ => 0) := (f_s25 54 (by decide)).trans q54_s24
  have q55_s25 : s25 55 = ai E 6 (fun _ => 0) := (f_s25 55 (by decide)).trans q55_s24
  have q56_s25 : s25 56 = ob 2 [vr E 57, vr E 58, vr E 59, vr E 63, vi 0] := (f_s25 56 (by decide)).trans q56_s24
  have q57_s25 : s25 57 = ar E 5 4 (up (up (up (up (fun _ => -1) 0 ((64 : Nat) : Int)) 1 ((68 : Nat) : Int)) 2 ((72 : Nat) : Int)) 3 ((76 : Nat) : Int)) := (f_s25 57 (by decide)).trans q57_s24
  have q58_s25 : s25 58 = ar E 5 3 (up (up (up (fun _ => -1) 0 ((80 : Nat) : Int)) 1 ((84 : Nat) : Int)) 2 ((88 : Nat) : Int)) := (f_s25 58 (by decide)).trans q58_s24
  have q59_s25 : s25 59 = ob 4 [vr E 60, vr E 61, vr E 62, vi 0] := (f_s25 59 (by decide)).trans q59_s24
  have q60_s25 : s25 60 = ai E 157 (fun _ => 0) := (f_s25 60 (by decide)).trans q60_s24
  have q61_s25 : s25 61 = ai E 512 (fun _ => -1) := (f_s25 61 (by decide)).trans q61_s24
  have q62_s25 : s25 62 = ai E 512 (fun _ => 0) := (f_s25 62 (by decide)).trans q62_s24
  have q63_s25 : s25 63 = ob 1 [vi 0, vi 2, vi 0, vi 10] := (f_s25 63 (by decide)).trans q63_s24
  have q64_s25 : s25 64 = ob 4 [vr E 65, vr E 66, vr E 67, vi 0] := (f_s25 64 (by decide)).trans q64_s24
  have q65_s25 : s25 65 = ai E 157 (fun _ => 0) := (f_s25 65 (by decide)).trans q65_s24
  have q66_s25 : s25 66 = ai E 512 (fun _ => -1) := (f_s25 66 (by decide)).trans q66_s24
  have q67_s25 : s25 67 = ai E 512 (fun _ => 0) := (f_s25 67 (by decide)).trans q67_s24
  have q68_s25 : s25 68 = ob 4 [vr E 69, vr E 70, vr E 71, vi 0] := (f_s25 68 (by decide)).trans q68_s24
  have q69_s25 : s25 69 = ai E 157 (fun _ => 0) := (f_s25 69 (by decide)).trans q69_s24
  have q70_s25 : s25 70 = ai E 512 (fun _ => -1) := (f_s25 70 (by decide)).trans q70_s24
  have q71_s25 : s25 71 = ai E 512 (fun _ => 0) := (f_s25 71 (by decide)).trans q71_s24
  have q72_s25 : s25 72 = ob 4 [vr E 73, vr E 74, vr E 75, vi 0] := (f_s25 72 (by decide)).trans q72_s24
  have q73_s25 : s25 73 = ai E 157 (fun _ => 0) := (f_s25 73 (by decide)).trans q73_s24
  have q74_s25 : s25 74 = ai E 512 (fun _ => -1) := (f_s25 74 (by decide)).trans q74_s24
  have q75_s25 : s25 75 = ai E 512 (fun _ => 0) := (f_s25 75 (by decide)).trans q75_s24
  have q76_s25 : s25 76 = ob 4 [vr E 77, vr E 78, vr E 79, vi 0] := (f_s25 76 (by decide)).trans q76_s24
  have q77_s25 : s25 77 = ai E 157 (fun _ => 0) := (f_s25 77 (by decide)).trans q77_s24
  have q78_s25 : s25 78 = ai E 512 (fun _ => -1) := (f_s25 78 (by decide)).trans q78_s24
  have q79_s25 : s25 79 = ai E 512 (fun _ => 0) := (f_s25 79 (by decide)).trans q79_s24
  have q80_s25 : s25 80 = ob 4 [vr E 81, vr E 82, vr E 83, vi 0] := (f_s25 80 (by decide)).trans q80_s24
  have q81_s25 : s25 81 = ai E 157 (fun _ => 0) := (f_s25 81 (by decide)).trans q81_s24
  have q82_s25 : s25 82 = ai E 512 (fun _ => -1) := (f_s25 82 (by decide)).trans q82_s24
  have q83_s25 : s25 83 = ai E 512 (fun _ => 0) := (f_s25 83 (by decide)).trans q83_s24
  have q84_s25 : s25 84 = ob 4 [vr E 85, vr E 86, vr E 87, vi 0] := (f_s25 84 (by decide)).trans q84_s24
  have q85_s25 : s25 85 = ai E 157 (fun _ => 0) := (f_s25 85 (by decide)).trans q85_s24
  have q86_s25 : s25 86 = ai E 512 (fun _ => -1) := (f_s25 86 (by decide)).trans q86_s24
  have q87_s25 : s25 87 = ai E 512 (fun _ => 0) := (f_s25 87 (by decide)).trans q87_s24
  have q88_s25 : s25 88 = ob 4 [vr E 89, vr E 90, vr E 91, vi 0] := (f_s25 88 (by decide)).trans q88_s24
  have q89_s25 : s25 89 = ai E 157 (fun _ => 0) := (f_s25 89 (by decide)).trans q89_s24
  have q90_s25 : s25 90 = ai E 512 (fun _ => -1) := (f_s25 90 (by decide)).trans q90_s24
  have q91_s25 : s25 91 = ai E 512 (fun _ => 0) := (f_s25 91 (by decide)).trans q91_s24
  refine go_dup (pc := 98) hF dX10_init_98 rfl ?_
  refine go_callIN (pc := 99) (k := (92, 10558)) hF (92, 10558) (93) mi_X10_64 dX10_init_99 (c_X9_init E (93) s25 92 (by omega) u_s25) (Nat.le_of_ble_eq_true rfl) (by decide) (by rw [hR]; exact Nat.le_of_ble_eq_true rfl) (by rw [hR]; exact Nat.le_of_ble_eq_true rfl) (fun _ => (show s.heap.size + 92 = ez E + (93) by omega)) (fun _ => (Or.inl (by omega))) rfl rfl (fun s26 h_s26 => ?_)
  obtain ⟨u0_s26, f_s26⟩ := h_s26
  have u0_s26' : s26 92 = ob 8 [vi 0, vi 0, vi 0, vi 0, vi 0] := u0_s26
  have x_s26 : s26 0 = ob 9 [vr E 1, vr E 2, vr E 3, vr E 13, vi 0, vr E 14, vr E 23, vr E 30, vr E 56, .null, .null, vi 0, vi 0, vi 0] := (f_s26 0 (by decide)).trans x_s25
  have q1_s26 : s26 1 = ob 1 [vi 0, vi 2, vi 0, vi 10] := (f_s26 1 (by decide)).trans q1_s25
  have q2_s26 : s26 2 = ob 1 [vi 0, vi 2, vi 0, vi 10] := (f_s26 2 (by decide)).trans q2_s25
  have q3_s26 : s26 3 = ob 5 [vr E 4, vi 0, vi 0] := (f_s26 3 (by decide)).trans q3_s25
  have q4_s26 : s26 4 = ar E 4 8 (up (up (up (up (up (up (up (up (fun _ => -1) 0 ((5 : Nat) : Int)) 1 ((6 : Nat) : Int)) 2 ((7 : Nat) : Int)) 3 ((8 : Nat) : Int)) 4 ((9 : Nat) : Int)) 5 ((10 : Nat) : Int)) 6 ((11 : Nat) : Int)) 7 ((12 : Nat) : Int)) := (f_s26 4 (by decide)).trans q4_s25
  have q5_s26 : s26 5 = ob 1 [vi 0, vi 2, vi 0, vi 10] := (f_s26 5 (by decide)).trans q5_s25
  have q6_s26 : s26 6 = ob 1 [vi 0, vi 2, vi 0, vi 10] := (f_s26 6 (by decide)).trans q6_s25
  have q7_s26 : s26 7 = ob 1 [vi 0, vi 2, vi 0, vi 10] := (f_s26 7 (by decide)).trans q7_s25
  have q8_s26 : s26 8 = ob 1 [vi 0, vi 2, vi 0, vi 10] := (f_s26 8 (by decide)).trans q8_s25
  have q9_s26 : s26 9 = ob 1 [vi 0, vi 2, vi 0, vi 10] := (f_s26 9 (by decide)).trans q9_s25
  have q10_s26 : s26 10 = ob 1 [vi 0, vi 2, vi 0, vi 10] := (f_s26 10 (by decide)).trans q10_s25
  have q11_s26 : s26 11 = ob 1 [vi 0, vi 2, vi 0, vi 10] := (f_s26 11 (by decide)).trans q11_s25
  have q12_s26 : s26 12 = ob 1 [vi 0, vi 2, vi 0, vi 10] := (f_s26 12 (by decide)).trans q12_s25
  have q13_s26 : s26 13 = ai E 80 (fun _ => 0) := (f_s26 13 (by decide)).trans q13_s25
  have q14_s26 : s26 14 = ob 7 [vr E 15, vi 0, vi 0, vr E 16] := (f_s26 14 (by decide)).trans q14_s25
  have q15_s26 : s26 15 = ai E 3 (fun _ => 0) := (f_s26 15 (by decide)).trans q15_s25
  have q16_s26 : s26 16 = ob 6 [vr E 17, vr E 18, vr E 19, vr E 20, vr E 21, vr E 22, vi 0, vi 0, vi 0, vi 0, vi 0, vi 0] := (f_s26 16 (by decide)).trans q16_s25
  have q17_s26 : s26 17 = ai E 80 (fun _ => 0) := (f_s26 17 (by decide)).trans q17_s25
  have q18_s26 : s26 18 = ai E 80 (fun _ => 0) := (f_s26 18 (by decide)).trans q18_s25
  have q19_s26 : s26 19 = ai E 80 (fun _ => 0) := (f_s26 19 (by decide)).trans q19_s25
  have q20_s26 : s26 20 = ai E 80 (fun _ => 0) := (f_s26 20 (by decide)).trans q20_s25
  have q21_s26 : s26 21 = ai E 24 (fun _ => 0) := (f_s26 21 (by decide)).trans q21_s25
  have q22_s26 : s26 22 = ai E 24 (fun _ => 0) := (f_s26 22 (by decide)).trans q22_s25
  have q23_s26 : s26 23 = ob 6 [vr E 24, vr E 25, vr E 26, vr E 27, vr E 28, vr E 29, vi 0, vi 0, vi 0, vi 0, vi 0, vi 0] := (f_s26 23 (by decide)).trans q23_s25
  have q24_s26 : s26 24 = ai E 80 (fun _ => 0) := (f_s26 24 (by decide)).trans q24_s25
  have q25_s26 : s26 25 = ai E 80 (fun _ => 0) := (f_s26 25 (by decide)).trans q25_s25
  have q26_s26 : s26 26 = ai E 80 (fun _ => 0) := (f_s26 26 (by decide)).trans q26_s25
  have q27_s26 : s26 27 = ai E 80 (fun _ => 0) := (f_s26 27 (by decide)).trans q27_s25
  have q28_s26 : s26 28 = ai E 24 (fun _ => 0) := (f_s26 28 (by decide)).trans q28_s25
  have q29_s26 : s26 29 = ai E 24 (fun _ => 0) := (f_s26 29 (by decide)).trans q29_s25
  have q30_s26 : s26 30 = ob 3 [vr E 31, vr E 32, vr E 33, vr E 34, vi 0, vi 0] := (f_s26 30 (by decide)).trans q30_s25
  have q31_s26 : s26 31 = ai E 24 (fun _ => 0) := (f_s26 31 (by decide)).trans q31_s25
  have q32_s26 : s26 32 = ai E 24 (fun _ => 0) := (f_s26 32 (by decide)).trans q32_s25
  have q33_s26 : s26 33 = ar E 3 4 (up (up (up (up (fun _ => -1) 0 ((35 : Nat) : Int)) 1 ((38 : Nat) : Int)) 2 ((41 : Nat) : Int)) 3 ((44 : Nat) : Int)) := (f_s26 33 (by decide)).trans q33_s25
  have q34_s26 : s26 34 = ar E 3 3 (up (up (up (fun _ => -1) 0 ((47 : Nat) : Int)) 1 ((50 : Nat) : Int)) 2 ((53 : Nat) : Int)) := (f_s26 34 (by decide)).trans q34_s25
  have q35_s26 : s26 35 = ob 0 [vr E 36, vr E 37] := (f_s26 35 (by decide)).trans q35_s25
  have q36_s26 : s26 36 = ai E 6 (fun _ => 0) := (f_s26 36 (by decide)).trans q36_s25
  have q37_s26 : s26 37 = ai E 6 (fun _ => 0) := (f_s26 37 (by decide)).trans q37_s25
  have q38_s26 : s26 38 = ob 0 [vr E 39, vr E 40] := (f_s26 38 (by decide)).trans q38_s25
  have q39_s26 : s26 39 = ai E 6 (fun _ => 0) := (f_s26 39 (by decide)).trans q39_s25
  have q40_s26 : s26 40 = ai E 6 (fun _ => 0) := (f_s26 40 (by decide)).trans q40_s25
  have q41_s26 : s26 41 = ob 0 [vr E 42, vr E 43] := (f_s26 41 (by decide)).trans q41_s25
  have q42_s26 : s26 42 = ai E 6 (fun _ => 0) := (f_s26 42 (by decide)).trans q42_s25
  have q43_s26 : s26 43 = ai E 6 (fun _ => 0) := (f_s26 43 (by decide)).trans q43_s25
  have q44_s26 : s26 44 = ob 0 [vr E 45, vr E 46] := (f_s26 44 (by decide)).trans q44_s25
  have q45_s26 : s26 45 = ai E 6 (fun _ => 0) := (f_s26 45 (by decide)).trans q45_s25
  have q46_s26 : s26 46 = ai E 6 (fun _ => 0) := (f_s26 46 (by decide)).trans q46_s25
  have q47_s26 : s26 47 = ob 0 [vr E 48, vr E 49] := (f_s26 47 (by decide)).trans q47_s25
  have q48_s26 : s26 48 = ai E 6 (fun _ => 0) := (f_s26 48 (by decide)).trans q48_s25
  have q49_s26 : s26 49 = ai E 6 (fun _ => 0) := (f_s26 49 (by decide)).trans q49_s25
  have q50_s26 : s26 50 = ob 0 [vr E 51, vr E 52] := (f_s26 50 (by decide)).trans q50_s25
  have q51_s26 : s26 51 = ai E 6 (fun _ => 0) := (f_s26 51 (by decide)).trans q51_s25
  have q52_s26 : s26 52 = ai E 6 (fun _ => 0) := (f_s26 52 (by decide)).trans q52_s25
  have q53_s26 : s26 53 = ob 0 [vr E 54, vr E 55] := (f_s26 53 (by decide)).trans q53_s25
  have q54_s26 : s26 54 = ai E 6 (fun _ => 0) := (f_s26 54 (by decide)).trans q54_s25
  have q55_s26 : s26 55 = ai E 6 (fun _ => 0) := (f_s26 55 (by decide)).trans q55_s25
  have q56_s26 : s26 56 = ob 2 [vr E 57, vr E 58, vr E 59, vr E 63, vi 0] := (f_s26 56 (by decide)).trans q56_s25
  have q57_s26 : s26 57 = ar E 5 4 (up (up (up (up (fun _ => -1) 0 ((64 : Nat) : Int)) 1 ((68 : Nat) : Int)) 2 ((72 : Nat) : Int)) 3 ((76 : Nat) : Int)) := (f_s26 57 (by decide)).trans q57_s25
  have q58_s26 : s26 58 = ar E 5 3 (up (up (up (fun _ => -1) 0 ((80 : Nat) : Int)) 1 ((84 : Nat) : Int)) 2 ((88 : Nat) : Int)) := (f_s26 58 (by decide)).trans q58_s25
  have q59_s26 : s26 59 = ob 4 [vr E 60, vr E 61, vr E 62, vi 0] := (f_s26 59 (by decide)).trans q59_s25
  have q60_s26 : s26 60 = ai E 157 (fun _ => 0) := (f_s26 60 (by decide)).trans q60_s25
  have q61_s26 : s26 61 = ai E 512 (fun _ => -1) := (f_s26 61 (by decide)).trans q61_s25
  have q62_s26 : s26 62 = ai E 512 (fun _ => 0) := (f_s26 62 (by decide)).trans q62_s25
  have q63_s26 : s26 63 = ob 1 [vi 0, vi 2, vi 0, vi 10] := (f_s26 63 (by decide)).trans q63_s25
  have q64_s26 : s26 64 = ob 4 [vr E 65, vr E 66, vr E 67, vi 0] := (f_s26 64 (by decide)).trans q64_s25
  have q65_s26 : s26 65 = ai E 157 (fun _ => 0) := (f_s26 65 (by decide)).trans q65_s25
  have q66_s26 : s26 66 = ai E 512 (fun _ => -1) := (f_s26 66 (by decide)).trans q66_s25
  have q67_s26 : s26 67 = ai E 512 (fun _ => 0) := (f_s26 67 (by decide)).trans q67_s25
  have q68_s26 : s26 68 = ob 4 [vr E 69, vr E 70, vr E 71, vi 0] := (f_s26 68 (by decide)).trans q68_s25
  have q69_s26 : s26 69 = ai E 157 (fun _ => 0) := (f_s26 69 (by decide)).trans q69_s25
  have q70_s26 : s26 70 = ai E 512 (fun _ => -1) := (f_s26 70 (by decide)).trans q70_s25
  have q71_s26 : s26 71 = ai E 512 (fun _ => 0) := (f_s26 71 (by decide)).trans q71_s25
  have q72_s26 : s26 72 = ob 4 [vr E 73, vr E 74, vr E 75, vi 0] := (f_s26 72 (by decide)).trans q72_s25
  have q73_s26 : s26 73 = ai E 157 (fun _ => 0) := (f_s26 73 (by decide)).trans q73_s25
  have q74_s26 : s26 74 = ai E 512 (fun _ => -1) := (f_s26 74 (by decide)).trans q74_s25
  have q75_s26 : s26 75 = ai E 512 (fun _ => 0) := (f_s26 75 (by decide)).trans q75_s25
  have q76_s26 : s26 76 = ob 4 [vr E 77, vr E 78, vr E 79, vi 0] := (f_s26 76 (by decide)).trans q76_s25
  have q77_s26 : s26 77 = ai E 157 (fun _ => 0) := (f_s26 77 (by decide)).trans q77_s25
  have q78_s26 : s26 78 = ai E 512 (fun _ => -1) := (f_s26 78 (by decide)).trans q78_s25
  have q79_s26 : s26 79 = ai E 512 (fun _ => 0) := (f_s26 79 (by decide)).trans q79_s25
  have q80_s26 : s26 80 = ob 4 [vr E 81, vr E 82, vr E 83, vi 0] := (f_s26 80 (by decide)).trans q80_s25
  have q81_s26 : s26 81 = ai E 157 (fun _ => 0) := (f_s26 81 (by decide)).trans q81_s25
  have q82_s26 : s26 82 = ai E 512 (fun _ => -1) := (f_s26 82 (by decide)).trans q82_s25
  have q83_s26 : s26 83 = ai E 512 (fun _ => 0) := (f_s26 83 (by decide)).trans q83_s25
  have q84_s26 : s26 84 = ob 4 [vr E 85, vr E 86, vr E 87, vi 0] := (f_s26 84 (by decide)).trans q84_s25
  have q85_s26 : s26 85 = ai E 157 (fun _ => 0) := (f_s26 85 (by decide)).trans q85_s25
  have q86_s26 : s26 86 = ai E 512 (fun _ => -1) := (f_s26 86 (by decide)).trans q86_s25
  have q87_s26 : s26 87 = ai E 512 (fun _ => 0) := (f_s26 87 (by decide)).trans q87_s25
  have q88_s26 : s26 88 = ob 4 [vr E 89, vr E 90, vr E 91, vi 0] := (f_s26 88 (by decide)).trans q88_s25
  have q89_s26 : s26 89 = ai E 157 (fun _ => 0) := (f_s26 89 (by decide)).trans q89_s25
  have q90_s26 : s26 90 = ai E 512 (fun _ => -1) := (f_s26 90 (by decide)).trans q90_s25
  have q91_s26 : s26 91 = ai E 512 (fun _ => 0) := (f_s26 91 (by decide)).trans q91_s25
  refine go_putF (pc := 102) hF [vr E 1, vr E 2, vr E 3, vr E 13, vi 0, vr E 14, vr E 23, vr E 30, vr E 56, vr E 92, .null, vi 0, vi 0, vi 0] fl_X10_65 (fun C₉ T n₉ h => by have e9₉ : some (C₉, T, n₉) = some (RX10, TX10, 14) := h.symm; cases e9₉; rfl) hnm dX10_init_102 (by omega) x_s26 rfl rfl rfl (Nat.le_of_ble_eq_true rfl) (fun s27 u_s27 f_s27 => ?_)
  have q1_s27 : s27 1 = ob 1 [vi 0, vi 2, vi 0, vi 10] := (f_s27 1 (by decide)).trans q1_s26
  have q2_s27 : s27 2 = ob 1 [vi 0, vi 2, vi 0, vi 10] := (f_s27 2 (by decide)).trans q2_s26
  have q3_s27 : s27 3 = ob 5 [vr E 4, vi 0, vi 0] := (f_s27 3 (by decide)).trans q3_s26
  have q4_s27 : s27 4 = ar E 4 8 (up (up (up (up (up (up (up (up (fun _ => -1) 0 ((5 : Nat) : Int)) 1 ((6 : Nat) : Int)) 2 ((7 : Nat) : Int)) 3 ((8 : Nat) : Int)) 4 ((9 : Nat) : Int)) 5 ((10 : Nat) : Int)) 6 ((11 : Nat) : Int)) 7 ((12 : Nat) : Int)) := (f_s27 4 (by decide)).trans q4_s26
  have q5_s27 : s27 5 = ob 1 [vi 0, vi 2, vi 0, vi 10] := (f_s27 5 (by decide)).trans q5_s26
  have q6_s27 : s27 6 = ob 1 [vi 0, vi 2, vi 0, vi 10] := (f_s27 6 (by decide)).trans q6_s26
  have q7_s27 : s27 7 = ob 1 [vi 0, vi 2, vi 0, vi 10] := (f_s27 7 (by decide)).trans q7_s26
  have q8_s27 : s27 8 = ob 1 [vi 0, vi 2, vi 0, vi 10] := (f_s27 8 (by decide)).trans q8_s26
  have q9_s27 : s27 9 = ob 1 [vi 0, vi 2, vi 0, vi 10] := (f_s27 9 (by decide)).trans q9_s26
  have q10_s27 : s27 10 = ob 1 [vi 0, vi 2, vi 0, vi 10] := (f_s27 10 (by decide)).trans q10_s26
  have q11_s27 : s27 11 = ob 1 [vi 0, vi 2, vi 0, vi 10] := (f_s27 11 (by decide)).trans q11_s26
  have q12_s27 : s27 12 = ob 1 [vi 0, vi 2, vi 0, vi 10] := (f_s27 12 (by decide)).trans q12_s26
  have q13_s27 : s27 13 = ai E 80 (fun _ => 0) := (f_s27 13 (by decide)).trans q13_s26
  have q14_s27 : s27 14 = ob 7 [vr E 15, vi 0, vi 0, vr E 16] := (f_s27 14 (by decide)).trans q14_s26
  have q15_s27 : s27 15 = ai E 3 (fun _ => 0) := (f_s27 15 (by decide)).trans q15_s26
  have q16_s27 : s27 16 = ob 6 [vr E 17, vr E 18, vr E 19, vr E 20, vr E 21, vr E 22, vi 0, vi 0, vi 0, vi 0, vi 0, vi 0] := (f_s27 16 (by decide)).trans q16_s26
  have q17_s27 : s27 17 = ai E 80 (fun _ => 0) := (f_s27 17 (by decide)).trans q17_s26
  have q18_s27 : s27 18 = ai E 80 (fun _ => 0) := (f_s27 18 (by decide)).trans q18_s26
  have q19_s27 : s27 19 = ai E 80 (fun _ => 0) := (f_s27 19 (by decide)).trans q19_s26
  have q20_s27 : s27 20 = ai E 80 (fun _ => 0) := (f_s27 20 (by decide)).trans q20_s26
  have q21_s27 : s27 21 = ai E 24 (fun _ => 0) := (f_s27 21 (by decide)).trans q21_s26
  have q22_s27 : s27 22 = ai E 24 (fun _ => 0) := (f_s27 22 (by decide)).trans q22_s26
  have q23_s27 : s27 23 = ob 6 [vr E 24, vr E 25, vr E 26, vr E 27, vr E 28, vr E 29, vi 0, vi 0, vi 0, vi 0, vi 0, vi 0] := (f_s27 23 (by decide)).trans q23_s26
  have q24_s27 : s27 24 = ai E 80 (fun _ => 0) := (f_s27 24 (by decide)).trans q24_s26
  have q25_s27 : s27 25 = ai E 80 (fun _ => 0) := (f_s27 25 (by decide)).trans q25_s26
  have q26_s27 : s27 26 = ai E 80 (fun _ => 0) := (f_s27 26 (by decide)).trans q26_s26
  have q27_s27 : s27 27 = ai E 80 (fun _ => 0) := (f_s27 27 (by decide)).trans q27_s26
  have q28_s27 : s27 28 = ai E 24 (fun _ => 0) := (f_s27 28 (by decide)).trans q28_s26
  have q29_s27 : s27 29 = ai E 24 (fun _ => 0) := (f_s27 29 (by decide)).trans q29_s26
  have q30_s27 : s27 30 = ob 3 [vr E 31, vr E 32, vr E 33, vr E 34, vi 0, vi 0] := (f_s27 30 (by decide)).trans q30_s26
  have q31_s27 : s27 31 = ai E 24 (fun _ => 0) := (f_s27 31 (by decide)).trans q31_s26
  have q32_s27 : s27 32 = ai E 24 (fun _ => 0) := (f_s27 32 (by decide)).trans q32_s26
  have q33_s27 : s27 33 = ar E 3 4 (up (up (up (up (fun _ => -1) 0 ((35 : Nat) : Int)) 1 ((38 : Nat) : Int)) 2 ((41 : Nat) : Int)) 3 ((44 : Nat) : Int)) := (f_s27 33 (by decide)).trans q33_s26
  have q34_s27 : s27 34 = ar E 3 3 (up (up (up (fun _ => -1) 0 ((47 : Nat) : Int)) 1 ((50 : Nat) : Int)) 2 ((53 : Nat) : Int)) := (f_s27 34 (by decide)).trans q34_s26
  have q35_s27 : s27 35 = ob 0 [vr E 36, vr E 37] := (f_s27 35 (by decide)).trans q35_s26
  have q36_s27 : s27 36 = ai E 6 (fun _ => 0) := (f_s27 36 (by decide)).trans q36_s26
  have q37_s27 : s27 37 = ai E 6 (fun _ => 0) := (f_s27 37 (by decide)).trans q37_s26
  have q38_s27 : s27 38 = ob 0 [vr E 39, vr E 40] := (f_s27 38 (by decide)).trans q38_s26
  have q39_s27 : s27 39 = ai E 6 (fun _ => 0) := (f_s27 39 (by decide)).trans q39_s26
  have q40_s27 : s27 40 = ai E 6 (fun _ => 0) := (f_s27 40 (by decide)).trans q40_s26
  have q41_s27 : s27 41 = ob 0 [vr E 42, vr E 43] := (f_s27 41 (by decide)).trans q41_s26
  have q42_s27 : s27 42 = ai E 6 (fun _ => 0) := (f_s27 42 (by decide)).trans q42_s26
  have q43_s27 : s27 43 = ai E 6 (fun _ => 0) := (f_s27 43 (by decide)).trans q43_s26
  have q44_s27 : s27 44 = ob 0 [vr E 45, vr E 46] := (f_s27 44 (by decide)).trans q44_s26
  have q45_s27 : s27 45 = ai E 6 (fun _ => 0) := (f_s27 45 (by decide)).trans q45_s26
  have q46_s27 : s27 46 = ai E 6 (fun _ => 0) := (f_s27 46 (by decide)).trans q46_s26
  have q47_s27 : s27 47 = ob 0 [vr E 48, vr E 49] := (f_s27 47 (by decide)).trans q47_s26
  have q48_s27 : s27 48 = ai E 6 (fun _ => 0) := (f_s27 48 (by decide)).trans q48_s26
  have q49_s27 : s27 49 = ai E 6 (fun _ => 0) := (f_s27 49 (by decide)).trans q49_s26
  have q50_s27 : s27 50 = ob 0 [vr E 51, vr E 52] := (f_s27 50 (by decide)).trans q50_s26
  have q51_s27 : s27 51 = ai E 6 (fun _ => 0) := (f_s27 51 (by decide)).trans q51_s26
  have q52_s27 : s27 52 = ai E 6 (fun _ => 0) := (f_s27 52 (by decide)).trans q52_s26
  have q53_s27 : s27 53 = ob 0 [vr E 54, vr E 55] := (f_s27 53 (by decide)).trans q53_s26
  have q54_s27 : s27 54 = ai E 6 (fun _ => 0) := (f_s27 54 (by decide)).trans q54_s26
  have q55_s27 : s27 55 = ai E 6 (fun _ => 0) := (f_s27 55 (by decide)).trans q55_s26
  have q56_s27 : s27 56 = ob 2 [vr E 57, vr E 58, vr E 59, vr E 63, vi 0] := (f_s27 56 (by decide)).trans q56_s26
  have q57_s27 : s27 57 = ar E 5 4 (up (up (up (up (fun _ => -1) 0 ((64 : Nat) : Int)) 1 ((68 : Nat) : Int)) 2 ((72 : Nat) : Int)) 3 ((76 : Nat) : Int)) := (f_s27 57 (by decide)).trans q57_s26
  have q58_s27 : s27 58 = ar E 5 3 (up (up (up (fun _ => -1) 0 ((80 : Nat) : Int)) 1 ((84 : Nat) : Int)) 2 ((88 : Nat) : Int)) := (f_s27 58 (by decide)).trans q58_s26
  have q59_s27 : s27 59 = ob 4 [vr E 60, vr E 61, vr E 62, vi 0] := (f_s27 59 (by decide)).trans q59_s26
  have q60_s27 : s27 60 = ai E 157 (fun _ => 0) := (f_s27 60 (by decide)).trans q60_s26
  have q61_s27 : s27 61 = ai E 512 (fun _ => -1) := (f_s27 61 (by decide)).trans q61_s26
  have q62_s27 : s27 62 = ai E 512 (fun _ => 0) := (f_s27 62 (by decide)).trans q62_s26
  have q63_s27 : s27 63 = ob 1 [vi 0, vi 2, vi 0, vi 10] := (f_s27 63 (by decide)).trans q63_s26
  have q64_s27 : s27 64 = ob 4 [vr E 65, vr E 66, vr E 67, vi 0] := (f_s27 64 (by decide)).trans q64_s26
  have q65_s27 : s27 65 = ai E 157 (fun _ => 0) := (f_s27 65 (by decide)).trans q65_s26
  have q66_s27 : s27 66 = ai E 512 (fun _ => -1) := (f_s27 66 (by decide)).trans q66_s26
  have q67_s27 : s27 67 = ai E 512 (fun _ => 0) := (f_s27 67 (by decide)).trans q67_s26
  have q68_s27 : s27 68 = ob 4 [vr E 69, vr E 70, vr E 71, vi 0] := (f_s27 68 (by decide)).trans q68_s26
  have q69_s27 : s27 69 = ai E 157 (fun _ => 0) := (f_s27 69 (by decide)).trans q69_s26
  have q70_s27 : s27 70 = ai E 512 (fun _ => -1) := (f_s27 70 (by decide)).trans q70_s26
  have q71_s27 : s27 71 = ai E 512 (fun _ => 0) := (f_s27 71 (by decide)).trans q71_s26
  have q72_s27 : s27 72 = ob 4 [vr E 73, vr E 74, vr E 75, vi 0] := (f_s27 72 (by decide)).trans q72_s26
  have q73_s27 : s27 73 = ai E 157 (fun _ => 0) := (f_s27 73 (by decide)).trans q73_s26
  have q74_s27 : s27 74 = ai E 512 (fun _ => -1) := (f_s27 74 (by decide)).trans q74_s26
  have q75_s27 : s27 75 = ai E 512 (fun _ => 0) := (f_s27 75 (by decide)).trans q75_s26
  have q76_s27 : s27 76 = ob 4 [vr E 77, vr E 78, vr E 79, vi 0] := (f_s27 76 (by decide)).trans q76_s26
  have q77_s27 : s27 77 = ai E 157 (fun _ => 0) := (f_s27 77 (by decide)).trans q77_s26
  have q78_s27 : s27 78 = ai E 512 (fun _ => -1) := (f_s27 78 (by decide)).trans q78_s26
  have q79_s27 : s27 79 = ai E 512 (fun _ => 0) := (f_s27 79 (by decide)).trans q79_s26
  have q80_s27 : s27 80 = ob 4 [vr E 81, vr E 82, vr E 83, vi 0] := (f_s27 80 (by decide)).trans q80_s26
  have q81_s27 : s27 81 = ai E 157 (fun _ => 0) := (f_s27 81 (by decide)).trans q81_s26
  have q82_s27 : s27 82 = ai E 512 (fun _ => -1) := (f_s27 82 (by decide)).trans q82_s26
  have q83_s27 : s27 83 = ai E 512 (fun _ => 0) := (f_s27 83 (by decide)).trans q83_s26
  have q84_s27 : s27 84 = ob 4 [vr E 85, vr E 86, vr E 87, vi 0] := (f_s27 84 (by decide)).trans q84_s26
  have q85_s27 : s27 85 = ai E 157 (fun _ => 0) := (f_s27 85 (by decide)).trans q85_s26
  have q86_s27 : s27 86 = ai E 512 (fun _ => -1) := (f_s27 86 (by decide)).trans q86_s26
  have q87_s27 : s27 87 = ai E 512 (fun _ => 0) := (f_s27 87 (by decide)).trans q87_s26
  have q88_s27 : s27 88 = ob 4 [vr E 89, vr E 90, vr E 91, vi 0] := (f_s27 88 (by decide)).trans q88_s26
  have q89_s27 : s27 89 = ai E 157 (fun _ => 0) := (f_s27 89 (by decide)).trans q89_s26
  have q90_s27 : s27 90 = ai E 512 (fun _ => -1) := (f_s27 90 (by decide)).trans q90_s26
  have q91_s27 : s27 91 = ai E 512 (fun _ => 0) := (f_s27 91 (by decide)).trans q91_s26
  have q92_s27 : s27 92 = ob 8 [vi 0, vi 0, vi 0, vi 0, vi 0] := (f_s27 92 (by decide)).trans u0_s26'
  refine go_aload_n (pc := 105) hF dX10_init_105 0 rfl ?_
  refine go_new (pc := 106) (k := (92, 10558)) hF (93, 10563) (94) nw_X10_62 dX10_init_106 (show s.heap.size + 92 = ez E + (93) by omega) (Or.inl (by omega)) (by rw [hR]; exact Nat.le_of_ble_eq_true rfl) (by rw [hR]; exact Nat.le_of_ble_eq_true rfl) rfl rfl (fun s28 u_s28 f_s28 => ?_)
  have x_s28 : s28 0 = ob 9 [vr E 1, vr E 2, vr E 3, vr E 13, vi 0, vr E 14, vr E 23, vr E 30, vr E 56, vr E 92, .null, vi 0, vi 0, vi 0] := (f_s28 0 (by decide)).trans u_s27
  have q1_s28 : s28 1 = ob 1 [vi 0, vi 2, vi 0, vi 10] := (f_s28 1 (by decide)).trans q1_s27
  have q2_s28 : s28 2 = ob 1 [vi 0, vi 2, vi 0, vi 10] := (f_s28 2 (by decide)).trans q2_s27
  have q3_s28 : s28 3 = ob 5 [vr E 4, vi 0, vi 0] := (f_s28 3 (by decide)).trans q3_s27
  have q4_s28 : s28 4 = ar E 4 8 (up (up (up (up (up (up (up (up (fun _ => -1) 0 ((5 : Nat) : Int)) 1 ((6 : Nat) : Int)) 2 ((7 : Nat) : Int)) 3 ((8 : Nat) : Int)) 4 ((9 : Nat) : Int)) 5 ((10 : Nat) : Int)) 6 ((11 : Nat) : Int)) 7 ((12 : Nat) : Int)) := (f_s28 4 (by decide)).trans q4_s27
  have q5_s28 : s28 5 = ob 1 [vi 0, vi 2, vi 0, vi 10] := (f_s28 5 (by decide)).trans q5_s27
  have q6_s28 : s28 6 = ob 1 [vi 0, vi 2, vi 0, vi 10] := (f_s28 6 (by decide)).trans q6_s27
  have q7_s28 : s28 7 = ob 1 [vi 0, vi 2, vi 0, vi 10] := (f_s28 7 (by decide)).trans q7_s27
  have q8_s28 : s28 8 = ob 1 [vi 0, vi 2, vi 0, vi 10] := (f_s28 8 (by decide)).trans q8_s27
  have q9_s28 : s28 9 = ob 1 [vi 0, vi 2, vi 0, vi 10] := (f_s28 9 (by decide)).trans q9_s27
  have q10_s28 : s28 10 = ob 1 [vi 0, vi 2, vi 0, vi 10] := (f_s28 10 (by decide)).trans q10_s27
  have q11_s28 : s28 11 = ob 1 [vi 0, vi 2, vi 0, vi 10] := (f_s28 11 (by decide)).trans q11_s27
  have q12_s28 : s28 12 = ob 1 [vi 0, vi 2, vi 0, vi 10] := (f_s28 12 (by decide)).trans q12_s27
  have q13_s28 : s28 13 = ai E 80 (fun _ => 0) := (f_s28 13 (by decide)).trans q13_s27
  have q14_s28 : s28 14 = ob 7 [vr E 15, vi 0, vi 0, vr E 16] := (f_s28 14 (by decide)).trans q14_s27
  have q15_s28 : s28 15 = ai E 3 (fun _ => 0) := (f_s28 15 (by decide)).trans q15_s27
  have q16_s28 : s28 16 = ob 6 [vr E 17, vr E 18, vr E 19, vr E 20, vr E 21, vr E 22, vi 0, vi 0, vi 0, vi 0, vi 0, vi 0] := (f_s28 16 (by decide)).trans q16_s27
  have q17_s28 : s28 17 = ai E 80 (fun _ => 0) := (f_s28 17 (by decide)).trans q17_s27
  have q18_s28 : s28 18 = ai E 80 (fun _ => 0) := (f_s28 18 (by decide)).trans q18_s27
  have q19_s28 : s28 19 = ai E 80 (fun _ => 0) := (f_s28 19 (by decide)).trans q19_s27
  have q20_s28 : s28 20 = ai E 80 (fun _ => 0) := (f_s28 20 (by decide)).trans q20_s27
  have q21_s28 : s28 21 = ai E 24 (fun _ => 0) := (f_s28 21 (by decide)).trans q21_s27
  have q22_s28 : s28 22 = ai E 24 (fun _ => 0) := (f_s28 22 (by decide)).trans q22_s27
  have q23_s28 : s28 23 = ob 6 [vr E 24, vr E 25, vr E 26, vr E 27, vr E 28, vr E 29, vi 0, vi 0, vi 0, vi 0, vi 0, vi 0] := (f_s28 23 (by decide)).trans q23_s27
  have q24_s28 : s28 24 = ai E 80 (fun _ => 0) := (f_s28 24 (by decide)).trans q24_s27
  have q25_s28 : s28 25 = ai E 80 (fun _ => 0) := (f_s28 25 (by decide)).trans q25_s27
  have q26_s28 : s28 26 = ai E 80 (fun _ => 0) := (f_s28 26 (by decide)).trans q26_s27
  have q27_s28 : s28 27 = ai E 80 (fun _ => 0) := (f_s28 27 (by decide)).trans q27_s27
  have q28_s28 : s28 28 = ai E 24 (fun _ => 0) := (f_s28 28 (by decide)).trans q28_s27
  have q29_s28 : s28 29 = ai E 24 (fun _ => 0) := (f_s28 29 (by decide)).trans q29_s27
  have q30_s28 : s28 30 = ob 3 [vr E 31, vr E 32, vr E 33, vr E 34, vi 0, vi 0] := (f_s28 30 (by decide)).trans q30_s27
  have q31_s28 : s28 31 = ai E 24 (fun _ => 0) := (f_s28 31 (by decide)).trans q31_s27
  have q32_s28 : s28 32 = ai E 24 (fun _ => 0) := (f_s28 32 (by decide)).trans q32_s27
  have q33_s28 : s28 33 = ar E 3 4 (up (up (up (up (fun _ => -1) 0 ((35 : Nat) : Int)) 1 ((38 : Nat) : Int)) 2 ((41 : Nat) : Int)) 3 ((44 : Nat) : Int)) := (f_s28 33 (by decide)).trans q33_s27
  have q34_s28 : s28 34 = ar E 3 3 (up (up (up (fun _ => -1) 0 ((47 : Nat) : Int)) 1 ((50 : Nat) : Int)) 2 ((53 : Nat) : Int)) := (f_s28 34 (by decide)).trans q34_s27
  have q35_s28 : s28 35 = ob 0 [vr E 36, vr E 37] := (f_s28 35 (by decide)).trans q35_s27
  have q36_s28 : s28 36 = ai E 6 (fun _ => 0) := (f_s28 36 (by decide)).trans q36_s27
  have q37_s28 : s28 37 = ai E 6 (fun _ => 0) := (f_s28 37 (by decide)).trans q37_s27
  have q38_s28 : s28 38 = ob 0 [vr E 39, vr E 40] := (f_s28 38 (by decide)).trans q38_s27
  have q39_s28 : s28 39 = ai E 6 (fun _ => 0) := (f_s28 39 (by decide)).trans q39_s27
  have q40_s28 : s28 40 = ai E 6 (fun _ => 0) := (f_s28 40 (by decide)).trans q40_s27
  have q41_s28 : s28 41 = ob 0 [vr E 42, vr E 43] := (f_s28 41 (by decide)).trans q41_s27
  have q42_s28 : s28 42 = ai E 6 (fun _ => 0) := (f_s28 42 (by decide)).trans q42_s27
  have q43_s28 : s28 43 = ai E 6 (fun _ => 0) := (f_s28 43 (by decide)).trans q43_s27
  have q44_s28 : s28 44 = ob 0 [vr E 45, vr E 46] := (f_s28 44 (by decide)).trans q44_s27
  have q45_s28 : s28 45 = ai E 6 (fun _ => 0) := (f_s28 45 (by decide)).trans q45_s27
  have q46_s28 : s28 46 = ai E 6 (fun _ => 0) := (f_s28 46 (by decide)).trans q46_s27
  have q47_s28 : s28 47 = ob 0 [vr E 48, vr E 49] := (f_s28 47 (by decide)).trans q47_s27
  have q48_s28 : s28 48 = ai E 6 (fun _ => 0) := (f_s28 48 (by decide)).trans q48_s27
  have q49_s28 : s28 49 = ai E 6 (fun _ => 0) := (f_s28 49 (by decide)).trans q49_s27
  have q50_s28 : s28 50 = ob 0 [vr E 51, vr E 52] := (f_s28 50 (by decide)).trans q50_s27
  have q51_s28 : s28 51 = ai E 6 (fun _ => 0) := (f_s28 51 (by decide)).trans q51_s27
  have q52_s28 : s28 52 = ai E 6 (fun _ => 0) := (f_s28 52 (by decide)).trans q52_s27
  have q53_s28 : s28 53 = ob 0 [vr E 54, vr E 55] := (f_s28 53 (by decide)).trans q53_s27
  have q54_s28 : s28 54 = ai E 6 (fun _ => 0) := (f_s28 54 (by decide)).trans q54_s27
  have q55_s28 : s28 55 = ai E 6 (fun _ => 0) := (f_s28 55 (by decide)).trans q55_s27
  have q56_s28 : s28 56 = ob 2 [vr E 57, vr E 58, vr E 59, vr E 63, vi 0] := (f_s28 56 (by decide)).trans q56_s27
  have q57_s28 : s28 57 = ar E 5 4 (up (up (up (up (fun _ => -1) 0 ((64 : Nat) : Int)) 1 ((68 : Nat) : Int)) 2 ((72 : Nat) : Int)) 3 ((76 : Nat) : Int)) := (f_s28 57 (by decide)).trans q57_s27
  have q58_s28 : s28 58 = ar E 5 3 (up (up (up (fun _ => -1) 0 ((80 : Nat) : Int)) 1 ((84 : Nat) : Int)) 2 ((88 : Nat) : Int)) := (f_s28 58 (by decide)).trans q58_s27
  have q59_s28 : s28 59 = ob 4 [vr E 60, vr E 61, vr E 62, vi 0] := (f_s28 59 (by decide)).trans q59_s27
  have q60_s28 : s28 60 = ai E 157 (fun _ => 0) := (f_s28 60 (by decide)).trans q60_s27
  have q61_s28 : s28 61 = ai E 512 (fun _ => -1) := (f_s28 61 (by decide)).trans q61_s27
  have q62_s28 : s28 62 = ai E 512 (fun _ => 0) := (f_s28 62 (by decide)).trans q62_s27
  have q63_s28 : s28 63 = ob 1 [vi 0, vi 2, vi 0, vi 10] := (f_s28 63 (by decide)).trans q63_s27
  have q64_s28 : s28 64 = ob 4 [vr E 65, vr E 66, vr E 67, vi 0] := (f_s28 64 (by decide)).trans q64_s27
  have q65_s28 : s28 65 = ai E 157 (fun _ => 0) := (f_s28 65 (by decide)).trans q65_s27
  have q66_s28 : s28 66 = ai E 512 (fun _ => -1) := (f_s28 66 (by decide)).trans q66_s27
  have q67_s28 : s28 67 = ai E 512 (fun _ => 0) := (f_s28 67 (by decide)).trans q67_s27
  have q68_s28 : s28 68 = ob 4 [vr E 69, vr E 70, vr E 71, vi 0] := (f_s28 68 (by decide)).trans q68_s27
  have q69_s28 : s28 69 = ai E 157 (fun _ => 0) := (f_s28 69 (by decide)).trans q69_s27
  have q70_s28 : s28 70 = ai E 512 (fun _ => -1) := (f_s28 70 (by decide)).trans q70_s27
  have q71_s28 : s28 71 = ai E 512 (fun _ => 0) := (f_s28 71 (by decide)).trans q71_s27
  have q72_s28 : s28 72 = ob 4 [vr E 73, vr E 74, vr E 75, vi 0] := (f_s28 72 (by decide)).trans q72_s27
  have q73_s28 : s28 73 = ai E 157 (fun _ => 0) := (f_s28 73 (by decide)).trans q73_s27
  have q74_s28 : s28 74 = ai E 512 (fun _ => -1) := (f_s28 74 (by decide)).trans q74_s27
  have q75_s28 : s28 75 = ai E 512 (fun _ => 0) := (f_s28 75 (by decide)).trans q75_s27
  have q76_s28 : s28 76 = ob 4 [vr E 77, vr E 78, vr E 79, vi 0] := (f_s28 76 (by decide)).trans q76_s27
  have q77_s28 : s28 77 = ai E 157 (fun _ => 0) := (f_s28 77 (by decide)).trans q77_s27
  have q78_s28 : s28 78 = ai E 512 (fun _ => -1) := (f_s28 78 (by decide)).trans q78_s27
  have q79_s28 : s28 79 = ai E 512 (fun _ => 0) := (f_s28 79 (by decide)).trans q79_s27
  have q80_s28 : s28 80 = ob 4 [vr E 81, vr E 82, vr E 83, vi 0] := (f_s28 80 (by decide)).trans q80_s27
  have q81_s28 : s28 81 = ai E 157 (fun _ => 0) := (f_s28 81 (by decide)).trans q81_s27
  have q82_s28 : s28 82 = ai E 512 (fun _ => -1) := (f_s28 82 (by decide)).trans q82_s27
  have q83_s28 : s28 83 = ai E 512 (fun _ => 0) := (f_s28 83 (by decide)).trans q83_s27
  have q84_s28 : s28 84 = ob 4 [vr E 85, vr E 86, vr E 87, vi 0] := (f_s28 84 (by decide)).trans q84_s27
  have q85_s28 : s28 85 = ai E 157 (fun _ => 0) := (f_s28 85 (by decide)).trans q85_s27
  have q86_s28 : s28 86 = ai E 512 (fun _ => -1) := (f_s28 86 (by decide)).trans q86_s27
  have q87_s28 : s28 87 = ai E 512 (fun _ => 0) := (f_s28 87 (by decide)).trans q87_s27
  have q88_s28 : s28 88 = ob 4 [vr E 89, vr E 90, vr E 91, vi 0] := (f_s28 88 (by decide)).trans q88_s27
  have q89_s28 : s28 89 = ai E 157 (fun _ => 0) := (f_s28 89 (by decide)).trans q89_s27
  have q90_s28 : s28 90 = ai E 512 (fun _ => -1) := (f_s28 90 (by decide)).trans q90_s27
  have q91_s28 : s28 91 = ai E 512 (fun _ => 0) := (f_s28 91 (by decide)).trans q91_s27
  have q92_s28 : s28 92 = ob 8 [vi 0, vi 0, vi 0, vi 0, vi 0] := (f_s28 92 (by decide)).trans q92_s27
  refine go_dup (pc := 109) hF dX10_init_109 rfl ?_
  refine go_callIN (pc := 110) (k := (93, 10563)) hF (93, 10563) (94) mi_X10_64 dX10_init_110 (c_X9_init E (94) s28 93 (by omega) u_s28) (Nat.le_of_ble_eq_true rfl) (by decide) (by rw [hR]; exact Nat.le_of_ble_eq_true rfl) (by rw [hR]; exact Nat.le_of_ble_eq_true rfl) (fun _ => (show s.heap.size + 93 = ez E + (94) by omega)) (fun _ => (Or.inl (by omega))) rfl rfl (fun s29 h_s29 => ?_)
  obtain ⟨u0_s29, f_s29⟩ := h_s29
  have u0_s29' : s29 93 = ob 8 [vi 0, vi 0, vi 0, vi 0, vi 0] := u0_s29
  have x_s29 : s29 0 = ob 9 [vr E 1, vr E 2, vr E 3, vr E 13, vi 0, vr E 14, vr E 23, vr E 30, vr E 56, vr E 92, .null, vi 0, vi 0, vi 0] := (f_s29 0 (by decide)).trans x_s28
  have q1_s29 : s29 1 = ob 1 [vi 0, vi 2, vi 0, vi 10] := (f_s29 1 (by decide)).trans q1_s28
  have q2_s29 : s29 2 = ob 1 [vi 0, vi 2, vi 0, vi 10] := (f_s29 2 (by decide)).trans q2_s28
  have q3_s29 : s29 3 = ob 5 [vr E 4, vi 0, vi 0] := (f_s29 3 (by decide)).trans q3_s28
  have q4_s29 : s29 4 = ar E 4 8 (up (up (up (up (up (up (up (up (fun _ => -1) 0 ((5 : Nat) : Int)) 1 ((6 : Nat) : Int)) 2 ((7 : Nat) : Int)) 3 ((8 : Nat) : Int)) 4 ((9 : Nat) : Int)) 5 ((10 : Nat) : Int)) 6 ((11 : Nat) : Int)) 7 ((12 : Nat) : Int)) := (f_s29 4 (by decide)).trans q4_s28
  have q5_s29 : s29 5 = ob 1 [vi 0, vi 2, vi 0, vi 10] := (f_s29 5 (by decide)).trans q5_s28
  have q6_s29 : s29 6 = ob 1 [vi 0, vi 2, vi 0, vi 10] := (f_s29 6 (by decide)).trans q6_s28
  have q7_s29 : s29 7 = ob 1 [vi 0, vi 2, vi 0, vi 10] := (f_s29 7 (by decide)).trans q7_s28
  have q8_s29 : s29 8 = ob 1 [vi 0, vi 2, vi 0, vi 10] := (f_s29 8 (by decide)).trans q8_s28
  have q9_s29 : s29 9 = ob 1 [vi 0, vi 2, vi 0, vi 10] := (f_s29 9 (by decide)).trans q9_s28
  have q10_s29 : s29 10 = ob 1 [vi 0, vi 2, vi 0, vi 10] := (f_s29 10 (by decide)).trans q10_s28
  have q11_s29 : s29 11 = ob 1 [vi 0, vi 2, vi 0, vi 10] := (f_s29 11 (by decide)).trans q11_s28
  have q12_s29 : s29 12 = ob 1 [vi 0, vi 2, vi 0, vi 10] := (f_s29 12 (by decide)).trans q12_s28
  have q13_s29 : s29 13 = ai E 80 (fun _ => 0) := (f_s29 13 (by decide)).trans q13_s28
  have q14_s29 : s29 14 = ob 7 [vr E 15, vi 0, vi 0, vr E 16] := (f_s29 14 (by decide)).trans q14_s28
  have q15_s29 : s29 15 = ai E 3 (fun _ => 0) := (f_s29 15 (by decide)).trans q15_s28
  have q16_s29 : s29 16 = ob 6 [vr E 17, vr E 18, vr E 19, vr E 20, vr E 21, vr E 22, vi 0, vi 0, vi 0, vi 0, vi 0, vi 0] := (f_s29 16 (by decide)).trans q16_s28
  have q17_s29 : s29 17 = ai E 80 (fun _ => 0) := (f_s29 17 (by decide)).trans q17_s28
  have q18_s29 : s29 18 = ai E 80 (fun _ => 0) := (f_s29 18 (by decide)).trans q18_s28
  have q19_s29 : s29 19 = ai E 80 (fun _ => 0) := (f_s29 19 (by decide)).trans q19_s28
  have q20_s29 : s29 20 = ai E 80 (fun _ => 0) := (f_s29 20 (by decide)).trans q20_s28
  have q21_s29 : s29 21 = ai E 24 (fun _ => 0) := (f_s29 21 (by decide)).trans q21_s28
  have q22_s29 : s29 22 = ai E 24 (fun _ => 0) := (f_s29 22 (by decide)).trans q22_s28
  have q23_s29 : s29 23 = ob 6 [vr E 24, vr E 25, vr E 26, vr E 27, vr E 28, vr E 29, vi 0, vi 0, vi 0, vi 0, vi 0, vi 0] := (f_s29 23 (by decide)).trans q23_s28
  have q24_s29 : s29 24 = ai E 80 (fun _ => 0) := (f_s29 24 (by decide)).trans q24_s28
  have q25_s29 : s29 25 = ai E 80 (fun _ => 0) := (f_s29 25 (by decide)).trans q25_s28
  have q26_s29 : s29 26 = ai E 80 (fun _ => 0) := (f_s29 26 (by decide)).trans q26_s28
  have q27_s29 : s29 27 = ai E 80 (fun _ => 0) := (f_s29 27 (by decide)).trans q27_s28
  have q28_s29 : s29 28 = ai E 24 (fun _ => 0) := (f_s29 28 (by decide)).trans q28_s28
  have q29_s29 : s29 29 = ai E 24 (fun _ => 0) := (f_s29 29 (by decide)).trans q29_s28
  have q30_s29 : s29 30 = ob 3 [vr E 31, vr E 32, vr E 33, vr E 34, vi 0, vi 0] := (f_s29 30 (by decide)).trans q30_s28
  have q31_s29 : s29 31 = ai E 24 (fun _ => 0) := (f_s29 31 (by decide)).trans q31_s28
  have q32_s29 : s29 32 = ai E 24 (fun _ => 0) := (f_s29 32 (by decide)).trans q32_s28
  have q33_s29 : s29 33 = ar E 3 4 (up (up (up (up (fun _ => -1) 0 ((35 : Nat) : Int)) 1 ((38 : Nat) : Int)) 2 ((41 : Nat) : Int)) 3 ((44 : Nat) : Int)) := (f_s29 33 (by decide)).trans q33_s28
  have q34_s29 : s29 34 = ar E 3 3 (up (up (up (fun _ => -1) 0 ((47 : Nat) : Int)) 1 ((50 : Nat) : Int)) 2 ((53 : Nat) : Int)) := (f_s29 34 (by decide)).trans q34_s28
  have q35_s29 : s29 35 = ob 0 [vr E 36, vr E 37] := (f_s29 35 (by decide)).trans q35_s28
  have q36_s29 : s29 36 = ai E 6 (fun _ => 0) := (f_s29 36 (by decide)).trans q36_s28
  have q37_s29 : s29 37 = ai E 6 (fun _ => 0) := (f_s29 37 (by decide)).trans q37_s28
  have q38_s29 : s29 38 = ob 0 [vr E 39, vr E 40] := (f_s29 38 (by decide)).trans q38_s28
  have q39_s29 : s29 39 = ai E 6 (fun _ => 0) := (f_s29 39 (by decide)).trans q39_s28
  have q40_s29 : s29 40 = ai E 6 (fun _ => 0) := (f_s29 40 (by decide)).trans q40_s28
  have q41_s29 : s29 41 = ob 0 [vr E 42, vr E 43] := (f_s29 41 (by decide)).trans q41_s28
  have q42_s29 : s29 42 = ai E 6 (fun _ => 0) := (f_s29 42 (by decide)).trans q42_s28
  have q43_s29 : s29 43 = ai E 6 (fun _ => 0) := (f_s29 43 (by decide)).trans q43_s28
  have q44_s29 : s29 44 = ob 0 [vr E 45, vr E 46] := (f_s29 44 (by decide)).trans q44_s28
  have q45_s29 : s29 45 = ai E 6 (fun _ => 0) := (f_s29 45 (by decide)).trans q45_s28
  have q46_s29 : s29 46 = ai E 6 (fun _ => 0) := (f_s29 46 (by decide)).trans q46_s28
  have q47_s29 : s29 47 = ob 0 [vr E 48, vr E 49] := (f_s29 47 (by decide)).trans q47_s28
  have q48_s29 : s29 48 = ai E 6 (fun _ => 0) := (f_s29 48 (by decide)).trans q48_s28
  have q49_s29 : s29 49 = ai E 6 (fun _ => 0) := (f_s29 49 (by decide)).trans q49_s28
  have q50_s29 : s29 50 = ob 0 [vr E 51, vr E 52] := (f_s29 50 (by decide)).trans q50_s28
  have q51_s29 : s29 51 = ai E 6 (fun _ => 0) := (f_s29 51 (by decide)).trans q51_s28
  have q52_s29 : s29 52 = ai E 6 (fun _ => 0) := (f_s29 52 (by decide)).trans q52_s28
  have q53_s29 : s29 53 = ob 0 [vr E 54, vr E 55] := (f_s29 53 (by decide)).trans q53_s28
  have q54_s29 : s29 54 = ai E 6 (fun _ => 0) := (f_s29 54 (by decide)).trans q54_s28
  have q55_s29 : s29 55 = ai E 6 (fun _ => 0) := (f_s29 55 (by decide)).trans q55_s28
  have q56_s29 : s29 56 = ob 2 [vr E 57, vr E 58, vr E 59, vr E 63, vi 0] := (f_s29 56 (by decide)).trans q56_s28
  have q57_s29 : s29 57 = ar E 5 4 (up (up (up (up (fun _ => -1) 0 ((64 : Nat) : Int)) 1 ((68 : Nat) : Int)) 2 ((72 : Nat) : Int)) 3 ((76 : Nat) : Int)) := (f_s29 57 (by decide)).trans q57_s28
  have q58_s29 : s29 58 = ar E 5 3 (up (up (up (fun _ => -1) 0 ((80 : Nat) : Int)) 1 ((84 : Nat) : Int)) 2 ((88 : Nat) : Int)) := (f_s29 58 (by decide)).trans q58_s28
  have q59_s29 : s29 59 = ob 4 [vr E 60, vr E 61, vr E 62, vi 0] := (f_s29 59 (by decide)).trans q59_s28
  have q60_s29 : s29 60 = ai E 157 (fun _ => 0) := (f_s29 60 (by decide)).trans q60_s28
  have q61_s29 : s29 61 = ai E 512 (fun _ => -1) := (f_s29 61 (by decide)).trans q61_s28
  have q62_s29 : s29 62 = ai E 512 (fun _ => 0) := (f_s29 62 (by decide)).trans q62_s28
  have q63_s29 : s29 63 = ob 1 [vi 0, vi 2, vi 0, vi 10] := (f_s29 63 (by decide)).trans q63_s28
  have q64_s29 : s29 64 = ob 4 [vr E 65, vr E 66, vr E 67, vi 0] := (f_s29 64 (by decide)).trans q64_s28
  have q65_s29 : s29 65 = ai E 157 (fun _ => 0) := (f_s29 65 (by decide)).trans q65_s28
  have q66_s29 : s29 66 = ai E 512 (fun _ => -1) := (f_s29 66 (by decide)).trans q66_s28
  have q67_s29 : s29 67 = ai E 512 (fun _ => 0) := (f_s29 67 (by decide)).trans q67_s28
  have q68_s29 : s29 68 = ob 4 [vr E 69, vr E 70, vr E 71, vi 0] := (f_s29 68 (by decide)).trans q68_s28
  have q69_s29 : s29 69 = ai E 157 (fun _ => 0) := (f_s29 69 (by decide)).trans q69_s28
  have q70_s29 : s29 70 = ai E 512 (fun _ => -1) := (f_s29 70 (by decide)).trans q70_s28
  have q71_s29 : s29 71 = ai E 512 (fun _ => 0) := (f_s29 71 (by decide)).trans q71_s28
  have q72_s29 : s29 72 = ob 4 [vr E 73, vr E 74, vr E 75, vi 0] := (f_s29 72 (by decide)).trans q72_s28
  have q73_s29 : s29 73 = ai E 157 (fun _ => 0) := (f_s29 73 (by decide)).trans q73_s28
  have q74_s29 : s29 74 = ai E 512 (fun _ => -1) := (f_s29 74 (by decide)).trans q74_s28
  have q75_s29 : s29 75 = ai E 512 (fun _ => 0) := (f_s29 75 (by decide)).trans q75_s28
  have q76_s29 : s29 76 = ob 4 [vr E 77, vr E 78, vr E 79, vi 0] := (f_s29 76 (by decide)).trans q76_s28
  have q77_s29 : s29 77 = ai E 157 (fun _ => 0) := (f_s29 77 (by decide)).trans q77_s28
  have q78_s29 : s29 78 = ai E 512 (fun _ => -1) := (f_s29 78 (by decide)).trans q78_s28
  have q79_s29 : s29 79 = ai E 512 (fun _ => 0) := (f_s29 79 (by decide)).trans q79_s28
  have q80_s29 : s29 80 = ob 4 [vr E 81, vr E 82, vr E 83, vi 0] := (f_s29 80 (by decide)).trans q80_s28
  have q81_s29 : s29 81 = ai E 157 (fun _ => 0) := (f_s29 81 (by decide)).trans q81_s28
  have q82_s29 : s29 82 = ai E 512 (fun _ => -1) := (f_s29 82 (by decide)).trans q82_s28
  have q83_s29 : s29 83 = ai E 512 (fun _ => 0) := (f_s29 83 (by decide)).trans q83_s28
  have q84_s29 : s29 84 = ob 4 [vr E 85, vr E 86, vr E 87, vi 0] := (f_s29 84 (by decide)).trans q84_s28
  have q85_s29 : s29 85 = ai E 157 (fun _ => 0) := (f_s29 85 (by decide)).trans q85_s28
  have q86_s29 : s29 86 = ai E 512 (fun _ => -1) := (f_s29 86 (by decide)).trans q86_s28
  have q87_s29 : s29 87 = ai E 512 (fun _ => 0) := (f_s29 87 (by decide)).trans q87_s28
  have q88_s29 : s29 88 = ob 4 [vr E 89, vr E 90, vr E 91, vi 0] := (f_s29 88 (by decide)).trans q88_s28
  have q89_s29 : s29 89 = ai E 157 (fun _ => 0) := (f_s29 89 (by decide)).trans q89_s28
  have q90_s29 : s29 90 = ai E 512 (fun _ => -1) := (f_s29 90 (by decide)).trans q90_s28
  have q91_s29 : s29 91 = ai E 512 (fun _ => 0) := (f_s29 91 (by decide)).trans q91_s28
  have q92_s29 : s29 92 = ob 8 [vi 0, vi 0, vi 0, vi 0, vi 0] := (f_s29 92 (by decide)).trans q92_s28
  refine go_putF (pc := 113) hF [vr E 1, vr E 2, vr E 3, vr E 13, vi 0, vr E 14, vr E 23, vr E 30, vr E 56, vr E 92, vr E 93, vi 0, vi 0, vi 0] fl_X10_69 (fun C₉ T n₉ h => by have e9₉ : some (C₉, T, n₉) = some (RX10, TX10, 14) := h.symm; cases e9₉; rfl) hnm dX10_init_113 (by omega) x_s29 rfl rfl rfl (Nat.le_of_ble_eq_true rfl) (fun s30 u_s30 f_s30 => ?_)
  have q1_s30 : s30 1 = ob 1 [vi 0, vi 2, vi 0, vi 10] := (f_s30 1 (by decide)).trans q1_s29
  have q2_s30 : s30 2 = ob 1 [vi 0, vi 2, vi 0, vi 10] := (f_s30 2 (by decide)).trans q2_s29
  have q3_s30 : s30 3 = ob 5 [vr E 4, vi 0, vi 0] := (f_s30 3 (by decide)).trans q3_s29
  have q4_s30 : s30 4 = ar E 4 8 (up (up (up (up (up (up (up (up (fun _ => -1) 0 ((5 : Nat) : Int)) 1 ((6 : Nat) : Int)) 2 ((7 : Nat) : Int)) 3 ((8 : Nat) : Int)) 4 ((9 : Nat) : Int)) 5 ((10 : Nat) : Int)) 6 ((11 : Nat) : Int)) 7 ((12 : Nat) : Int)) := (f_s30 4 (by decide)).trans q4_s29
  have q5_s30 : s30 5 = ob 1 [vi 0, vi 2, vi 0, vi 10] := (f_s30 5 (by decide)).trans q5_s29
  have q6_s30 : s30 6 = ob 1 [vi 0, vi 2, vi 0, vi 10] := (f_s30 6 (by decide)).trans q6_s29
  have q7_s30 : s30 7 = ob 1 [vi 0, vi 2, vi 0, vi 10] := (f_s30 7 (by decide)).trans q7_s29
  have q8_s30 : s30 8 = ob 1 [vi 0, vi 2, vi 0, vi 10] := (f_s30 8 (by decide)).trans q8_s29
  have q9_s30 : s30 9 = ob 1 [vi 0, vi 2, vi 0, vi 10] := (f_s30 9 (by decide)).trans q9_s29
  have q10_s30 : s30 10 = ob 1 [vi 0, vi 2, vi 0, vi 10] := (f_s30 10 (by decide)).trans q10_s29
  have q11_s30 : s30 11 = ob 1 [vi 0, vi 2, vi 0, vi 10] := (f_s30 11 (by decide)).trans q11_s29
  have q12_s30 : s30 12 = ob 1 [vi 0, vi 2, vi 0, vi 10] := (f_s30 12 (by decide)).trans q12_s29
  have q13_s30 : s30 13 = ai E 80 (fun _ => 0) := (f_s30 13 (by decide)).trans q13_s29
  have q14_s30 : s30 14 = ob 7 [vr E 15, vi 0, vi 0, vr E 16] := (f_s30 14 (by decide)).trans q14_s29
  have q15_s30 : s30 15 = ai E 3 (fun _ => 0) := (f_s30 15 (by decide)).trans q15_s29
  have q16_s30 : s30 16 = ob 6 [vr E 17, vr E 18, vr E 19, vr E 20, vr E 21, vr E 22, vi 0, vi 0, vi 0, vi 0, vi 0, vi 0] := (f_s30 16 (by decide)).trans q16_s29
  have q17_s30 : s30 17 = ai E 80 (fun _ => 0) := (f_s30 17 (by decide)).trans q17_s29
  have q18_s30 : s30 18 = ai E 80 (fun _ => 0) := (f_s30 18 (by decide)).trans q18_s29
  have q19_s30 : s30 19 = ai E 80 (fun _ => 0) := (f_s30 19 (by decide)).trans q19_s29
  have q20_s30 : s30 20 = ai E 80 (fun _ => 0) := (f_s30 20 (by decide)).trans q20_s29
  have q21_s30 : s30 21 = ai E 24 (fun _ => 0) := (f_s30 21 (by decide)).trans q21_s29
  have q22_s30 : s30 22 = ai E 24 (fun _ => 0) := (f_s30 22 (by decide)).trans q22_s29
  have q23_s30 : s30 23 = ob 6 [vr E 24, vr E 25, vr E 26, vr E 27, vr E 28, vr E 29, vi 0, vi 0, vi 0, vi 0, vi 0, vi 0] := (f_s30 23 (by decide)).trans q23_s29
  have q24_s30 : s30 24 = ai E 80 (fun _ => 0) := (f_s30 24 (by decide)).trans q24_s29
  have q25_s30 : s30 25 = ai E 80 (fun _ => 0) := (f_s30 25 (by decide)).trans q25_s29
  have q26_s30 : s30 26 = ai E 80 (fun _ => 0) := (f_s30 26 (by decide)).trans q26_s29
  have q27_s30 : s30 27 = ai E 80 (fun _ => 0) := (f_s30 27 (by decide)).trans q27_s29
  have q28_s30 : s30 28 = ai E 24 (fun _ => 0) := (f_s30 28 (by decide)).trans q28_s29
  have q29_s30 : s30 29 = ai E 24 (fun _ => 0) := (f_s30 29 (by decide)).trans q29_s29
  have q30_s30 : s30 30 = ob 3 [vr E 31, vr E 32, vr E 33, vr E 34, vi 0, vi 0] := (f_s30 30 (by decide)).trans q30_s29
  have q31_s30 : s30 31 = ai E 24 (fun _ => 0) := (f_s30 31 (by decide)).trans q31_s29
  have q32_s30 : s30 32 = ai E 24 (fun _ => 0) := (f_s30 32 (by decide)).trans q32_s29
  have q33_s30 : s30 33 = ar E 3 4 (up (up (up (up (fun _ => -1) 0 ((35 : Nat) : Int)) 1 ((38 : Nat) : Int)) 2 ((41 : Nat) : Int)) 3 ((44 : Nat) : Int)) := (f_s30 33 (by decide)).trans q33_s29
  have q34_s30 : s30 34 = ar E 3 3 (up (up (up (fun _ => -1) 0 ((47 : Nat) : Int)) 1 ((50 : Nat) : Int)) 2 ((53 : Nat) : Int)) := (f_s30 34 (by decide)).trans q34_s29
  have q35_s30 : s30 35 = ob 0 [vr E 36, vr E 37] := (f_s30 35 (by decide)).trans q35_s29
  have q36_s30 : s30 36 = ai E 6 (fun _ => 0) := (f_s30 36 (by decide)).trans q36_s29
  have q37_s30 : s30 37 = ai E 6 (fun _ => 0) := (f_s30 37 (by decide)).trans q37_s29
  have q38_s30 : s30 38 = ob 0 [vr E 39, vr E 40] := (f_s30 38 (by decide)).trans q38_s29
  have q39_s30 : s30 39 = ai E 6 (fun _ => 0) := (f_s30 39 (by decide)).trans q39_s29
  have q40_s30 : s30 40 = ai E 6 (fun _ => 0) := (f_s30 40 (by decide)).trans q40_s29
  have q41_s30 : s30 41 = ob 0 [vr E 42, vr E 43] := (f_s30 41 (by decide)).trans q41_s29
  have q42_s30 : s30 42 = ai E 6 (fun _ => 0) := (f_s30 42 (by decide)).trans q42_s29
  have q43_s30 : s30 43 = ai E 6 (fun _ => 0) := (f_s30 43 (by decide)).trans q43_s29
  have q44_s30 : s30 44 = ob 0 [vr E 45, vr E 46] := (f_s30 44 (by decide)).trans q44_s29
  have q45_s30 : s30 45 = ai E 6 (fun _ => 0) := (f_s30 45 (by decide)).trans q45_s29
  have q46_s30 : s30 46 = ai E 6 (fun _ => 0) := (f_s30 46 (by decide)).trans q46_s29
  have q47_s30 : s30 47 = ob 0 [vr E 48, vr E 49] := (f_s30 47 (by decide)).trans q47_s29
  have q48_s30 : s30 48 = ai E 6 (fun _ => 0) := (f_s30 48 (by decide)).trans q48_s29
  have q49_s30 : s30 49 = ai E 6 (fun _ => 0) := (f_s30 49 (by decide)).trans q49_s29
  have q50_s30 : s30 50 = ob 0 [vr E 51, vr E 52] := (f_s30 50 (by decide)).trans q50_s29
  have q51_s30 : s30 51 = ai E 6 (fun _ => 0) := (f_s30 51 (by decide)).trans q51_s29
  have q52_s30 : s30 52 = ai E 6 (fun _ => 0) := (f_s30 52 (by decide)).trans q52_s29
  have q53_s30 : s30 53 = ob 0 [vr E 54, vr E 55] := (f_s30 53 (by decide)).trans q53_s29
  have q54_s30 : s30 54 = ai E 6 (fun _ => 0) := (f_s30 54 (by decide)).trans q54_s29
  have q55_s30 : s30 55 = ai E 6 (fun _ => 0) := (f_s30 55 (by decide)).trans q55_s29
  have q56_s30 : s30 56 = ob 2 [vr E 57, vr E 58, vr E 59, vr E 63, vi 0] := (f_s30 56 (by decide)).trans q56_s29
  have q57_s30 : s30 57 = ar E 5 4 (up (up (up (up (fun _ => -1) 0 ((64 : Nat) : Int)) 1 ((68 : Nat) : Int)) 2 ((72 : Nat) : Int)) 3 ((76 : Nat) : Int)) := (f_s30 57 (by decide)).trans q57_s29
  have q58_s30 : s30 58 = ar E 5 3 (up (up (up (fun _ => -1) 0 ((80 : Nat) : Int)) 1 ((84 : Nat) : Int)) 2 ((88 : Nat) : Int)) := (f_s30 58 (by decide)).trans q58_s29
  have q59_s30 : s30 59 = ob 4 [vr E 60, vr E 61, vr E 62, vi 0] := (f_s30 59 (by decide)).trans q59_s29
  have q60_s30 : s30 60 = ai E 157 (fun _ => 0) := (f_s30 60 (by decide)).trans q60_s29
  have q61_s30 : s30 61 = ai E 512 (fun _ => -1) := (f_s30 61 (by decide)).trans q61_s29
  have q62_s30 : s30 62 = ai E 512 (fun _ => 0) := (f_s30 62 (by decide)).trans q62_s29
  have q63_s30 : s30 63 = ob 1 [vi 0, vi 2, vi 0, vi 10] := (f_s30 63 (by decide)).trans q63_s29
  have q64_s30 : s30 64 = ob 4 [vr E 65, vr E 66, vr E 67, vi 0] := (f_s30 64 (by decide)).trans q64_s29
  have q65_s30 : s30 65 = ai E 157 (fun _ => 0) := (f_s30 65 (by decide)).trans q65_s29
  have q66_s30 : s30 66 = ai E 512 (fun _ => -1) := (f_s30 66 (by decide)).trans q66_s29
  have q67_s30 : s30 67 = ai E 512 (fun _ => 0) := (f_s30 67 (by decide)).trans q67_s29
  have q68_s30 : s30 68 = ob 4 [vr E 69, vr E 70, vr E 71, vi 0] := (f_s30 68 (by decide)).trans q68_s29
  have q69_s30 : s30 69 = ai E 157 (fun _ => 0) := (f_s30 69 (by decide)).trans q69_s29
  have q70_s30 : s30 70 = ai E 512 (fun _ => -1) := (f_s30 70 (by decide)).trans q70_s29
  have q71_s30 : s30 71 = ai E 512 (fun _ => 0) := (f_s30 71 (by decide)).trans q71_s29
  have q72_s30 : s30 72 = ob 4 [vr E 73, vr E 74, vr E 75, vi 0] := (f_s30 72 (by decide)).trans q72_s29
  have q73_s30 : s30 73 = ai E 157 (fun _ => 0) := (f_s30 73 (by decide)).trans q73_s29
  have q74_s30 : s30 74 = ai E 512 (fun _ => -1) := (f_s30 74 (by decide)).trans q74_s29
  have q75_s30 : s30 75 = ai E 512 (fun _ => 0) := (f_s30 75 (by decide)).trans q75_s29
  have q76_s30 : s30 76 = ob 4 [vr E 77, vr E 78, vr E 79, vi 0] := (f_s30 76 (by decide)).trans q76_s29
  have q77_s30 : s30 77 = ai E 157 (fun _ => 0) := (f_s30 77 (by decide)).trans q77_s29
  have q78_s30 : s30 78 = ai E 512 (fun _ => -1) := (f_s30 78 (by decide)).trans q78_s29
  have q79_s30 : s30 79 = ai E 512 (fun _ => 0) := (f_s30 79 (by decide)).trans q79_s29
  have q80_s30 : s30 80 = ob 4 [vr E 81, vr E 82, vr E 83, vi 0] := (f_s30 80 (by decide)).trans q80_s29
  have q81_s30 : s30 81 = ai E 157 (fun _ => 0) := (f_s30 81 (by decide)).trans q81_s29
  have q82_s30 : s30 82 = ai E 512 (fun _ => -1) := (f_s30 82 (by decide)).trans q82_s29
  have q83_s30 : s30 83 = ai E 512 (fun _ => 0) := (f_s30 83 (by decide)).trans q83_s29
  have q84_s30 : s30 84 = ob 4 [vr E 85, vr E 86, vr E 87, vi 0] := (f_s30 84 (by decide)).trans q84_s29
  have q85_s30 : s30 85 = ai E 157 (fun _ => 0) := (f_s30 85 (by decide)).trans q85_s29
  have q86_s30 : s30 86 = ai E 512 (fun _ => -1) := (f_s30 86 (by decide)).trans q86_s29
  have q87_s30 : s30 87 = ai E 512 (fun _ => 0) := (f_s30 87 (by decide)).trans q87_s29
  have q88_s30 : s30 88 = ob 4 [vr E 89, vr E 90, vr E 91, vi 0] := (f_s30 88 (by decide)).trans q88_s29
  have q89_s30 : s30 89 = ai E 157 (fun _ => 0) := (f_s30 89 (by decide)).trans q89_s29
  have q90_s30 : s30 90 = ai E 512 (fun _ => -1) := (f_s30 90 (by decide)).trans q90_s29
  have q91_s30 : s30 91 = ai E 512 (fun _ => 0) := (f_s30 91 (by decide)).trans q91_s29
  have q92_s30 : s30 92 = ob 8 [vi 0, vi 0, vi 0, vi 0, vi 0] := (f_s30 92 (by decide)).trans q92_s29
  have q93_s30 : s30 93 = ob 8 [vi 0, vi 0, vi 0, vi 0, vi 0] := (f_s30 93 (by decide)).trans u0_s29'
  refine go_aload_n (pc := 116) hF dX10_init_116 0 rfl ?_
  refine go_iconst (pc := 117) hF dX10_init_117 ?_
  refine go_put (pc := 118) hF [vr E 1, vr E 2, vr E 3, vr E 13, vi 0, vr E 14, vr E 23, vr E 30, vr E 56, vr E 92, vr E 93, vi 0, vi 0, vi 0] fl_X10_72 dX10_init_118 (by omega) u_s30 rfl rfl rfl (Nat.le_of_ble_eq_true rfl) (fun s31 u_s31 f_s31 => ?_)
  have q1_s31 : s31 1 = ob 1 [vi 0, vi 2, vi 0, vi 10] := (f_s31 1 (by decide)).trans q1_s30
  have q2_s31 : s31 2 = ob 1 [vi 0, vi 2, vi 0, vi 10] := (f_s31 2 (by decide)).trans q2_s30
  have q3_s31 : s31 3 = ob 5 [vr E 4, vi 0, vi 0] := (f_s31 3 (by decide)).trans q3_s30
  have q4_s31 : s31 4 = ar E 4 8 (up (up (up (up (up (up (up (up (fun _ => -1) 0 ((5 : Nat) : Int)) 1 ((6 : Nat) : Int)) 2 ((7 : Nat) : Int)) 3 ((8 : Nat) : Int)) 4 ((9 : Nat) : Int)) 5 ((10 : Nat) : Int)) 6 ((11 : Nat) : Int)) 7 ((12 : Nat) : Int)) := (f_s31 4 (by decide)).trans q4_s30
  have q5_s31 : s31 5 = ob 1 [vi 0, vi 2, vi 0, vi 10] := (f_s31 5 (by decide)).trans q5_s30
  have q6_s31 : s31 6 = ob 1 [vi 0, vi 2, vi 0, vi 10] := (f_s31 6 (by decide)).trans q6_s30
  have q7_s31 : s31 7 = ob 1 [vi 0, vi 2, vi 0, vi 10] := (f_s31 7 (by decide)).trans q7_s30
  have q8_s31 : s31 8 = ob 1 [vi 0, vi 2, vi 0, vi 10] := (f_s31 8 (by decide)).trans q8_s30
  have q9_s31 : s31 9 = ob 1 [vi 0, vi 2, vi 0, vi 10] := (f_s31 9 (by decide)).trans q9_s30
  have q10_s31 : s31 10 = ob 1 [vi 0, vi 2, vi 0, vi 10] := (f_s31 10 (by decide)).trans q10_s30
  have q11_s31 : s31 11 = ob 1 [vi 0, vi 2, vi 0, vi 10] := (f_s31 11 (by decide)).trans q11_s30
  have q12_s31 : s31 12 = ob 1 [vi 0, vi 2, vi 0, vi 10] := (f_s31 12 (by decide)).trans q12_s30
  have q13_s31 : s31 13 = ai E 80 (fun _ => 0) := (f_s31 13 (by decide)).trans q13_s30
  have q14_s31 : s31 14 = ob 7 [vr E 15, vi 0, vi 0, vr E 16] := (f_s31 14 (by decide)).trans q14_s30
  have q15_s31 : s31 15 = ai E 3 (fun _ => 0) := (f_s31 15 (by decide)).trans q15_s30
  have q16_s31 : s31 16 = ob 6 [vr E 17, vr E 18, vr E 19, vr E 20, vr E 21, vr E 22, vi 0, vi 0, vi 0, vi 0, vi 0, vi 0] := (f_s31 16 (by decide)).trans q16_s30
  have q17_s31 : s31 17 = ai E 80 (fun _ => 0) := (f_s31 17 (by decide)).trans q17_s30
  have q18_s31 : s31 18 = ai E 80 (fun _ => 0) := (f_s31 18 (by decide)).trans q18_s30
  have q19_s31 : s31 19 = ai E 80 (fun _ => 0) := (f_s31 19 (by decide)).trans q19_s30
  have q20_s31 : s31 20 = ai E 80 (fun _ => 0) := (f_s31 20 (by decide)).trans q20_s30
  have q21_s31 : s31 21 = ai E 24 (fun _ => 0) := (f_s31 21 (by decide)).trans q21_s30
  have q22_s31 : s31 22 = ai E 24 (fun _ => 0) := (f_s31 22 (by decide)).trans q22_s30
  have q23_s31 : s31 23 = ob 6 [vr E 24, vr E 25, vr E 26, vr E 27, vr E 28, vr E 29, vi 0, vi 0, vi 0, vi 0, vi 0, vi 0] := (f_s31 23 (by decide)).trans q23_s30
  have q24_s31 : s31 24 = ai E 80 (fun _ => 0) := (f_s31 24 (by decide)).trans q24_s30
  have q25_s31 : s31 25 = ai E 80 (fun _ => 0) := (f_s31 25 (by decide)).trans q25_s30
  have q26_s31 : s31 26 = ai E 80 (fun _ => 0) := (f_s31 26 (by decide)).trans q26_s30
  have q27_s31 : s31 27 = ai E 80 (fun _ => 0) := (f_s31 27 (by decide)).trans q27_s30
  have q28_s31 : s31 28 = ai E 24 (fun _ => 0) := (f_s31 28 (by decide)).trans q28_s30
  have q29_s31 : s31 29 = ai E 24 (fun _ => 0) := (f_s31 29 (by decide)).trans q29_s30
  have q30_s31 : s31 30 = ob 3 [vr E 31, vr E 32, vr E 33, vr E 34, vi 0, vi 0] := (f_s31 30 (by decide)).trans q30_s30
  have q31_s31 : s31 31 = ai E 24 (fun _ => 0) := (f_s31 31 (by decide)).trans q31_s30
  have q32_s31 : s31 32 = ai E 24 (fun _ => 0) := (f_s31 32 (by decide)).trans q32_s30
  have q33_s31 : s31 33 = ar E 3 4 (up (up (up (up (fun _ => -1) 0 ((35 : Nat) : Int)) 1 ((38 : Nat) : Int)) 2 ((41 : Nat) : Int)) 3 ((44 : Nat) : Int)) := (f_s31 33 (by decide)).trans q33_s30
  have q34_s31 : s31 34 = ar E 3 3 (up (up (up (fun _ => -1) 0 ((47 : Nat) : Int)) 1 ((50 : Nat) : Int)) 2 ((53 : Nat) : Int)) := (f_s31 34 (by decide)).trans q34_s30
  have q35_s31 : s31 35 = ob 0 [vr E 36, vr E 37] := (f_s31 35 (by decide)).trans q35_s30
  have q36_s31 : s31 36 = ai E 6 (fun _ => 0) := (f_s31 36 (by decide)).trans q36_s30
  have q37_s31 : s31 37 = ai E 6 (fun _ => 0) := (f_s31 37 (by decide)).trans q37_s30
  have q38_s31 : s31 38 = ob 0 [vr E 39, vr E 40] := (f_s31 38 (by decide)).trans q38_s30
  have q39_s31 : s31 39 = ai E 6 (fun _ => 0) := (f_s31 39 (by decide)).trans q39_s30
  have q40_s31 : s31 40 = ai E 6 (fun _ => 0) := (f_s31 40 (by decide)).trans q40_s30
  have q41_s31 : s31 41 = ob 0 [vr E 42, vr E 43] := (f_s31 41 (by decide)).trans q41_s30
  have q42_s31 : s31 42 = ai E 6 (fun _ => 0) := (f_s31 42 (by decide)).trans q42_s30
  have q43_s31 : s31 43 = ai E 6 (fun _ => 0) := (f_s31 43 (by decide)).trans q43_s30
  have q44_s31 : s31 44 = ob 0 [vr E 45, vr E 46] := (f_s31 44 (by decide)).trans q44_s30
  have q45_s31 : s31 45 = ai E 6 (fun _ => 0) := (f_s31 45 (by decide)).trans q45_s30
  have q46_s31 : s31 46 = ai E 6 (fun _ => 0) := (f_s31 46 (by decide)).trans q46_s30
  have q47_s31 : s31 47 = ob 0 [vr E 48, vr E 49] := (f_s31 47 (by decide)).trans q47_s30
  have q48_s31 : s31 48 = ai E 6 (fun _ => 0) := (f_s31 48 (by decide)).trans q48_s30
  have q49_s31 : s31 49 = ai E 6 (fun _ => 0) := (f_s31 49 (by decide)).trans q49_s30
  have q50_s31 : s31 50 = ob 0 [vr E 51, vr E 52] := (f_s31 50 (by decide)).trans q50_s30
  have q51_s31 : s31 51 = ai E 6 (fun _ => 0) := (f_s31 51 (by decide)).trans q51_s30
  have q52_s31 : s31 52 = ai E 6 (fun _ => 0) := (f_s31 52 (by decide)).trans q52_s30
  have q53_s31 : s31 53 = ob 0 [vr E 54, vr E 55] := (f_s31 53 (by decide)).trans q53_s30
  have q54_s31 : s31 54 = ai E 6 (fun _ => 0) := (f_s31 54 (by decide)).trans q54_s30
  have q55_s31 : s31 55 = ai E 6 (fun _ => 0) := (f_s31 55 (by decide)).trans q55_s30
  have q56_s31 : s31 56 = ob 2 [vr E 57, vr E 58, vr E 59, vr E 63, vi 0] := (f_s31 56 (by decide)).trans q56_s30
  have q57_s31 : s31 57 = ar E 5 4 (up (up (up (up (fun _ => -1) 0 ((64 : Nat) : Int)) 1 ((68 : Nat) : Int)) 2 ((72 : Nat) : Int)) 3 ((76 : Nat) : Int)) := (f_s31 57 (by decide)).trans q57_s30
  have q58_s31 : s31 58 = ar E 5 3 (up (up (up (fun _ => -1) 0 ((80 : Nat) : Int)) 1 ((84 : Nat) : Int)) 2 ((88 : Nat) : Int)) := (f_s31 58 (by decide)).trans q58_s30
  have q59_s31 : s31 59 = ob 4 [vr E 60, vr E 61, vr E 62, vi 0] := (f_s31 59 (by decide)).trans q59_s30
  have q60_s31 : s31 60 = ai E 157 (fun _ => 0) := (f_s31 60 (by decide)).trans q60_s30
  have q61_s31 : s31 61 = ai E 512 (fun _ => -1) := (f_s31 61 (by decide)).trans q61_s30
  have q62_s31 : s31 62 = ai E 512 (fun _ => 0) := (f_s31 62 (by decide)).trans q62_s30
  have q63_s31 : s31 63 = ob 1 [vi 0, vi 2, vi 0, vi 10] := (f_s31 63 (by decide)).trans q63_s30
  have q64_s31 : s31 64 = ob 4 [vr E 65, vr E 66, vr E 67, vi 0] := (f_s31 64 (by decide)).trans q64_s30
  have q65_s31 : s31 65 = ai E 157 (fun _ => 0) := (f_s31 65 (by decide)).trans q65_s30
  have q66_s31 : s31 66 = ai E 512 (fun _ => -1) := (f_s31 66 (by decide)).trans q66_s30
  have q67_s31 : s31 67 = ai E 512 (fun _ => 0) := (f_s31 67 (by decide)).trans q67_s30
  have q68_s31 : s31 68 = ob 4 [vr E 69, vr E 70, vr E 71, vi 0] := (f_s31 68 (by decide)).trans q68_s30
  have q69_s31 : s31 69 = ai E 157 (fun _ => 0) := (f_s31 69 (by decide)).trans q69_s30
  have q70_s31 : s31 70 = ai E 512 (fun _ => -1) := (f_s31 70 (by decide)).trans q70_s30
  have q71_s31 : s31 71 = ai E 512 (fun _ => 0) := (f_s31 71 (by decide)).trans q71_s30
  have q72_s31 : s31 72 = ob 4 [vr E 73, vr E 74, vr E 75, vi 0] := (f_s31 72 (by decide)).trans q72_s30
  have q73_s31 : s31 73 = ai E 157 (fun _ => 0) := (f_s31 73 (by decide)).trans q73_s30
  have q74_s31 : s31 74 = ai E 512 (fun _ => -1) := (f_s31 74 (by decide)).trans q74_s30
  have q75_s31 : s31 75 = ai E 512 (fun _ => 0) := (f_s31 75 (by decide)).trans q75_s30
  have q76_s31 : s31 76 = ob 4 [vr E 77, vr E 78, vr E 79, vi 0] := (f_s31 76 (by decide)).trans q76_s30
  have q77_s31 : s31 77 = ai E 157 (fun _ => 0) := (f_s31 77 (by decide)).trans q77_s30
  have q78_s31 : s31 78 = ai E 512 (fun _ => -1) := (f_s31 78 (by decide)).trans q78_s30
  have q79_s31 : s31 79 = ai E 512 (fun _ => 0) := (f_s31 79 (by decide)).trans q79_s30
  have q80_s31 : s31 80 = ob 4 [vr E 81, vr E 82, vr E 83, vi 0] := (f_s31 80 (by decide)).trans q80_s30
  have q81_s31 : s31 81 = ai E 157 (fun _ => 0) := (f_s31 81 (by decide)).trans q81_s30
  have q82_s31 : s31 82 = ai E 512 (fun _ => -1) := (f_s31 82 (by decide)).trans q82_s30
  have q83_s31 : s31 83 = ai E 512 (fun _ => 0) := (f_s31 83 (by decide)).trans q83_s30
  have q84_s31 : s31 84 = ob 4 [vr E 85, vr E 86, vr E 87, vi 0] := (f_s31 84 (by decide)).trans q84_s30
  have q85_s31 : s31 85 = ai E 157 (fun _ => 0) := (f_s31 85 (by decide)).trans q85_s30
  have q86_s31 : s31 86 = ai E 512 (fun _ => -1) := (f_s31 86 (by decide)).trans q86_s30
  have q87_s31 : s31 87 = ai E 512 (fun _ => 0) := (f_s31 87 (by decide)).trans q87_s30
  have q88_s31 : s31 88 = ob 4 [vr E 89, vr E 90, vr E 91, vi 0] := (f_s31 88 (by decide)).trans q88_s30
  have q89_s31 : s31 89 = ai E 157 (fun _ => 0) := (f_s31 89 (by decide)).trans q89_s30
  have q90_s31 : s31 90 = ai E 512 (fun _ => -1) := (f_s31 90 (by decide)).trans q90_s30
  have q91_s31 : s31 91 = ai E 512 (fun _ => 0) := (f_s31 91 (by decide)).trans q91_s30
  have q92_s31 : s31 92 = ob 8 [vi 0, vi 0, vi 0, vi 0, vi 0] := (f_s31 92 (by decide)).trans q92_s30
  have q93_s31 : s31 93 = ob 8 [vi 0, vi 0, vi 0, vi 0, vi 0] := (f_s31 93 (by decide)).trans q93_s30
  refine go_aload_n (pc := 121) hF dX10_init_121 0 rfl ?_
  refine go_iconst (pc := 122) hF dX10_init_122 ?_
  refine go_put (pc := 123) hF [vr E 1, vr E 2, vr E 3, vr E 13, vi 0, vr E 14, vr E 23, vr E 30, vr E 56, vr E 92, vr E 93, vi 0, vi 0, vi 0] fl_X10_75 dX10_init_123 (by omega) u_s31 rfl rfl rfl (Nat.le_of_ble_eq_true rfl) (fun s32 u_s32 f_s32 => ?_)
  have q1_s32 : s32 1 = ob 1 [vi 0, vi 2, vi 0, vi 10] := (f_s32 1 (by decide)).trans q1_s31
  have q2_s32 : s32 2 = ob 1 [vi 0, vi 2, vi 0, vi 10] := (f_s32 2 (by decide)).trans q2_s31
  have q3_s32 : s32 3 = ob 5 [vr E 4, vi 0, vi 0] := (f_s32 3 (by decide)).trans q3_s31
  have q4_s32 : s32 4 = ar E 4 8 (up (up (up (up (up (up (up (up (fun _ => -1) 0 ((5 : Nat) : Int)) 1 ((6 : Nat) : Int)) 2 ((7 : Nat) : Int)) 3 ((8 : Nat) : Int)) 4 ((9 : Nat) : Int)) 5 ((10 : Nat) : Int)) 6 ((11 : Nat) : Int)) 7 ((12 : Nat) : Int)) := (f_s32 4 (by decide)).trans q4_s31
  have q5_s32 : s32 5 = ob 1 [vi 0, vi 2, vi 0, vi 10] := (f_s32 5 (by decide)).trans q5_s31
  have q6_s32 : s32 6 = ob 1 [vi 0, vi 2, vi 0, vi 10] := (f_s32 6 (by decide)).trans q6_s31
  have q7_s32 : s32 7 = ob 1 [vi 0, vi 2, vi 0, vi 10] := (f_s32 7 (by decide)).trans q7_s31
  have q8_s32 : s32 8 = ob 1 [vi 0, vi 2, vi 0, vi 10] := (f_s32 8 (by decide)).trans q8_s31
  have q9_s32 : s32 9 = ob 1 [vi 0, vi 2, vi 0, vi 10] := (f_s32 9 (by decide)).trans q9_s31
  have q10_s32 : s32 10 = ob 1 [vi 0, vi 2, vi 0, vi 10] := (f_s32 10 (by decide)).trans q10_s31
  have q11_s32 : s32 11 = ob 1 [vi 0, vi 2, vi 0, vi 10] := (f_s32 11 (by decide)).trans q11_s31
  have q12_s32 : s32 12 = ob 1 [vi 0, vi 2, vi 0, vi 10] := (f_s32 12 (by decide)).trans q12_s31
  have q13_s32 : s32 13 = ai E 80 (fun _ => 0) := (f_s32 13 (by decide)).trans q13_s31
  have q14_s32 : s32 14 = ob 7 [vr E 15, vi 0, vi 0, vr E 16] := (f_s32 14 (by decide)).trans q14_s31
  have q15_s32 : s32 15 = ai E 3 (fun _ => 0) := (f_s32 15 (by decide)).trans q15_s31
  have q16_s32 : s32 16 = ob 6 [vr E 17, vr E 18, vr E 19, vr E 20, vr E 21, vr E 22, vi 0, vi 0, vi 0, vi 0, vi 0, vi 0] := (f_s32 16 (by decide)).trans q16_s31
  have q17_s32 : s32 17 = ai E 80 (fun _ => 0) := (f_s32 17 (by decide)).trans q17_s31
  have q18_s32 : s32 18 = ai E 80 (fun _ => 0) := (f_s32 18 (by decide)).trans q18_s31
  have q19_s32 : s32 19 = ai E 80 (fun _ => 0) := (f_s32 19 (by decide)).trans q19_s31
  have q20_s32 : s32 20 = ai E 80 (fun _ => 0) := (f_s32 20 (by decide)).trans q20_s31
  have q21_s32 : s32 21 = ai E 24 (fun _ => 0) := (f_s32 21 (by decide)).trans q21_s31
  have q22_s32 : s32 22 = ai E 24 (fun _ => 0) := (f_s32 22 (by decide)).trans q22_s31
  have q23_s32 : s32 23 = ob 6 [vr E 24, vr E 25, vr E 26, vr E 27, vr E 28, vr E 29, vi 0, vi 0, vi 0, vi 0, vi 0, vi 0] := (f_s32 23 (by decide)).trans q23_s31
  have q24_s32 : s32 24 = ai E 80 (fun _ => 0) := (f_s32 24 (by decide)).trans q24_s31
  have q25_s32 : s32 25 = ai E 80 (fun _ => 0) := (f_s32 25 (by decide)).trans q25_s31
  have q26_s32 : s32 26 = ai E 80 (fun _ => 0) := (f_s32 26 (by decide)).trans q26_s31
  have q27_s32 : s32 27 = ai E 80 (fun _ => 0) := (f_s32 27 (by decide)).trans q27_s31
  have q28_s32 : s32 28 = ai E 24 (fun _ => 0) := (f_s32 28 (by decide)).trans q28_s31
  have q29_s32 : s32 29 = ai E 24 (fun _ => 0) := (f_s32 29 (by decide)).trans q29_s31
  have q30_s32 : s32 30 = ob 3 [vr E 31, vr E 32, vr E 33, vr E 34, vi 0, vi 0] := (f_s32 30 (by decide)).trans q30_s31
  have q31_s32 : s32 31 = ai E 24 (fun _ => 0) := (f_s32 31 (by decide)).trans q31_s31
  have q32_s32 : s32 32 = ai E 24 (fun _ => 0) := (f_s32 32 (by decide)).trans q32_s31
  have q33_s32 : s32 33 = ar E 3 4 (up (up (up (up (fun _ => -1) 0 ((35 : Nat) : Int)) 1 ((38 : Nat) : Int)) 2 ((41 : Nat) : Int)) 3 ((44 : Nat) : Int)) := (f_s32 33 (by decide)).trans q33_s31
  have q34_s32 : s32 34 = ar E 3 3 (up (up (up (fun _ => -1) 0 ((47 : Nat) : Int)) 1 ((50 : Nat) : Int)) 2 ((53 : Nat) : Int)) := (f_s32 34 (by decide)).trans q34_s31
  have q35_s32 : s32 35 = ob 0 [vr E 36, vr E 37] := (f_s32 35 (by decide)).trans q35_s31
  have q36_s32 : s32 36 = ai E 6 (fun _ => 0) := (f_s32 36 (by decide)).trans q36_s31
  have q37_s32 : s32 37 = ai E 6 (fun _ => 0) := (f_s32 37 (by decide)).trans q37_s31
  have q38_s32 : s32 38 = ob 0 [vr E 39, vr E 40] := (f_s32 38 (by decide)).trans q38_s31
  have q39_s32 : s32 39 = ai E 6 (fun _ => 0) := (f_s32 39 (by decide)).trans q39_s31
  have q40_s32 : s32 40 = ai E 6 (fun _ => 0) := (f_s32 40 (by decide)).trans q40_s31
  have q41_s32 : s32 41 = ob 0 [vr E 42, vr E 43] := (f_s32 41 (by decide)).trans q41_s31
  have q42_s32 : s32 42 = ai E 6 (fun _ => 0) := (f_s32 42 (by decide)).trans q42_s31
  have q43_s32 : s32 43 = ai E 6 (fun _ => 0) := (f_s32 43 (by decide)).trans q43_s31
  have q44_s32 : s32 44 = ob 0 [vr E 45, vr E 46] := (f_s32 44 (by decide)).trans q44_s31
  have q45_s32 : s32 45 = ai E 6 (fun _ => 0) := (f_s32 45 (by decide)).trans q45_s31
  have q46_s32 : s32 46 = ai E 6 (fun _ => 0) := (f_s32 46 (by decide)).trans q46_s31
  have q47_s32 : s32 47 = ob 0 [vr E 48, vr E 49] := (f_s32 47 (by decide)).trans q47_s31
  have q48_s32 : s32 48 = ai E 6 (fun _ => 0) := (f_s32 48 (by decide)).trans q48_s31
  have q49_s32 : s32 49 = ai E 6 (fun _ => 0) := (f_s32 49 (by decide)).trans q49_s31
  have q50_s32 : s32 50 = ob 0 [vr E 51, vr E 52] := (f_s32 50 (by decide)).trans q50_s31
  have q51_s32 : s32 51 = ai E 6 (fun _ => 0) := (f_s32 51 (by decide)).trans q51_s31
  have q52_s32 : s32 52 = ai E 6 (fun _ => 0) := (f_s32 52 (by decide)).trans q52_s31
  have q53_s32 : s32 53 = ob 0 [vr E 54, vr E 55] := (f_s32 53 (by decide)).trans q53_s31
  have q54_s32 : s32 54 = ai E 6 (fun _ => 0) := (f_s32 54 (by decide)).trans q54_s31
  have q55_s32 : s32 55 = ai E 6 (fun _ => 0) := (f_s32 55 (by decide)).trans q55_s31
  have q56_s32 : s32 56 = ob 2 [vr E 57, vr E 58, vr E 59, vr E 63, vi 0] := (f_s32 56 (by decide)).trans q56_s31
  have q57_s32 : s32 57 = ar E 5 4 (up (up (up (up (fun _ => -1) 0 ((64 : Nat) : Int)) 1 ((68 : Nat) : Int)) 2 ((72 : Nat) : Int)) 3 ((76 : Nat) : Int)) := (f_s32 57 (by decide)).trans q57_s31
  have q58_s32 : s32 58 = ar E 5 3 (up (up (up (fun _ => -1) 0 ((80 : Nat) : Int)) 1 ((84 : Nat) : Int)) 2 ((88 : Nat) : Int)) := (f_s32 58 (by decide)).trans q58_s31
  have q59_s32 : s32 59 = ob 4 [vr E 60, vr E 61, vr E 62, vi 0] := (f_s32 59 (by decide)).trans q59_s31
  have q60_s32 : s32 60 = ai E 157 (fun _ => 0) := (f_s32 60 (by decide)).trans q60_s31
  have q61_s32 : s32 61 = ai E 512 (fun _ => -1) := (f_s32 61 (by decide)).trans q61_s31
  have q62_s32 : s32 62 = ai E 512 (fun _ => 0) := (f_s32 62 (by decide)).trans q62_s31
  have q63_s32 : s32 63 = ob 1 [vi 0, vi 2, vi 0, vi 10] := (f_s32 63 (by decide)).trans q63_s31
  have q64_s32 : s32 64 = ob 4 [vr E 65, vr E 66, vr E 67, vi 0] := (f_s32 64 (by decide)).trans q64_s31
  have q65_s32 : s32 65 = ai E 157 (fun _ => 0) := (f_s32 65 (by decide)).trans q65_s31
  have q66_s32 : s32 66 = ai E 512 (fun _ => -1) := (f_s32 66 (by decide)).trans q66_s31
  have q67_s32 : s32 67 = ai E 512 (fun _ => 0) := (f_s32 67 (by decide)).trans q67_s31
  have q68_s32 : s32 68 = ob 4 [vr E 69, vr E 70, vr E 71, vi 0] := (f_s32 68 (by decide)).trans q68_s31
  have q69_s32 : s32 69 = ai E 157 (fun _ => 0) := (f_s32 69 (by decide)).trans q69_s31
  have q70_s32 : s32 70 = ai E 512 (fun _ => -1) := (f_s32 70 (by decide)).trans q70_s31
  have q71_s32 : s32 71 = ai E 512 (fun _ => 0) := (f_s32 71 (by decide)).trans q71_s31
  have q72_s32 : s32 72 = ob 4 [vr E 73, vr E 74, vr E 75, vi 0] := (f_s32 72 (by decide)).trans q72_s31
  have q73_s32 : s32 73 = ai E 157 (fun _ => 0) := (f_s32 73 (by decide)).trans q73_s31
  have q74_s32 : s32 74 = ai E 512 (fun _ => -1) := (f_s32 74 (by decide)).trans q74_s31
  have q75_s32 : s32 75 = ai E 512 (fun _ => 0) := (f_s32 75 (by decide)).trans q75_s31
  have q76_s32 : s32 76 = ob 4 [vr E 77, vr E 78, vr E 79, vi 0] := (f_s32 76 (by decide)).trans q76_s31
  have q77_s32 : s32 77 = ai E 157 (fun _ => 0) := (f_s32 77 (by decide)).trans q77_s31
  have q78_s32 : s32 78 = ai E 512 (fun _ => -1) := (f_s32 78 (by decide)).trans q78_s31
  have q79_s32 : s32 79 = ai E 512 (fun _ => 0) := (f_s32 79 (by decide)).trans q79_s31
  have q80_s32 : s32 80 = ob 4 [vr E 81, vr E 82, vr E 83, vi 0] := (f_s32 80 (by decide)).trans q80_s31
  have q81_s32 : s32 81 = ai E 157 (fun _ => 0) := (f_s32 81 (by decide)).trans q81_s31
  have q82_s32 : s32 82 = ai E 512 (fun _ => -1) := (f_s32 82 (by decide)).trans q82_s31
  have q83_s32 : s32 83 = ai E 512 (fun _ => 0) := (f_s32 83 (by decide)).trans q83_s31
  have q84_s32 : s32 84 = ob 4 [vr E 85, vr E 86, vr E 87, vi 0] := (f_s32 84 (by decide)).trans q84_s31
  have q85_s32 : s32 85 = ai E 157 (fun _ => 0) := (f_s32 85 (by decide)).trans q85_s31
  have q86_s32 : s32 86 = ai E 512 (fun _ => -1) := (f_s32 86 (by decide)).trans q86_s31
  have q87_s32 : s32 87 = ai E 512 (fun _ => 0) := (f_s32 87 (by decide)).trans q87_s31
  have q88_s32 : s32 88 = ob 4 [vr E 89, vr E 90, vr E 91, vi 0] := (f_s32 88 (by decide)).trans q88_s31
  have q89_s32 : s32 89 = ai E 157 (fun _ => 0) := (f_s32 89 (by decide)).trans q89_s31
  have q90_s32 : s32 90 = ai E 512 (fun _ => -1) := (f_s32 90 (by decide)).trans q90_s31
  have q91_s32 : s32 91 = ai E 512 (fun _ => 0) := (f_s32 91 (by decide)).trans q91_s31
  have q92_s32 : s32 92 = ob 8 [vi 0, vi 0, vi 0, vi 0, vi 0] := (f_s32 92 (by decide)).trans q92_s31
  have q93_s32 : s32 93 = ob 8 [vi 0, vi 0, vi 0, vi 0, vi 0] := (f_s32 93 (by decide)).trans q93_s31
  refine go_aload_n (pc := 126) hF dX10_init_126 0 rfl ?_
  refine go_iconst (pc := 127) hF dX10_init_127 ?_
  refine go_put (pc := 128) hF [vr E 1, vr E 2, vr E 3, vr E 13, vi 0, vr E 14, vr E 23, vr E 30, vr E 56, vr E 92, vr E 93, vi 0, vi 0, vi 0] fl_X10_78 dX10_init_128 (by omega) u_s32 rfl rfl rfl (Nat.le_of_ble_eq_true rfl) (fun s33 u_s33 f_s33 => ?_)
  have q1_s33 : s33 1 = ob 1 [vi 0, vi 2, vi 0, vi 10] := (f_s33 1 (by decide)).trans q1_s32
  have q2_s33 : s33 2 = ob 1 [vi 0, vi 2, vi 0, vi 10] := (f_s33 2 (by decide)).trans q2_s32
  have q3_s33 : s33 3 = ob 5 [vr E 4, vi 0, vi 0] := (f_s33 3 (by decide)).trans q3_s32
  have q4_s33 : s33 4 = ar E 4 8 (up (up (up (up (up (up (up (up (fun _ => -1) 0 ((5 : Nat) : Int)) 1 ((6 : Nat) : Int)) 2 ((7 : Nat) : Int)) 3 ((8 : Nat) : Int)) 4 ((9 : Nat) : Int)) 5 ((10 : Nat) : Int)) 6 ((11 : Nat) : Int)) 7 ((12 : Nat) : Int)) := (f_s33 4 (by decide)).trans q4_s32
  have q5_s33 : s33 5 = ob 1 [vi 0, vi 2, vi 0, vi 10] := (f_s33 5 (by decide)).trans q5_s32
  have q6_s33 : s33 6 = ob 1 [vi 0, vi 2, vi 0, vi 10] := (f_s33 6 (by decide)).trans q6_s32
  have q7_s33 : s33 7 = ob 1 [vi 0, vi 2, vi 0, vi 10] := (f_s33 7 (by decide)).trans q7_s32
  have q8_s33 : s33 8 = ob 1 [vi 0, vi 2, vi 0, vi 10] := (f_s33 8 (by decide)).trans q8_s32
  have q9_s33 : s33 9 = ob 1 [vi 0, vi 2, vi 0, vi 10] := (f_s33 9 (by decide)).trans q9_s32
  have q10_s33 : s33 10 = ob 1 [vi 0, vi 2, vi 0, vi 10] := (f_s33 10 (by decide)).trans q10_s32
  have q11_s33 : s33 11 = ob 1 [vi 0, vi 2, vi 0, vi 10] := (f_s33 11 (by decide)).trans q11_s32
  have q12_s33 : s33 12 = ob 1 [vi 0, vi 2, vi 0, vi 10] := (f_s33 12 (by decide)).trans q12_s32
  have q13_s33 : s33 13 = ai E 80 (fun _ => 0) := (f_s33 13 (by decide)).trans q13_s32
  have q14_s33 : s33 14 = ob 7 [vr E 15, vi 0, vi 0, vr E 16] := (f_s33 14 (by decide)).trans q14_s32
  have q15_s33 : s33 15 = ai E 3 (fun _ => 0) := (f_s33 15 (by decide)).trans q15_s32
  have q16_s33 : s33 16 = ob 6 [vr E 17, vr E 18, vr E 19, vr E 20, vr E 21, vr E 22, vi 0, vi 0, vi 0, vi 0, vi 0, vi 0] := (f_s33 16 (by decide)).trans q16_s32
  have q17_s33 : s33 17 = ai E 80 (fun _ => 0) := (f_s33 17 (by decide)).trans q17_s32
  have q18_s33 : s33 18 = ai E 80 (fun _ => 0) := (f_s33 18 (by decide)).trans q18_s32
  have q19_s33 : s33 19 = ai E 80 (fun _ => 0) := (f_s33 19 (by decide)).trans q19_s32
  have q20_s33 : s33 20 = ai E 80 (fun _ => 0) := (f_s33 20 (by decide)).trans q20_s32
  have q21_s33 : s33 21 = ai E 24 (fun _ => 0) := (f_s33 21 (by decide)).trans q21_s32
  have q22_s33 : s33 22 = ai E 24 (fun _ => 0) := (f_s33 22 (by decide)).trans q22_s32
  have q23_s33 : s33 23 = ob 6 [vr E 24, vr E 25, vr E 26, vr E 27, vr E 28, vr E 29, vi 0, vi 0, vi 0, vi 0, vi 0, vi 0] := (f_s33 23 (by decide)).trans q23_s32
  have q24_s33 : s33 24 = ai E 80 (fun _ => 0) := (f_s33 24 (by decide)).trans q24_s32
  have q25_s33 : s33 25 = ai E 80 (fun _ => 0) := (f_s33 25 (by decide)).trans q25_s32
  have q26_s33 : s33 26 = ai E 80 (fun _ => 0) := (f_s33 26 (by decide)).trans q26_s32
  have q27_s33 : s33 27 = ai E 80 (fun _ => 0) := (f_s33 27 (by decide)).trans q27_s32
  have q28_s33 : s33 28 = ai E 24 (fun _ => 0) := (f_s33 28 (by decide)).trans q28_s32
  have q29_s33 : s33 29 = ai E 24 (fun _ => 0) := (f_s33 29 (by decide)).trans q29_s32
  have q30_s33 : s33 30 = ob 3 [vr E 31, vr E 32, vr E 33, vr E 34, vi 0, vi 0] := (f_s33 30 (by decide)).trans q30_s32
  have q31_s33 : s33 31 = ai E 24 (fun _ => 0) := (f_s33 31 (by decide)).trans q31_s32
  have q32_s33 : s33 32 = ai E 24 (fun _ => 0) := (f_s33 32 (by decide)).trans q32_s32
  have q33_s33 : s33 33 = ar E 3 4 (up (up (up (up (fun _ => -1) 0 ((35 : Nat) : Int)) 1 ((38 : Nat) : Int)) 2 ((41 : Nat) : Int)) 3 ((44 : Nat) : Int)) := (f_s33 33 (by decide)).trans q33_s32
  have q34_s33 : s33 34 = ar E 3 3 (up (up (up (fun _ => -1) 0 ((47 : Nat) : Int)) 1 ((50 : Nat) : Int)) 2 ((53 : Nat) : Int)) := (f_s33 34 (by decide)).trans q34_s32
  have q35_s33 : s33 35 = ob 0 [vr E 36, vr E 37] := (f_s33 35 (by decide)).trans q35_s32
  have q36_s33 : s33 36 = ai E 6 (fun _ => 0) := (f_s33 36 (by decide)).trans q36_s32
  have q37_s33 : s33 37 = ai E 6 (fun _ => 0) := (f_s33 37 (by decide)).trans q37_s32
  have q38_s33 : s33 38 = ob 0 [vr E 39, vr E 40] := (f_s33 38 (by decide)).trans q38_s32
  have q39_s33 : s33 39 = ai E 6 (fun _ => 0) := (f_s33 39 (by decide)).trans q39_s32
  have q40_s33 : s33 40 = ai E 6 (fun _ => 0) := (f_s33 40 (by decide)).trans q40_s32
  have q41_s33 : s33 41 = ob 0 [vr E 42, vr E 43] := (f_s33 41 (by decide)).trans q41_s32
  have q42_s33 : s33 42 = ai E 6 (fun _ => 0) := (f_s33 42 (by decide)).trans q42_s32
  have q43_s33 : s33 43 = ai E 6 (fun _ => 0) := (f_s33 43 (by decide)).trans q43_s32
  have q44_s33 : s33 44 = ob 0 [vr E 45, vr E 46] := (f_s33 44 (by decide)).trans q44_s32
  have q45_s33 : s33 45 = ai E 6 (fun _ => 0) := (f_s33 45 (by decide)).trans q45_s32
  have q46_s33 : s33 46 = ai E 6 (fun _ => 0) := (f_s33 46 (by decide)).trans q46_s32
  have q47_s33 : s33 47 = ob 0 [vr E 48, vr E 49] := (f_s33 47 (by decide)).trans q47_s32
  have q48_s33 : s33 48 = ai E 6 (fun _ => 0) := (f_s33 48 (by decide)).trans q48_s32
  have q49_s33 : s33 49 = ai E 6 (fun _ => 0) := (f_s33 49 (by decide)).trans q49_s32
  have q50_s33 : s33 50 = ob 0 [vr E 51, vr E 52] := (f_s33 50 (by decide)).trans q50_s32
  have q51_s33 : s33 51 = ai E 6 (fun _ => 0) := (f_s33 51 (by decide)).trans q51_s32
  have q52_s33 : s33 52 = ai E 6 (fun _ => 0) := (f_s33 52 (by decide)).trans q52_s32
  have q53_s33 : s33 53 = ob 0 [vr E 54, vr E 55] := (f_s33 53 (by decide)).trans q53_s32
  have q54_s33 : s33 54 = ai E 6 (fun _ => 0) := (f_s33 54 (by decide)).trans q54_s32
  have q55_s33 : s33 55 = ai E 6 (fun _ => 0) := (f_s33 55 (by decide)).trans q55_s32
  have q56_s33 : s33 56 = ob 2 [vr E 57, vr E 58, vr E 59, vr E 63, vi 0] := (f_s33 56 (by decide)).trans q56_s32
  have q57_s33 : s33 57 = ar E 5 4 (up (up (up (up (fun _ => -1) 0 ((64 : Nat) : Int)) 1 ((68 : Nat) : Int)) 2 ((72 : Nat) : Int)) 3 ((76 : Nat) : Int)) := (f_s33 57 (by decide)).trans q57_s32
  have q58_s33 : s33 58 = ar E 5 3 (up (up (up (fun _ => -1) 0 ((80 : Nat) : Int)) 1 ((84 : Nat) : Int)) 2 ((88 : Nat) : Int)) := (f_s33 58 (by decide)).trans q58_s32
  have q59_s33 : s33 59 = ob 4 [vr E 60, vr E 61, vr E 62, vi 0] := (f_s33 59 (by decide)).trans q59_s32
  have q60_s33 : s33 60 = ai E 157 (fun _ => 0) := (f_s33 60 (by decide)).trans q60_s32
  have q61_s33 : s33 61 = ai E 512 (fun _ => -1) := (f_s33 61 (by decide)).trans q61_s32
  have q62_s33 : s33 62 = ai E 512 (fun _ => 0) := (f_s33 62 (by decide)).trans q62_s32
  have q63_s33 : s33 63 = ob 1 [vi 0, vi 2, vi 0, vi 10] := (f_s33 63 (by decide)).trans q63_s32
  have q64_s33 : s33 64 = ob 4 [vr E 65, vr E 66, vr E 67, vi 0] := (f_s33 64 (by decide)).trans q64_s32
  have q65_s33 : s33 65 = ai E 157 (fun _ => 0) := (f_s33 65 (by decide)).trans q65_s32
  have q66_s33 : s33 66 = ai E 512 (fun _ => -1) := (f_s33 66 (by decide)).trans q66_s32
  have q67_s33 : s33 67 = ai E 512 (fun _ => 0) := (f_s33 67 (by decide)).trans q67_s32
  have q68_s33 : s33 68 = ob 4 [vr E 69, vr E 70, vr E 71, vi 0] := (f_s33 68 (by decide)).trans q68_s32
  have q69_s33 : s33 69 = ai E 157 (fun _ => 0) := (f_s33 69 (by decide)).trans q69_s32
  have q70_s33 : s33 70 = ai E 512 (fun _ => -1) := (f_s33 70 (by decide)).trans q70_s32
  have q71_s33 : s33 71 = ai E 512 (fun _ => 0) := (f_s33 71 (by decide)).trans q71_s32
  have q72_s33 : s33 72 = ob 4 [vr E 73, vr E 74, vr E 75, vi 0] := (f_s33 72 (by decide)).trans q72_s32
  have q73_s33 : s33 73 = ai E 157 (fun _ => 0) := (f_s33 73 (by decide)).trans q73_s32
  have q74_s33 : s33 74 = ai E 512 (fun _ => -1) := (f_s33 74 (by decide)).trans q74_s32
  have q75_s33 : s33 75 = ai E 512 (fun _ => 0) := (f_s33 75 (by decide)).trans q75_s32
  have q76_s33 : s33 76 = ob 4 [vr E 77, vr E 78, vr E 79, vi 0] := (f_s33 76 (by decide)).trans q76_s32
  have q77_s33 : s33 77 = ai E 157 (fun _ => 0) := (f_s33 77 (by decide)).trans q77_s32
  have q78_s33 : s33 78 = ai E 512 (fun _ => -1) := (f_s33 78 (by decide)).trans q78_s32
  have q79_s33 : s33 79 = ai E 512 (fun _ => 0) := (f_s33 79 (by decide)).trans q79_s32
  have q80_s33 : s33 80 = ob 4 [vr E 81, vr E 82, vr E 83, vi 0] := (f_s33 80 (by decide)).trans q80_s32
  have q81_s33 : s33 81 = ai E 157 (fun _ => 0) := (f_s33 81 (by decide)).trans q81_s32
  have q82_s33 : s33 82 = ai E 512 (fun _ => -1) := (f_s33 82 (by decide)).trans q82_s32
  have q83_s33 : s33 83 = ai E 512 (fun _ => 0) := (f_s33 83 (by decide)).trans q83_s32
  have q84_s33 : s33 84 = ob 4 [vr E 85, vr E 86, vr E 87, vi 0] := (f_s33 84 (by decide)).trans q84_s32
  have q85_s33 : s33 85 = ai E 157 (fun _ => 0) := (f_s33 85 (by decide)).trans q85_s32
  have q86_s33 : s33 86 = ai E 512 (fun _ => -1) := (f_s33 86 (by decide)).trans q86_s32
  have q87_s33 : s33 87 = ai E 512 (fun _ => 0) := (f_s33 87 (by decide)).trans q87_s32
  have q88_s33 : s33 88 = ob 4 [vr E 89, vr E 90, vr E 91, vi 0] := (f_s33 88 (by decide)).trans q88_s32
  have q89_s33 : s33 89 = ai E 157 (fun _ => 0) := (f_s33 89 (by decide)).trans q89_s32
  have q90_s33 : s33 90 = ai E 512 (fun _ => -1) := (f_s33 90 (by decide)).trans q90_s32
  have q91_s33 : s33 91 = ai E 512 (fun _ => 0) := (f_s33 91 (by decide)).trans q91_s32
  have q92_s33 : s33 92 = ob 8 [vi 0, vi 0, vi 0, vi 0, vi 0] := (f_s33 92 (by decide)).trans q92_s32
  have q93_s33 : s33 93 = ob 8 [vi 0, vi 0, vi 0, vi 0, vi 0] := (f_s33 93 (by decide)).trans q93_s32
  refine go_ar 4 4 8 (fun k₉ => 5 + k₉) (by omega) q4_s33 (fun j₉ h0 h1 => by rcases (show j₉ = 0 ∨ j₉ = 1 ∨ j₉ = 2 ∨ j₉ = 3 ∨ j₉ = 4 ∨ j₉ = 5 ∨ j₉ = 6 ∨ j₉ = 7 by omega) with rfl | rfl | rfl | rfl | rfl | rfl | rfl | rfl <;> rfl) (fun s34 u_s34 f_s34 => ?_)
  have x_s34 : s34 0 = ob 9 [vr E 1, vr E 2, vr E 3, vr E 13, vi 0, vr E 14, vr E 23, vr E 30, vr E 56, vr E 92, vr E 93, vi 0, vi 0, vi 0] := (f_s34 0 (by decide)).trans u_s33
  have q1_s34 : s34 1 = ob 1 [vi 0, vi 2, vi 0, vi 10] := (f_s34 1 (by decide)).trans q1_s33
  have q2_s34 : s34 2 = ob 1 [vi 0, vi 2, vi 0, vi 10] := (f_s34 2 (by decide)).trans q2_s33
  have q3_s34 : s34 3 = ob 5 [vr E 4, vi 0, vi 0] := (f_s34 3 (by decide)).trans q3_s33
  have q5_s34 : s34 5 = ob 1 [vi 0, vi 2, vi 0, vi 10] := (f_s34 5 (by decide)).trans q5_s33
  have q6_s34 : s34 6 = ob 1 [vi 0, vi 2, vi 0, vi 10] := (f_s34 6 (by decide)).trans q6_s33
  have q7_s34 : s34 7 = ob 1 [vi 0, vi 2, vi 0, vi 10] := (f_s34 7 (by decide)).trans q7_s33
  have q8_s34 : s34 8 = ob 1 [vi 0, vi 2, vi 0, vi 10] := (f_s34 8 (by decide)).trans q8_s33
  have q9_s34 : s34 9 = ob 1 [vi 0, vi 2, vi 0, vi 10] := (f_s34 9 (by decide)).trans q9_s33
  have q10_s34 : s34 10 = ob 1 [vi 0, vi 2, vi 0, vi 10] := (f_s34 10 (by decide)).trans q10_s33
  have q11_s34 : s34 11 = ob 1 [vi 0, vi 2, vi 0, vi 10] := (f_s34 11 (by decide)).trans q11_s33
  have q12_s34 : s34 12 = ob 1 [vi 0, vi 2, vi 0, vi 10] := (f_s34 12 (by decide)).trans q12_s33
  have q13_s34 : s34 13 = ai E 80 (fun _ => 0) := (f_s34 13 (by decide)).trans q13_s33
  have q14_s34 : s34 14 = ob 7 [vr E 15, vi 0, vi 0, vr E 16] := (f_s34 14 (by decide)).trans q14_s33
  have q15_s34 : s34 15 = ai E 3 (fun _ => 0) := (f_s34 15 (by decide)).trans q15_s33
  have q16_s34 : s34 16 = ob 6 [vr E 17, vr E 18, vr E 19, vr E 20, vr E 21, vr E 22, vi 0, vi 0, vi 0, vi 0, vi 0, vi 0] := (f_s34 16 (by decide)).trans q16_s33
  have q17_s34 : s34 17 = ai E 80 (fun _ => 0) := (f_s34 17 (by decide)).trans q17_s33
  have q18_s34 : s34 18 = ai E 80 (fun _ => 0) := (f_s34 18 (by decide)).trans q18_s33
  have q19_s34 : s34 19 = ai E 80 (fun _ => 0) := (f_s34 19 (by decide)).trans q19_s33
  have q20_s34 : s34 20 = ai E 80 (fun _ => 0) := (f_s34 20 (by decide)).trans q20_s33
  have q21_s34 : s34 21 = ai E 24 (fun _ => 0) := (f_s34 21 (by decide)).trans q21_s33
  have q22_s34 : s34 22 = ai E 24 (fun _ => 0) := (f_s34 22 (by decide)).trans q22_s33
  have q23_s34 : s34 23 = ob 6 [vr E 24, vr E 25, vr E 26, vr E 27, vr E 28, vr E 29, vi 0, vi 0, vi 0, vi 0, vi 0, vi 0] := (f_s34 23 (by decide)).trans q23_s33
  have q24_s34 : s34 24 = ai E 80 (fun _ => 0) := (f_s34 24 (by decide)).trans q24_s33
  have q25_s34 : s34 25 = ai E 80 (fun _ => 0) := (f_s34 25 (by decide)).trans q25_s33
  have q26_s34 : s34 26 = ai E 80 (fun _ => 0) := (f_s34 26 (by decide)).trans q26_s33
  have q27_s34 : s34 27 = ai E 80 (fun _ => 0) := (f_s34 27 (by decide)).trans q27_s33
  have q28_s34 : s34 28 = ai E 24 (fun _ => 0) := (f_s34 28 (by decide)).trans q28_s33
  have q29_s34 : s34 29 = ai E 24 (fun _ => 0) := (f_s34 29 (by decide)).trans q29_s33
  have q30_s34 : s34 30 = ob 3 [vr E 31, vr E 32, vr E 33, vr E 34, vi 0, vi 0] := (f_s34 30 (by decide)).trans q30_s33
  have q31_s34 : s34 31 = ai E 24 (fun _ => 0) := (f_s34 31 (by decide)).trans q31_s33
  have q32_s34 : s34 32 = ai E 24 (fun _ => 0) := (f_s34 32 (by decide)).trans q32_s33
  have q33_s34 : s34 33 = ar E 3 4 (up (up (up (up (fun _ => -1) 0 ((35 : Nat) : Int)) 1 ((38 : Nat) : Int)) 2 ((41 : Nat) : Int)) 3 ((44 : Nat) : Int)) := (f_s34 33 (by decide)).trans q33_s33
  have q34_s34 : s34 34 = ar E 3 3 (up (up (up (fun _ => -1) 0 ((47 : Nat) : Int)) 1 ((50 : Nat) : Int)) 2 ((53 : Nat) : Int)) := (f_s34 34 (by decide)).trans q34_s33
  have q35_s34 : s34 35 = ob 0 [vr E 36, vr E 37] := (f_s34 35 (by decide)).trans q35_s33
  have q36_s34 : s34 36 = ai E 6 (fun _ => 0) := (f_s34 36 (by decide)).trans q36_s33
  have q37_s34 : s34 37 = ai E 6 (fun _ => 0) := (f_s34 37 (by decide)).trans q37_s33
  have q38_s34 : s34 38 = ob 0 [vr E 39, vr E 40] := (f_s34 38 (by decide)).trans q38_s33
  have q39_s34 : s34 39 = ai E 6 (fun _ => 0) := (f_s34 39 (by decide)).trans q39_s33
  have q40_s34 : s34 40 = ai E 6 (fun _ => 0) := (f_s34 40 (by decide)).trans q40_s33
  have q41_s34 : s34 41 = ob 0 [vr E 42, vr E 43] := (f_s34 41 (by decide)).trans q41_s33
  have q42_s34 : s34 42 = ai E 6 (fun _ => 0) := (f_s34 42 (by decide)).trans q42_s33
  have q43_s34 : s34 43 = ai E 6 (fun _ => 0) := (f_s34 43 (by decide)).trans q43_s33
  have q44_s34 : s34 44 = ob 0 [vr E 45, vr E 46] := (f_s34 44 (by decide)).trans q44_s33
  have q45_s34 : s34 45 = ai E 6 (fun _ => 0) := (f_s34 45 (by decide)).trans q45_s33
  have q46_s34 : s34 46 = ai E 6 (fun _ => 0) := (f_s34 46 (by decide)).trans q46_s33
  have q47_s34 : s34 47 = ob 0 [vr E 48, vr E 49] := (f_s34 47 (by decide)).trans q47_s33
  have q48_s34 : s34 48 = ai E 6 (fun _ => 0) := (f_s34 48 (by decide)).trans q48_s33
  have q49_s34 : s34 49 = ai E 6 (fun _ => 0) := (f_s34 49 (by decide)).trans q49_s33
  have q50_s34 : s34 50 = ob 0 [vr E 51, vr E 52] := (f_s34 50 (by decide)).trans q50_s33
  have q51_s34 : s34 51 = ai E 6 (fun _ => 0) := (f_s34 51 (by decide)).trans q51_s33
  have q52_s34 : s34 52 = ai E 6 (fun _ => 0) := (f_s34 52 (by decide)).trans q52_s33
  have q53_s34 : s34 53 = ob 0 [vr E 54, vr E 55] := (f_s34 53 (by decide)).trans q53_s33
  have q54_s34 : s34 54 = ai E 6 (fun _ => 0) := (f_s34 54 (by decide)).trans q54_s33
  have q55_s34 : s34 55 = ai E 6 (fun _ => 0) := (f_s34 55 (by decide)).trans q55_s33
  have q56_s34 : s34 56 = ob 2 [vr E 57, vr E 58, vr E 59, vr E 63, vi 0] := (f_s34 56 (by decide)).trans q56_s33
  have q57_s34 : s34 57 = ar E 5 4 (up (up (up (up (fun _ => -1) 0 ((64 : Nat) : Int)) 1 ((68 : Nat) : Int)) 2 ((72 : Nat) : Int)) 3 ((76 : Nat) : Int)) := (f_s34 57 (by decide)).trans q57_s33
  have q58_s34 : s34 58 = ar E 5 3 (up (up (up (fun _ => -1) 0 ((80 : Nat) : Int)) 1 ((84 : Nat) : Int)) 2 ((88 : Nat) : Int)) := (f_s34 58 (by decide)).trans q58_s33
  have q59_s34 : s34 59 = ob 4 [vr E 60, vr E 61, vr E 62, vi 0] := (f_s34 59 (by decide)).trans q59_s33
  have q60_s34 : s34 60 = ai E 157 (fun _ => 0) := (f_s34 60 (by decide)).trans q60_s33
  have q61_s34 : s34 61 = ai E 512 (fun _ => -1) := (f_s34 61 (by decide)).trans q61_s33
  have q62_s34 : s34 62 = ai E 512 (fun _ => 0) := (f_s34 62 (by decide)).trans q62_s33
  have q63_s34 : s34 63 = ob 1 [vi 0, vi 2, vi 0, vi 10] := (f_s34 63 (by decide)).trans q63_s33
  have q64_s34 : s34 64 = ob 4 [vr E 65, vr E 66, vr E 67, vi 0] := (f_s34 64 (by decide)).trans q64_s33
  have q65_s34 : s34 65 = ai E 157 (fun _ => 0) := (f_s34 65 (by decide)).trans q65_s33
  have q66_s34 : s34 66 = ai E 512 (fun _ => -1) := (f_s34 66 (by decide)).trans q66_s33
  have q67_s34 : s34 67 = ai E 512 (fun _ => 0) := (f_s34 67 (by decide)).trans q67_s33
  have q68_s34 : s34 68 = ob 4 [vr E 69, vr E 70, vr E 71, vi 0] := (f_s34 68 (by decide)).trans q68_s33
  have q69_s34 : s34 69 = ai E 157 (fun _ => 0) := (f_s34 69 (by decide)).trans q69_s33
  have q70_s34 : s34 70 = ai E 512 (fun _ => -1) := (f_s34 70 (by decide)).trans q70_s33
  have q71_s34 : s34 71 = ai E 512 (fun _ => 0) := (f_s34 71 (by decide)).trans q71_s33
  have q72_s34 : s34 72 = ob 4 [vr E 73, vr E 74, vr E 75, vi 0] := (f_s34 72 (by decide)).trans q72_s33
  have q73_s34 : s34 73 = ai E 157 (fun _ => 0) := (f_s34 73 (by decide)).trans q73_s33
  have q74_s34 : s34 74 = ai E 512 (fun _ => -1) := (f_s34 74 (by decide)).trans q74_s33
  have q75_s34 : s34 75 = ai E 512 (fun _ => 0) := (f_s34 75 (by decide)).trans q75_s33
  have q76_s34 : s34 76 = ob 4 [vr E 77, vr E 78, vr E 79, vi 0] := (f_s34 76 (by decide)).trans q76_s33
  have q77_s34 : s34 77 = ai E 157 (fun _ => 0) := (f_s34 77 (by decide)).trans q77_s33
  have q78_s34 : s34 78 = ai E 512 (fun _ => -1) := (f_s34 78 (by decide)).trans q78_s33
  have q79_s34 : s34 79 = ai E 512 (fun _ => 0) := (f_s34 79 (by decide)).trans q79_s33
  have q80_s34 : s34 80 = ob 4 [vr E 81, vr E 82, vr E 83, vi 0] := (f_s34 80 (by decide)).trans q80_s33
  have q81_s34 : s34 81 = ai E 157 (fun _ => 0) := (f_s34 81 (by decide)).trans q81_s33
  have q82_s34 : s34 82 = ai E 512 (fun _ => -1) := (f_s34 82 (by decide)).trans q82_s33
  have q83_s34 : s34 83 = ai E 512 (fun _ => 0) := (f_s34 83 (by decide)).trans q83_s33
  have q84_s34 : s34 84 = ob 4 [vr E 85, vr E 86, vr E 87, vi 0] := (f_s34 84 (by decide)).trans q84_s33
  have q85_s34 : s34 85 = ai E 157 (fun _ => 0) := (f_s34 85 (by decide)).trans q85_s33
  have q86_s34 : s34 86 = ai E 512 (fun _ => -1) := (f_s34 86 (by decide)).trans q86_s33
  have q87_s34 : s34 87 = ai E 512 (fun _ => 0) := (f_s34 87 (by decide)).trans q87_s33
  have q88_s34 : s34 88 = ob 4 [vr E 89, vr E 90, vr E 91, vi 0] := (f_s34 88 (by decide)).trans q88_s33
  have q89_s34 : s34 89 = ai E 157 (fun _ => 0) := (f_s34 89 (by decide)).trans q89_s33
  have q90_s34 : s34 90 = ai E 512 (fun _ => -1) := (f_s34 90 (by decide)).trans q90_s33
  have q91_s34 : s34 91 = ai E 512 (fun _ => 0) := (f_s34 91 (by decide)).trans q91_s33
  have q92_s34 : s34 92 = ob 8 [vi 0, vi 0, vi 0, vi 0, vi 0] := (f_s34 92 (by decide)).trans q92_s33
  have q93_s34 : s34 93 = ob 8 [vi 0, vi 0, vi 0, vi 0, vi 0] := (f_s34 93 (by decide)).trans q93_s33
  refine go_ar 33 3 4 (fun z₉ => 35 + 3 * z₉) (by omega) q33_s34 (fun j₉ h0 h1 => by rcases (show j₉ = 0 ∨ j₉ = 1 ∨ j₉ = 2 ∨ j₉ = 3 by omega) with rfl | rfl | rfl | rfl <;> rfl) (fun s35 u_s35 f_s35 => ?_)
  have x_s35 : s35 0 = ob 9 [vr E 1, vr E 2, vr E 3, vr E 13, vi 0, vr E 14, vr E 23, vr E 30, vr E 56, vr E 92, vr E 93, vi 0, vi 0, vi 0] := (f_s35 0 (by decide)).trans x_s34
  have q1_s35 : s35 1 = ob 1 [vi 0, vi 2, vi 0, vi 10] := (f_s35 1 (by decide)).trans q1_s34
  have q2_s35 : s35 2 = ob 1 [vi 0, vi 2, vi 0, vi 10] := (f_s35 2 (by decide)).trans q2_s34
  have q3_s35 : s35 3 = ob 5 [vr E 4, vi 0, vi 0] := (f_s35 3 (by decide)).trans q3_s34
  have q4_s35 : s35 4 = ar E 4 8 (fun k₉ => 5 + k₉) := (f_s35 4 (by decide)).trans u_s34
  have q5_s35 : s35 5 = ob 1 [vi 0, vi 2, vi 0, vi 10] := (f_s35 5 (by decide)).trans q5_s34
  have q6_s35 : s35 6 = ob 1 [vi 0, vi 2, vi 0, vi 10] := (f_s35 6 (by decide)).trans q6_s34
  have q7_s35 : s35 7 = ob 1 [vi 0, vi 2, vi 0, vi 10] := (f_s35 7 (by decide)).trans q7_s34
  have q8_s35 : s35 8 = ob 1 [vi 0, vi 2, vi 0, vi 10] := (f_s35 8 (by decide)).trans q8_s34
  have q9_s35 : s35 9 = ob 1 [vi 0, vi 2, vi 0, vi 10] := (f_s35 9 (by decide)).trans q9_s34
  have q10_s35 : s35 10 = ob 1 [vi 0, vi 2, vi 0, vi 10] := (f_s35 10 (by decide)).trans q10_s34
  have q11_s35 : s35 11 = ob 1 [vi 0, vi 2, vi 0, vi 10] := (f_s35 11 (by decide)).trans q11_s34
  have q12_s35 : s35 12 = ob 1 [vi 0, vi 2, vi 0, vi 10] := (f_s35 12 (by decide)).trans q12_s34
  have q13_s35 : s35 13 = ai E 80 (fun _ => 0) := (f_s35 13 (by decide)).trans q13_s34
  have q14_s35 : s35 14 = ob 7 [vr E 15, vi 0, vi 0, vr E 16] := (f_s35 14 (by decide)).trans q14_s34
  have q15_s35 : s35 15 = ai E 3 (fun _ => 0) := (f_s35 15 (by decide)).trans q15_s34
  have q16_s35 : s35 16 = ob 6 [vr E 17, vr E 18, vr E 19, vr E 20, vr E 21, vr E 22, vi 0, vi 0, vi 0, vi 0, vi 0, vi 0] := (f_s35 16 (by decide)).trans q16_s34
  have q17_s35 : s35 17 = ai E 80 (fun _ => 0) := (f_s35 17 (by decide)).trans q17_s34
  have q18_s35 : s35 18 = ai E 80 (fun _ => 0) := (f_s35 18 (by decide)).trans q18_s34
  have q19_s35 : s35 19 = ai E 80 (fun _ => 0) := (f_s35 19 (by decide)).trans q19_s34
  have q20_s35 : s35 20 = ai E 80 (fun _ => 0) := (f_s35 20 (by decide)).trans q20_s34
  have q21_s35 : s35 21 = ai E 24 (fun _ => 0) := (f_s35 21 (by decide)).trans q21_s34
  have q22_s35 : s35 22 = ai E 24 (fun _ => 0) := (f_s35 22 (by decide)).trans q22_s34
  have q23_s35 : s35 23 = ob 6 [vr E 24, vr E 25, vr E 26, vr E 27, vr E 28, vr E 29, vi 0, vi 0, vi 0, vi 0, vi 0, vi 0] := (f_s35 23 (by decide)).trans q23_s34
  have q24_s35 : s35 24 = ai E 80 (fun _ => 0) := (f_s35 24 (by decide)).trans q24_s34
  have q25_s35 : s35 25 = ai E 80 (fun _ => 0) := (f_s35 25 (by decide)).trans q25_s34
  have q26_s35 : s35 26 = ai E 80 (fun _ => 0) := (f_s35 26 (by decide)).trans q26_s34
  have q27_s35 : s35 27 = ai E 80 (fun _ => 0) := (f_s35 27 (by decide)).trans q27_s34
  have q28_s35 : s35 28 = ai E 24 (fun _ => 0) := (f_s35 28 (by decide)).trans q28_s34
  have q29_s35 : s35 29 = ai E 24 (fun _ => 0) := (f_s35 29 (by decide)).trans q29_s34
  have q30_s35 : s35 30 = ob 3 [vr E 31, vr E 32, vr E 33, vr E 34, vi 0, vi 0] := (f_s35 30 (by decide)).trans q30_s34
  have q31_s35 : s35 31 = ai E 24 (fun _ => 0) := (f_s35 31 (by decide)).trans q31_s34
  have q32_s35 : s35 32 = ai E 24 (fun _ => 0) := (f_s35 32 (by decide)).trans q32_s34
  have q34_s35 : s35 34 = ar E 3 3 (up (up (up (fun _ => -1) 0 ((47 : Nat) : Int)) 1 ((50 : Nat) : Int)) 2 ((53 : Nat) : Int)) := (f_s35 34 (by decide)).trans q34_s34
  have q35_s35 : s35 35 = ob 0 [vr E 36, vr E 37] := (f_s35 35 (by decide)).trans q35_s34
  have q36_s35 : s35 36 = ai E 6 (fun _ => 0) := (f_s35 36 (by decide)).trans q36_s34
  have q37_s35 : s35 37 = ai E 6 (fun _ => 0) := (f_s35 37 (by decide)).trans q37_s34
  have q38_s35 : s35 38 = ob 0 [vr E 39, vr E 40] := (f_s35 38 (by decide)).trans q38_s34
  have q39_s35 : s35 39 = ai E 6 (fun _ => 0) := (f_s35 39 (by decide)).trans q39_s34
  have q40_s35 : s35 40 = ai E 6 (fun _ => 0) := (f_s35 40 (by decide)).trans q40_s34
  have q41_s35 : s35 41 = ob 0 [vr E 42, vr E 43] := (f_s35 41 (by decide)).trans q41_s34
  have q42_s35 : s35 42 = ai E 6 (fun _ => 0) := (f_s35 42 (by decide)).trans q42_s34
  have q43_s35 : s35 43 = ai E 6 (fun _ => 0) := (f_s35 43 (by decide)).trans q43_s34
  have q44_s35 : s35 44 = ob 0 [vr E 45, vr E 46] := (f_s35 44 (by decide)).trans q44_s34
  have q45_s35 : s35 45 = ai E 6 (fun _ => 0) := (f_s35 45 (by decide)).trans q45_s34
  have q46_s35 : s35 46 = ai E 6 (fun _ => 0) := (f_s35 46 (by decide)).trans q46_s34
  have q47_s35 : s35 47 = ob 0 [vr E 48, vr E 49] := (f_s35 47 (by decide)).trans q47_s34
  have q48_s35 : s35 48 = ai E 6 (fun _ => 0) := (f_s35 48 (by decide)).trans q48_s34
  have q49_s35 : s35 49 = ai E 6 (fun _ => 0) := (f_s35 49 (by decide)).trans q49_s34
  have q50_s35 : s35 50 = ob 0 [vr E 51, vr E 52] := (f_s35 50 (by decide)).trans q50_s34
  have q51_s35 : s35 51 = ai E 6 (fun _ => 0) := (f_s35 51 (by decide)).trans q51_s34
  have q52_s35 : s35 52 = ai E 6 (fun _ => 0) := (f_s35 52 (by decide)).trans q52_s34
  have q53_s35 : s35 53 = ob 0 [vr E 54, vr E 55] := (f_s35 53 (by decide)).trans q53_s34
  have q54_s35 : s35 54 = ai E 6 (fun _ => 0) := (f_s35 54 (by decide)).trans q54_s34
  have q55_s35 : s35 55 = ai E 6 (fun _ => 0) := (f_s35 55 (by decide)).trans q55_s34
  have q56_s35 : s35 56 = ob 2 [vr E 57, vr E 58, vr E 59, vr E 63, vi 0] := (f_s35 56 (by decide)).trans q56_s34
  have q57_s35 : s35 57 = ar E 5 4 (up (up (up (up (fun _ => -1) 0 ((64 : Nat) : Int)) 1 ((68 : Nat) : Int)) 2 ((72 : Nat) : Int)) 3 ((76 : Nat) : Int)) := (f_s35 57 (by decide)).trans q57_s34
  have q58_s35 : s35 58 = ar E 5 3 (up (up (up (fun _ => -1) 0 ((80 : Nat) : Int)) 1 ((84 : Nat) : Int)) 2 ((88 : Nat) : Int)) := (f_s35 58 (by decide)).trans q58_s34
  have q59_s35 : s35 59 = ob 4 [vr E 60, vr E 61, vr E 62, vi 0] := (f_s35 59 (by decide)).trans q59_s34
  have q60_s35 : s35 60 = ai E 157 (fun _ => 0) := (f_s35 60 (by decide)).trans q60_s34
  have q61_s35 : s35 61 = ai E 512 (fun _ => -1) := (f_s35 61 (by decide)).trans q61_s34
  have q62_s35 : s35 62 = ai E 512 (fun _ => 0) := (f_s35 62 (by decide)).trans q62_s34
  have q63_s35 : s35 63 = ob 1 [vi 0, vi 2, vi 0, vi 10] := (f_s35 63 (by decide)).trans q63_s34
  have q64_s35 : s35 64 = ob 4 [vr E 65, vr E 66, vr E 67, vi 0] := (f_s35 64 (by decide)).trans q64_s34
  have q65_s35 : s35 65 = ai E 157 (fun _ => 0) := (f_s35 65 (by decide)).trans q65_s34
  have q66_s35 : s35 66 = ai E 512 (fun _ => -1) := (f_s35 66 (by decide)).trans q66_s34
  have q67_s35 : s35 67 = ai E 512 (fun _ => 0) := (f_s35 67 (by decide)).trans q67_s34
  have q68_s35 : s35 68 = ob 4 [vr E 69, vr E 70, vr E 71, vi 0] := (f_s35 68 (by decide)).trans q68_s34
  have q69_s35 : s35 69 = ai E 157 (fun _ => 0) := (f_s35 69 (by decide)).trans q69_s34
  have q70_s35 : s35 70 = ai E 512 (fun _ => -1) := (f_s35 70 (by decide)).trans q70_s34
  have q71_s35 : s35 71 = ai E 512 (fun _ => 0) := (f_s35 71 (by decide)).trans q71_s34
  have q72_s35 : s35 72 = ob 4 [vr E 73, vr E 74, vr E 75, vi 0] := (f_s35 72 (by decide)).trans q72_s34
  have q73_s35 : s35 73 = ai E 157 (fun _ => 0) := (f_s35 73 (by decide)).trans q73_s34
  have q74_s35 : s35 74 = ai E 512 (fun _ => -1) := (f_s35 74 (by decide)).trans q74_s34
  have q75_s35 : s35 75 = ai E 512 (fun _ => 0) := (f_s35 75 (by decide)).trans q75_s34
  have q76_s35 : s35 76 = ob 4 [vr E 77, vr E 78, vr E 79, vi 0] := (f_s35 76 (by decide)).trans q76_s34
  have q77_s35 : s35 77 = ai E 157 (fun _ => 0) := (f_s35 77 (by decide)).trans q77_s34
  have q78_s35 : s35 78 = ai E 512 (fun _ => -1) := (f_s35 78 (by decide)).trans q78_s34
  have q79_s35 : s35 79 = ai E 512 (fun _ => 0) := (f_s35 79 (by decide)).trans q79_s34
  have q80_s35 : s35 80 = ob 4 [vr E 81, vr E 82, vr E 83, vi 0] := (f_s35 80 (by decide)).trans q80_s34
  have q81_s35 : s35 81 = ai E 157 (fun _ => 0) := (f_s35 81 (by decide)).trans q81_s34
  have q82_s35 : s35 82 = ai E 512 (fun _ => -1) := (f_s35 82 (by decide)).trans q82_s34
  have q83_s35 : s35 83 = ai E 512 (fun _ => 0) := (f_s35 83 (by decide)).trans q83_s34
  have q84_s35 : s35 84 = ob 4 [vr E 85, vr E 86, vr E 87, vi 0] := (f_s35 84 (by decide)).trans q84_s34
  have q85_s35 : s35 85 = ai E 157 (fun _ => 0) := (f_s35 85 (by decide)).trans q85_s34
  have q86_s35 : s35 86 = ai E 512 (fun _ => -1) := (f_s35 86 (by decide)).trans q86_s34
  have q87_s35 : s35 87 = ai E 512 (fun _ => 0) := (f_s35 87 (by decide)).trans q87_s34
  have q88_s35 : s35 88 = ob 4 [vr E 89, vr E 90, vr E 91, vi 0] := (f_s35 88 (by decide)).trans q88_s34
  have q89_s35 : s35 89 = ai E 157 (fun _ => 0) := (f_s35 89 (by decide)).trans q89_s34
  have q90_s35 : s35 90 = ai E 512 (fun _ => -1) := (f_s35 90 (by decide)).trans q90_s34
  have q91_s35 : s35 91 = ai E 512 (fun _ => 0) := (f_s35 91 (by decide)).trans q91_s34
  have q92_s35 : s35 92 = ob 8 [vi 0, vi 0, vi 0, vi 0, vi 0] := (f_s35 92 (by decide)).trans q92_s34
  have q93_s35 : s35 93 = ob 8 [vi 0, vi 0, vi 0, vi 0, vi 0] := (f_s35 93 (by decide)).trans q93_s34
  refine go_ar 34 3 3 (fun z₉ => 47 + 3 * z₉) (by omega) q34_s35 (fun j₉ h0 h1 => by rcases (show j₉ = 0 ∨ j₉ = 1 ∨ j₉ = 2 by omega) with rfl | rfl | rfl <;> rfl) (fun s36 u_s36 f_s36 => ?_)
  have x_s36 : s36 0 = ob 9 [vr E 1, vr E 2, vr E 3, vr E 13, vi 0, vr E 14, vr E 23, vr E 30, vr E 56, vr E 92, vr E 93, vi 0, vi 0, vi 0] := (f_s36 0 (by decide)).trans x_s35
  have q1_s36 : s36 1 = ob 1 [vi 0, vi 2, vi 0, vi 10] := (f_s36 1 (by decide)).trans q1_s35
  have q2_s36 : s36 2 = ob 1 [vi 0, vi 2, vi 0, vi 10] := (f_s36 2 (by decide)).trans q2_s35
  have q3_s36 : s36 3 = ob 5 [vr E 4, vi 0, vi 0] := (f_s36 3 (by decide)).trans q3_s35
  have q4_s36 : s36 4 = ar E 4 8 (fun k₉ => 5 + k₉) := (f_s36 4 (by decide)).trans q4_s35
  have q5_s36 : s36 5 = ob 1 [vi 0, vi 2, vi 0, vi 10] := (f_s36 5 (by decide)).trans q5_s35
  have q6_s36 : s36 6 = ob 1 [vi 0, vi 2, vi 0, vi 10] := (f_s36 6 (by decide)).trans q6_s35
  have q7_s36 : s36 7 = ob 1 [vi 0, vi 2, vi 0, vi 10] := (f_s36 7 (by decide)).trans q7_s35
  have q8_s36 : s36 8 = ob 1 [vi 0, vi 2, vi 0, vi 10] := (f_s36 8 (by decide)).trans q8_s35
  have q9_s36 : s36 9 = ob 1 [vi 0, vi 2, vi 0, vi 10] := (f_s36 9 (by decide)).trans q9_s35
  have q10_s36 : s36 10 = ob 1 [vi 0, vi 2, vi 0, vi 10] := (f_s36 10 (by decide)).trans q10_s35
  have q11_s36 : s36 11 = ob 1 [vi 0, vi 2, vi 0, vi 10] := (f_s36 11 (by decide)).trans q11_s35
  have q12_s36 : s36 12 = ob 1 [vi 0, vi 2, vi 0, vi 10] := (f_s36 12 (by decide)).trans q12_s35
  have q13_s36 : s36 13 = ai E 80 (fun _ => 0) := (f_s36 13 (by decide)).trans q13_s35
  have q14_s36 : s36 14 = ob 7 [vr E 15, vi 0, vi 0, vr E 16] := (f_s36 14 (by decide)).trans q14_s35
  have q15_s36 : s36 15 = ai E 3 (fun _ => 0) := (f_s36 15 (by decide)).trans q15_s35
  have q16_s36 : s36 16 = ob 6 [vr E 17, vr E 18, vr E 19, vr E 20, vr E 21, vr E 22, vi 0, vi 0, vi 0, vi 0, vi 0, vi 0] := (f_s36 16 (by decide)).trans q16_s35
  have q17_s36 : s36 17 = ai E 80 (fun _ => 0) := (f_s36 17 (by decide)).trans q17_s35
  have q18_s36 : s36 18 = ai E 80 (fun _ => 0) := (f_s36 18 (by decide)).trans q18_s35
  have q19_s36 : s36 19 = ai E 80 (fun _ => 0) := (f_s36 19 (by decide)).trans q19_s35
  have q20_s36 : s36 20 = ai E 80 (fun _ => 0) := (f_s36 20 (by decide)).trans q20_s35
  have q21_s36 : s36 21 = ai E 24 (fun _ => 0) := (f_s36 21 (by decide)).trans q21_s35
  have q22_s36 : s36 22 = ai E 24 (fun _ => 0) := (f_s36 22 (by decide)).trans q22_s35
  have q23_s36 : s36 23 = ob 6 [vr E 24, vr E 25, vr E 26, vr E 27, vr E 28, vr E 29, vi 0, vi 0, vi 0, vi 0, vi 0, vi 0] := (f_s36 23 (by decide)).trans q23_s35
  have q24_s36 : s36 24 = ai E 80 (fun _ => 0) := (f_s36 24 (by decide)).trans q24_s35
  have q25_s36 : s36 25 = ai E 80 (fun _ => 0) := (f_s36 25 (by decide)).trans q25_s35
  have q26_s36 : s36 26 = ai E 80 (fun _ => 0) := (f_s36 26 (by decide)).trans q26_s35
  have q27_s36 : s36 27 = ai E 80 (fun _ => 0) := (f_s36 27 (by decide)).trans q27_s35
  have q28_s36 : s36 28 = ai E 24 (fun _ => 0) := (f_s36 28 (by decide)).trans q28_s35
  have q29_s36 : s36 29 = ai E 24 (fun _ => 0) := (f_s36 29 (by decide)).trans q29_s35
  have q30_s36 : s36 30 = ob 3 [vr E 31, vr E 32, vr E 33, vr E 34, vi 0, vi 0] := (f_s36 30 (by decide)).trans q30_s35
  have q31_s36 : s36 31 = ai E 24 (fun _ => 0) := (f_s36 31 (by decide)).trans q31_s35
  have q32_s36 : s36 32 = ai E 24 (fun _ => 0) := (f_s36 32 (by decide)).trans q32_s35
  have q33_s36 : s36 33 = ar E 3 4 (fun z₉ => 35 + 3 * z₉) := (f_s36 33 (by decide)).trans u_s35
  have q35_s36 : s36 35 = ob 0 [vr E 36, vr E 37] := (f_s36 35 (by decide)).trans q35_s35
  have q36_s36 : s36 36 = ai E 6 (fun _ => 0) := (f_s36 36 (by decide)).trans q36_s35
  have q37_s36 : s36 37 = ai E 6 (fun _ => 0) := (f_s36 37 (by decide)).trans q37_s35
  have q38_s36 : s36 38 = ob 0 [vr E 39, vr E 40] := (f_s36 38 (by decide)).trans q38_s35
  have q39_s36 : s36 39 = ai E 6 (fun _ => 0) := (f_s36 39 (by decide)).trans q39_s35
  have q40_s36 : s36 40 = ai E 6 (fun _ => 0) := (f_s36 40 (by decide)).trans q40_s35
  have q41_s36 : s36 41 = ob 0 [vr E 42, vr E 43] := (f_s36 41 (by decide)).trans q41_s35
  have q42_s36 : s36 42 = ai E 6 (fun _ => 0) := (f_s36 42 (by decide)).trans q42_s35
  have q43_s36 : s36 43 = ai E 6 (fun _ => 0) := (f_s36 43 (by decide)).trans q43_s35
  have q44_s36 : s36 44 = ob 0 [vr E 45, vr E 46] := (f_s36 44 (by decide)).trans q44_s35
  have q45_s36 : s36 45 = ai E 6 (fun _ => 0) := (f_s36 45 (by decide)).trans q45_s35
  have q46_s36 : s36 46 = ai E 6 (fun _ => 0) := (f_s36 46 (by decide)).trans q46_s35
  have q47_s36 : s36 47 = ob 0 [vr E 48, vr E 49] := (f_s36 47 (by decide)).trans q47_s35
  have q48_s36 : s36 48 = ai E 6 (fun _ => 0) := (f_s36 48 (by decide)).trans q48_s35
  have q49_s36 : s36 49 = ai E 6 (fun _ => 0) := (f_s36 49 (by decide)).trans q49_s35
  have q50_s36 : s36 50 = ob 0 [vr E 51, vr E 52] := (f_s36 50 (by decide)).trans q50_s35
  have q51_s36 : s36 51 = ai E 6 (fun _ => 0) := (f_s36 51 (by decide)).trans q51_s35
  have q52_s36 : s36 52 = ai E 6 (fun _ => 0) := (f_s36 52 (by decide)).trans q52_s35
  have q53_s36 : s36 53 = ob 0 [vr E 54, vr E 55] := (f_s36 53 (by decide)).trans q53_s35
  have q54_s36 : s36 54 = ai E 6 (fun _ => 0) := (f_s36 54 (by decide)).trans q54_s35
  have q55_s36 : s36 55 = ai E 6 (fun _ => 0) := (f_s36 55 (by decide)).trans q55_s35
  have q56_s36 : s36 56 = ob 2 [vr E 57, vr E 58, vr E 59, vr E 63, vi 0] := (f_s36 56 (by decide)).trans q56_s35
  have q57_s36 : s36 57 = ar E 5 4 (up (up (up (up (fun _ => -1) 0 ((64 : Nat) : Int)) 1 ((68 : Nat) : Int)) 2 ((72 : Nat) : Int)) 3 ((76 : Nat) : Int)) := (f_s36 57 (by decide)).trans q57_s35
  have q58_s36 : s36 58 = ar E 5 3 (up (up (up (fun _ => -1) 0 ((80 : Nat) : Int)) 1 ((84 : Nat) : Int)) 2 ((88 : Nat) : Int)) := (f_s36 58 (by decide)).trans q58_s35
  have q59_s36 : s36 59 = ob 4 [vr E 60, vr E 61, vr E 62, vi 0] := (f_s36 59 (by decide)).trans q59_s35
  have q60_s36 : s36 60 = ai E 157 (fun _ => 0) := (f_s36 60 (by decide)).trans q60_s35
  have q61_s36 : s36 61 = ai E 512 (fun _ => -1) := (f_s36 61 (by decide)).trans q61_s35
  have q62_s36 : s36 62 = ai E 512 (fun _ => 0) := (f_s36 62 (by decide)).trans q62_s35
  have q63_s36 : s36 63 = ob 1 [vi 0, vi 2, vi 0, vi 10] := (f_s36 63 (by decide)).trans q63_s35
  have q64_s36 : s36 64 = ob 4 [vr E 65, vr E 66, vr E 67, vi 0] := (f_s36 64 (by decide)).trans q64_s35
  have q65_s36 : s36 65 = ai E 157 (fun _ => 0) := (f_s36 65 (by decide)).trans q65_s35
  have q66_s36 : s36 66 = ai E 512 (fun _ => -1) := (f_s36 66 (by decide)).trans q66_s35
  have q67_s36 : s36 67 = ai E 512 (fun _ => 0) := (f_s36 67 (by decide)).trans q67_s35
  have q68_s36 : s36 68 = ob 4 [vr E 69, vr E 70, vr E 71, vi 0] := (f_s36 68 (by decide)).trans q68_s35
  have q69_s36 : s36 69 = ai E 157 (fun _ => 0) := (f_s36 69 (by decide)).trans q69_s35
  have q70_s36 : s36 70 = ai E 512 (fun _ => -1) := (f_s36 70 (by decide)).trans q70_s35
  have q71_s36 : s36 71 = ai E 512 (fun _ => 0) := (f_s36 71 (by decide)).trans q71_s35
  have q72_s36 : s36 72 = ob 4 [vr E 73, vr E 74, vr E 75, vi 0] := (f_s36 72 (by decide)).trans q72_s35
  have q73_s36 : s36 73 = ai E 157 (fun _ => 0) := (f_s36 73 (by decide)).trans q73_s35
  have q74_s36 : s36 74 = ai E 512 (fun _ => -1) := (f_s36 74 (by decide)).trans q74_s35
  have q75_s36 : s36 75 = ai E 512 (fun _ => 0) := (f_s36 75 (by decide)).trans q75_s35
  have q76_s36 : s36 76 = ob 4 [vr E 77, vr E 78, vr E 79, vi 0] := (f_s36 76 (by decide)).trans q76_s35
  have q77_s36 : s36 77 = ai E 157 (fun _ => 0) := (f_s36 77 (by decide)).trans q77_s35
  have q78_s36 : s36 78 = ai E 512 (fun _ => -1) := (f_s36 78 (by decide)).trans q78_s35
  have q79_s36 : s36 79 = ai E 512 (fun _ => 0) := (f_s36 79 (by decide)).trans q79_s35
  have q80_s36 : s36 80 = ob 4 [vr E 81, vr E 82, vr E 83, vi 0] := (f_s36 80 (by decide)).trans q80_s35
  have q81_s36 : s36 81 = ai E 157 (fun _ => 0) := (f_s36 81 (by decide)).trans q81_s35
  have q82_s36 : s36 82 = ai E 512 (fun _ => -1) := (f_s36 82 (by decide)).trans q82_s35
  have q83_s36 : s36 83 = ai E 512 (fun _ => 0) := (f_s36 83 (by decide)).trans q83_s35
  have q84_s36 : s36 84 = ob 4 [vr E 85, vr E 86, vr E 87, vi 0] := (f_s36 84 (by decide)).trans q84_s35
  have q85_s36 : s36 85 = ai E 157 (fun _ => 0) := (f_s36 85 (by decide)).trans q85_s35
  have q86_s36 : s36 86 = ai E 512 (fun _ => -1) := (f_s36 86 (by decide)).trans q86_s35
  have q87_s36 : s36 87 = ai E 512 (fun _ => 0) := (f_s36 87 (by decide)).trans q87_s35
  have q88_s36 : s36 88 = ob 4 [vr E 89, vr E 90, vr E 91, vi 0] := (f_s36 88 (by decide)).trans q88_s35
  have q89_s36 : s36 89 = ai E 157 (fun _ => 0) := (f_s36 89 (by decide)).trans q89_s35
  have q90_s36 : s36 90 = ai E 512 (fun _ => -1) := (f_s36 90 (by decide)).trans q90_s35
  have q91_s36 : s36 91 = ai E 512 (fun _ => 0) := (f_s36 91 (by decide)).trans q91_s35
  have q92_s36 : s36 92 = ob 8 [vi 0, vi 0, vi 0, vi 0, vi 0] := (f_s36 92 (by decide)).trans q92_s35
  have q93_s36 : s36 93 = ob 8 [vi 0, vi 0, vi 0, vi 0, vi 0] := (f_s36 93 (by decide)).trans q93_s35
  refine go_ar 57 5 4 (fun z₉ => (nw0 z₉ : Int)) (by omega) q57_s36 (fun j₉ h0 h1 => by rcases (show j₉ = 0 ∨ j₉ = 1 ∨ j₉ = 2 ∨ j₉ = 3 by omega) with rfl | rfl | rfl | rfl <;> rfl) (fun s37 u_s37 f_s37 => ?_)
  have x_s37 : s37 0 = ob 9 [vr E 1, vr E 2, vr E 3, vr E 13, vi 0, vr E 14, vr E 23, vr E 30, vr E 56, vr E 92, vr E 93, vi 0, vi 0, vi 0] := (f_s37 0 (by decide)).trans x_s36
  have q1_s37 : s37 1 = ob 1 [vi 0, vi 2, vi 0, vi 10] := (f_s37 1 (by decide)).trans q1_s36
  have q2_s37 : s37 2 = ob 1 [vi 0, vi 2, vi 0, vi 10] := (f_s37 2 (by decide)).trans q2_s36
  have q3_s37 : s37 3 = ob 5 [vr E 4, vi 0, vi 0] := (f_s37 3 (by decide)).trans q3_s36
  have q4_s37 : s37 4 = ar E 4 8 (fun k₉ => 5 + k₉) := (f_s37 4 (by decide)).trans q4_s36
  have q5_s37 : s37 5 = ob 1 [vi 0, vi 2, vi 0, vi 10] := (f_s37 5 (by decide)).trans q5_s36
  have q6_s37 : s37 6 = ob 1 [vi 0, vi 2, vi 0, vi 10] := (f_s37 6 (by decide)).trans q6_s36
  have q7_s37 : s37 7 = ob 1 [vi 0, vi 2, vi 0, vi 10] := (f_s37 7 (by decide)).trans q7_s36
  have q8_s37 : s37 8 = ob 1 [vi 0, vi 2, vi 0, vi 10] := (f_s37 8 (by decide)).trans q8_s36
  have q9_s37 : s37 9 = ob 1 [vi 0, vi 2, vi 0, vi 10] := (f_s37 9 (by decide)).trans q9_s36
  have q10_s37 : s37 10 = ob 1 [vi 0, vi 2, vi 0, vi 10] := (f_s37 10 (by decide)).trans q10_s36
  have q11_s37 : s37 11 = ob 1 [vi 0, vi 2, vi 0, vi 10] := (f_s37 11 (by decide)).trans q11_s36
  have q12_s37 : s37 12 = ob 1 [vi 0, vi 2, vi 0, vi 10] := (f_s37 12 (by decide)).trans q12_s36
  have q13_s37 : s37 13 = ai E 80 (fun _ => 0) := (f_s37 13 (by decide)).trans q13_s36
  have q14_s37 : s37 14 = ob 7 [vr E 15, vi 0, vi 0, vr E 16] := (f_s37 14 (by decide)).trans q14_s36
  have q15_s37 : s37 15 = ai E 3 (fun _ => 0) := (f_s37 15 (by decide)).trans q15_s36
  have q16_s37 : s37 16 = ob 6 [vr E 17, vr E 18, vr E 19, vr E 20, vr E 21, vr E 22, vi 0, vi 0, vi 0, vi 0, vi 0, vi 0] := (f_s37 16 (by decide)).trans q16_s36
  have q17_s37 : s37 17 = ai E 80 (fun _ => 0) := (f_s37 17 (by decide)).trans q17_s36
  have q18_s37 : s37 18 = ai E 80 (fun _ => 0) := (f_s37 18 (by decide)).trans q18_s36
  have q19_s37 : s37 19 = ai E 80 (fun _ => 0) := (f_s37 19 (by decide)).trans q19_s36
  have q20_s37 : s37 20 = ai E 80 (fun _ => 0) := (f_s37 20 (by decide)).trans q20_s36
  have q21_s37 : s37 21 = ai E 24 (fun _ => 0) := (f_s37 21 (by decide)).trans q21_s36
  have q22_s37 : s37 22 = ai E 24 (fun _ => 0) := (f_s37 22 (by decide)).trans q22_s36
  have q23_s37 : s37 23 = ob 6 [vr E 24, vr E 25, vr E 26, vr E 27, vr E 28, vr E 29, vi 0, vi 0, vi 0, vi 0, vi 0, vi 0] := (f_s37 23 (by decide)).trans q23_s36
  have q24_s37 : s37 24 = ai E 80 (fun _ => 0) := (f_s37 24 (by decide)).trans q24_s36
  have q25_s37 : s37 25 = ai E 80 (fun _ => 0) := (f_s37 25 (by decide)).trans q25_s36
  have q26_s37 : s37 26 = ai E 80 (fun _ => 0) := (f_s37 26 (by decide)).trans q26_s36
  have q27_s37 : s37 27 = ai E 80 (fun _ => 0) := (f_s37 27 (by decide)).trans q27_s36
  have q28_s37 : s37 28 = ai E 24 (fun _ => 0) := (f_s37 28 (by decide)).trans q28_s36
  have q29_s37 : s37 29 = ai E 24 (fun _ => 0) := (f_s37 29 (by decide)).trans q29_s36
  have q30_s37 : s37 30 = ob 3 [vr E 31, vr E 32, vr E 33, vr E 34, vi 0, vi 0] := (f_s37 30 (by decide)).trans q30_s36
  have q31_s37 : s37 31 = ai E 24 (fun _ => 0) := (f_s37 31 (by decide)).trans q31_s36
  have q32_s37 : s37 32 = ai E 24 (fun _ => 0) := (f_s37 32 (by decide)).trans q32_s36
  have q33_s37 : s37 33 = ar E 3 4 (fun z₉ => 35 + 3 * z₉) := (f_s37 33 (by decide)).trans q33_s36
  have q34_s37 : s37 34 = ar E 3 3 (fun z₉ => 47 + 3 * z₉) := (f_s37 34 (by decide)).trans u_s36
  have q35_s37 : s37 35 = ob 0 [vr E 36, vr E 37] := (f_s37 35 (by decide)).trans q35_s36
  have q36_s37 : s37 36 = ai E 6 (fun _ => 0) := (f_s37 36 (by decide)).trans q36_s36
  have q37_s37 : s37 37 = ai E 6 (fun _ => 0) := (f_s37 37 (by decide)).trans q37_s36
  have q38_s37 : s37 38 = ob 0 [vr E 39, vr E 40] := (f_s37 38 (by decide)).trans q38_s36
  have q39_s37 : s37 39 = ai E 6 (fun _ => 0) := (f_s37 39 (by decide)).trans q39_s36
  have q40_s37 : s37 40 = ai E 6 (fun _ => 0) := (f_s37 40 (by decide)).trans q40_s36
  have q41_s37 : s37 41 = ob 0 [vr E 42, vr E 43] := (f_s37 41 (by decide)).trans q41_s36
  have q42_s37 : s37 42 = ai E 6 (fun _ => 0) := (f_s37 42 (by decide)).trans q42_s36
  have q43_s37 : s37 43 = ai E 6 (fun _ => 0) := (f_s37 43 (by decide)).trans q43_s36
  have q44_s37 : s37 44 = ob 0 [vr E 45, vr E 46] := (f_s37 44 (by decide)).trans q44_s36
  have q45_s37 : s37 45 = ai E 6 (fun _ => 0) := (f_s37 45 (by decide)).trans q45_s36
  have q46_s37 : s37 46 = ai E 6 (fun _ => 0) := (f_s37 46 (by decide)).trans q46_s36
  have q47_s37 : s37 47 = ob 0 [vr E 48, vr E 49] := (f_s37 47 (by decide)).trans q47_s36
  have q48_s37 : s37 48 = ai E 6 (fun _ => 0) := (f_s37 48 (by decide)).trans q48_s36
  have q49_s37 : s37 49 = ai E 6 (fun _ => 0) := (f_s37 49 (by decide)).trans q49_s36
  have q50_s37 : s37 50 = ob 0 [vr E 51, vr E 52] := (f_s37 50 (by decide)).trans q50_s36
  have q51_s37 : s37 51 = ai E 6 (fun _ => 0) := (f_s37 51 (by decide)).trans q51_s36
  have q52_s37 : s37 52 = ai E 6 (fun _ => 0) := (f_s37 52 (by decide)).trans q52_s36
  have q53_s37 : s37 53 = ob 0 [vr E 54, vr E 55] := (f_s37 53 (by decide)).trans q53_s36
  have q54_s37 : s37 54 = ai E 6 (fun _ => 0) := (f_s37 54 (by decide)).trans q54_s36
  have q55_s37 : s37 55 = ai E 6 (fun _ => 0) := (f_s37 55 (by decide)).trans q55_s36
  have q56_s37 : s37 56 = ob 2 [vr E 57, vr E 58, vr E 59, vr E 63, vi 0] := (f_s37 56 (by decide)).trans q56_s36
  have q58_s37 : s37 58 = ar E 5 3 (up (up (up (fun _ => -1) 0 ((80 : Nat) : Int)) 1 ((84 : Nat) : Int)) 2 ((88 : Nat) : Int)) := (f_s37 58 (by decide)).trans q58_s36
  have q59_s37 : s37 59 = ob 4 [vr E 60, vr E 61, vr E 62, vi 0] := (f_s37 59 (by decide)).trans q59_s36
  have q60_s37 : s37 60 = ai E 157 (fun _ => 0) := (f_s37 60 (by decide)).trans q60_s36
  have q61_s37 : s37 61 = ai E 512 (fun _ => -1) := (f_s37 61 (by decide)).trans q61_s36
  have q62_s37 : s37 62 = ai E 512 (fun _ => 0) := (f_s37 62 (by decide)).trans q62_s36
  have q63_s37 : s37 63 = ob 1 [vi 0, vi 2, vi 0, vi 10] := (f_s37 63 (by decide)).trans q63_s36
  have q64_s37 : s37 64 = ob 4 [vr E 65, vr E 66, vr E 67, vi 0] := (f_s37 64 (by decide)).trans q64_s36
  have q65_s37 : s37 65 = ai E 157 (fun _ => 0) := (f_s37 65 (by decide)).trans q65_s36
  have q66_s37 : s37 66 = ai E 512 (fun _ => -1) := (f_s37 66 (by decide)).trans q66_s36
  have q67_s37 : s37 67 = ai E 512 (fun _ => 0) := (f_s37 67 (by decide)).trans q67_s36
  have q68_s37 : s37 68 = ob 4 [vr E 69, vr E 70, vr E 71, vi 0] := (f_s37 68 (by decide)).trans q68_s36
  have q69_s37 : s37 69 = ai E 157 (fun _ => 0) := (f_s37 69 (by decide)).trans q69_s36
  have q70_s37 : s37 70 = ai E 512 (fun _ => -1) := (f_s37 70 (by decide)).trans q70_s36
  have q71_s37 : s37 71 = ai E 512 (fun _ => 0) := (f_s37 71 (by decide)).trans q71_s36
  have q72_s37 : s37 72 = ob 4 [vr E 73, vr E 74, vr E 75, vi 0] := (f_s37 72 (by decide)).trans q72_s36
  have q73_s37 : s37 73 = ai E 157 (fun _ => 0) := (f_s37 73 (by decide)).trans q73_s36
  have q74_s37 : s37 74 = ai E 512 (fun _ => -1) := (f_s37 74 (by decide)).trans q74_s36
  have q75_s37 : s37 75 = ai E 512 (fun _ => 0) := (f_s37 75 (by decide)).trans q75_s36
  have q76_s37 : s37 76 = ob 4 [vr E 77, vr E 78, vr E 79, vi 0] := (f_s37 76 (by decide)).trans q76_s36
  have q77_s37 : s37 77 = ai E 157 (fun _ => 0) := (f_s37 77 (by decide)).trans q77_s36
  have q78_s37 : s37 78 = ai E 512 (fun _ => -1) := (f_s37 78 (by decide)).trans q78_s36
  have q79_s37 : s37 79 = ai E 512 (fun _ => 0) := (f_s37 79 (by decide)).trans q79_s36
  have q80_s37 : s37 80 = ob 4 [vr E 81, vr E 82, vr E 83, vi 0] := (f_s37 80 (by decide)).trans q80_s36
  have q81_s37 : s37 81 = ai E 157 (fun _ => 0) := (f_s37 81 (by decide)).trans q81_s36
  have q82_s37 : s37 82 = ai E 512 (fun _ => -1) := (f_s37 82 (by decide)).trans q82_s36
  have q83_s37 : s37 83 = ai E 512 (fun _ => 0) := (f_s37 83 (by decide)).trans q83_s36
  have q84_s37 : s37 84 = ob 4 [vr E 85, vr E 86, vr E 87, vi 0] := (f_s37 84 (by decide)).trans q84_s36
  have q85_s37 : s37 85 = ai E 157 (fun _ => 0) := (f_s37 85 (by decide)).trans q85_s36
  have q86_s37 : s37 86 = ai E 512 (fun _ => -1) := (f_s37 86 (by decide)).trans q86_s36
  have q87_s37 : s37 87 = ai E 512 (fun _ => 0) := (f_s37 87 (by decide)).trans q87_s36
  have q88_s37 : s37 88 = ob 4 [vr E 89, vr E 90, vr E 91, vi 0] := (f_s37 88 (by decide)).trans q88_s36
  have q89_s37 : s37 89 = ai E 157 (fun _ => 0) := (f_s37 89 (by decide)).trans q89_s36
  have q90_s37 : s37 90 = ai E 512 (fun _ => -1) := (f_s37 90 (by decide)).trans q90_s36
  have q91_s37 : s37 91 = ai E 512 (fun _ => 0) := (f_s37 91 (by decide)).trans q91_s36
  have q92_s37 : s37 92 = ob 8 [vi 0, vi 0, vi 0, vi 0, vi 0] := (f_s37 92 (by decide)).trans q92_s36
  have q93_s37 : s37 93 = ob 8 [vi 0, vi 0, vi 0, vi 0, vi 0] := (f_s37 93 (by decide)).trans q93_s36
  refine go_ar 58 5 3 (fun z₉ => 80 + 4 * z₉) (by omega) q58_s37 (fun j₉ h0 h1 => by rcases (show j₉ = 0 ∨ j₉ = 1 ∨ j₉ = 2 by omega) with rfl | rfl | rfl <;> rfl) (fun s38 u_s38 f_s38 => ?_)
  have x_s38 : s38 0 = ob 9 [vr E 1, vr E 2, vr E 3, vr E 13, vi 0, vr E 14, vr E 23, vr E 30, vr E 56, vr E 92, vr E 93, vi 0, vi 0, vi 0] := (f_s38 0 (by decide)).trans x_s37
  have q1_s38 : s38 1 = ob 1 [vi 0, vi 2, vi 0, vi 10] := (f_s38 1 (by decide)).trans q1_s37
  have q2_s38 : s38 2 = ob 1 [vi 0, vi 2, vi 0, vi 10] := (f_s38 2 (by decide)).trans q2_s37
  have q3_s38 : s38 3 = ob 5 [vr E 4, vi 0, vi 0] := (f_s38 3 (by decide)).trans q3_s37
  have q4_s38 : s38 4 = ar E 4 8 (fun k₉ => 5 + k₉) := (f_s38 4 (by decide)).trans q4_s37
  have q5_s38 : s38 5 = ob 1 [vi 0, vi 2, vi 0, vi 10] := (f_s38 5 (by decide)).trans q5_s37
  have q6_s38 : s38 6 = ob 1 [vi 0, vi 2, vi 0, vi 10] := (f_s38 6 (by decide)).trans q6_s37
  have q7_s38 : s38 7 = ob 1 [vi 0, vi 2, vi 0, vi 10] := (f_s38 7 (by decide)).trans q7_s37
  have q8_s38 : s38 8 = ob 1 [vi 0, vi 2, vi 0, vi 10] := (f_s38 8 (by decide)).trans q8_s37
  have q9_s38 : s38 9 = ob 1 [vi 0, vi 2, vi 0, vi 10] := (f_s38 9 (by decide)).trans q9_s37
  have q10_s38 : s38 10 = ob 1 [vi 0, vi 2, vi 0, vi 10] := (f_s38 10 (by decide)).trans q10_s37
  have q11_s38 : s38 11 = ob 1 [vi 0, vi 2, vi 0, vi 10] := (f_s38 11 (by decide)).trans q11_s37
  have q12_s38 : s38 12 = ob 1 [vi 0, vi 2, vi 0, vi 10] := (f_s38 12 (by decide)).trans q12_s37
  have q13_s38 : s38 13 = ai E 80 (fun _ => 0) := (f_s38 13 (by decide)).trans q13_s37
  have q14_s38 : s38 14 = ob 7 [vr E 15, vi 0, vi 0, vr E 16] := (f_s38 14 (by decide)).trans q14_s37
  have q15_s38 : s38 15 = ai E 3 (fun _ => 0) := (f_s38 15 (by decide)).trans q15_s37
  have q16_s38 : s38 16 = ob 6 [vr E 17, vr E 18, vr E 19, vr E 20, vr E 21, vr E 22, vi 0, vi 0, vi 0, vi 0, vi 0, vi 0] := (f_s38 16 (by decide)).trans q16_s37
  have q17_s38 : s38 17 = ai E 80 (fun _ => 0) := (f_s38 17 (by decide)).trans q17_s37
  have q18_s38 : s38 18 = ai E 80 (fun _ => 0) := (f_s38 18 (by decide)).trans q18_s37
  have q19_s38 : s38 19 = ai E 80 (fun _ => 0) := (f_s38 19 (by decide)).trans q19_s37
  have q20_s38 : s38 20 = ai E 80 (fun _ => 0) := (f_s38 20 (by decide)).trans q20_s37
  have q21_s38 : s38 21 = ai E 24 (fun _ => 0) := (f_s38 21 (by decide)).trans q21_s37
  have q22_s38 : s38 22 = ai E 24 (fun _ => 0) := (f_s38 22 (by decide)).trans q22_s37
  have q23_s38 : s38 23 = ob 6 [vr E 24, vr E 25, vr E 26, vr E 27, vr E 28, vr E 29, vi 0, vi 0, vi 0, vi 0, vi 0, vi 0] := (f_s38 23 (by decide)).trans q23_s37
  have q24_s38 : s38 24 = ai E 80 (fun _ => 0) := (f_s38 24 (by decide)).trans q24_s37
  have q25_s38 : s38 25 = ai E 80 (fun _ => 0) := (f_s38 25 (by decide)).trans q25_s37
  have q26_s38 : s38 26 = ai E 80 (fun _ => 0) := (f_s38 26 (by decide)).trans q26_s37
  have q27_s38 : s38 27 = ai E 80 (fun _ => 0) := (f_s38 27 (by decide)).trans q27_s37
  have q28_s38 : s38 28 = ai E 24 (fun _ => 0) := (f_s38 28 (by decide)).trans q28_s37
  have q29_s38 : s38 29 = ai E 24 (fun _ => 0) := (f_s38 29 (by decide)).trans q29_s37
  have q30_s38 : s38 30 = ob 3 [vr E 31, vr E 32, vr E 33, vr E 34, vi 0, vi 0] := (f_s38 30 (by decide)).trans q30_s37
  have q31_s38 : s38 31 = ai E 24 (fun _ => 0) := (f_s38 31 (by decide)).trans q31_s37
  have q32_s38 : s38 32 = ai E 24 (fun _ => 0) := (f_s38 32 (by decide)).trans q32_s37
  have q33_s38 : s38 33 = ar E 3 4 (fun z₉ => 35 + 3 * z₉) := (f_s38 33 (by decide)).trans q33_s37
  have q34_s38 : s38 34 = ar E 3 3 (fun z₉ => 47 + 3 * z₉) := (f_s38 34 (by decide)).trans q34_s37
  have q35_s38 : s38 35 = ob 0 [vr E 36, vr E 37] := (f_s38 35 (by decide)).trans q35_s37
  have q36_s38 : s38 36 = ai E 6 (fun _ => 0) := (f_s38 36 (by decide)).trans q36_s37
  have q37_s38 : s38 37 = ai E 6 (fun _ => 0) := (f_s38 37 (by decide)).trans q37_s37
  have q38_s38 : s38 38 = ob 0 [vr E 39, vr E 40] := (f_s38 38 (by decide)).trans q38_s37
  have q39_s38 : s38 39 = ai E 6 (fun _ => 0) := (f_s38 39 (by decide)).trans q39_s37
  have q40_s38 : s38 40 = ai E 6 (fun _ => 0) := (f_s38 40 (by decide)).trans q40_s37
  have q41_s38 : s38 41 = ob 0 [vr E 42, vr E 43] := (f_s38 41 (by decide)).trans q41_s37
  have q42_s38 : s38 42 = ai E 6 (fun _ => 0) := (f_s38 42 (by decide)).trans q42_s37
  have q43_s38 : s38 43 = ai E 6 (fun _ => 0) := (f_s38 43 (by decide)).trans q43_s37
  have q44_s38 : s38 44 = ob 0 [vr E 45, vr E 46] := (f_s38 44 (by decide)).trans q44_s37
  have q45_s38 : s38 45 = ai E 6 (fun _ => 0) := (f_s38 45 (by decide)).trans q45_s37
  have q46_s38 : s38 46 = ai E 6 (fun _ => 0) := (f_s38 46 (by decide)).trans q46_s37
  have q47_s38 : s38 47 = ob 0 [vr E 48, vr E 49] := (f_s38 47 (by decide)).trans q47_s37
  have q48_s38 : s38 48 = ai E 6 (fun _ => 0) := (f_s38 48 (by decide)).trans q48_s37
  have q49_s38 : s38 49 = ai E 6 (fun _ => 0) := (f_s38 49 (by decide)).trans q49_s37
  have q50_s38 : s38 50 = ob 0 [vr E 51, vr E 52] := (f_s38 50 (by decide)).trans q50_s37
  have q51_s38 : s38 51 = ai E 6 (fun _ => 0) := (f_s38 51 (by decide)).trans q51_s37
  have q52_s38 : s38 52 = ai E 6 (fun _ => 0) := (f_s38 52 (by decide)).trans q52_s37
  have q53_s38 : s38 53 = ob 0 [vr E 54, vr E 55] := (f_s38 53 (by decide)).trans q53_s37
  have q54_s38 : s38 54 = ai E 6 (fun _ => 0) := (f_s38 54 (by decide)).trans q54_s37
  have q55_s38 : s38 55 = ai E 6 (fun _ => 0) := (f_s38 55 (by decide)).trans q55_s37
  have q56_s38 : s38 56 = ob 2 [vr E 57, vr E 58, vr E 59, vr E 63, vi 0] := (f_s38 56 (by decide)).trans q56_s37
  have q57_s38 : s38 57 = ar E 5 4 (fun z₉ => (nw0 z₉ : Int)) := (f_s38 57 (by decide)).trans u_s37
  have q59_s38 : s38 59 = ob 4 [vr E 60, vr E 61, vr E 62, vi 0] := (f_s38 59 (by decide)).trans q59_s37
  have q60_s38 : s38 60 = ai E 157 (fun _ => 0) := (f_s38 60 (by decide)).trans q60_s37
  have q61_s38 : s38 61 = ai E 512 (fun _ => -1) := (f_s38 61 (by decide)).trans q61_s37
  have q62_s38 : s38 62 = ai E 512 (fun _ => 0) := (f_s38 62 (by decide)).trans q62_s37
  have q63_s38 : s38 63 = ob 1 [vi 0, vi 2, vi 0, vi 10] := (f_s38 63 (by decide)).trans q63_s37
  have q64_s38 : s38 64 = ob 4 [vr E 65, vr E 66, vr E 67, vi 0] := (f_s38 64 (by decide)).trans q64_s37
  have q65_s38 : s38 65 = ai E 157 (fun _ => 0) := (f_s38 65 (by decide)).trans q65_s37
  have q66_s38 : s38 66 = ai E 512 (fun _ => -1) := (f_s38 66 (by decide)).trans q66_s37
  have q67_s38 : s38 67 = ai E 512 (fun _ => 0) := (f_s38 67 (by decide)).trans q67_s37
  have q68_s38 : s38 68 = ob 4 [vr E 69, vr E 70, vr E 71, vi 0] := (f_s38 68 (by decide)).trans q68_s37
  have q69_s38 : s38 69 = ai E 157 (fun _ => 0) := (f_s38 69 (by decide)).trans q69_s37
  have q70_s38 : s38 70 = ai E 512 (fun _ => -1) := (f_s38 70 (by decide)).trans q70_s37
  have q71_s38 : s38 71 = ai E 512 (fun _ => 0) := (f_s38 71 (by decide)).trans q71_s37
  have q72_s38 : s38 72 = ob 4 [vr E 73, vr E 74, vr E 75, vi 0] := (f_s38 72 (by decide)).trans q72_s37
  have q73_s38 : s38 73 = ai E 157 (fun _ => 0) := (f_s38 73 (by decide)).trans q73_s37
  have q74_s38 : s38 74 = ai E 512 (fun _ => -1) := (f_s38 74 (by decide)).trans q74_s37
  have q75_s38 : s38 75 = ai E 512 (fun _ => 0) := (f_s38 75 (by decide)).trans q75_s37
  have q76_s38 : s38 76 = ob 4 [vr E 77, vr E 78, vr E 79, vi 0] := (f_s38 76 (by decide)).trans q76_s37
  have q77_s38 : s38 77 = ai E 157 (fun _ => 0) := (f_s38 77 (by decide)).trans q77_s37
  have q78_s38 : s38 78 = ai E 512 (fun _ => -1) := (f_s38 78 (by decide)).trans q78_s37
  have q79_s38 : s38 79 = ai E 512 (fun _ => 0) := (f_s38 79 (by decide)).trans q79_s37
  have q80_s38 : s38 80 = ob 4 [vr E 81, vr E 82, vr E 83, vi 0] := (f_s38 80 (by decide)).trans q80_s37
  have q81_s38 : s38 81 = ai E 157 (fun _ => 0) := (f_s38 81 (by decide)).trans q81_s37
  have q82_s38 : s38 82 = ai E 512 (fun _ => -1) := (f_s38 82 (by decide)).trans q82_s37
  have q83_s38 : s38 83 = ai E 512 (fun _ => 0) := (f_s38 83 (by decide)).trans q83_s37
  have q84_s38 : s38 84 = ob 4 [vr E 85, vr E 86, vr E 87, vi 0] := (f_s38 84 (by decide)).trans q84_s37
  have q85_s38 : s38 85 = ai E 157 (fun _ => 0) := (f_s38 85 (by decide)).trans q85_s37
  have q86_s38 : s38 86 = ai E 512 (fun _ => -1) := (f_s38 86 (by decide)).trans q86_s37
  have q87_s38 : s38 87 = ai E 512 (fun _ => 0) := (f_s38 87 (by decide)).trans q87_s37
  have q88_s38 : s38 88 = ob 4 [vr E 89, vr E 90, vr E 91, vi 0] := (f_s38 88 (by decide)).trans q88_s37
  have q89_s38 : s38 89 = ai E 157 (fun _ => 0) := (f_s38 89 (by decide)).trans q89_s37
  have q90_s38 : s38 90 = ai E 512 (fun _ => -1) := (f_s38 90 (by decide)).trans q90_s37
  have q91_s38 : s38 91 = ai E 512 (fun _ => 0) := (f_s38 91 (by decide)).trans q91_s37
  have q92_s38 : s38 92 = ob 8 [vi 0, vi 0, vi 0, vi 0, vi 0] := (f_s38 92 (by decide)).trans q92_s37
  have q93_s38 : s38 93 = ob 8 [vi 0, vi 0, vi 0, vi 0, vi 0] := (f_s38 93 (by decide)).trans q93_s37
  exact go_vretK hF hr hlk hQ rfl rfl dX10_init_131 ⟨⟨x_s38, q1_s38, ⟨_, _, _, _, q2_s38⟩, ⟨(fun _ => 0), (fun _ => 2), (fun _ => 0), (fun _ => 10), 0, ⟨by decide, by decide⟩, ⟨q3_s38, q4_s38, fun k₉ hk => by rcases (show k₉ = 0 ∨ k₉ = 1 ∨ k₉ = 2 ∨ k₉ = 3 ∨ k₉ = 4 ∨ k₉ = 5 ∨ k₉ = 6 ∨ k₉ = 7 by omega) with rfl | rfl | rfl | rfl | rfl | rfl | rfl | rfl <;> first | exact q5_s38 | exact q6_s38 | exact q7_s38 | exact q8_s38 | exact q9_s38 | exact q10_s38 | exact q11_s38 | exact q12_s38⟩, fun i₉ i0₉ i1₉ => absurd i1₉ (by omega)⟩, q13_s38, ⟨(fun _ => 0), (fun _ => 0), (fun _ => 0), (fun _ => 0), (fun _ => 0), (fun _ => 0), (fun _ => 0), 0, 0, 0, 0, 0, 0, 0, 0, ⟨q14_s38, q15_s38, ⟨q16_s38, q17_s38, q18_s38, q19_s38, q20_s38, q21_s38, q22_s38⟩⟩, okP0⟩, ⟨(fun _ => 0), (fun _ => 0), (fun _ => 0), (fun _ => 0), (fun _ => 0), (fun _ => 0), 0, 0, 0, 0, 0, 0, ⟨q23_s38, q24_s38, q25_s38, q26_s38, q27_s38, q28_s38, q29_s38⟩, ⟨trivial, by decide, trivial, rfl, rfl, rfl, rfl, rfl, rfl, okP0⟩⟩, ⟨0, 0, ⟨by decide, by decide⟩, (fun _ => 0), (fun _ => 0), ((fun _ => 0), (fun _ => 0)), ⟨q30_s38, q31_s38, q32_s38, q33_s38, q34_s38⟩, ⟨q35_s38, q36_s38, q37_s38⟩, ⟨fun d₉ d0₉ d1₉ => by rcases (show d₉ = 1 ∨ d₉ = 2 ∨ d₉ = 3 by omega) with rfl | rfl | rfl <;> first | exact ⟨_, _, q38_s38, q39_s38, q40_s38⟩ | exact ⟨_, _, q41_s38, q42_s38, q43_s38⟩ | exact ⟨_, _, q44_s38, q45_s38, q46_s38⟩, fun d₉ d0₉ d1₉ => by rcases (show d₉ = 0 ∨ d₉ = 1 ∨ d₉ = 2 by omega) with rfl | rfl | rfl <;> first | exact ⟨_, _, q47_s38, q48_s38, q49_s38⟩ | exact ⟨_, _, q50_s38, q51_s38, q52_s38⟩ | exact ⟨_, _, q53_s38, q54_s38, q55_s38⟩⟩, Or.inl rfl⟩, Or.inl ⟨nw0, 59, 0, 2, 0, 10, okN0, ⟨q56_s38, q57_s38, u_s38⟩, q63_s38, fun i₉ hi₉ => by rcases hi₉ with (rfl | rfl | rfl | rfl | rfl) | rfl | rfl | rfl <;> first | exact jF0 ⟨q59_s38, q60_s38, q61_s38, q62_s38⟩ | exact jF0 ⟨q64_s38, q65_s38, q66_s38, q67_s38⟩ | exact jF0 ⟨q68_s38, q69_s38, q70_s38, q71_s38⟩ | exact jF0 ⟨q72_s38, q73_s38, q74_s38, q75_s38⟩ | exact jF0 ⟨q76_s38, q77_s38, q78_s38, q79_s38⟩ | exact jF0 ⟨q80_s38, q81_s38, q82_s38, q83_s38⟩ | exact jF0 ⟨q84_s38, q85_s38, q86_s38, q87_s38⟩ | exact jF0 ⟨q88_s38, q89_s38, q90_s38, q91_s38⟩⟩, ⟨_, _, q92_s38⟩, ⟨_, _, _, _, _, q93_s38⟩⟩, (fun jj h1 => by rw [f_s38 jj (by omega), f_s37 jj (by omega), f_s36 jj (by omega), f_s35 jj (by omega), f_s34 jj (by omega), f_s33 jj (by omega), f_s32 jj (by omega), f_s31 jj (by omega), f_s30 jj (by omega), f_s29 jj (by omega), f_s28 jj (by omega), f_s27 jj (by omega), f_s26 jj (by omega), f_s25 jj (by omega), f_s24 jj (by omega), f_s23 jj (by omega), f_s22 jj (by omega), f_s21 jj (by omega), f_s20 jj (by omega), f_s19 jj (by omega), f_s18 jj (by omega), f_s17 jj (by omega), f_s16 jj (by omega), f_s15 jj (by omega), f_s14 jj (by omega), f_s13 jj (by omega), f_s12 jj (by omega), f_s11 jj (by omega), f_s10 jj (by omega), f_s9 jj (by omega), f_s8 jj (by omega), f_s7 jj (by omega), f_s6 jj (by omega), f_s5 jj (by omega), f_s4 jj (by omega), f_s3 jj (by omega), f_s2 jj (by omega), f_s1 jj (by omega)])⟩
