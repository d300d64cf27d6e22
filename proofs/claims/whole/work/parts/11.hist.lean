/-! Program's writes; History. -/
def pw2 (x : Int) : Int := if x = 0 then 1 else if x = 1 then 2 else if x = 2 then 4 else if x = 3 then 8 else if x = 4 then 16 else 32
def orb (a x : Int) : Int := if a / pw2 x % 2 = 1 then a else a + pw2 x
theorem pw2_shl {x : Int} (h : 0 ≤ x ∧ x ≤ 5) : iI 1 <<< (iI x &&& 31) = iI (pw2 x) := by
  obtain rfl | rfl | rfl | rfl | rfl | rfl : x = 0 ∨ x = 1 ∨ x = 2 ∨ x = 3 ∨ x = 4 ∨ x = 5 := by omega
  all_goals decide
theorem orb_all : ∀ a : Fin 64, ∀ x : Fin 6, iI ((a.val : Nat) : Int) ||| iI (pw2 ((x.val : Nat) : Int)) = iI (orb ((a.val : Nat) : Int) ((x.val : Nat) : Int)) ∧ 0 ≤ orb ((a.val : Nat) : Int) ((x.val : Nat) : Int) ∧ orb ((a.val : Nat) : Int) ((x.val : Nat) : Int) < 64 := by decide +kernel
theorem orb_or {a x : Int} (h : 0 ≤ a ∧ a < 64) (hx : 0 ≤ x ∧ x ≤ 5) : iI a ||| iI (pw2 x) = iI (orb a x) := by
  obtain ⟨n, rfl⟩ := Int.eq_ofNat_of_zero_le h.1
  obtain ⟨m, rfl⟩ := Int.eq_ofNat_of_zero_le hx.1
  exact (orb_all ⟨n, by omega⟩ ⟨m, by omega⟩).1
theorem orb_rg {a x : Int} (h : 0 ≤ a ∧ a < 64) (hx : 0 ≤ x ∧ x ≤ 5) : 0 ≤ orb a x ∧ orb a x < 64 := by
  obtain ⟨n, rfl⟩ := Int.eq_ofNat_of_zero_le h.1
  obtain ⟨m, rfl⟩ := Int.eq_ofNat_of_zero_le hx.1
  exact (orb_all ⟨n, by omega⟩ ⟨m, by omega⟩).2
set_option maxHeartbeats 4000000 in
set_option maxRecDepth 100000 in
theorem c_X6_wipe (E : En) (N : Nat) (σ : Nat → va_E) (i : Nat) {sg vl mt lw ll la : Int → Int} {sz lk ch lp dp ln : Int} (hi : i + 6 < N) (hp : isP E σ i sg vl mt lw ll la sz lk ch lp dp ln) : CV E M_X6_wipe 1 [vr E i] N σ (fun σ' => isP E σ' i sg vl mt lw ll la 0 0 0 0 0 0 ∧ ∀ q, (q < i ∨ i + 6 < q) → σ' q = σ q) := by
  refine CT.of2 (own := RX6) (by decide) rfl (Nat.le_of_ble_eq_true rfl) ?_
  intro p e R s m args below meth c Q hF hr hlk hnm hz hR hQ
  obtain ⟨p0, p1, p2, p3, p4, p5, p6⟩ := hp
  have pb0 : i < N := by omega
  have pb1 : i + 1 < N := by omega
  have pb2 : i + 2 < N := by omega
  have pb3 : i + 3 < N := by omega
  have pb4 : i + 4 < N := by omega
  have pb5 : i + 5 < N := by omega
  have pb6 : i + 6 < N := by omega
  refine go_aload_n (pc := 0) hF dX6_wipe_0 0 rfl ?_
  refine go_iconst (pc := 1) hF dX6_wipe_1 ?_
  refine go_put (pc := 2) hF [vr E (i + 1), vr E (i + 2), vr E (i + 3), vr E (i + 4), vr E (i + 5), vr E (i + 6), vi 0, vi lk, vi ch, vi lp, vi dp, vi ln] fl_X6_30 dX6_wipe_2 pb0 p0 rfl rfl rfl (Nat.le_of_ble_eq_true rfl) (fun s1 u_s1 f_s1 => ?_)
  have t1_s1 := (f_s1 (i + 1) (show i + 1 ≠ i by omega)).trans p1
  have t2_s1 := (f_s1 (i + 2) (show i + 2 ≠ i by omega)).trans p2
  have t3_s1 := (f_s1 (i + 3) (show i + 3 ≠ i by omega)).trans p3
  have t4_s1 := (f_s1 (i + 4) (show i + 4 ≠ i by omega)).trans p4
  have t5_s1 := (f_s1 (i + 5) (show i + 5 ≠ i by omega)).trans p5
  have t6_s1 := (f_s1 (i + 6) (show i + 6 ≠ i by omega)).trans p6
  refine go_aload_n (pc := 5) hF dX6_wipe_5 0 rfl ?_
  refine go_iconst (pc := 6) hF dX6_wipe_6 ?_
  refine go_put (pc := 7) hF [vr E (i + 1), vr E (i + 2), vr E (i + 3), vr E (i + 4), vr E (i + 5), vr E (i + 6), vi 0, vi 0, vi ch, vi lp, vi dp, vi ln] fl_X6_34 dX6_wipe_7 pb0 u_s1 rfl rfl rfl (Nat.le_of_ble_eq_true rfl) (fun s2 u_s2 f_s2 => ?_)
  have t1_s2 := (f_s2 (i + 1) (show i + 1 ≠ i by omega)).trans t1_s1
  have t2_s2 := (f_s2 (i + 2) (show i + 2 ≠ i by omega)).trans t2_s1
  have t3_s2 := (f_s2 (i + 3) (show i + 3 ≠ i by omega)).trans t3_s1
  have t4_s2 := (f_s2 (i + 4) (show i + 4 ≠ i by omega)).trans t4_s1
  have t5_s2 := (f_s2 (i + 5) (show i + 5 ≠ i by omega)).trans t5_s1
  have t6_s2 := (f_s2 (i + 6) (show i + 6 ≠ i by omega)).trans t6_s1
  refine go_aload_n (pc := 10) hF dX6_wipe_10 0 rfl ?_
  refine go_iconst (pc := 11) hF dX6_wipe_11 ?_
  refine go_put (pc := 12) hF [vr E (i + 1), vr E (i + 2), vr E (i + 3), vr E (i + 4), vr E (i + 5), vr E (i + 6), vi 0, vi 0, vi 0, vi lp, vi dp, vi ln] fl_X6_37 dX6_wipe_12 pb0 u_s2 rfl rfl rfl (Nat.le_of_ble_eq_true rfl) (fun s3 u_s3 f_s3 => ?_)
  have t1_s3 := (f_s3 (i + 1) (show i + 1 ≠ i by omega)).trans t1_s2
  have t2_s3 := (f_s3 (i + 2) (show i + 2 ≠ i by omega)).trans t2_s2
  have t3_s3 := (f_s3 (i + 3) (show i + 3 ≠ i by omega)).trans t3_s2
  have t4_s3 := (f_s3 (i + 4) (show i + 4 ≠ i by omega)).trans t4_s2
  have t5_s3 := (f_s3 (i + 5) (show i + 5 ≠ i by omega)).trans t5_s2
  have t6_s3 := (f_s3 (i + 6) (show i + 6 ≠ i by omega)).trans t6_s2
  refine go_aload_n (pc := 15) hF dX6_wipe_15 0 rfl ?_
  refine go_iconst (pc := 16) hF dX6_wipe_16 ?_
  refine go_put (pc := 17) hF [vr E (i + 1), vr E (i + 2), vr E (i + 3), vr E (i + 4), vr E (i + 5), vr E (i + 6), vi 0, vi 0, vi 0, vi 0, vi dp, vi ln] fl_X6_40 dX6_wipe_17 pb0 u_s3 rfl rfl rfl (Nat.le_of_ble_eq_true rfl) (fun s4 u_s4 f_s4 => ?_)
  have t1_s4 := (f_s4 (i + 1) (show i + 1 ≠ i by omega)).trans t1_s3
  have t2_s4 := (f_s4 (i + 2) (show i + 2 ≠ i by omega)).trans t2_s3
  have t3_s4 := (f_s4 (i + 3) (show i + 3 ≠ i by omega)).trans t3_s3
  have t4_s4 := (f_s4 (i + 4) (show i + 4 ≠ i by omega)).trans t4_s3
  have t5_s4 := (f_s4 (i + 5) (show i + 5 ≠ i by omega)).trans t5_s3
  have t6_s4 := (f_s4 (i + 6) (show i + 6 ≠ i by omega)).trans t6_s3
  refine go_aload_n (pc := 20) hF dX6_wipe_20 0 rfl ?_
  refine go_iconst (pc := 21) hF dX6_wipe_21 ?_
  refine go_put (pc := 22) hF [vr E (i + 1), vr E (i + 2), vr E (i + 3), vr E (i + 4), vr E (i + 5), vr E (i + 6), vi 0, vi 0, vi 0, vi 0, vi 0, vi ln] fl_X6_43 dX6_wipe_22 pb0 u_s4 rfl rfl rfl (Nat.le_of_ble_eq_true rfl) (fun s5 u_s5 f_s5 => ?_)
  have t1_s5 := (f_s5 (i + 1) (show i + 1 ≠ i by omega)).trans t1_s4
  have t2_s5 := (f_s5 (i + 2) (show i + 2 ≠ i by omega)).trans t2_s4
  have t3_s5 := (f_s5 (i + 3) (show i + 3 ≠ i by omega)).trans t3_s4
  have t4_s5 := (f_s5 (i + 4) (show i + 4 ≠ i by omega)).trans t4_s4
  have t5_s5 := (f_s5 (i + 5) (show i + 5 ≠ i by omega)).trans t5_s4
  have t6_s5 := (f_s5 (i + 6) (show i + 6 ≠ i by omega)).trans t6_s4
  refine go_aload_n (pc := 25) hF dX6_wipe_25 0 rfl ?_
  refine go_iconst (pc := 26) hF dX6_wipe_26 ?_
  refine go_put (pc := 27) hF [vr E (i + 1), vr E (i + 2), vr E (i + 3), vr E (i + 4), vr E (i + 5), vr E (i + 6), vi 0, vi 0, vi 0, vi 0, vi 0, vi 0] fl_X6_46 dX6_wipe_27 pb0 u_s5 rfl rfl rfl (Nat.le_of_ble_eq_true rfl) (fun s6 u_s6 f_s6 => ?_)
  have t1_s6 := (f_s6 (i + 1) (show i + 1 ≠ i by omega)).trans t1_s5
  have t2_s6 := (f_s6 (i + 2) (show i + 2 ≠ i by omega)).trans t2_s5
  have t3_s6 := (f_s6 (i + 3) (show i + 3 ≠ i by omega)).trans t3_s5
  have t4_s6 := (f_s6 (i + 4) (show i + 4 ≠ i by omega)).trans t4_s5
  have t5_s6 := (f_s6 (i + 5) (show i + 5 ≠ i by omega)).trans t5_s5
  have t6_s6 := (f_s6 (i + 6) (show i + 6 ≠ i by omega)).trans t6_s5
  exact go_vretQ hF hr hlk hQ dX6_wipe_30 ⟨⟨u_s6, t1_s6, t2_s6, t3_s6, t4_s6, t5_s6, t6_s6⟩, (fun j hj => by rw [f_s6 j (by omega), f_s5 j (by omega), f_s4 j (by omega), f_s3 j (by omega), f_s2 j (by omega), f_s1 j (by omega)])⟩
set_option maxHeartbeats 4000000 in
set_option maxRecDepth 100000 in
theorem c_X6_setAs (E : En) (N : Nat) (σ : Nat → va_E) (i : Nat) {sg vl mt lw ll la : Int → Int} {sz lk ch lp dp ln : Int} (hi : i + 6 < N) (hp : isP E σ i sg vl mt lw ll la sz lk ch lp dp ln) (j : Nat) {sg2 vl2 mt2 lw2 ll2 la2 : Int → Int} {sz2 lk2 ch2 lp2 dp2 ln2 : Int} (hj : j + 6 < N) (hij : i + 6 < j ∨ j + 6 < i) (ho : isP E σ j sg2 vl2 mt2 lw2 ll2 la2 sz2 lk2 ch2 lp2 dp2 ln2) : CV E M_X6_setAs 1 [vr E i, vr E j] N σ (fun σ' => isP E σ' i sg2 vl2 mt2 lw2 ll2 la2 sz2 lk2 ch2 lp2 dp2 ln2 ∧ ∀ q, (q < i ∨ i + 6 < q) → σ' q = σ q) := by
  refine CT.of2 (own := RX6) (by decide) rfl (Nat.le_of_ble_eq_true rfl) ?_
  intro p e R s m args below meth c Q hF hr hlk hnm hz hR hQ
  obtain ⟨p0, p1, p2, p3, p4, p5, p6⟩ := hp
  have pb0 : i < N := by omega
  have pb1 : i + 1 < N := by omega
  have pb2 : i + 2 < N := by omega
  have pb3 : i + 3 < N := by omega
  have pb4 : i + 4 < N := by omega
  have pb5 : i + 5 < N := by omega
  have pb6 : i + 6 < N := by omega
  obtain ⟨o0, o1, o2, o3, o4, o5, o6⟩ := ho
  have ob0 : j < N := by omega
  have ob1 : j + 1 < N := by omega
  have ob2 : j + 2 < N := by omega
  have ob3 : j + 3 < N := by omega
  have ob4 : j + 4 < N := by omega
  have ob5 : j + 5 < N := by omega
  have ob6 : j + 6 < N := by omega
  refine go_aload_n (pc := 0) hF dX6_setAs_0 1 rfl ?_
  refine go_get (pc := 1) hF fl_X6_9 dX6_setAs_1 ob0 o0 rfl ?_
  refine go_iconst (pc := 4) hF dX6_setAs_4 ?_
  refine go_aload_n (pc := 5) hF dX6_setAs_5 0 rfl ?_
  refine go_get (pc := 6) hF fl_X6_9 dX6_setAs_6 pb0 p0 rfl ?_
  refine go_iconst (pc := 9) hF dX6_setAs_9 ?_
  refine go_bipush (pc := 10) hF dX6_setAs_10 (by decide) ?_
  refine go_copy (pc := 12) hF mc_X6_49 dX6_setAs_12 ob1 o1 pb1 p1 (Nat.le_of_ble_eq_true rfl) (by decide) (by decide) (fun s1 u_s1 f_s1 => ?_)
  have t_s1 := (f_s1 i (show i ≠ i + 1 by omega)).trans p0
  have t2_s1 := (f_s1 (i + 2) (show i + 2 ≠ i + 1 by omega)).trans p2
  have t3_s1 := (f_s1 (i + 3) (show i + 3 ≠ i + 1 by omega)).trans p3
  have t4_s1 := (f_s1 (i + 4) (show i + 4 ≠ i + 1 by omega)).trans p4
  have t5_s1 := (f_s1 (i + 5) (show i + 5 ≠ i + 1 by omega)).trans p5
  have t6_s1 := (f_s1 (i + 6) (show i + 6 ≠ i + 1 by omega)).trans p6
  have o_s1 := (f_s1 j (show j ≠ i + 1 by omega)).trans o0
  have o1_s1 := (f_s1 (j + 1) (show j + 1 ≠ i + 1 by omega)).trans o1
  have o2_s1 := (f_s1 (j + 2) (show j + 2 ≠ i + 1 by omega)).trans o2
  have o3_s1 := (f_s1 (j + 3) (show j + 3 ≠ i + 1 by omega)).trans o3
  have o4_s1 := (f_s1 (j + 4) (show j + 4 ≠ i + 1 by omega)).trans o4
  have o5_s1 := (f_s1 (j + 5) (show j + 5 ≠ i + 1 by omega)).trans o5
  have o6_s1 := (f_s1 (j + 6) (show j + 6 ≠ i + 1 by omega)).trans o6
  refine go_aload_n (pc := 15) hF dX6_setAs_15 1 rfl ?_
  refine go_get (pc := 16) hF fl_X6_15 dX6_setAs_16 ob0 o_s1 rfl ?_
  refine go_iconst (pc := 19) hF dX6_setAs_19 ?_
  refine go_aload_n (pc := 20) hF dX6_setAs_20 0 rfl ?_
  refine go_get (pc := 21) hF fl_X6_15 dX6_setAs_21 pb0 t_s1 rfl ?_
  refine go_iconst (pc := 24) hF dX6_setAs_24 ?_
  refine go_bipush (pc := 25) hF dX6_setAs_25 (by decide) ?_
  refine go_copy (pc := 27) hF mc_X6_49 dX6_setAs_27 ob2 o2_s1 pb2 t2_s1 (Nat.le_of_ble_eq_true rfl) (by decide) (by decide) (fun s2 u_s2 f_s2 => ?_)
  have t_s2 := (f_s2 i (show i ≠ i + 2 by omega)).trans t_s1
  have t1_s2 := (f_s2 (i + 1) (show i + 1 ≠ i + 2 by omega)).trans u_s1
  have t3_s2 := (f_s2 (i + 3) (show i + 3 ≠ i + 2 by omega)).trans t3_s1
  have t4_s2 := (f_s2 (i + 4) (show i + 4 ≠ i + 2 by omega)).trans t4_s1
  have t5_s2 := (f_s2 (i + 5) (show i + 5 ≠ i + 2 by omega)).trans t5_s1
  have t6_s2 := (f_s2 (i + 6) (show i + 6 ≠ i + 2 by omega)).trans t6_s1
  have o_s2 := (f_s2 j (show j ≠ i + 2 by omega)).trans o_s1
  have o1_s2 := (f_s2 (j + 1) (show j + 1 ≠ i + 2 by omega)).trans o1_s1
  have o2_s2 := (f_s2 (j + 2) (show j + 2 ≠ i + 2 by omega)).trans o2_s1
  have o3_s2 := (f_s2 (j + 3) (show j + 3 ≠ i + 2 by omega)).trans o3_s1
  have o4_s2 := (f_s2 (j + 4) (show j + 4 ≠ i + 2 by omega)).trans o4_s1
  have o5_s2 := (f_s2 (j + 5) (show j + 5 ≠ i + 2 by omega)).trans o5_s1
  have o6_s2 := (f_s2 (j + 6) (show j + 6 ≠ i + 2 by omega)).trans o6_s1
  refine go_aload_n (pc := 30) hF dX6_setAs_30 1 rfl ?_
  refine go_get (pc := 31) hF fl_X6_18 dX6_setAs_31 ob0 o_s2 rfl ?_
  refine go_iconst (pc := 34) hF dX6_setAs_34 ?_
  refine go_aload_n (pc := 35) hF dX6_setAs_35 0 rfl ?_
  refine go_get (pc := 36) hF fl_X6_18 dX6_setAs_36 pb0 t_s2 rfl ?_
  refine go_iconst (pc := 39) hF dX6_setAs_39 ?_
  refine go_bipush (pc := 40) hF dX6_setAs_40 (by decide) ?_
  refine go_copy (pc := 42) hF mc_X6_49 dX6_setAs_42 ob3 o3_s2 pb3 t3_s2 (Nat.le_of_ble_eq_true rfl) (by decide) (by decide) (fun s3 u_s3 f_s3 => ?_)
  have t_s3 := (f_s3 i (show i ≠ i + 3 by omega)).trans t_s2
  have t1_s3 := (f_s3 (i + 1) (show i + 1 ≠ i + 3 by omega)).trans t1_s2
  have t2_s3 := (f_s3 (i + 2) (show i + 2 ≠ i + 3 by omega)).trans u_s2
  have t4_s3 := (f_s3 (i + 4) (show i + 4 ≠ i + 3 by omega)).trans t4_s2
  have t5_s3 := (f_s3 (i + 5) (show i + 5 ≠ i + 3 by omega)).trans t5_s2
  have t6_s3 := (f_s3 (i + 6) (show i + 6 ≠ i + 3 by omega)).trans t6_s2
  have o_s3 := (f_s3 j (show j ≠ i + 3 by omega)).trans o_s2
  have o1_s3 := (f_s3 (j + 1) (show j + 1 ≠ i + 3 by omega)).trans o1_s2
  have o2_s3 := (f_s3 (j + 2) (show j + 2 ≠ i + 3 by omega)).trans o2_s2
  have o3_s3 := (f_s3 (j + 3) (show j + 3 ≠ i + 3 by omega)).trans o3_s2
  have o4_s3 := (f_s3 (j + 4) (show j + 4 ≠ i + 3 by omega)).trans o4_s2
  have o5_s3 := (f_s3 (j + 5) (show j + 5 ≠ i + 3 by omega)).trans o5_s2
  have o6_s3 := (f_s3 (j + 6) (show j + 6 ≠ i + 3 by omega)).trans o6_s2
  refine go_aload_n (pc := 45) hF dX6_setAs_45 1 rfl ?_
  refine go_get (pc := 46) hF fl_X6_21 dX6_setAs_46 ob0 o_s3 rfl ?_
  refine go_iconst (pc := 49) hF dX6_setAs_49 ?_
  refine go_aload_n (pc := 50) hF dX6_setAs_50 0 rfl ?_
  refine go_get (pc := 51) hF fl_X6_21 dX6_setAs_51 pb0 t_s3 rfl ?_
  refine go_iconst (pc := 54) hF dX6_setAs_54 ?_
  refine go_bipush (pc := 55) hF dX6_setAs_55 (by decide) ?_
  refine go_copy (pc := 57) hF mc_X6_49 dX6_setAs_57 ob4 o4_s3 pb4 t4_s3 (Nat.le_of_ble_eq_true rfl) (by decide) (by decide) (fun s4 u_s4 f_s4 => ?_)
  have t_s4 := (f_s4 i (show i ≠ i + 4 by omega)).trans t_s3
  have t1_s4 := (f_s4 (i + 1) (show i + 1 ≠ i + 4 by omega)).trans t1_s3
  have t2_s4 := (f_s4 (i + 2) (show i + 2 ≠ i + 4 by omega)).trans t2_s3
  have t3_s4 := (f_s4 (i + 3) (show i + 3 ≠ i + 4 by omega)).trans u_s3
  have t5_s4 := (f_s4 (i + 5) (show i + 5 ≠ i + 4 by omega)).trans t5_s3
  have t6_s4 := (f_s4 (i + 6) (show i + 6 ≠ i + 4 by omega)).trans t6_s3
  have o_s4 := (f_s4 j (show j ≠ i + 4 by omega)).trans o_s3
  have o1_s4 := (f_s4 (j + 1) (show j + 1 ≠ i + 4 by omega)).trans o1_s3
  have o2_s4 := (f_s4 (j + 2) (show j + 2 ≠ i + 4 by omega)).trans o2_s3
  have o3_s4 := (f_s4 (j + 3) (show j + 3 ≠ i + 4 by omega)).trans o3_s3
  have o4_s4 := (f_s4 (j + 4) (show j + 4 ≠ i + 4 by omega)).trans o4_s3
  have o5_s4 := (f_s4 (j + 5) (show j + 5 ≠ i + 4 by omega)).trans o5_s3
  have o6_s4 := (f_s4 (j + 6) (show j + 6 ≠ i + 4 by omega)).trans o6_s3
  refine go_aload_n (pc := 60) hF dX6_setAs_60 1 rfl ?_
  refine go_get (pc := 61) hF fl_X6_24 dX6_setAs_61 ob0 o_s4 rfl ?_
  refine go_iconst (pc := 64) hF dX6_setAs_64 ?_
  refine go_aload_n (pc := 65) hF dX6_setAs_65 0 rfl ?_
  refine go_get (pc := 66) hF fl_X6_24 dX6_setAs_66 pb0 t_s4 rfl ?_
  refine go_iconst (pc := 69) hF dX6_setAs_69 ?_
  refine go_bipush (pc := 70) hF dX6_setAs_70 (by decide) ?_
  refine go_copy (pc := 72) hF mc_X6_49 dX6_setAs_72 ob5 o5_s4 pb5 t5_s4 (Nat.le_of_ble_eq_true rfl) (by decide) (by decide) (fun s5 u_s5 f_s5 => ?_)
  have t_s5 := (f_s5 i (show i ≠ i + 5 by omega)).trans t_s4
  have t1_s5 := (f_s5 (i + 1) (show i + 1 ≠ i + 5 by omega)).trans t1_s4
  have t2_s5 := (f_s5 (i + 2) (show i + 2 ≠ i + 5 by omega)).trans t2_s4
  have t3_s5 := (f_s5 (i + 3) (show i + 3 ≠ i + 5 by omega)).trans t3_s4
  have t4_s5 := (f_s5 (i + 4) (show i + 4 ≠ i + 5 by omega)).trans u_s4
  have t6_s5 := (f_s5 (i + 6) (show i + 6 ≠ i + 5 by omega)).trans t6_s4
  have o_s5 := (f_s5 j (show j ≠ i + 5 by omega)).trans o_s4
  have o1_s5 := (f_s5 (j + 1) (show j + 1 ≠ i + 5 by omega)).trans o1_s4
  have o2_s5 := (f_s5 (j + 2) (show j + 2 ≠ i + 5 by omega)).trans o2_s4
  have o3_s5 := (f_s5 (j + 3) (show j + 3 ≠ i + 5 by omega)).trans o3_s4
  have o4_s5 := (f_s5 (j + 4) (show j + 4 ≠ i + 5 by omega)).trans o4_s4
  have o5_s5 := (f_s5 (j + 5) (show j + 5 ≠ i + 5 by omega)).trans o5_s4
  have o6_s5 := (f_s5 (j + 6) (show j + 6 ≠ i + 5 by omega)).trans o6_s4
  refine go_aload_n (pc := 75) hF dX6_setAs_75 1 rfl ?_
  refine go_get (pc := 76) hF fl_X6_27 dX6_setAs_76 ob0 o_s5 rfl ?_
  refine go_iconst (pc := 79) hF dX6_setAs_79 ?_
  refine go_aload_n (pc := 80) hF dX6_setAs_80 0 rfl ?_
  refine go_get (pc := 81) hF fl_X6_27 dX6_setAs_81 pb0 t_s5 rfl ?_
  refine go_iconst (pc := 84) hF dX6_setAs_84 ?_
  refine go_bipush (pc := 85) hF dX6_setAs_85 (by decide) ?_
  refine go_copy (pc := 87) hF mc_X6_49 dX6_setAs_87 ob6 o6_s5 pb6 t6_s5 (Nat.le_of_ble_eq_true rfl) (by decide) (by decide) (fun s6 u_s6 f_s6 => ?_)
  have t_s6 := (f_s6 i (show i ≠ i + 6 by omega)).trans t_s5
  have t1_s6 := (f_s6 (i + 1) (show i + 1 ≠ i + 6 by omega)).trans t1_s5
  have t2_s6 := (f_s6 (i + 2) (show i + 2 ≠ i + 6 by omega)).trans t2_s5
  have t3_s6 := (f_s6 (i + 3) (show i + 3 ≠ i + 6 by omega)).trans t3_s5
  have t4_s6 := (f_s6 (i + 4) (show i + 4 ≠ i + 6 by omega)).trans t4_s5
  have t5_s6 := (f_s6 (i + 5) (show i + 5 ≠ i + 6 by omega)).trans u_s5
  have o_s6 := (f_s6 j (show j ≠ i + 6 by omega)).trans o_s5
  have o1_s6 := (f_s6 (j + 1) (show j + 1 ≠ i + 6 by omega)).trans o1_s5
  have o2_s6 := (f_s6 (j + 2) (show j + 2 ≠ i + 6 by omega)).trans o2_s5
  have o3_s6 := (f_s6 (j + 3) (show j + 3 ≠ i + 6 by omega)).trans o3_s5
  have o4_s6 := (f_s6 (j + 4) (show j + 4 ≠ i + 6 by omega)).trans o4_s5
  have o5_s6 := (f_s6 (j + 5) (show j + 5 ≠ i + 6 by omega)).trans o5_s5
  have o6_s6 := (f_s6 (j + 6) (show j + 6 ≠ i + 6 by omega)).trans o6_s5
  refine go_aload_n (pc := 90) hF dX6_setAs_90 0 rfl ?_
  refine go_aload_n (pc := 91) hF dX6_setAs_91 1 rfl ?_
  refine go_get (pc := 92) hF fl_X6_30 dX6_setAs_92 ob0 o_s6 rfl ?_
  refine go_put (pc := 95) hF [vr E (i + 1), vr E (i + 2), vr E (i + 3), vr E (i + 4), vr E (i + 5), vr E (i + 6), vi sz2, vi lk, vi ch, vi lp, vi dp, vi ln] fl_X6_30 dX6_setAs_95 pb0 t_s6 rfl rfl rfl (Nat.le_of_ble_eq_true rfl) (fun s7 u_s7 f_s7 => ?_)
  have t1_s7 := (f_s7 (i + 1) (show i + 1 ≠ i by omega)).trans t1_s6
  have t2_s7 := (f_s7 (i + 2) (show i + 2 ≠ i by omega)).trans t2_s6
  have t3_s7 := (f_s7 (i + 3) (show i + 3 ≠ i by omega)).trans t3_s6
  have t4_s7 := (f_s7 (i + 4) (show i + 4 ≠ i by omega)).trans t4_s6
  have t5_s7 := (f_s7 (i + 5) (show i + 5 ≠ i by omega)).trans t5_s6
  have t6_s7 := (f_s7 (i + 6) (show i + 6 ≠ i by omega)).trans u_s6
  have o_s7 := (f_s7 j (show j ≠ i by omega)).trans o_s6
  have o1_s7 := (f_s7 (j + 1) (show j + 1 ≠ i by omega)).trans o1_s6
  have o2_s7 := (f_s7 (j + 2) (show j + 2 ≠ i by omega)).trans o2_s6
  have o3_s7 := (f_s7 (j + 3) (show j + 3 ≠ i by omega)).trans o3_s6
  have o4_s7 := (f_s7 (j + 4) (show j + 4 ≠ i by omega)).trans o4_s6
  have o5_s7 := (f_s7 (j + 5) (show j + 5 ≠ i by omega)).trans o5_s6
  have o6_s7 := (f_s7 (j + 6) (show j + 6 ≠ i by omega)).trans o6_s6
  refine go_aload_n (pc := 98) hF dX6_setAs_98 0 rfl ?_
  refine go_aload_n (pc := 99) hF dX6_setAs_99 1 rfl ?_
  refine go_get (pc := 100) hF fl_X6_34 dX6_setAs_100 ob0 o_s7 rfl ?_
  refine go_put (pc := 103) hF [vr E (i + 1), vr E (i + 2), vr E (i + 3), vr E (i + 4), vr E (i + 5), vr E (i + 6), vi sz2, vi lk2, vi ch, vi lp, vi dp, vi ln] fl_X6_34 dX6_setAs_103 pb0 u_s7 rfl rfl rfl (Nat.le_of_ble_eq_true rfl) (fun s8 u_s8 f_s8 => ?_)
  have t1_s8 := (f_s8 (i + 1) (show i + 1 ≠ i by omega)).trans t1_s7
  have t2_s8 := (f_s8 (i + 2) (show i + 2 ≠ i by omega)).trans t2_s7
  have t3_s8 := (f_s8 (i + 3) (show i + 3 ≠ i by omega)).trans t3_s7
  have t4_s8 := (f_s8 (i + 4) (show i + 4 ≠ i by omega)).trans t4_s7
  have t5_s8 := (f_s8 (i + 5) (show i + 5 ≠ i by omega)).trans t5_s7
  have t6_s8 := (f_s8 (i + 6) (show i + 6 ≠ i by omega)).trans t6_s7
  have o_s8 := (f_s8 j (show j ≠ i by omega)).trans o_s7
  have o1_s8 := (f_s8 (j + 1) (show j + 1 ≠ i by omega)).trans o1_s7
  have o2_s8 := (f_s8 (j + 2) (show j + 2 ≠ i by omega)).trans o2_s7
  have o3_s8 := (f_s8 (j + 3) (show j + 3 ≠ i by omega)).trans o3_s7
  have o4_s8 := (f_s8 (j + 4) (show j + 4 ≠ i by omega)).trans o4_s7
  have o5_s8 := (f_s8 (j + 5) (show j + 5 ≠ i by omega)).trans o5_s7
  have o6_s8 := (f_s8 (j + 6) (show j + 6 ≠ i by omega)).trans o6_s7
  refine go_aload_n (pc := 106) hF dX6_setAs_106 0 rfl ?_
  refine go_aload_n (pc := 107) hF dX6_setAs_107 1 rfl ?_
  refine go_get (pc := 108) hF fl_X6_37 dX6_setAs_108 ob0 o_s8 rfl ?_
  refine go_put (pc := 111) hF [vr E (i + 1), vr E (i + 2), vr E (i + 3), vr E (i + 4), vr E (i + 5), vr E (i + 6), vi sz2, vi lk2, vi ch2, vi lp, vi dp, vi ln] fl_X6_37 dX6_setAs_111 pb0 u_s8 rfl rfl rfl (Nat.le_of_ble_eq_true rfl) (fun s9 u_s9 f_s9 => ?_)
  have t1_s9 := (f_s9 (i + 1) (show i + 1 ≠ i by omega)).trans t1_s8
  have t2_s9 := (f_s9 (i + 2) (show i + 2 ≠ i by omega)).trans t2_s8
  have t3_s9 := (f_s9 (i + 3) (show i + 3 ≠ i by omega)).trans t3_s8
  have t4_s9 := (f_s9 (i + 4) (show i + 4 ≠ i by omega)).trans t4_s8
  have t5_s9 := (f_s9 (i + 5) (show i + 5 ≠ i by omega)).trans t5_s8
  have t6_s9 := (f_s9 (i + 6) (show i + 6 ≠ i by omega)).trans t6_s8
  have o_s9 := (f_s9 j (show j ≠ i by omega)).trans o_s8
  have o1_s9 := (f_s9 (j + 1) (show j + 1 ≠ i by omega)).trans o1_s8
  have o2_s9 := (f_s9 (j + 2) (show j + 2 ≠ i by omega)).trans o2_s8
  have o3_s9 := (f_s9 (j + 3) (show j + 3 ≠ i by omega)).trans o3_s8
  have o4_s9 := (f_s9 (j + 4) (show j + 4 ≠ i by omega)).trans o4_s8
  have o5_s9 := (f_s9 (j + 5) (show j + 5 ≠ i by omega)).trans o5_s8
  have o6_s9 := (f_s9 (j + 6) (show j + 6 ≠ i by omega)).trans o6_s8
  refine go_aload_n (pc := 114) hF dX6_setAs_114 0 rfl ?_
  refine go_aload_n (pc := 115) hF dX6_setAs_115 1 rfl ?_
  refine go_get (pc := 116) hF fl_X6_40 dX6_setAs_116 ob0 o_s9 rfl ?_
  refine go_put (pc := 119) hF [vr E (i + 1), vr E (i + 2), vr E (i + 3), vr E (i + 4), vr E (i + 5), vr E (i + 6), vi sz2, vi lk2, vi ch2, vi lp2, vi dp, vi ln] fl_X6_40 dX6_setAs_119 pb0 u_s9 rfl rfl rfl (Nat.le_of_ble_eq_true rfl) (fun s10 u_s10 f_s10 => ?_)
  have t1_s10 := (f_s10 (i + 1) (show i + 1 ≠ i by omega)).trans t1_s9
  have t2_s10 := (f_s10 (i + 2) (show i + 2 ≠ i by omega)).trans t2_s9
  have t3_s10 := (f_s10 (i + 3) (show i + 3 ≠ i by omega)).trans t3_s9
  have t4_s10 := (f_s10 (i + 4) (show i + 4 ≠ i by omega)).trans t4_s9
  have t5_s10 := (f_s10 (i + 5) (show i + 5 ≠ i by omega)).trans t5_s9
  have t6_s10 := (f_s10 (i + 6) (show i + 6 ≠ i by omega)).trans t6_s9
  have o_s10 := (f_s10 j (show j ≠ i by omega)).trans o_s9
  have o1_s10 := (f_s10 (j + 1) (show j + 1 ≠ i by omega)).trans o1_s9
  have o2_s10 := (f_s10 (j + 2) (show j + 2 ≠ i by omega)).trans o2_s9
  have o3_s10 := (f_s10 (j + 3) (show j + 3 ≠ i by omega)).trans o3_s9
  have o4_s10 := (f_s10 (j + 4) (show j + 4 ≠ i by omega)).trans o4_s9
  have o5_s10 := (f_s10 (j + 5) (show j + 5 ≠ i by omega)).trans o5_s9
  have o6_s10 := (f_s10 (j + 6) (show j + 6 ≠ i by omega)).trans o6_s9
  refine go_aload_n (pc := 122) hF dX6_setAs_122 0 rfl ?_
  refine go_aload_n (pc := 123) hF dX6_setAs_123 1 rfl ?_
  refine go_get (pc := 124) hF fl_X6_43 dX6_setAs_124 ob0 o_s10 rfl ?_
  refine go_put (pc := 127) hF [vr E (i + 1), vr E (i + 2), vr E (i + 3), vr E (i + 4), vr E (i + 5), vr E (i + 6), vi sz2, vi lk2, vi ch2, vi lp2, vi dp2, vi ln] fl_X6_43 dX6_setAs_127 pb0 u_s10 rfl rfl rfl (Nat.le_of_ble_eq_true rfl) (fun s11 u_s11 f_s11 => ?_)
  have t1_s11 := (f_s11 (i + 1) (show i + 1 ≠ i by omega)).trans t1_s10
  have t2_s11 := (f_s11 (i + 2) (show i + 2 ≠ i by omega)).trans t2_s10
  have t3_s11 := (f_s11 (i + 3) (show i + 3 ≠ i by omega)).trans t3_s10
  have t4_s11 := (f_s11 (i + 4) (show i + 4 ≠ i by omega)).trans t4_s10
  have t5_s11 := (f_s11 (i + 5) (show i + 5 ≠ i by omega)).trans t5_s10
  have t6_s11 := (f_s11 (i + 6) (show i + 6 ≠ i by omega)).trans t6_s10
  have o_s11 := (f_s11 j (show j ≠ i by omega)).trans o_s10
  have o1_s11 := (f_s11 (j + 1) (show j + 1 ≠ i by omega)).trans o1_s10
  have o2_s11 := (f_s11 (j + 2) (show j + 2 ≠ i by omega)).trans o2_s10
  have o3_s11 := (f_s11 (j + 3) (show j + 3 ≠ i by omega)).trans o3_s10
  have o4_s11 := (f_s11 (j + 4) (show j + 4 ≠ i by omega)).trans o4_s10
  have o5_s11 := (f_s11 (j + 5) (show j + 5 ≠ i by omega)).trans o5_s10
  have o6_s11 := (f_s11 (j + 6) (show j + 6 ≠ i by omega)).trans o6_s10
  refine go_aload_n (pc := 130) hF dX6_setAs_130 0 rfl ?_
  refine go_aload_n (pc := 131) hF dX6_setAs_131 1 rfl ?_
  refine go_get (pc := 132) hF fl_X6_46 dX6_setAs_132 ob0 o_s11 rfl ?_
  refine go_put (pc := 135) hF [vr E (i + 1), vr E (i + 2), vr E (i + 3), vr E (i + 4), vr E (i + 5), vr E (i + 6), vi sz2, vi lk2, vi ch2, vi lp2, vi dp2, vi ln2] fl_X6_46 dX6_setAs_135 pb0 u_s11 rfl rfl rfl (Nat.le_of_ble_eq_true rfl) (fun s12 u_s12 f_s12 => ?_)
  have t1_s12 := (f_s12 (i + 1) (show i + 1 ≠ i by omega)).trans t1_s11
  have t2_s12 := (f_s12 (i + 2) (show i + 2 ≠ i by omega)).trans t2_s11
  have t3_s12 := (f_s12 (i + 3) (show i + 3 ≠ i by omega)).trans t3_s11
  have t4_s12 := (f_s12 (i + 4) (show i + 4 ≠ i by omega)).trans t4_s11
  have t5_s12 := (f_s12 (i + 5) (show i + 5 ≠ i by omega)).trans t5_s11
  have t6_s12 := (f_s12 (i + 6) (show i + 6 ≠ i by omega)).trans t6_s11
  have o_s12 := (f_s12 j (show j ≠ i by omega)).trans o_s11
  have o1_s12 := (f_s12 (j + 1) (show j + 1 ≠ i by omega)).trans o1_s11
  have o2_s12 := (f_s12 (j + 2) (show j + 2 ≠ i by omega)).trans o2_s11
  have o3_s12 := (f_s12 (j + 3) (show j + 3 ≠ i by omega)).trans o3_s11
  have o4_s12 := (f_s12 (j + 4) (show j + 4 ≠ i by omega)).trans o4_s11
  have o5_s12 := (f_s12 (j + 5) (show j + 5 ≠ i by omega)).trans o5_s11
  have o6_s12 := (f_s12 (j + 6) (show j + 6 ≠ i by omega)).trans o6_s11
  exact go_vretQ hF hr hlk hQ dX6_setAs_138 ⟨⟨u_s12, t1_s12, t2_s12, t3_s12, t4_s12, t5_s12, t6_s12⟩, (fun j hj => by rw [f_s12 j (by omega), f_s11 j (by omega), f_s10 j (by omega), f_s9 j (by omega), f_s8 j (by omega), f_s7 j (by omega), f_s6 j (by omega), f_s5 j (by omega), f_s4 j (by omega), f_s3 j (by omega), f_s2 j (by omega), f_s1 j (by omega)])⟩
def gTell (lk ch lp dp ln a : Int) : Int := if a = 0 then lk else if a = 1 then ch else if a = 2 then lp else if a = 3 then dp else ln
set_option maxHeartbeats 4000000 in
set_option maxRecDepth 100000 in
theorem c_X6_tell (E : En) (N : Nat) (σ : Nat → va_E) (i : Nat) {sg vl mt lw ll la : Int → Int} {sz lk ch lp dp ln : Int} (hi : i + 6 < N) (hp : isP E σ i sg vl mt lw ll la sz lk ch lp dp ln) (a : Int) (ha : 0 ≤ a ∧ a ≤ 4) : CP E M_X6_tell 1 [vr E i, vi a] N σ (gTell lk ch lp dp ln a) := by
  refine CT.of2 (own := RX6) (by decide) rfl (Nat.le_of_ble_eq_true rfl) ?_
  intro p e R s m args below meth c Q hF hr hlk hnm hz hR hQ
  obtain ⟨p0, p1, p2, p3, p4, p5, p6⟩ := hp
  have pb0 : i < N := by omega
  have pb1 : i + 1 < N := by omega
  have pb2 : i + 2 < N := by omega
  have pb3 : i + 3 < N := by omega
  have pb4 : i + 4 < N := by omega
  have pb5 : i + 5 < N := by omega
  have pb6 : i + 6 < N := by omega
  obtain rfl | rfl | rfl | rfl | rfl : a = 0 ∨ a = 1 ∨ a = 2 ∨ a = 3 ∨ a = 4 := by omega
  · refine go_iload_n (pc := 0) hF dX6_tell_0 1 rfl ?_
    refine go_tableIn (pc := 1) hF 32 dX6_tell_1 ⟨by decide, by decide⟩ (by decide) rfl (by decide) ?_
    refine go_aload_n (pc := 32) hF dX6_tell_32 0 rfl ?_
    refine go_get (pc := 33) hF fl_X6_34 dX6_tell_33 pb0 p0 rfl ?_
    exact go_iretQ hF hr hlk hQ dX6_tell_36 ⟨rfl, rfl⟩
  · refine go_iload_n (pc := 0) hF dX6_tell_0 1 rfl ?_
    refine go_tableIn (pc := 1) hF 37 dX6_tell_1 ⟨by decide, by decide⟩ (by decide) rfl (by decide) ?_
    refine go_aload_n (pc := 37) hF dX6_tell_37 0 rfl ?_
    refine go_get (pc := 38) hF fl_X6_37 dX6_tell_38 pb0 p0 rfl ?_
    exact go_iretQ hF hr hlk hQ dX6_tell_41 ⟨rfl, rfl⟩
  · refine go_iload_n (pc := 0) hF dX6_tell_0 1 rfl ?_
    refine go_tableIn (pc := 1) hF 42 dX6_tell_1 ⟨by decide, by decide⟩ (by decide) rfl (by decide) ?_
    refine go_aload_n (pc := 42) hF dX6_tell_42 0 rfl ?_
    refine go_get (pc := 43) hF fl_X6_40 dX6_tell_43 pb0 p0 rfl ?_
    exact go_iretQ hF hr hlk hQ dX6_tell_46 ⟨rfl, rfl⟩
  · refine go_iload_n (pc := 0) hF dX6_tell_0 1 rfl ?_
    refine go_tableIn (pc := 1) hF 47 dX6_tell_1 ⟨by decide, by decide⟩ (by decide) rfl (by decide) ?_
    refine go_aload_n (pc := 47) hF dX6_tell_47 0 rfl ?_
    refine go_get (pc := 48) hF fl_X6_43 dX6_tell_48 pb0 p0 rfl ?_
    exact go_iretQ hF hr hlk hQ dX6_tell_51 ⟨rfl, rfl⟩
  · refine go_iload_n (pc := 0) hF dX6_tell_0 1 rfl ?_
    refine go_tableOut (pc := 1) hF 52 dX6_tell_1 ⟨by decide, by decide⟩ (by decide) (by decide) ?_
    refine go_aload_n (pc := 52) hF dX6_tell_52 0 rfl ?_
    refine go_get (pc := 53) hF fl_X6_46 dX6_tell_53 pb0 p0 rfl ?_
    exact go_iretQ hF hr hlk hQ dX6_tell_56 ⟨rfl, rfl⟩
set_option maxHeartbeats 4000000 in
set_option maxRecDepth 100000 in
theorem c_X6_add (E : En) (N : Nat) (σ : Nat → va_E) (i : Nat) {sg vl mt lw ll la : Int → Int} {sz lk ch lp dp ln : Int} (hi : i + 6 < N) (hp : isP E σ i sg vl mt lw ll la sz lk ch lp dp ln) (x v : Int) (hs : 0 ≤ sz ∧ sz < 80) : CI E M_X6_add 1 [vr E i, vi x, vi v] N σ (fun y σ' => y = 1 ∧ isP E σ' i (up sg sz x) (up vl sz v) (up mt sz sz) (up lw sz 0) ll la (sz + 1) lk ch lp dp ln ∧ ∀ q, (q < i ∨ i + 6 < q) → σ' q = σ q) := by
  refine CT.of2 (own := RX6) (by decide) rfl (Nat.le_of_ble_eq_true rfl) ?_
  intro p e R s m args below meth c Q hF hr hlk hnm hz hR hQ
  obtain ⟨p0, p1, p2, p3, p4, p5, p6⟩ := hp
  have pb0 : i < N := by omega
  have pb1 : i + 1 < N := by omega
  have pb2 : i + 2 < N := by omega
  have pb3 : i + 3 < N := by omega
  have pb4 : i + 4 < N := by omega
  have pb5 : i + 5 < N := by omega
  have pb6 : i + 6 < N := by omega
  refine go_aload_n (pc := 0) hF dX6_add_0 0 rfl ?_
  refine go_get (pc := 1) hF fl_X6_30 dX6_add_1 pb0 p0 rfl ?_
  refine go_if_lt (pc := 4) hF 16 dX6_add_4 (by decide) (by omega) (fun bq4 => ?_) (fun bq4 => ?_)
  · exact absurd bq4 (by omega)
  · refine go_aload_n (pc := 7) hF dX6_add_7 0 rfl ?_
    refine go_get (pc := 8) hF fl_X6_30 dX6_add_8 pb0 p0 rfl ?_
    refine go_bipush (pc := 11) hF dX6_add_11 (by decide) ?_
    refine go_icmp_lt (pc := 13) hF 18 dX6_add_13 (by decide) (by omega) ⟨by decide, by decide⟩ (fun bq13 => ?_) (fun bq13 => ?_)
    · refine go_aload_n (pc := 18) hF dX6_add_18 0 rfl ?_
      refine go_get (pc := 19) hF fl_X6_9 dX6_add_19 pb0 p0 rfl ?_
      refine go_aload_n (pc := 22) hF dX6_add_22 0 rfl ?_
      refine go_get (pc := 23) hF fl_X6_30 dX6_add_23 pb0 p0 rfl ?_
      refine go_iload_n (pc := 26) hF dX6_add_26 1 rfl ?_
      refine go_iast (pc := 27) hF dX6_add_27 pb1 p1 (by omega) (fun s1 u_s1 f_s1 => ?_)
      have t_s1 := (f_s1 i (show i ≠ i + 1 by omega)).trans p0
      have t2_s1 := (f_s1 (i + 2) (show i + 2 ≠ i + 1 by omega)).trans p2
      have t3_s1 := (f_s1 (i + 3) (show i + 3 ≠ i + 1 by omega)).trans p3
      have t4_s1 := (f_s1 (i + 4) (show i + 4 ≠ i + 1 by omega)).trans p4
      have t5_s1 := (f_s1 (i + 5) (show i + 5 ≠ i + 1 by omega)).trans p5
      have t6_s1 := (f_s1 (i + 6) (show i + 6 ≠ i + 1 by omega)).trans p6
      refine go_aload_n (pc := 28) hF dX6_add_28 0 rfl ?_
      refine go_get (pc := 29) hF fl_X6_15 dX6_add_29 pb0 t_s1 rfl ?_
      refine go_aload_n (pc := 32) hF dX6_add_32 0 rfl ?_
      refine go_get (pc := 33) hF fl_X6_30 dX6_add_33 pb0 t_s1 rfl ?_
      refine go_iload_n (pc := 36) hF dX6_add_36 2 rfl ?_
      refine go_iast (pc := 37) hF dX6_add_37 pb2 t2_s1 (by omega) (fun s2 u_s2 f_s2 => ?_)
      have t_s2 := (f_s2 i (show i ≠ i + 2 by omega)).trans t_s1
      have t1_s2 := (f_s2 (i + 1) (show i + 1 ≠ i + 2 by omega)).trans u_s1
      have t3_s2 := (f_s2 (i + 3) (show i + 3 ≠ i + 2 by omega)).trans t3_s1
      have t4_s2 := (f_s2 (i + 4) (show i + 4 ≠ i + 2 by omega)).trans t4_s1
      have t5_s2 := (f_s2 (i + 5) (show i + 5 ≠ i + 2 by omega)).trans t5_s1
      have t6_s2 := (f_s2 (i + 6) (show i + 6 ≠ i + 2 by omega)).trans t6_s1
      refine go_aload_n (pc := 38) hF dX6_add_38 0 rfl ?_
      refine go_get (pc := 39) hF fl_X6_18 dX6_add_39 pb0 t_s2 rfl ?_
      refine go_aload_n (pc := 42) hF dX6_add_42 0 rfl ?_
      refine go_get (pc := 43) hF fl_X6_30 dX6_add_43 pb0 t_s2 rfl ?_
      refine go_aload_n (pc := 46) hF dX6_add_46 0 rfl ?_
      refine go_get (pc := 47) hF fl_X6_30 dX6_add_47 pb0 t_s2 rfl ?_
      refine go_iast (pc := 50) hF dX6_add_50 pb3 t3_s2 (by omega) (fun s3 u_s3 f_s3 => ?_)
      have t_s3 := (f_s3 i (show i ≠ i + 3 by omega)).trans t_s2
      have t1_s3 := (f_s3 (i + 1) (show i + 1 ≠ i + 3 by omega)).trans t1_s2
      have t2_s3 := (f_s3 (i + 2) (show i + 2 ≠ i + 3 by omega)).trans u_s2
      have t4_s3 := (f_s3 (i + 4) (show i + 4 ≠ i + 3 by omega)).trans t4_s2
      have t5_s3 := (f_s3 (i + 5) (show i + 5 ≠ i + 3 by omega)).trans t5_s2
      have t6_s3 := (f_s3 (i + 6) (show i + 6 ≠ i + 3 by omega)).trans t6_s2
      refine go_aload_n (pc := 51) hF dX6_add_51 0 rfl ?_
      refine go_get (pc := 52) hF fl_X6_21 dX6_add_52 pb0 t_s3 rfl ?_
      refine go_aload_n (pc := 55) hF dX6_add_55 0 rfl ?_
      refine go_get (pc := 56) hF fl_X6_30 dX6_add_56 pb0 t_s3 rfl ?_
      refine go_iconst (pc := 59) hF dX6_add_59 ?_
      refine go_iast (pc := 60) hF dX6_add_60 pb4 t4_s3 (by omega) (fun s4 u_s4 f_s4 => ?_)
      have t_s4 := (f_s4 i (show i ≠ i + 4 by omega)).trans t_s3
      have t1_s4 := (f_s4 (i + 1) (show i + 1 ≠ i + 4 by omega)).trans t1_s3
      have t2_s4 := (f_s4 (i + 2) (show i + 2 ≠ i + 4 by omega)).trans t2_s3
      have t3_s4 := (f_s4 (i + 3) (show i + 3 ≠ i + 4 by omega)).trans u_s3
      have t5_s4 := (f_s4 (i + 5) (show i + 5 ≠ i + 4 by omega)).trans t5_s3
      have t6_s4 := (f_s4 (i + 6) (show i + 6 ≠ i + 4 by omega)).trans t6_s3
      refine go_aload_n (pc := 61) hF dX6_add_61 0 rfl ?_
      refine go_dup (pc := 62) hF dX6_add_62 rfl ?_
      refine go_get (pc := 63) hF fl_X6_30 dX6_add_63 pb0 t_s4 rfl ?_
      refine go_iconst (pc := 66) hF dX6_add_66 ?_
      refine go_iadd (pc := 67) hF dX6_add_67 ?_
      refine go_put (pc := 68) hF [vr E (i + 1), vr E (i + 2), vr E (i + 3), vr E (i + 4), vr E (i + 5), vr E (i + 6), vi (sz + 1), vi lk, vi ch, vi lp, vi dp, vi ln] fl_X6_30 dX6_add_68 pb0 t_s4 rfl rfl rfl (Nat.le_of_ble_eq_true rfl) (fun s5 u_s5 f_s5 => ?_)
      have t1_s5 := (f_s5 (i + 1) (show i + 1 ≠ i by omega)).trans t1_s4
      have t2_s5 := (f_s5 (i + 2) (show i + 2 ≠ i by omega)).trans t2_s4
      have t3_s5 := (f_s5 (i + 3) (show i + 3 ≠ i by omega)).trans t3_s4
      have t4_s5 := (f_s5 (i + 4) (show i + 4 ≠ i by omega)).trans u_s4
      have t5_s5 := (f_s5 (i + 5) (show i + 5 ≠ i by omega)).trans t5_s4
      have t6_s5 := (f_s5 (i + 6) (show i + 6 ≠ i by omega)).trans t6_s4
      refine go_iconst (pc := 71) hF dX6_add_71 ?_
      exact go_zretQ hF hr hlk hQ dX6_add_72 (by decide) ⟨rfl, ⟨u_s5, t1_s5, t2_s5, t3_s5, t4_s5, t5_s5, t6_s5⟩, (fun j hj => by rw [f_s5 j (by omega), f_s4 j (by omega), f_s3 j (by omega), f_s2 j (by omega), f_s1 j (by omega)])⟩
    · exact absurd bq13 (by omega)
set_option maxHeartbeats 4000000 in
set_option maxRecDepth 100000 in
theorem c_X6_addLook (E : En) (N : Nat) (σ : Nat → va_E) (i : Nat) {sg vl mt lw ll la : Int → Int} {sz lk ch lp dp ln : Int} (hi : i + 6 < N) (hp : isP E σ i sg vl mt lw ll la sz lk ch lp dp ln) (x v : Int) (hs : 0 ≤ sz ∧ sz < 80) (hk : 0 ≤ lk ∧ lk < 24) (hx : 0 ≤ x ∧ x ≤ 5) (hn : 0 ≤ ln ∧ ln < 64) : CI E M_X6_addLook 2 [vr E i, vi x, vi v] N σ (fun y σ' => y = 1 ∧ isP E σ' i (up sg sz 0) (up vl sz lk) (up mt sz sz) (up lw sz 0) (up ll lk x) (up la lk v) (sz + 1) (lk + 1) ch lp dp (orb ln x) ∧ ∀ q, (q < i ∨ i + 6 < q) → σ' q = σ q) := by
  refine CT.of2 (own := RX6) (by decide) rfl (Nat.le_of_ble_eq_true rfl) ?_
  intro p e R s m args below meth c Q hF hr hlk hnm hz hR hQ
  obtain ⟨p0, p1, p2, p3, p4, p5, p6⟩ := hp
  have pb0 : i < N := by omega
  have pb1 : i + 1 < N := by omega
  have pb2 : i + 2 < N := by omega
  have pb3 : i + 3 < N := by omega
  have pb4 : i + 4 < N := by omega
  have pb5 : i + 5 < N := by omega
  have pb6 : i + 6 < N := by omega
  refine go_aload_n (pc := 0) hF dX6_addLook_0 0 rfl ?_
  refine go_get (pc := 1) hF fl_X6_34 dX6_addLook_1 pb0 p0 rfl ?_
  refine go_if_lt (pc := 4) hF 28 dX6_addLook_4 (by decide) (by omega) (fun bq4 => ?_) (fun bq4 => ?_)
  · exact absurd bq4 (by omega)
  · refine go_aload_n (pc := 7) hF dX6_addLook_7 0 rfl ?_
    refine go_get (pc := 8) hF fl_X6_34 dX6_addLook_8 pb0 p0 rfl ?_
    refine go_bipush (pc := 11) hF dX6_addLook_11 (by decide) ?_
    refine go_icmp_ge (pc := 13) hF 28 dX6_addLook_13 (by decide) (by omega) ⟨by decide, by decide⟩ (fun bq13 => ?_) (fun bq13 => ?_)
    · exact absurd bq13 (by omega)
    · refine go_aload_n (pc := 16) hF dX6_addLook_16 0 rfl ?_
      refine go_iconst (pc := 17) hF dX6_addLook_17 ?_
      refine go_aload_n (pc := 18) hF dX6_addLook_18 0 rfl ?_
      refine go_get (pc := 19) hF fl_X6_34 dX6_addLook_19 pb0 p0 rfl ?_
      refine go_callVI (pc := 22) hF [vi 0, vi lk] [] mv_X6_55 dX6_addLook_22 pb0 p0 (c_X6_add E N σ i hi ⟨p0, p1, p2, p3, p4, p5, p6⟩ 0 lk (by omega)) rfl rfl (Nat.le_of_ble_eq_true rfl) (by decide) ⟨Nat.zero_le _, Nat.zero_le _⟩ (fun r_s1 s1 h_s1 => ?_)
      obtain ⟨e_s1, ⟨t0_s1, t1_s1, t2_s1, t3_s1, t4_s1, t5_s1, t6_s1⟩, f_s1⟩ := h_s1
      subst e_s1
      refine go_if_ne (pc := 25) hF 30 dX6_addLook_25 (by decide) ⟨by decide, by decide⟩ (fun bq25 => ?_) (fun bq25 => ?_)
      · refine go_aload_n (pc := 30) hF dX6_addLook_30 0 rfl ?_
        refine go_get (pc := 31) hF fl_X6_24 dX6_addLook_31 pb0 t0_s1 rfl ?_
        refine go_aload_n (pc := 34) hF dX6_addLook_34 0 rfl ?_
        refine go_get (pc := 35) hF fl_X6_34 dX6_addLook_35 pb0 t0_s1 rfl ?_
        refine go_iload_n (pc := 38) hF dX6_addLook_38 1 rfl ?_
        refine go_iast (pc := 39) hF dX6_addLook_39 pb5 t5_s1 (by omega) (fun s2 u_s2 f_s2 => ?_)
        have t_s2 := (f_s2 i (show i ≠ i + 5 by omega)).trans t0_s1
        have t1_s2 := (f_s2 (i + 1) (show i + 1 ≠ i + 5 by omega)).trans t1_s1
        have t2_s2 := (f_s2 (i + 2) (show i + 2 ≠ i + 5 by omega)).trans t2_s1
        have t3_s2 := (f_s2 (i + 3) (show i + 3 ≠ i + 5 by omega)).trans t3_s1
        have t4_s2 := (f_s2 (i + 4) (show i + 4 ≠ i + 5 by omega)).trans t4_s1
        have t6_s2 := (f_s2 (i + 6) (show i + 6 ≠ i + 5 by omega)).trans t6_s1
        refine go_aload_n (pc := 40) hF dX6_addLook_40 0 rfl ?_
        refine go_get (pc := 41) hF fl_X6_27 dX6_addLook_41 pb0 t_s2 rfl ?_
        refine go_aload_n (pc := 44) hF dX6_addLook_44 0 rfl ?_
        refine go_get (pc := 45) hF fl_X6_34 dX6_addLook_45 pb0 t_s2 rfl ?_
        refine go_iload_n (pc := 48) hF dX6_addLook_48 2 rfl ?_
        refine go_iast (pc := 49) hF dX6_addLook_49 pb6 t6_s2 (by omega) (fun s3 u_s3 f_s3 => ?_)
        have t_s3 := (f_s3 i (show i ≠ i + 6 by omega)).trans t_s2
        have t1_s3 := (f_s3 (i + 1) (show i + 1 ≠ i + 6 by omega)).trans t1_s2
        have t2_s3 := (f_s3 (i + 2) (show i + 2 ≠ i + 6 by omega)).trans t2_s2
        have t3_s3 := (f_s3 (i + 3) (show i + 3 ≠ i + 6 by omega)).trans t3_s2
        have t4_s3 := (f_s3 (i + 4) (show i + 4 ≠ i + 6 by omega)).trans t4_s2
        have t5_s3 := (f_s3 (i + 5) (show i + 5 ≠ i + 6 by omega)).trans u_s2
        refine go_aload_n (pc := 50) hF dX6_addLook_50 0 rfl ?_
        refine go_dup (pc := 51) hF dX6_addLook_51 rfl ?_
        refine go_get (pc := 52) hF fl_X6_34 dX6_addLook_52 pb0 t_s3 rfl ?_
        refine go_iconst (pc := 55) hF dX6_addLook_55 ?_
        refine go_iadd (pc := 56) hF dX6_addLook_56 ?_
        refine go_put (pc := 57) hF [vr E (i + 1), vr E (i + 2), vr E (i + 3), vr E (i + 4), vr E (i + 5), vr E (i + 6), vi (sz + 1), vi (lk + 1), vi ch, vi lp, vi dp, vi ln] fl_X6_34 dX6_addLook_57 pb0 t_s3 rfl rfl rfl (Nat.le_of_ble_eq_true rfl) (fun s4 u_s4 f_s4 => ?_)
        have t1_s4 := (f_s4 (i + 1) (show i + 1 ≠ i by omega)).trans t1_s3
        have t2_s4 := (f_s4 (i + 2) (show i + 2 ≠ i by omega)).trans t2_s3
        have t3_s4 := (f_s4 (i + 3) (show i + 3 ≠ i by omega)).trans t3_s3
        have t4_s4 := (f_s4 (i + 4) (show i + 4 ≠ i by omega)).trans t4_s3
        have t5_s4 := (f_s4 (i + 5) (show i + 5 ≠ i by omega)).trans t5_s3
        have t6_s4 := (f_s4 (i + 6) (show i + 6 ≠ i by omega)).trans u_s3
        refine go_aload_n (pc := 60) hF dX6_addLook_60 0 rfl ?_
        refine go_dup (pc := 61) hF dX6_addLook_61 rfl ?_
        refine go_get (pc := 62) hF fl_X6_46 dX6_addLook_62 pb0 u_s4 rfl ?_
        refine go_iconst (pc := 65) hF dX6_addLook_65 ?_
        refine go_iload_n (pc := 66) hF dX6_addLook_66 1 rfl ?_
        refine go_ishl (pc := 67) hF (pw2 x) (pw2_shl (by omega)) dX6_addLook_67 ?_
        refine go_ior (pc := 68) hF (orb ln x) (orb_or (by omega) (by omega)) dX6_addLook_68 ?_
        refine go_put (pc := 69) hF [vr E (i + 1), vr E (i + 2), vr E (i + 3), vr E (i + 4), vr E (i + 5), vr E (i + 6), vi (sz + 1), vi (lk + 1), vi ch, vi lp, vi dp, vi (orb ln x)] fl_X6_46 dX6_addLook_69 pb0 u_s4 rfl rfl rfl (Nat.le_of_ble_eq_true rfl) (fun s5 u_s5 f_s5 => ?_)
        have t1_s5 := (f_s5 (i + 1) (show i + 1 ≠ i by omega)).trans t1_s4
        have t2_s5 := (f_s5 (i + 2) (show i + 2 ≠ i by omega)).trans t2_s4
        have t3_s5 := (f_s5 (i + 3) (show i + 3 ≠ i by omega)).trans t3_s4
        have t4_s5 := (f_s5 (i + 4) (show i + 4 ≠ i by omega)).trans t4_s4
        have t5_s5 := (f_s5 (i + 5) (show i + 5 ≠ i by omega)).trans t5_s4
        have t6_s5 := (f_s5 (i + 6) (show i + 6 ≠ i by omega)).trans t6_s4
        refine go_iconst (pc := 72) hF dX6_addLook_72 ?_
        exact go_zretQ hF hr hlk hQ dX6_addLook_73 (by decide) ⟨rfl, ⟨u_s5, t1_s5, t2_s5, t3_s5, t4_s5, t5_s5, t6_s5⟩, (fun j hj => by rw [f_s5 j (by omega), f_s4 j (by omega), f_s3 j (by omega), f_s2 j (by omega), f_s1 j (by omega)])⟩
      · exact absurd bq25 (by decide)
set_option maxHeartbeats 4000000 in
set_option maxRecDepth 100000 in
theorem c_X6_addLook_full (E : En) (N : Nat) (σ : Nat → va_E) (i : Nat) {sg vl mt lw ll la : Int → Int} {sz lk ch lp dp ln : Int} (hi : i + 6 < N) (hp : isP E σ i sg vl mt lw ll la sz lk ch lp dp ln) (x v : Int) (hk : lk = 24) : CP E M_X6_addLook 2 [vr E i, vi x, vi v] N σ 0 := by
  refine CT.of2 (own := RX6) (by decide) rfl (Nat.le_of_ble_eq_true rfl) ?_
  intro p e R s m args below meth c Q hF hr hlk hnm hz hR hQ
  obtain ⟨p0, p1, p2, p3, p4, p5, p6⟩ := hp
  have pb0 : i < N := by omega
  have pb1 : i + 1 < N := by omega
  have pb2 : i + 2 < N := by omega
  have pb3 : i + 3 < N := by omega
  have pb4 : i + 4 < N := by omega
  have pb5 : i + 5 < N := by omega
  have pb6 : i + 6 < N := by omega
  refine go_aload_n (pc := 0) hF dX6_addLook_0 0 rfl ?_
  refine go_get (pc := 1) hF fl_X6_34 dX6_addLook_1 pb0 p0 rfl ?_
  refine go_if_lt (pc := 4) hF 28 dX6_addLook_4 (by decide) (by omega) (fun bq4 => ?_) (fun bq4 => ?_)
  · exact absurd bq4 (by omega)
  · refine go_aload_n (pc := 7) hF dX6_addLook_7 0 rfl ?_
    refine go_get (pc := 8) hF fl_X6_34 dX6_addLook_8 pb0 p0 rfl ?_
    refine go_bipush (pc := 11) hF dX6_addLook_11 (by decide) ?_
    refine go_icmp_ge (pc := 13) hF 28 dX6_addLook_13 (by decide) (by omega) ⟨by decide, by decide⟩ (fun bq13 => ?_) (fun bq13 => ?_)
    · refine go_iconst (pc := 28) hF dX6_addLook_28 ?_
      exact go_zretQ hF hr hlk hQ dX6_addLook_29 (by decide) ⟨rfl, rfl⟩
    · exact absurd bq13 (by omega)
set_option maxHeartbeats 4000000 in
set_option maxRecDepth 100000 in
theorem c_X6_setMate (E : En) (N : Nat) (σ : Nat → va_E) (i : Nat) {sg vl mt lw ll la : Int → Int} {sz lk ch lp dp ln : Int} (hi : i + 6 < N) (hp : isP E σ i sg vl mt lw ll la sz lk ch lp dp ln) (ho : okP sg vl mt lw ll la sz lk ch lp dp ln) (a v : Int) (ha : 0 ≤ a ∧ a < sz ∧ a < 80) : CV E M_X6_setMate 2 [vr E i, vi a, vi v] N σ (fun σ' => isP E σ' i sg vl (up mt a v) lw ll la sz lk ch lp dp ln ∧ ∀ q, (q < i ∨ i + 6 < q) → σ' q = σ q) := by
  refine CT.of2 (own := RX6) (by decide) rfl (Nat.le_of_ble_eq_true rfl) ?_
  intro p e R s m args below meth c Q hF hr hlk hnm hz hR hQ
  obtain ⟨p0, p1, p2, p3, p4, p5, p6⟩ := hp
  have pb0 : i < N := by omega
  have pb1 : i + 1 < N := by omega
  have pb2 : i + 2 < N := by omega
  have pb3 : i + 3 < N := by omega
  have pb4 : i + 4 < N := by omega
  have pb5 : i + 5 < N := by omega
  have pb6 : i + 6 < N := by omega
  refine go_aload_n (pc := 0) hF dX6_setMate_0 0 rfl ?_
  refine go_iload_n (pc := 1) hF dX6_setMate_1 1 rfl ?_
  refine go_callVP (pc := 2) hF [vi a] [] mv_X6_59 dX6_setMate_2 pb0 p0 (c_X6_isSign E N σ i a (by omega) hi ⟨p0, p1, p2, p3, p4, p5, p6⟩ ho) rfl rfl (Nat.le_of_ble_eq_true rfl) (by decide) ⟨Nat.zero_le _, Nat.zero_le _⟩ ?_
  refine go_if_eq (pc := 5) hF 15 dX6_setMate_5 (by decide) (bI_rg _) (fun bq5 => ?_) (fun bq5 => ?_)
  · exact absurd ((bI_0 _).mp bq5) (by omega)
  · refine go_aload_n (pc := 8) hF dX6_setMate_8 0 rfl ?_
    refine go_get (pc := 9) hF fl_X6_18 dX6_setMate_9 pb0 p0 rfl ?_
    refine go_iload_n (pc := 12) hF dX6_setMate_12 1 rfl ?_
    refine go_iload_n (pc := 13) hF dX6_setMate_13 2 rfl ?_
    refine go_iast (pc := 14) hF dX6_setMate_14 pb3 p3 (by omega) (fun s1 u_s1 f_s1 => ?_)
    have t_s1 := (f_s1 i (show i ≠ i + 3 by omega)).trans p0
    have t1_s1 := (f_s1 (i + 1) (show i + 1 ≠ i + 3 by omega)).trans p1
    have t2_s1 := (f_s1 (i + 2) (show i + 2 ≠ i + 3 by omega)).trans p2
    have t4_s1 := (f_s1 (i + 4) (show i + 4 ≠ i + 3 by omega)).trans p4
    have t5_s1 := (f_s1 (i + 5) (show i + 5 ≠ i + 3 by omega)).trans p5
    have t6_s1 := (f_s1 (i + 6) (show i + 6 ≠ i + 3 by omega)).trans p6
    exact go_vretQ hF hr hlk hQ dX6_setMate_15 ⟨⟨t_s1, t1_s1, t2_s1, u_s1, t4_s1, t5_s1, t6_s1⟩, (fun j hj => by rw [f_s1 j (by omega)])⟩
set_option maxHeartbeats 4000000 in
set_option maxRecDepth 100000 in
theorem c_X6_addLineWithin (E : En) (N : Nat) (σ : Nat → va_E) (i : Nat) {sg vl mt lw ll la : Int → Int} {sz lk ch lp dp ln : Int} (hi : i + 6 < N) (hp : isP E σ i sg vl mt lw ll la sz lk ch lp dp ln) (ho : okP sg vl mt lw ll la sz lk ch lp dp ln) (a x : Int) (ha : 0 ≤ a ∧ a < sz ∧ a < 80) (hx : 0 ≤ x ∧ x ≤ 5) : CV E M_X6_addLineWithin 2 [vr E i, vi a, vi x] N σ (fun σ' => isP E σ' i sg vl mt (up lw a (orb (lw a) x)) ll la sz lk ch lp dp ln ∧ ∀ q, (q < i ∨ i + 6 < q) → σ' q = σ q) := by
  refine CT.of2 (own := RX6) (by decide) rfl (Nat.le_of_ble_eq_true rfl) ?_
  intro p e R s m args below meth c Q hF hr hlk hnm hz hR hQ
  obtain ⟨p0, p1, p2, p3, p4, p5, p6⟩ := hp
  have pb0 : i < N := by omega
  have pb1 : i + 1 < N := by omega
  have pb2 : i + 2 < N := by omega
  have pb3 : i + 3 < N := by omega
  have pb4 : i + 4 < N := by omega
  have pb5 : i + 5 < N := by omega
  have pb6 : i + 6 < N := by omega
  refine go_aload_n (pc := 0) hF dX6_addLineWithin_0 0 rfl ?_
  refine go_iload_n (pc := 1) hF dX6_addLineWithin_1 1 rfl ?_
  refine go_callVP (pc := 2) hF [vi a] [] mv_X6_59 dX6_addLineWithin_2 pb0 p0 (c_X6_isSign E N σ i a (by omega) hi ⟨p0, p1, p2, p3, p4, p5, p6⟩ ho) rfl rfl (Nat.le_of_ble_eq_true rfl) (by decide) ⟨Nat.zero_le _, Nat.zero_le _⟩ ?_
  refine go_if_eq (pc := 5) hF 20 dX6_addLineWithin_5 (by decide) (bI_rg _) (fun bq5 => ?_) (fun bq5 => ?_)
  · exact absurd ((bI_0 _).mp bq5) (by omega)
  · refine go_aload_n (pc := 8) hF dX6_addLineWithin_8 0 rfl ?_
    refine go_get (pc := 9) hF fl_X6_21 dX6_addLineWithin_9 pb0 p0 rfl ?_
    refine go_iload_n (pc := 12) hF dX6_addLineWithin_12 1 rfl ?_
    refine go_dup2 (pc := 13) hF dX6_addLineWithin_13 rfl rfl ?_
    refine go_iald (pc := 14) hF dX6_addLineWithin_14 pb4 p4 (by omega) ?_
    refine go_iconst (pc := 15) hF dX6_addLineWithin_15 ?_
    refine go_iload_n (pc := 16) hF dX6_addLineWithin_16 2 rfl ?_
    refine go_ishl (pc := 17) hF (pw2 x) (pw2_shl (by omega)) dX6_addLineWithin_17 ?_
    refine go_ior (pc := 18) hF (orb (lw a) x) (orb_or (ho.2.2.2.2.2.2.1 a ha.1 (by omega)).2.2.2 (by omega)) dX6_addLineWithin_18 ?_
    refine go_iast (pc := 19) hF dX6_addLineWithin_19 pb4 p4 (by omega) (fun s1 u_s1 f_s1 => ?_)
    have t_s1 := (f_s1 i (show i ≠ i + 4 by omega)).trans p0
    have t1_s1 := (f_s1 (i + 1) (show i + 1 ≠ i + 4 by omega)).trans p1
    have t2_s1 := (f_s1 (i + 2) (show i + 2 ≠ i + 4 by omega)).trans p2
    have t3_s1 := (f_s1 (i + 3) (show i + 3 ≠ i + 4 by omega)).trans p3
    have t5_s1 := (f_s1 (i + 5) (show i + 5 ≠ i + 4 by omega)).trans p5
    have t6_s1 := (f_s1 (i + 6) (show i + 6 ≠ i + 4 by omega)).trans p6
    exact go_vretQ hF hr hlk hQ dX6_addLineWithin_20 ⟨⟨t_s1, t1_s1, t2_s1, t3_s1, u_s1, t5_s1, t6_s1⟩, (fun j hj => by rw [f_s1 j (by omega)])⟩
/-- the history at cell 3: its ring at 4, eight caches behind that -/
def isH (E : En) (σ : Nat → va_E) (hr hw hk hp : Int → Int) (nx sz : Int) : Prop := σ 3 = ob 5 [vr E 4, vi nx, vi sz] ∧ σ 4 = ar E 4 8 (fun k => 5 + k) ∧ ∀ k : Nat, k < 8 → σ (5 + k) = ob 1 [vi (hr k), vi (hw k), vi (hk k), vi (hp k)]
set_option maxHeartbeats 4000000 in
set_option maxRecDepth 100000 in
theorem c_X5_remember (E : En) (N : Nat) (σ : Nat → va_E) (hN : 101 ≤ N) (xr xw xk xp : Int → Int) (nx sz r w k pr : Int) (hn : 0 ≤ nx ∧ nx ≤ 7) (hs : 0 ≤ sz ∧ sz ≤ 8) (yc : σ 1 = ob 1 [vi r, vi w, vi k, vi pr]) (hh : isH E σ xr xw xk xp nx sz) : CV E M_X5_remember 2 [vr E 3, vr E 1] N σ (fun σ' => isH E σ' (up xr nx r) (up xw nx w) (up xk nx k) (up xp nx pr) ((nx + 1) % 8) (min (sz + 1) 8) ∧ ∀ q, (q ≠ 3 ∧ (q < 5 ∨ 12 < q)) → σ' q = σ q) := by
  refine CT.of2 (own := RX5) (by decide) rfl (Nat.le_of_ble_eq_true rfl) ?_
  intro p e R s m args below meth c Q hF hr hlk hnm hz hR hQ
  obtain ⟨y3, y4, yq⟩ := hh
  have yq0 : σ 5 = ob 1 [vi (xr 0), vi (xw 0), vi (xk 0), vi (xp 0)] := yq 0 (by decide)
  have yq1 : σ 6 = ob 1 [vi (xr 1), vi (xw 1), vi (xk 1), vi (xp 1)] := yq 1 (by decide)
  have yq2 : σ 7 = ob 1 [vi (xr 2), vi (xw 2), vi (xk 2), vi (xp 2)] := yq 2 (by decide)
  have yq3 : σ 8 = ob 1 [vi (xr 3), vi (xw 3), vi (xk 3), vi (xp 3)] := yq 3 (by decide)
  have yq4 : σ 9 = ob 1 [vi (xr 4), vi (xw 4), vi (xk 4), vi (xp 4)] := yq 4 (by decide)
  have yq5 : σ 10 = ob 1 [vi (xr 5), vi (xw 5), vi (xk 5), vi (xp 5)] := yq 5 (by decide)
  have yq6 : σ 11 = ob 1 [vi (xr 6), vi (xw 6), vi (xk 6), vi (xp 6)] := yq 6 (by decide)
  have yq7 : σ 12 = ob 1 [vi (xr 7), vi (xw 7), vi (xk 7), vi (xp 7)] := yq 7 (by decide)
  obtain rfl | rfl | rfl | rfl | rfl | rfl | rfl | rfl : nx = 0 ∨ nx = 1 ∨ nx = 2 ∨ nx = 3 ∨ nx = 4 ∨ nx = 5 ∨ nx = 6 ∨ nx = 7 := by omega
  · refine go_aload_n (pc := 0) hF dX5_remember_0 0 rfl ?_
    refine go_get (pc := 1) hF fl_X5_11 dX5_remember_1 (by omega) y3 rfl ?_
    refine go_aload_n (pc := 4) hF dX5_remember_4 0 rfl ?_
    refine go_get (pc := 5) hF fl_X5_15 dX5_remember_5 (by omega) y3 rfl ?_
    refine go_bipush (pc := 8) hF dX5_remember_8 (by decide) ?_
    refine go_iand (pc := 10) hF 0 (by decide) dX5_remember_10 ?_
    refine go_aald (pc := 11) hF 4 5 dX5_remember_11 rfl (by omega) y4 (by omega) rfl ?_
    refine go_aload_n (pc := 12) hF dX5_remember_12 1 rfl ?_
    refine go_callVV (pc := 13) hF [vr E 1] [] mv_X5_23 dX5_remember_13 (by omega) yq0 (c_X1_setAs E N σ 5 1 _ _ _ _ _ _ _ _ (by omega) (by omega) (by omega) yq0 yc) rfl rfl (Nat.le_of_ble_eq_true rfl) (by decide) ⟨Nat.zero_le _, Nat.zero_le _⟩ (fun s1 h_s1 => ?_)
    obtain ⟨u0_s1, f_s1⟩ := h_s1
    have h_s1 := (f_s1 3 (by omega)).trans y3
    have rg_s1 := (f_s1 4 (by omega)).trans y4
    have ca_s1 := (f_s1 1 (by omega)).trans yc
    have q1_s1 := (f_s1 6 (by omega)).trans yq1
    have q2_s1 := (f_s1 7 (by omega)).trans yq2
    have q3_s1 := (f_s1 8 (by omega)).trans yq3
    have q4_s1 := (f_s1 9 (by omega)).trans yq4
    have q5_s1 := (f_s1 10 (by omega)).trans yq5
    have q6_s1 := (f_s1 11 (by omega)).trans yq6
    have q7_s1 := (f_s1 12 (by omega)).trans yq7
    refine go_aload_n (pc := 16) hF dX5_remember_16 0 rfl ?_
    refine go_aload_n (pc := 17) hF dX5_remember_17 0 rfl ?_
    refine go_get (pc := 18) hF fl_X5_15 dX5_remember_18 (by omega) h_s1 rfl ?_
    refine go_iconst (pc := 21) hF dX5_remember_21 ?_
    refine go_iadd (pc := 22) hF dX5_remember_22 ?_
    refine go_bipush (pc := 23) hF dX5_remember_23 (by decide) ?_
    refine go_iand (pc := 25) hF 1 (by decide) dX5_remember_25 ?_
    refine go_put (pc := 26) hF [vr E 4, vi 1, vi sz] fl_X5_15 dX5_remember_26 (by omega) h_s1 rfl rfl rfl (Nat.le_of_ble_eq_true rfl) (fun s2 u_s2 f_s2 => ?_)
    have rg_s2 := (f_s2 4 (show 4 ≠ 3 by omega)).trans rg_s1
    have ca_s2 := (f_s2 1 (show 1 ≠ 3 by omega)).trans ca_s1
    have q0_s2 := (f_s2 5 (show 5 ≠ 3 by omega)).trans u0_s1
    have q1_s2 := (f_s2 6 (show 6 ≠ 3 by omega)).trans q1_s1
    have q2_s2 := (f_s2 7 (show 7 ≠ 3 by omega)).trans q2_s1
    have q3_s2 := (f_s2 8 (show 8 ≠ 3 by omega)).trans q3_s1
    have q4_s2 := (f_s2 9 (show 9 ≠ 3 by omega)).trans q4_s1
    have q5_s2 := (f_s2 10 (show 10 ≠ 3 by omega)).trans q5_s1
    have q6_s2 := (f_s2 11 (show 11 ≠ 3 by omega)).trans q6_s1
    have q7_s2 := (f_s2 12 (show 12 ≠ 3 by omega)).trans q7_s1
    refine go_aload_n (pc := 29) hF dX5_remember_29 0 rfl ?_
    refine go_aload_n (pc := 30) hF dX5_remember_30 0 rfl ?_
    refine go_get (pc := 31) hF fl_X5_19 dX5_remember_31 (by omega) u_s2 rfl ?_
    refine go_iconst (pc := 34) hF dX5_remember_34 ?_
    refine go_iadd (pc := 35) hF dX5_remember_35 ?_
    refine go_bipush (pc := 36) hF dX5_remember_36 (by decide) ?_
    refine go_mmin (pc := 38) hF ms_X5_27 dX5_remember_38 (by omega) ⟨by decide, by decide⟩ (Nat.le_of_ble_eq_true rfl) (by decide) ⟨Nat.zero_le _, Nat.zero_le _⟩ ?_
    refine go_put (pc := 41) hF [vr E 4, vi 1, vi (min (sz + 1) 8)] fl_X5_19 dX5_remember_41 (by omega) u_s2 rfl rfl rfl (Nat.le_of_ble_eq_true rfl) (fun s3 u_s3 f_s3 => ?_)
    have rg_s3 := (f_s3 4 (show 4 ≠ 3 by omega)).trans rg_s2
    have ca_s3 := (f_s3 1 (show 1 ≠ 3 by omega)).trans ca_s2
    have q0_s3 := (f_s3 5 (show 5 ≠ 3 by omega)).trans q0_s2
    have q1_s3 := (f_s3 6 (show 6 ≠ 3 by omega)).trans q1_s2
    have q2_s3 := (f_s3 7 (show 7 ≠ 3 by omega)).trans q2_s2
    have q3_s3 := (f_s3 8 (show 8 ≠ 3 by omega)).trans q3_s2
    have q4_s3 := (f_s3 9 (show 9 ≠ 3 by omega)).trans q4_s2
    have q5_s3 := (f_s3 10 (show 10 ≠ 3 by omega)).trans q5_s2
    have q6_s3 := (f_s3 11 (show 11 ≠ 3 by omega)).trans q6_s2
    have q7_s3 := (f_s3 12 (show 12 ≠ 3 by omega)).trans q7_s2
    refine go_vretQ hF hr hlk hQ dX5_remember_44 ⟨⟨u_s3, rg_s3, fun z hz => ?_⟩, (fun j hj => by rw [f_s3 j (by omega), f_s2 j (by omega), f_s1 j (by omega)])⟩
    obtain rfl | rfl | rfl | rfl | rfl | rfl | rfl | rfl : z = 0 ∨ z = 1 ∨ z = 2 ∨ z = 3 ∨ z = 4 ∨ z = 5 ∨ z = 6 ∨ z = 7 := by omega
    · exact q0_s3
    · exact q1_s3
    · exact q2_s3
    · exact q3_s3
    · exact q4_s3
    · exact q5_s3
    · exact q6_s3
    · exact q7_s3
  · refine go_aload_n (pc := 0) hF dX5_remember_0 0 rfl ?_
    refine go_get (pc := 1) hF fl_X5_11 dX5_remember_1 (by omega) y3 rfl ?_
    refine go_aload_n (pc := 4) hF dX5_remember_4 0 rfl ?_
    refine go_get (pc := 5) hF fl_X5_15 dX5_remember_5 (by omega) y3 rfl ?_
    refine go_bipush (pc := 8) hF dX5_remember_8 (by decide) ?_
    refine go_iand (pc := 10) hF 1 (by decide) dX5_remember_10 ?_
    refine go_aald (pc := 11) hF 4 6 dX5_remember_11 rfl (by omega) y4 (by omega) rfl ?_
    refine go_aload_n (pc := 12) hF dX5_remember_12 1 rfl ?_
    refine go_callVV (pc := 13) hF [vr E 1] [] mv_X5_23 dX5_remember_13 (by omega) yq1 (c_X1_setAs E N σ 6 1 _ _ _ _ _ _ _ _ (by omega) (by omega) (by omega) yq1 yc) rfl rfl (Nat.le_of_ble_eq_true rfl) (by decide) ⟨Nat.zero_le _, Nat.zero_le _⟩ (fun s4 h_s4 => ?_)
    obtain ⟨u0_s4, f_s4⟩ := h_s4
    have h_s4 := (f_s4 3 (by omega)).trans y3
    have rg_s4 := (f_s4 4 (by omega)).trans y4
    have ca_s4 := (f_s4 1 (by omega)).trans yc
    have q0_s4 := (f_s4 5 (by omega)).trans yq0
    have q2_s4 := (f_s4 7 (by omega)).trans yq2
    have q3_s4 := (f_s4 8 (by omega)).trans yq3
    have q4_s4 := (f_s4 9 (by omega)).trans yq4
    have q5_s4 := (f_s4 10 (by omega)).trans yq5
    have q6_s4 := (f_s4 11 (by omega)).trans yq6
    have q7_s4 := (f_s4 12 (by omega)).trans yq7
    refine go_aload_n (pc := 16) hF dX5_remember_16 0 rfl ?_
    refine go_aload_n (pc := 17) hF dX5_remember_17 0 rfl ?_
    refine go_get (pc := 18) hF fl_X5_15 dX5_remember_18 (by omega) h_s4 rfl ?_
    refine go_iconst (pc := 21) hF dX5_remember_21 ?_
    refine go_iadd (pc := 22) hF dX5_remember_22 ?_
    refine go_bipush (pc := 23) hF dX5_remember_23 (by decide) ?_
    refine go_iand (pc := 25) hF 2 (by decide) dX5_remember_25 ?_
    refine go_put (pc := 26) hF [vr E 4, vi 2, vi sz] fl_X5_15 dX5_remember_26 (by omega) h_s4 rfl rfl rfl (Nat.le_of_ble_eq_true rfl) (fun s5 u_s5 f_s5 => ?_)
    have rg_s5 := (f_s5 4 (show 4 ≠ 3 by omega)).trans rg_s4
    have ca_s5 := (f_s5 1 (show 1 ≠ 3 by omega)).trans ca_s4
    have q0_s5 := (f_s5 5 (show 5 ≠ 3 by omega)).trans q0_s4
    have q1_s5 := (f_s5 6 (show 6 ≠ 3 by omega)).trans u0_s4
    have q2_s5 := (f_s5 7 (show 7 ≠ 3 by omega)).trans q2_s4
    have q3_s5 := (f_s5 8 (show 8 ≠ 3 by omega)).trans q3_s4
    have q4_s5 := (f_s5 9 (show 9 ≠ 3 by omega)).trans q4_s4
    have q5_s5 := (f_s5 10 (show 10 ≠ 3 by omega)).trans q5_s4
    have q6_s5 := (f_s5 11 (show 11 ≠ 3 by omega)).trans q6_s4
    have q7_s5 := (f_s5 12 (show 12 ≠ 3 by omega)).trans q7_s4
    refine go_aload_n (pc := 29) hF dX5_remember_29 0 rfl ?_
    refine go_aload_n (pc := 30) hF dX5_remember_30 0 rfl ?_
    refine go_get (pc := 31) hF fl_X5_19 dX5_remember_31 (by omega) u_s5 rfl ?_
    refine go_iconst (pc := 34) hF dX5_remember_34 ?_
    refine go_iadd (pc := 35) hF dX5_remember_35 ?_
    refine go_bipush (pc := 36) hF dX5_remember_36 (by decide) ?_
    refine go_mmin (pc := 38) hF ms_X5_27 dX5_remember_38 (by omega) ⟨by decide, by decide⟩ (Nat.le_of_ble_eq_true rfl) (by decide) ⟨Nat.zero_le _, Nat.zero_le _⟩ ?_
    refine go_put (pc := 41) hF [vr E 4, vi 2, vi (min (sz + 1) 8)] fl_X5_19 dX5_remember_41 (by omega) u_s5 rfl rfl rfl (Nat.le_of_ble_eq_true rfl) (fun s6 u_s6 f_s6 => ?_)
    have rg_s6 := (f_s6 4 (show 4 ≠ 3 by omega)).trans rg_s5
    have ca_s6 := (f_s6 1 (show 1 ≠ 3 by omega)).trans ca_s5
    have q0_s6 := (f_s6 5 (show 5 ≠ 3 by omega)).trans q0_s5
    have q1_s6 := (f_s6 6 (show 6 ≠ 3 by omega)).trans q1_s5
    have q2_s6 := (f_s6 7 (show 7 ≠ 3 by omega)).trans q2_s5
    have q3_s6 := (f_s6 8 (show 8 ≠ 3 by omega)).trans q3_s5
    have q4_s6 := (f_s6 9 (show 9 ≠ 3 by omega)).trans q4_s5
    have q5_s6 := (f_s6 10 (show 10 ≠ 3 by omega)).trans q5_s5
    have q6_s6 := (f_s6 11 (show 11 ≠ 3 by omega)).trans q6_s5
    have q7_s6 := (f_s6 12 (show 12 ≠ 3 by omega)).trans q7_s5
    refine go_vretQ hF hr hlk hQ dX5_remember_44 ⟨⟨u_s6, rg_s6, fun z hz => ?_⟩, (fun j hj => by rw [f_s6 j (by omega), f_s5 j (by omega), f_s4 j (by omega)])⟩
    obtain rfl | rfl | rfl | rfl | rfl | rfl | rfl | rfl : z = 0 ∨ z = 1 ∨ z = 2 ∨ z = 3 ∨ z = 4 ∨ z = 5 ∨ z = 6 ∨ z = 7 := by omega
    · exact q0_s6
    · exact q1_s6
    · exact q2_s6
    · exact q3_s6
    · exact q4_s6
    · exact q5_s6
    · exact q6_s6
    · exact q7_s6
  · refine go_aload_n (pc := 0) hF dX5_remember_0 0 rfl ?_
    refine go_get (pc := 1) hF fl_X5_11 dX5_remember_1 (by omega) y3 rfl ?_
    refine go_aload_n (pc := 4) hF dX5_remember_4 0 rfl ?_
    refine go_get (pc := 5) hF fl_X5_15 dX5_remember_5 (by omega) y3 rfl ?_
    refine go_bipush (pc := 8) hF dX5_remember_8 (by decide) ?_
    refine go_iand (pc := 10) hF 2 (by decide) dX5_remember_10 ?_
    refine go_aald (pc := 11) hF 4 7 dX5_remember_11 rfl (by omega) y4 (by omega) rfl ?_
    refine go_aload_n (pc := 12) hF dX5_remember_12 1 rfl ?_
    refine go_callVV (pc := 13) hF [vr E 1] [] mv_X5_23 dX5_remember_13 (by omega) yq2 (c_X1_setAs E N σ 7 1 _ _ _ _ _ _ _ _ (by omega) (by omega) (by omega) yq2 yc) rfl rfl (Nat.le_of_ble_eq_true rfl) (by decide) ⟨Nat.zero_le _, Nat.zero_le _⟩ (fun s7 h_s7 => ?_)
    obtain ⟨u0_s7, f_s7⟩ := h_s7
    have h_s7 := (f_s7 3 (by omega)).trans y3
    have rg_s7 := (f_s7 4 (by omega)).trans y4
    have ca_s7 := (f_s7 1 (by omega)).trans yc
    have q0_s7 := (f_s7 5 (by omega)).trans yq0
    have q1_s7 := (f_s7 6 (by omega)).trans yq1
    have q3_s7 := (f_s7 8 (by omega)).trans yq3
    have q4_s7 := (f_s7 9 (by omega)).trans yq4
    have q5_s7 := (f_s7 10 (by omega)).trans yq5
    have q6_s7 := (f_s7 11 (by omega)).trans yq6
    have q7_s7 := (f_s7 12 (by omega)).trans yq7
    refine go_aload_n (pc := 16) hF dX5_remember_16 0 rfl ?_
    refine go_aload_n (pc := 17) hF dX5_remember_17 0 rfl ?_
    refine go_get (pc := 18) hF fl_X5_15 dX5_remember_18 (by omega) h_s7 rfl ?_
    refine go_iconst (pc := 21) hF dX5_remember_21 ?_
    refine go_iadd (pc := 22) hF dX5_remember_22 ?_
    refine go_bipush (pc := 23) hF dX5_remember_23 (by decide) ?_
    refine go_iand (pc := 25) hF 3 (by decide) dX5_remember_25 ?_
    refine go_put (pc := 26) hF [vr E 4, vi 3, vi sz] fl_X5_15 dX5_remember_26 (by omega) h_s7 rfl rfl rfl (Nat.le_of_ble_eq_true rfl) (fun s8 u_s8 f_s8 => ?_)
    have rg_s8 := (f_s8 4 (show 4 ≠ 3 by omega)).trans rg_s7
    have ca_s8 := (f_s8 1 (show 1 ≠ 3 by omega)).trans ca_s7
    have q0_s8 := (f_s8 5 (show 5 ≠ 3 by omega)).trans q0_s7
    have q1_s8 := (f_s8 6 (show 6 ≠ 3 by omega)).trans q1_s7
    have q2_s8 := (f_s8 7 (show 7 ≠ 3 by omega)).trans u0_s7
    have q3_s8 := (f_s8 8 (show 8 ≠ 3 by omega)).trans q3_s7
    have q4_s8 := (f_s8 9 (show 9 ≠ 3 by omega)).trans q4_s7
    have q5_s8 := (f_s8 10 (show 10 ≠ 3 by omega)).trans q5_s7
    have q6_s8 := (f_s8 11 (show 11 ≠ 3 by omega)).trans q6_s7
    have q7_s8 := (f_s8 12 (show 12 ≠ 3 by omega)).trans q7_s7
    refine go_aload_n (pc := 29) hF dX5_remember_29 0 rfl ?_
    refine go_aload_n (pc := 30) hF dX5_remember_30 0 rfl ?_
    refine go_get (pc := 31) hF fl_X5_19 dX5_remember_31 (by omega) u_s8 rfl ?_
    refine go_iconst (pc := 34) hF dX5_remember_34 ?_
    refine go_iadd (pc := 35) hF dX5_remember_35 ?_
    refine go_bipush (pc := 36) hF dX5_remember_36 (by decide) ?_
    refine go_mmin (pc := 38) hF ms_X5_27 dX5_remember_38 (by omega) ⟨by decide, by decide⟩ (Nat.le_of_ble_eq_true rfl) (by decide) ⟨Nat.zero_le _, Nat.zero_le _⟩ ?_
    refine go_put (pc := 41) hF [vr E 4, vi 3, vi (min (sz + 1) 8)] fl_X5_19 dX5_remember_41 (by omega) u_s8 rfl rfl rfl (Nat.le_of_ble_eq_true rfl) (fun s9 u_s9 f_s9 => ?_)
    have rg_s9 := (f_s9 4 (show 4 ≠ 3 by omega)).trans rg_s8
    have ca_s9 := (f_s9 1 (show 1 ≠ 3 by omega)).trans ca_s8
    have q0_s9 := (f_s9 5 (show 5 ≠ 3 by omega)).trans q0_s8
    have q1_s9 := (f_s9 6 (show 6 ≠ 3 by omega)).trans q1_s8
    have q2_s9 := (f_s9 7 (show 7 ≠ 3 by omega)).trans q2_s8
    have q3_s9 := (f_s9 8 (show 8 ≠ 3 by omega)).trans q3_s8
    have q4_s9 := (f_s9 9 (show 9 ≠ 3 by omega)).trans q4_s8
    have q5_s9 := (f_s9 10 (show 10 ≠ 3 by omega)).trans q5_s8
    have q6_s9 := (f_s9 11 (show 11 ≠ 3 by omega)).trans q6_s8
    have q7_s9 := (f_s9 12 (show 12 ≠ 3 by omega)).trans q7_s8
    refine go_vretQ hF hr hlk hQ dX5_remember_44 ⟨⟨u_s9, rg_s9, fun z hz => ?_⟩, (fun j hj => by rw [f_s9 j (by omega), f_s8 j (by omega), f_s7 j (by omega)])⟩
    obtain rfl | rfl | rfl | rfl | rfl | rfl | rfl | rfl : z = 0 ∨ z = 1 ∨ z = 2 ∨ z = 3 ∨ z = 4 ∨ z = 5 ∨ z = 6 ∨ z = 7 := by omega
    · exact q0_s9
    · exact q1_s9
    · exact q2_s9
    · exact q3_s9
    · exact q4_s9
    · exact q5_s9
    · exact q6_s9
    · exact q7_s9
  · refine go_aload_n (pc := 0) hF dX5_remember_0 0 rfl ?_
    refine go_get (pc := 1) hF fl_X5_11 dX5_remember_1 (by omega) y3 rfl ?_
    refine go_aload_n (pc := 4) hF dX5_remember_4 0 rfl ?_
    refine go_get (pc := 5) hF fl_X5_15 dX5_remember_5 (by omega) y3 rfl ?_
    refine go_bipush (pc := 8) hF dX5_remember_8 (by decide) ?_
    refine go_iand (pc := 10) hF 3 (by decide) dX5_remember_10 ?_
    refine go_aald (pc := 11) hF 4 8 dX5_remember_11 rfl (by omega) y4 (by omega) rfl ?_
    refine go_aload_n (pc := 12) hF dX5_remember_12 1 rfl ?_
    refine go_callVV (pc := 13) hF [vr E 1] [] mv_X5_23 dX5_remember_13 (by omega) yq3 (c_X1_setAs E N σ 8 1 _ _ _ _ _ _ _ _ (by omega) (by omega) (by omega) yq3 yc) rfl rfl (Nat.le_of_ble_eq_true rfl) (by decide) ⟨Nat.zero_le _, Nat.zero_le _⟩ (fun s10 h_s10 => ?_)
    obtain ⟨u0_s10, f_s10⟩ := h_s10
    have h_s10 := (f_s10 3 (by omega)).trans y3
    have rg_s10 := (f_s10 4 (by omega)).trans y4
    have ca_s10 := (f_s10 1 (by omega)).trans yc
    have q0_s10 := (f_s10 5 (by omega)).trans yq0
    have q1_s10 := (f_s10 6 (by omega)).trans yq1
    have q2_s10 := (f_s10 7 (by omega)).trans yq2
    have q4_s10 := (f_s10 9 (by omega)).trans yq4
    have q5_s10 := (f_s10 10 (by omega)).trans yq5
    have q6_s10 := (f_s10 11 (by omega)).trans yq6
    have q7_s10 := (f_s10 12 (by omega)).trans yq7
    refine go_aload_n (pc := 16) hF dX5_remember_16 0 rfl ?_
    refine go_aload_n (pc := 17) hF dX5_remember_17 0 rfl ?_
    refine go_get (pc := 18) hF fl_X5_15 dX5_remember_18 (by omega) h_s10 rfl ?_
    refine go_iconst (pc := 21) hF dX5_remember_21 ?_
    refine go_iadd (pc := 22) hF dX5_remember_22 ?_
    refine go_bipush (pc := 23) hF dX5_remember_23 (by decide) ?_
    refine go_iand (pc := 25) hF 4 (by decide) dX5_remember_25 ?_
    refine go_put (pc := 26) hF [vr E 4, vi 4, vi sz] fl_X5_15 dX5_remember_26 (by omega) h_s10 rfl rfl rfl (Nat.le_of_ble_eq_true rfl) (fun s11 u_s11 f_s11 => ?_)
    have rg_s11 := (f_s11 4 (show 4 ≠ 3 by omega)).trans rg_s10
    have ca_s11 := (f_s11 1 (show 1 ≠ 3 by omega)).trans ca_s10
    have q0_s11 := (f_s11 5 (show 5 ≠ 3 by omega)).trans q0_s10
    have q1_s11 := (f_s11 6 (show 6 ≠ 3 by omega)).trans q1_s10
    have q2_s11 := (f_s11 7 (show 7 ≠ 3 by omega)).trans q2_s10
    have q3_s11 := (f_s11 8 (show 8 ≠ 3 by omega)).trans u0_s10
    have q4_s11 := (f_s11 9 (show 9 ≠ 3 by omega)).trans q4_s10
    have q5_s11 := (f_s11 10 (show 10 ≠ 3 by omega)).trans q5_s10
    have q6_s11 := (f_s11 11 (show 11 ≠ 3 by omega)).trans q6_s10
    have q7_s11 := (f_s11 12 (show 12 ≠ 3 by omega)).trans q7_s10
    refine go_aload_n (pc := 29) hF dX5_remember_29 0 rfl ?_
    refine go_aload_n (pc := 30) hF dX5_remember_30 0 rfl ?_
    refine go_get (pc := 31) hF fl_X5_19 dX5_remember_31 (by omega) u_s11 rfl ?_
    refine go_iconst (pc := 34) hF dX5_remember_34 ?_
    refine go_iadd (pc := 35) hF dX5_remember_35 ?_
    refine go_bipush (pc := 36) hF dX5_remember_36 (by decide) ?_
    refine go_mmin (pc := 38) hF ms_X5_27 dX5_remember_38 (by omega) ⟨by decide, by decide⟩ (Nat.le_of_ble_eq_true rfl) (by decide) ⟨Nat.zero_le _, Nat.zero_le _⟩ ?_
    refine go_put (pc := 41) hF [vr E 4, vi 4, vi (min (sz + 1) 8)] fl_X5_19 dX5_remember_41 (by omega) u_s11 rfl rfl rfl (Nat.le_of_ble_eq_true rfl) (fun s12 u_s12 f_s12 => ?_)
    have rg_s12 := (f_s12 4 (show 4 ≠ 3 by omega)).trans rg_s11
    have ca_s12 := (f_s12 1 (show 1 ≠ 3 by omega)).trans ca_s11
    have q0_s12 := (f_s12 5 (show 5 ≠ 3 by omega)).trans q0_s11
    have q1_s12 := (f_s12 6 (show 6 ≠ 3 by omega)).trans q1_s11
    have q2_s12 := (f_s12 7 (show 7 ≠ 3 by omega)).trans q2_s11
    have q3_s12 := (f_s12 8 (show 8 ≠ 3 by omega)).trans q3_s11
    have q4_s12 := (f_s12 9 (show 9 ≠ 3 by omega)).trans q4_s11
    have q5_s12 := (f_s12 10 (show 10 ≠ 3 by omega)).trans q5_s11
    have q6_s12 := (f_s12 11 (show 11 ≠ 3 by omega)).trans q6_s11
    have q7_s12 := (f_s12 12 (show 12 ≠ 3 by omega)).trans q7_s11
    refine go_vretQ hF hr hlk hQ dX5_remember_44 ⟨⟨u_s12, rg_s12, fun z hz => ?_⟩, (fun j hj => by rw [f_s12 j (by omega), f_s11 j (by omega), f_s10 j (by omega)])⟩
    obtain rfl | rfl | rfl | rfl | rfl | rfl | rfl | rfl : z = 0 ∨ z = 1 ∨ z = 2 ∨ z = 3 ∨ z = 4 ∨ z = 5 ∨ z = 6 ∨ z = 7 := by omega
    · exact q0_s12
    · exact q1_s12
    · exact q2_s12
    · exact q3_s12
    · exact q4_s12
    · exact q5_s12
    · exact q6_s12
    · exact q7_s12
  · refine go_aload_n (pc := 0) hF dX5_remember_0 0 rfl ?_
    refine go_get (pc := 1) hF fl_X5_11 dX5_remember_1 (by omega) y3 rfl ?_
    refine go_aload_n (pc := 4) hF dX5_remember_4 0 rfl ?_
    refine go_get (pc := 5) hF fl_X5_15 dX5_remember_5 (by omega) y3 rfl ?_
    refine go_bipush (pc := 8) hF dX5_remember_8 (by decide) ?_
    refine go_iand (pc := 10) hF 4 (by decide) dX5_remember_10 ?_
    refine go_aald (pc := 11) hF 4 9 dX5_remember_11 rfl (by omega) y4 (by omega) rfl ?_
    refine go_aload_n (pc := 12) hF dX5_remember_12 1 rfl ?_
    refine go_callVV (pc := 13) hF [vr E 1] [] mv_X5_23 dX5_remember_13 (by omega) yq4 (c_X1_setAs E N σ 9 1 _ _ _ _ _ _ _ _ (by omega) (by omega) (by omega) yq4 yc) rfl rfl (Nat.le_of_ble_eq_true rfl) (by decide) ⟨Nat.zero_le _, Nat.zero_le _⟩ (fun s13 h_s13 => ?_)
    obtain ⟨u0_s13, f_s13⟩ := h_s13
    have h_s13 := (f_s13 3 (by omega)).trans y3
    have rg_s13 := (f_s13 4 (by omega)).trans y4
    have ca_s13 := (f_s13 1 (by omega)).trans yc
    have q0_s13 := (f_s13 5 (by omega)).trans yq0
    have q1_s13 := (f_s13 6 (by omega)).trans yq1
    have q2_s13 := (f_s13 7 (by omega)).trans yq2
    have q3_s13 := (f_s13 8 (by omega)).trans yq3
    have q5_s13 := (f_s13 10 (by omega)).trans yq5
    have q6_s13 := (f_s13 11 (by omega)).trans yq6
    have q7_s13 := (f_s13 12 (by omega)).trans yq7
    refine go_aload_n (pc := 16) hF dX5_remember_16 0 rfl ?_
    refine go_aload_n (pc := 17) hF dX5_remember_17 0 rfl ?_
    refine go_get (pc := 18) hF fl_X5_15 dX5_remember_18 (by omega) h_s13 rfl ?_
    refine go_iconst (pc := 21) hF dX5_remember_21 ?_
    refine go_iadd (pc := 22) hF dX5_remember_22 ?_
    refine go_bipush (pc := 23) hF dX5_remember_23 (by decide) ?_
    refine go_iand (pc := 25) hF 5 (by decide) dX5_remember_25 ?_
    refine go_put (pc := 26) hF [vr E 4, vi 5, vi sz] fl_X5_15 dX5_remember_26 (by omega) h_s13 rfl rfl rfl (Nat.le_of_ble_eq_true rfl) (fun s14 u_s14 f_s14 => ?_)
    have rg_s14 := (f_s14 4 (show 4 ≠ 3 by omega)).trans rg_s13
    have ca_s14 := (f_s14 1 (show 1 ≠ 3 by omega)).trans ca_s13
    have q0_s14 := (f_s14 5 (show 5 ≠ 3 by omega)).trans q0_s13
    have q1_s14 := (f_s14 6 (show 6 ≠ 3 by omega)).trans q1_s13
    have q2_s14 := (f_s14 7 (show 7 ≠ 3 by omega)).trans q2_s13
    have q3_s14 := (f_s14 8 (show 8 ≠ 3 by omega)).trans q3_s13
    have q4_s14 := (f_s14 9 (show 9 ≠ 3 by omega)).trans u0_s13
    have q5_s14 := (f_s14 10 (show 10 ≠ 3 by omega)).trans q5_s13
    have q6_s14 := (f_s14 11 (show 11 ≠ 3 by omega)).trans q6_s13
    have q7_s14 := (f_s14 12 (show 12 ≠ 3 by omega)).trans q7_s13
    refine go_aload_n (pc := 29) hF dX5_remember_29 0 rfl ?_
    refine go_aload_n (pc := 30) hF dX5_remember_30 0 rfl ?_
    refine go_get (pc := 31) hF fl_X5_19 dX5_remember_31 (by omega) u_s14 rfl ?_
    refine go_iconst (pc := 34) hF dX5_remember_34 ?_
    refine go_iadd (pc := 35) hF dX5_remember_35 ?_
    refine go_bipush (pc := 36) hF dX5_remember_36 (by decide) ?_
    refine go_mmin (pc := 38) hF ms_X5_27 dX5_remember_38 (by omega) ⟨by decide, by decide⟩ (Nat.le_of_ble_eq_true rfl) (by decide) ⟨Nat.zero_le _, Nat.zero_le _⟩ ?_
    refine go_put (pc := 41) hF [vr E 4, vi 5, vi (min (sz + 1) 8)] fl_X5_19 dX5_remember_41 (by omega) u_s14 rfl rfl rfl (Nat.le_of_ble_eq_true rfl) (fun s15 u_s15 f_s15 => ?_)
    have rg_s15 := (f_s15 4 (show 4 ≠ 3 by omega)).trans rg_s14
    have ca_s15 := (f_s15 1 (show 1 ≠ 3 by omega)).trans ca_s14
    have q0_s15 := (f_s15 5 (show 5 ≠ 3 by omega)).trans q0_s14
    have q1_s15 := (f_s15 6 (show 6 ≠ 3 by omega)).trans q1_s14
    have q2_s15 := (f_s15 7 (show 7 ≠ 3 by omega)).trans q2_s14
    have q3_s15 := (f_s15 8 (show 8 ≠ 3 by omega)).trans q3_s14
    have q4_s15 := (f_s15 9 (show 9 ≠ 3 by omega)).trans q4_s14
    have q5_s15 := (f_s15 10 (show 10 ≠ 3 by omega)).trans q5_s14
    have q6_s15 := (f_s15 11 (show 11 ≠ 3 by omega)).trans q6_s14
    have q7_s15 := (f_s15 12 (show 12 ≠ 3 by omega)).trans q7_s14
    refine go_vretQ hF hr hlk hQ dX5_remember_44 ⟨⟨u_s15, rg_s15, fun z hz => ?_⟩, (fun j hj => by rw [f_s15 j (by omega), f_s14 j (by omega), f_s13 j (by omega)])⟩
    obtain rfl | rfl | rfl | rfl | rfl | rfl | rfl | rfl : z = 0 ∨ z = 1 ∨ z = 2 ∨ z = 3 ∨ z = 4 ∨ z = 5 ∨ z = 6 ∨ z = 7 := by omega
    · exact q0_s15
    · exact q1_s15
    · exact q2_s15
    · exact q3_s15
    · exact q4_s15
    · exact q5_s15
    · exact q6_s15
    · exact q7_s15
  · refine go_aload_n (pc := 0) hF dX5_remember_0 0 rfl ?_
    refine go_get (pc := 1) hF fl_X5_11 dX5_remember_1 (by omega) y3 rfl ?_
    refine go_aload_n (pc := 4) hF dX5_remember_4 0 rfl ?_
    refine go_get (pc := 5) hF fl_X5_15 dX5_remember_5 (by omega) y3 rfl ?_
    refine go_bipush (pc := 8) hF dX5_remember_8 (by decide) ?_
    refine go_iand (pc := 10) hF 5 (by decide) dX5_remember_10 ?_
    refine go_aald (pc := 11) hF 4 10 dX5_remember_11 rfl (by omega) y4 (by omega) rfl ?_
    refine go_aload_n (pc := 12) hF dX5_remember_12 1 rfl ?_
    refine go_callVV (pc := 13) hF [vr E 1] [] mv_X5_23 dX5_remember_13 (by omega) yq5 (c_X1_setAs E N σ 10 1 _ _ _ _ _ _ _ _ (by omega) (by omega) (by omega) yq5 yc) rfl rfl (Nat.le_of_ble_eq_true rfl) (by decide) ⟨Nat.zero_le _, Nat.zero_le _⟩ (fun s16 h_s16 => ?_)
    obtain ⟨u0_s16, f_s16⟩ := h_s16
    have h_s16 := (f_s16 3 (by omega)).trans y3
    have rg_s16 := (f_s16 4 (by omega)).trans y4
    have ca_s16 := (f_s16 1 (by omega)).trans yc
    have q0_s16 := (f_s16 5 (by omega)).trans yq0
    have q1_s16 := (f_s16 6 (by omega)).trans yq1
    have q2_s16 := (f_s16 7 (by omega)).trans yq2
    have q3_s16 := (f_s16 8 (by omega)).trans yq3
    have q4_s16 := (f_s16 9 (by omega)).trans yq4
    have q6_s16 := (f_s16 11 (by omega)).trans yq6
    have q7_s16 := (f_s16 12 (by omega)).trans yq7
    refine go_aload_n (pc := 16) hF dX5_remember_16 0 rfl ?_
    refine go_aload_n (pc := 17) hF dX5_remember_17 0 rfl ?_
    refine go_get (pc := 18) hF fl_X5_15 dX5_remember_18 (by omega) h_s16 rfl ?_
    refine go_iconst (pc := 21) hF dX5_remember_21 ?_
    refine go_iadd (pc := 22) hF dX5_remember_22 ?_
    refine go_bipush (pc := 23) hF dX5_remember_23 (by decide) ?_
    refine go_iand (pc := 25) hF 6 (by decide) dX5_remember_25 ?_
    refine go_put (pc := 26) hF [vr E 4, vi 6, vi sz] fl_X5_15 dX5_remember_26 (by omega) h_s16 rfl rfl rfl (Nat.le_of_ble_eq_true rfl) (fun s17 u_s17 f_s17 => ?_)
    have rg_s17 := (f_s17 4 (show 4 ≠ 3 by omega)).trans rg_s16
    have ca_s17 := (f_s17 1 (show 1 ≠ 3 by omega)).trans ca_s16
    have q0_s17 := (f_s17 5 (show 5 ≠ 3 by omega)).trans q0_s16
    have q1_s17 := (f_s17 6 (show 6 ≠ 3 by omega)).trans q1_s16
    have q2_s17 := (f_s17 7 (show 7 ≠ 3 by omega)).trans q2_s16
    have q3_s17 := (f_s17 8 (show 8 ≠ 3 by omega)).trans q3_s16
    have q4_s17 := (f_s17 9 (show 9 ≠ 3 by omega)).trans q4_s16
    have q5_s17 := (f_s17 10 (show 10 ≠ 3 by omega)).trans u0_s16
    have q6_s17 := (f_s17 11 (show 11 ≠ 3 by omega)).trans q6_s16
    have q7_s17 := (f_s17 12 (show 12 ≠ 3 by omega)).trans q7_s16
    refine go_aload_n (pc := 29) hF dX5_remember_29 0 rfl ?_
    refine go_aload_n (pc := 30) hF dX5_remember_30 0 rfl ?_
    refine go_get (pc := 31) hF fl_X5_19 dX5_remember_31 (by omega) u_s17 rfl ?_
    refine go_iconst (pc := 34) hF dX5_remember_34 ?_
    refine go_iadd (pc := 35) hF dX5_remember_35 ?_
    refine go_bipush (pc := 36) hF dX5_remember_36 (by decide) ?_
    refine go_mmin (pc := 38) hF ms_X5_27 dX5_remember_38 (by omega) ⟨by decide, by decide⟩ (Nat.le_of_ble_eq_true rfl) (by decide) ⟨Nat.zero_le _, Nat.zero_le _⟩ ?_
    refine go_put (pc := 41) hF [vr E 4, vi 6, vi (min (sz + 1) 8)] fl_X5_19 dX5_remember_41 (by omega) u_s17 rfl rfl rfl (Nat.le_of_ble_eq_true rfl) (fun s18 u_s18 f_s18 => ?_)
    have rg_s18 := (f_s18 4 (show 4 ≠ 3 by omega)).trans rg_s17
    have ca_s18 := (f_s18 1 (show 1 ≠ 3 by omega)).trans ca_s17
    have q0_s18 := (f_s18 5 (show 5 ≠ 3 by omega)).trans q0_s17
    have q1_s18 := (f_s18 6 (show 6 ≠ 3 by omega)).trans q1_s17
    have q2_s18 := (f_s18 7 (show 7 ≠ 3 by omega)).trans q2_s17
    have q3_s18 := (f_s18 8 (show 8 ≠ 3 by omega)).trans q3_s17
    have q4_s18 := (f_s18 9 (show 9 ≠ 3 by omega)).trans q4_s17
    have q5_s18 := (f_s18 10 (show 10 ≠ 3 by omega)).trans q5_s17
    have q6_s18 := (f_s18 11 (show 11 ≠ 3 by omega)).trans q6_s17
    have q7_s18 := (f_s18 12 (show 12 ≠ 3 by omega)).trans q7_s17
    refine go_vretQ hF hr hlk hQ dX5_remember_44 ⟨⟨u_s18, rg_s18, fun z hz => ?_⟩, (fun j hj => by rw [f_s18 j (by omega), f_s17 j (by omega), f_s16 j (by omega)])⟩
    obtain rfl | rfl | rfl | rfl | rfl | rfl | rfl | rfl : z = 0 ∨ z = 1 ∨ z = 2 ∨ z = 3 ∨ z = 4 ∨ z = 5 ∨ z = 6 ∨ z = 7 := by omega
    · exact q0_s18
    · exact q1_s18
    · exact q2_s18
    · exact q3_s18
    · exact q4_s18
    · exact q5_s18
    · exact q6_s18
    · exact q7_s18
  · refine go_aload_n (pc := 0) hF dX5_remember_0 0 rfl ?_
    refine go_get (pc := 1) hF fl_X5_11 dX5_remember_1 (by omega) y3 rfl ?_
    refine go_aload_n (pc := 4) hF dX5_remember_4 0 rfl ?_
    refine go_get (pc := 5) hF fl_X5_15 dX5_remember_5 (by omega) y3 rfl ?_
    refine go_bipush (pc := 8) hF dX5_remember_8 (by decide) ?_
    refine go_iand (pc := 10) hF 6 (by decide) dX5_remember_10 ?_
    refine go_aald (pc := 11) hF 4 11 dX5_remember_11 rfl (by omega) y4 (by omega) rfl ?_
    refine go_aload_n (pc := 12) hF dX5_remember_12 1 rfl ?_
    refine go_callVV (pc := 13) hF [vr E 1] [] mv_X5_23 dX5_remember_13 (by omega) yq6 (c_X1_setAs E N σ 11 1 _ _ _ _ _ _ _ _ (by omega) (by omega) (by omega) yq6 yc) rfl rfl (Nat.le_of_ble_eq_true rfl) (by decide) ⟨Nat.zero_le _, Nat.zero_le _⟩ (fun s19 h_s19 => ?_)
    obtain ⟨u0_s19, f_s19⟩ := h_s19
    have h_s19 := (f_s19 3 (by omega)).trans y3
    have rg_s19 := (f_s19 4 (by omega)).trans y4
    have ca_s19 := (f_s19 1 (by omega)).trans yc
    have q0_s19 := (f_s19 5 (by omega)).trans yq0
    have q1_s19 := (f_s19 6 (by omega)).trans yq1
    have q2_s19 := (f_s19 7 (by omega)).trans yq2
    have q3_s19 := (f_s19 8 (by omega)).trans yq3
    have q4_s19 := (f_s19 9 (by omega)).trans yq4
    have q5_s19 := (f_s19 10 (by omega)).trans yq5
    have q7_s19 := (f_s19 12 (by omega)).trans yq7
    refine go_aload_n (pc := 16) hF dX5_remember_16 0 rfl ?_
    refine go_aload_n (pc := 17) hF dX5_remember_17 0 rfl ?_
    refine go_get (pc := 18) hF fl_X5_15 dX5_remember_18 (by omega) h_s19 rfl ?_
    refine go_iconst (pc := 21) hF dX5_remember_21 ?_
    refine go_iadd (pc := 22) hF dX5_remember_22 ?_
    refine go_bipush (pc := 23) hF dX5_remember_23 (by decide) ?_
    refine go_iand (pc := 25) hF 7 (by decide) dX5_remember_25 ?_
    refine go_put (pc := 26) hF [vr E 4, vi 7, vi sz] fl_X5_15 dX5_remember_26 (by omega) h_s19 rfl rfl rfl (Nat.le_of_ble_eq_true rfl) (fun s20 u_s20 f_s20 => ?_)
    have rg_s20 := (f_s20 4 (show 4 ≠ 3 by omega)).trans rg_s19
    have ca_s20 := (f_s20 1 (show 1 ≠ 3 by omega)).trans ca_s19
    have q0_s20 := (f_s20 5 (show 5 ≠ 3 by omega)).trans q0_s19
    have q1_s20 := (f_s20 6 (show 6 ≠ 3 by omega)).trans q1_s19
    have q2_s20 := (f_s20 7 (show 7 ≠ 3 by omega)).trans q2_s19
    have q3_s20 := (f_s20 8 (show 8 ≠ 3 by omega)).trans q3_s19
    have q4_s20 := (f_s20 9 (show 9 ≠ 3 by omega)).trans q4_s19
    have q5_s20 := (f_s20 10 (show 10 ≠ 3 by omega)).trans q5_s19
    have q6_s20 := (f_s20 11 (show 11 ≠ 3 by omega)).trans u0_s19
    have q7_s20 := (f_s20 12 (show 12 ≠ 3 by omega)).trans q7_s19
    refine go_aload_n (pc := 29) hF dX5_remember_29 0 rfl ?_
    refine go_aload_n (pc := 30) hF dX5_remember_30 0 rfl ?_
    refine go_get (pc := 31) hF fl_X5_19 dX5_remember_31 (by omega) u_s20 rfl ?_
    refine go_iconst (pc := 34) hF dX5_remember_34 ?_
    refine go_iadd (pc := 35) hF dX5_remember_35 ?_
    refine go_bipush (pc := 36) hF dX5_remember_36 (by decide) ?_
    refine go_mmin (pc := 38) hF ms_X5_27 dX5_remember_38 (by omega) ⟨by decide, by decide⟩ (Nat.le_of_ble_eq_true rfl) (by decide) ⟨Nat.zero_le _, Nat.zero_le _⟩ ?_
    refine go_put (pc := 41) hF [vr E 4, vi 7, vi (min (sz + 1) 8)] fl_X5_19 dX5_remember_41 (by omega) u_s20 rfl rfl rfl (Nat.le_of_ble_eq_true rfl) (fun s21 u_s21 f_s21 => ?_)
    have rg_s21 := (f_s21 4 (show 4 ≠ 3 by omega)).trans rg_s20
    have ca_s21 := (f_s21 1 (show 1 ≠ 3 by omega)).trans ca_s20
    have q0_s21 := (f_s21 5 (show 5 ≠ 3 by omega)).trans q0_s20
    have q1_s21 := (f_s21 6 (show 6 ≠ 3 by omega)).trans q1_s20
    have q2_s21 := (f_s21 7 (show 7 ≠ 3 by omega)).trans q2_s20
    have q3_s21 := (f_s21 8 (show 8 ≠ 3 by omega)).trans q3_s20
    have q4_s21 := (f_s21 9 (show 9 ≠ 3 by omega)).trans q4_s20
    have q5_s21 := (f_s21 10 (show 10 ≠ 3 by omega)).trans q5_s20
    have q6_s21 := (f_s21 11 (show 11 ≠ 3 by omega)).trans q6_s20
    have q7_s21 := (f_s21 12 (show 12 ≠ 3 by omega)).trans q7_s20
    refine go_vretQ hF hr hlk hQ dX5_remember_44 ⟨⟨u_s21, rg_s21, fun z hz => ?_⟩, (fun j hj => by rw [f_s21 j (by omega), f_s20 j (by omega), f_s19 j (by omega)])⟩
    obtain rfl | rfl | rfl | rfl | rfl | rfl | rfl | rfl : z = 0 ∨ z = 1 ∨ z = 2 ∨ z = 3 ∨ z = 4 ∨ z = 5 ∨ z = 6 ∨ z = 7 := by omega
    · exact q0_s21
    · exact q1_s21
    · exact q2_s21
    · exact q3_s21
    · exact q4_s21
    · exact q5_s21
    · exact q6_s21
    · exact q7_s21
  · refine go_aload_n (pc := 0) hF dX5_remember_0 0 rfl ?_
    refine go_get (pc := 1) hF fl_X5_11 dX5_remember_1 (by omega) y3 rfl ?_
    refine go_aload_n (pc := 4) hF dX5_remember_4 0 rfl ?_
    refine go_get (pc := 5) hF fl_X5_15 dX5_remember_5 (by omega) y3 rfl ?_
    refine go_bipush (pc := 8) hF dX5_remember_8 (by decide) ?_
    refine go_iand (pc := 10) hF 7 (by decide) dX5_remember_10 ?_
    refine go_aald (pc := 11) hF 4 12 dX5_remember_11 rfl (by omega) y4 (by omega) rfl ?_
    refine go_aload_n (pc := 12) hF dX5_remember_12 1 rfl ?_
    refine go_callVV (pc := 13) hF [vr E 1] [] mv_X5_23 dX5_remember_13 (by omega) yq7 (c_X1_setAs E N σ 12 1 _ _ _ _ _ _ _ _ (by omega) (by omega) (by omega) yq7 yc) rfl rfl (Nat.le_of_ble_eq_true rfl) (by decide) ⟨Nat.zero_le _, Nat.zero_le _⟩ (fun s22 h_s22 => ?_)
    obtain ⟨u0_s22, f_s22⟩ := h_s22
    have h_s22 := (f_s22 3 (by omega)).trans y3
    have rg_s22 := (f_s22 4 (by omega)).trans y4
    have ca_s22 := (f_s22 1 (by omega)).trans yc
    have q0_s22 := (f_s22 5 (by omega)).trans yq0
    have q1_s22 := (f_s22 6 (by omega)).trans yq1
    have q2_s22 := (f_s22 7 (by omega)).trans yq2
    have q3_s22 := (f_s22 8 (by omega)).trans yq3
    have q4_s22 := (f_s22 9 (by omega)).trans yq4
    have q5_s22 := (f_s22 10 (by omega)).trans yq5
    have q6_s22 := (f_s22 11 (by omega)).trans yq6
    refine go_aload_n (pc := 16) hF dX5_remember_16 0 rfl ?_
    refine go_aload_n (pc := 17) hF dX5_remember_17 0 rfl ?_
    refine go_get (pc := 18) hF fl_X5_15 dX5_remember_18 (by omega) h_s22 rfl ?_
    refine go_iconst (pc := 21) hF dX5_remember_21 ?_
    refine go_iadd (pc := 22) hF dX5_remember_22 ?_
    refine go_bipush (pc := 23) hF dX5_remember_23 (by decide) ?_
    refine go_iand (pc := 25) hF 0 (by decide) dX5_remember_25 ?_
    refine go_put (pc := 26) hF [vr E 4, vi 0, vi sz] fl_X5_15 dX5_remember_26 (by omega) h_s22 rfl rfl rfl (Nat.le_of_ble_eq_true rfl) (fun s23 u_s23 f_s23 => ?_)
    have rg_s23 := (f_s23 4 (show 4 ≠ 3 by omega)).trans rg_s22
    have ca_s23 := (f_s23 1 (show 1 ≠ 3 by omega)).trans ca_s22
    have q0_s23 := (f_s23 5 (show 5 ≠ 3 by omega)).trans q0_s22
    have q1_s23 := (f_s23 6 (show 6 ≠ 3 by omega)).trans q1_s22
    have q2_s23 := (f_s23 7 (show 7 ≠ 3 by omega)).trans q2_s22
    have q3_s23 := (f_s23 8 (show 8 ≠ 3 by omega)).trans q3_s22
    have q4_s23 := (f_s23 9 (show 9 ≠ 3 by omega)).trans q4_s22
    have q5_s23 := (f_s23 10 (show 10 ≠ 3 by omega)).trans q5_s22
    have q6_s23 := (f_s23 11 (show 11 ≠ 3 by omega)).trans q6_s22
    have q7_s23 := (f_s23 12 (show 12 ≠ 3 by omega)).trans u0_s22
    refine go_aload_n (pc := 29) hF dX5_remember_29 0 rfl ?_
    refine go_aload_n (pc := 30) hF dX5_remember_30 0 rfl ?_
    refine go_get (pc := 31) hF fl_X5_19 dX5_remember_31 (by omega) u_s23 rfl ?_
    refine go_iconst (pc := 34) hF dX5_remember_34 ?_
    refine go_iadd (pc := 35) hF dX5_remember_35 ?_
    refine go_bipush (pc := 36) hF dX5_remember_36 (by decide) ?_
    refine go_mmin (pc := 38) hF ms_X5_27 dX5_remember_38 (by omega) ⟨by decide, by decide⟩ (Nat.le_of_ble_eq_true rfl) (by decide) ⟨Nat.zero_le _, Nat.zero_le _⟩ ?_
    refine go_put (pc := 41) hF [vr E 4, vi 0, vi (min (sz + 1) 8)] fl_X5_19 dX5_remember_41 (by omega) u_s23 rfl rfl rfl (Nat.le_of_ble_eq_true rfl) (fun s24 u_s24 f_s24 => ?_)
    have rg_s24 := (f_s24 4 (show 4 ≠ 3 by omega)).trans rg_s23
    have ca_s24 := (f_s24 1 (show 1 ≠ 3 by omega)).trans ca_s23
    have q0_s24 := (f_s24 5 (show 5 ≠ 3 by omega)).trans q0_s23
    have q1_s24 := (f_s24 6 (show 6 ≠ 3 by omega)).trans q1_s23
    have q2_s24 := (f_s24 7 (show 7 ≠ 3 by omega)).trans q2_s23
    have q3_s24 := (f_s24 8 (show 8 ≠ 3 by omega)).trans q3_s23
    have q4_s24 := (f_s24 9 (show 9 ≠ 3 by omega)).trans q4_s23
    have q5_s24 := (f_s24 10 (show 10 ≠ 3 by omega)).trans q5_s23
    have q6_s24 := (f_s24 11 (show 11 ≠ 3 by omega)).trans q6_s23
    have q7_s24 := (f_s24 12 (show 12 ≠ 3 by omega)).trans q7_s23
    refine go_vretQ hF hr hlk hQ dX5_remember_44 ⟨⟨u_s24, rg_s24, fun z hz => ?_⟩, (fun j hj => by rw [f_s24 j (by omega), f_s23 j (by omega), f_s22 j (by omega)])⟩
    obtain rfl | rfl | rfl | rfl | rfl | rfl | rfl | rfl : z = 0 ∨ z = 1 ∨ z = 2 ∨ z = 3 ∨ z = 4 ∨ z = 5 ∨ z = 6 ∨ z = 7 := by omega
    · exact q0_s24
    · exact q1_s24
    · exact q2_s24
    · exact q3_s24
    · exact q4_s24
    · exact q5_s24
    · exact q6_s24
    · exact q7_s24
set_option maxHeartbeats 4000000 in
set_option maxRecDepth 100000 in
theorem c_X5_bringBack (E : En) (N : Nat) (σ : Nat → va_E) (hN : 101 ≤ N) (xr xw xk xp : Int → Int) (nx sz r w k pr : Int) (hn : 0 ≤ nx ∧ nx ≤ 7) (hs : 0 ≤ sz ∧ sz ≤ 8) (yc : σ 1 = ob 1 [vi r, vi w, vi k, vi pr]) (hh : isH E σ xr xw xk xp nx sz) (hs1 : 1 ≤ sz) : CV E M_X5_bringBack 2 [vr E 3, vr E 1] N σ (fun σ' => σ' 1 = ob 1 [vi (xr ((nx + 7) % 8)), vi (xw ((nx + 7) % 8)), vi (xk ((nx + 7) % 8)), vi (xp ((nx + 7) % 8))] ∧ isH E σ' xr xw xk xp ((nx + 7) % 8) (sz - 1) ∧ ∀ q, (q ≠ 3 ∧ q ≠ 1) → σ' q = σ q) := by
  refine CT.of2 (own := RX5) (by decide) rfl (Nat.le_of_ble_eq_true rfl) ?_
  intro p e R s m args below meth c Q hF hr hlk hnm hz hR hQ
  obtain ⟨y3, y4, yq⟩ := hh
  have yq0 : σ 5 = ob 1 [vi (xr 0), vi (xw 0), vi (xk 0), vi (xp 0)] := yq 0 (by decide)
  have yq1 : σ 6 = ob 1 [vi (xr 1), vi (xw 1), vi (xk 1), vi (xp 1)] := yq 1 (by decide)
  have yq2 : σ 7 = ob 1 [vi (xr 2), vi (xw 2), vi (xk 2), vi (xp 2)] := yq 2 (by decide)
  have yq3 : σ 8 = ob 1 [vi (xr 3), vi (xw 3), vi (xk 3), vi (xp 3)] := yq 3 (by decide)
  have yq4 : σ 9 = ob 1 [vi (xr 4), vi (xw 4), vi (xk 4), vi (xp 4)] := yq 4 (by decide)
  have yq5 : σ 10 = ob 1 [vi (xr 5), vi (xw 5), vi (xk 5), vi (xp 5)] := yq 5 (by decide)
  have yq6 : σ 11 = ob 1 [vi (xr 6), vi (xw 6), vi (xk 6), vi (xp 6)] := yq 6 (by decide)
  have yq7 : σ 12 = ob 1 [vi (xr 7), vi (xw 7), vi (xk 7), vi (xp 7)] := yq 7 (by decide)
  obtain rfl | rfl | rfl | rfl | rfl | rfl | rfl | rfl : nx = 0 ∨ nx = 1 ∨ nx = 2 ∨ nx = 3 ∨ nx = 4 ∨ nx = 5 ∨ nx = 6 ∨ nx = 7 := by omega
  · refine go_aload_n (pc := 0) hF dX5_bringBack_0 0 rfl ?_
    refine go_get (pc := 1) hF fl_X5_19 dX5_bringBack_1 (by omega) y3 rfl ?_
    refine go_if_ne (pc := 4) hF 8 dX5_bringBack_4 (by decide) (by omega) (fun bq4 => ?_) (fun bq4 => ?_)
    · refine go_aload_n (pc := 8) hF dX5_bringBack_8 0 rfl ?_
      refine go_aload_n (pc := 9) hF dX5_bringBack_9 0 rfl ?_
      refine go_get (pc := 10) hF fl_X5_15 dX5_bringBack_10 (by omega) y3 rfl ?_
      refine go_iconst (pc := 13) hF dX5_bringBack_13 ?_
      refine go_isub (pc := 14) hF dX5_bringBack_14 ?_
      refine go_bipush (pc := 15) hF dX5_bringBack_15 (by decide) ?_
      refine go_iand (pc := 17) hF 7 (by decide) dX5_bringBack_17 ?_
      refine go_put (pc := 18) hF [vr E 4, vi 7, vi sz] fl_X5_15 dX5_bringBack_18 (by omega) y3 rfl rfl rfl (Nat.le_of_ble_eq_true rfl) (fun s1 u_s1 f_s1 => ?_)
      have rg_s1 := (f_s1 4 (show 4 ≠ 3 by omega)).trans y4
      have ca_s1 := (f_s1 1 (show 1 ≠ 3 by omega)).trans yc
      have q0_s1 := (f_s1 5 (show 5 ≠ 3 by omega)).trans yq0
      have q1_s1 := (f_s1 6 (show 6 ≠ 3 by omega)).trans yq1
      have q2_s1 := (f_s1 7 (show 7 ≠ 3 by omega)).trans yq2
      have q3_s1 := (f_s1 8 (show 8 ≠ 3 by omega)).trans yq3
      have q4_s1 := (f_s1 9 (show 9 ≠ 3 by omega)).trans yq4
      have q5_s1 := (f_s1 10 (show 10 ≠ 3 by omega)).trans yq5
      have q6_s1 := (f_s1 11 (show 11 ≠ 3 by omega)).trans yq6
      have q7_s1 := (f_s1 12 (show 12 ≠ 3 by omega)).trans yq7
      refine go_aload_n (pc := 21) hF dX5_bringBack_21 1 rfl ?_
      refine go_aload_n (pc := 22) hF dX5_bringBack_22 0 rfl ?_
      refine go_get (pc := 23) hF fl_X5_11 dX5_bringBack_23 (by omega) u_s1 rfl ?_
      refine go_aload_n (pc := 26) hF dX5_bringBack_26 0 rfl ?_
      refine go_get (pc := 27) hF fl_X5_15 dX5_bringBack_27 (by omega) u_s1 rfl ?_
      refine go_bipush (pc := 30) hF dX5_bringBack_30 (by decide) ?_
      refine go_iand (pc := 32) hF 7 (by decide) dX5_bringBack_32 ?_
      refine go_aald (pc := 33) hF 4 12 dX5_bringBack_33 rfl (by omega) rg_s1 (by omega) rfl ?_
      refine go_callVV (pc := 34) hF [vr E 12] [] mv_X5_23 dX5_bringBack_34 (by omega) ca_s1 (c_X1_setAs E N s1 1 12 _ _ _ _ _ _ _ _ (by omega) (by omega) (by omega) ca_s1 q7_s1) rfl rfl (Nat.le_of_ble_eq_true rfl) (by decide) ⟨Nat.zero_le _, Nat.zero_le _⟩ (fun s2 h_s2 => ?_)
      obtain ⟨u0_s2, f_s2⟩ := h_s2
      have h_s2 := (f_s2 3 (by omega)).trans u_s1
      have rg_s2 := (f_s2 4 (by omega)).trans rg_s1
      have q0_s2 := (f_s2 5 (by omega)).trans q0_s1
      have q1_s2 := (f_s2 6 (by omega)).trans q1_s1
      have q2_s2 := (f_s2 7 (by omega)).trans q2_s1
      have q3_s2 := (f_s2 8 (by omega)).trans q3_s1
      have q4_s2 := (f_s2 9 (by omega)).trans q4_s1
      have q5_s2 := (f_s2 10 (by omega)).trans q5_s1
      have q6_s2 := (f_s2 11 (by omega)).trans q6_s1
      have q7_s2 := (f_s2 12 (by omega)).trans q7_s1
      refine go_aload_n (pc := 37) hF dX5_bringBack_37 0 rfl ?_
      refine go_dup (pc := 38) hF dX5_bringBack_38 rfl ?_
      refine go_get (pc := 39) hF fl_X5_19 dX5_bringBack_39 (by omega) h_s2 rfl ?_
      refine go_iconst (pc := 42) hF dX5_bringBack_42 ?_
      refine go_isub (pc := 43) hF dX5_bringBack_43 ?_
      refine go_put (pc := 44) hF [vr E 4, vi 7, vi (sz - 1)] fl_X5_19 dX5_bringBack_44 (by omega) h_s2 rfl rfl rfl (Nat.le_of_ble_eq_true rfl) (fun s3 u_s3 f_s3 => ?_)
      have rg_s3 := (f_s3 4 (show 4 ≠ 3 by omega)).trans rg_s2
      have ca_s3 := (f_s3 1 (show 1 ≠ 3 by omega)).trans u0_s2
      have q0_s3 := (f_s3 5 (show 5 ≠ 3 by omega)).trans q0_s2
      have q1_s3 := (f_s3 6 (show 6 ≠ 3 by omega)).trans q1_s2
      have q2_s3 := (f_s3 7 (show 7 ≠ 3 by omega)).trans q2_s2
      have q3_s3 := (f_s3 8 (show 8 ≠ 3 by omega)).trans q3_s2
      have q4_s3 := (f_s3 9 (show 9 ≠ 3 by omega)).trans q4_s2
      have q5_s3 := (f_s3 10 (show 10 ≠ 3 by omega)).trans q5_s2
      have q6_s3 := (f_s3 11 (show 11 ≠ 3 by omega)).trans q6_s2
      have q7_s3 := (f_s3 12 (show 12 ≠ 3 by omega)).trans q7_s2
      refine go_vretQ hF hr hlk hQ dX5_bringBack_47 ⟨ca_s3, ⟨u_s3, rg_s3, fun z hz => ?_⟩, (fun j hj => by rw [f_s3 j (by omega), f_s2 j (by omega), f_s1 j (by omega)])⟩
      obtain rfl | rfl | rfl | rfl | rfl | rfl | rfl | rfl : z = 0 ∨ z = 1 ∨ z = 2 ∨ z = 3 ∨ z = 4 ∨ z = 5 ∨ z = 6 ∨ z = 7 := by omega
      · exact q0_s3
      · exact q1_s3
      · exact q2_s3
      · exact q3_s3
      · exact q4_s3
      · exact q5_s3
      · exact q6_s3
      · exact q7_s3
    · exact absurd bq4 (by omega)
  · refine go_aload_n (pc := 0) hF dX5_bringBack_0 0 rfl ?_
    refine go_get (pc := 1) hF fl_X5_19 dX5_bringBack_1 (by omega) y3 rfl ?_
    refine go_if_ne (pc := 4) hF 8 dX5_bringBack_4 (by decide) (by omega) (fun bq4 => ?_) (fun bq4 => ?_)
    · refine go_aload_n (pc := 8) hF dX5_bringBack_8 0 rfl ?_
      refine go_aload_n (pc := 9) hF dX5_bringBack_9 0 rfl ?_
      refine go_get (pc := 10) hF fl_X5_15 dX5_bringBack_10 (by omega) y3 rfl ?_
      refine go_iconst (pc := 13) hF dX5_bringBack_13 ?_
      refine go_isub (pc := 14) hF dX5_bringBack_14 ?_
      refine go_bipush (pc := 15) hF dX5_bringBack_15 (by decide) ?_
      refine go_iand (pc := 17) hF 0 (by decide) dX5_bringBack_17 ?_
      refine go_put (pc := 18) hF [vr E 4, vi 0, vi sz] fl_X5_15 dX5_bringBack_18 (by omega) y3 rfl rfl rfl (Nat.le_of_ble_eq_true rfl) (fun s4 u_s4 f_s4 => ?_)
      have rg_s4 := (f_s4 4 (show 4 ≠ 3 by omega)).trans y4
      have ca_s4 := (f_s4 1 (show 1 ≠ 3 by omega)).trans yc
      have q0_s4 := (f_s4 5 (show 5 ≠ 3 by omega)).trans yq0
      have q1_s4 := (f_s4 6 (show 6 ≠ 3 by omega)).trans yq1
      have q2_s4 := (f_s4 7 (show 7 ≠ 3 by omega)).trans yq2
      have q3_s4 := (f_s4 8 (show 8 ≠ 3 by omega)).trans yq3
      have q4_s4 := (f_s4 9 (show 9 ≠ 3 by omega)).trans yq4
      have q5_s4 := (f_s4 10 (show 10 ≠ 3 by omega)).trans yq5
      have q6_s4 := (f_s4 11 (show 11 ≠ 3 by omega)).trans yq6
      have q7_s4 := (f_s4 12 (show 12 ≠ 3 by omega)).trans yq7
      refine go_aload_n (pc := 21) hF dX5_bringBack_21 1 rfl ?_
      refine go_aload_n (pc := 22) hF dX5_bringBack_22 0 rfl ?_
      refine go_get (pc := 23) hF fl_X5_11 dX5_bringBack_23 (by omega) u_s4 rfl ?_
      refine go_aload_n (pc := 26) hF dX5_bringBack_26 0 rfl ?_
      refine go_get (pc := 27) hF fl_X5_15 dX5_bringBack_27 (by omega) u_s4 rfl ?_
      refine go_bipush (pc := 30) hF dX5_bringBack_30 (by decide) ?_
      refine go_iand (pc := 32) hF 0 (by decide) dX5_bringBack_32 ?_
      refine go_aald (pc := 33) hF 4 5 dX5_bringBack_33 rfl (by omega) rg_s4 (by omega) rfl ?_
      refine go_callVV (pc := 34) hF [vr E 5] [] mv_X5_23 dX5_bringBack_34 (by omega) ca_s4 (c_X1_setAs E N s4 1 5 _ _ _ _ _ _ _ _ (by omega) (by omega) (by omega) ca_s4 q0_s4) rfl rfl (Nat.le_of_ble_eq_true rfl) (by decide) ⟨Nat.zero_le _, Nat.zero_le _⟩ (fun s5 h_s5 => ?_)
      obtain ⟨u0_s5, f_s5⟩ := h_s5
      have h_s5 := (f_s5 3 (by omega)).trans u_s4
      have rg_s5 := (f_s5 4 (by omega)).trans rg_s4
      have q0_s5 := (f_s5 5 (by omega)).trans q0_s4
      have q1_s5 := (f_s5 6 (by omega)).trans q1_s4
      have q2_s5 := (f_s5 7 (by omega)).trans q2_s4
      have q3_s5 := (f_s5 8 (by omega)).trans q3_s4
      have q4_s5 := (f_s5 9 (by omega)).trans q4_s4
      have q5_s5 := (f_s5 10 (by omega)).trans q5_s4
      have q6_s5 := (f_s5 11 (by omega)).trans q6_s4
      have q7_s5 := (f_s5 12 (by omega)).trans q7_s4
      refine go_aload_n (pc := 37) hF dX5_bringBack_37 0 rfl ?_
      refine go_dup (pc := 38) hF dX5_bringBack_38 rfl ?_
      refine go_get (pc := 39) hF fl_X5_19 dX5_bringBack_39 (by omega) h_s5 rfl ?_
      refine go_iconst (pc := 42) hF dX5_bringBack_42 ?_
      refine go_isub (pc := 43) hF dX5_bringBack_43 ?_
      refine go_put (pc := 44) hF [vr E 4, vi 0, vi (sz - 1)] fl_X5_19 dX5_bringBack_44 (by omega) h_s5 rfl rfl rfl (Nat.le_of_ble_eq_true rfl) (fun s6 u_s6 f_s6 => ?_)
      have rg_s6 := (f_s6 4 (show 4 ≠ 3 by omega)).trans rg_s5
      have ca_s6 := (f_s6 1 (show 1 ≠ 3 by omega)).trans u0_s5
      have q0_s6 := (f_s6 5 (show 5 ≠ 3 by omega)).trans q0_s5
      have q1_s6 := (f_s6 6 (show 6 ≠ 3 by omega)).trans q1_s5
      have q2_s6 := (f_s6 7 (show 7 ≠ 3 by omega)).trans q2_s5
      have q3_s6 := (f_s6 8 (show 8 ≠ 3 by omega)).trans q3_s5
      have q4_s6 := (f_s6 9 (show 9 ≠ 3 by omega)).trans q4_s5
      have q5_s6 := (f_s6 10 (show 10 ≠ 3 by omega)).trans q5_s5
      have q6_s6 := (f_s6 11 (show 11 ≠ 3 by omega)).trans q6_s5
      have q7_s6 := (f_s6 12 (show 12 ≠ 3 by omega)).trans q7_s5
      refine go_vretQ hF hr hlk hQ dX5_bringBack_47 ⟨ca_s6, ⟨u_s6, rg_s6, fun z hz => ?_⟩, (fun j hj => by rw [f_s6 j (by omega), f_s5 j (by omega), f_s4 j (by omega)])⟩
      obtain rfl | rfl | rfl | rfl | rfl | rfl | rfl | rfl : z = 0 ∨ z = 1 ∨ z = 2 ∨ z = 3 ∨ z = 4 ∨ z = 5 ∨ z = 6 ∨ z = 7 := by omega
      · exact q0_s6
      · exact q1_s6
      · exact q2_s6
      · exact q3_s6
      · exact q4_s6
      · exact q5_s6
      · exact q6_s6
      · exact q7_s6
    · exact absurd bq4 (by omega)
  · refine go_aload_n (pc := 0) hF dX5_bringBack_0 0 rfl ?_
    refine go_get (pc := 1) hF fl_X5_19 dX5_bringBack_1 (by omega) y3 rfl ?_
    refine go_if_ne (pc := 4) hF 8 dX5_bringBack_4 (by decide) (by omega) (fun bq4 => ?_) (fun bq4 => ?_)
    · refine go_aload_n (pc := 8) hF dX5_bringBack_8 0 rfl ?_
      refine go_aload_n (pc := 9) hF dX5_bringBack_9 0 rfl ?_
      refine go_get (pc := 10) hF fl_X5_15 dX5_bringBack_10 (by omega) y3 rfl ?_
      refine go_iconst (pc := 13) hF dX5_bringBack_13 ?_
      refine go_isub (pc := 14) hF dX5_bringBack_14 ?_
      refine go_bipush (pc := 15) hF dX5_bringBack_15 (by decide) ?_
      refine go_iand (pc := 17) hF 1 (by decide) dX5_bringBack_17 ?_
      refine go_put (pc := 18) hF [vr E 4, vi 1, vi sz] fl_X5_15 dX5_bringBack_18 (by omega) y3 rfl rfl rfl (Nat.le_of_ble_eq_true rfl) (fun s7 u_s7 f_s7 => ?_)
      have rg_s7 := (f_s7 4 (show 4 ≠ 3 by omega)).trans y4
      have ca_s7 := (f_s7 1 (show 1 ≠ 3 by omega)).trans yc
      have q0_s7 := (f_s7 5 (show 5 ≠ 3 by omega)).trans yq0
      have q1_s7 := (f_s7 6 (show 6 ≠ 3 by omega)).trans yq1
      have q2_s7 := (f_s7 7 (show 7 ≠ 3 by omega)).trans yq2
      have q3_s7 := (f_s7 8 (show 8 ≠ 3 by omega)).trans yq3
      have q4_s7 := (f_s7 9 (show 9 ≠ 3 by omega)).trans yq4
      have q5_s7 := (f_s7 10 (show 10 ≠ 3 by omega)).trans yq5
      have q6_s7 := (f_s7 11 (show 11 ≠ 3 by omega)).trans yq6
      have q7_s7 := (f_s7 12 (show 12 ≠ 3 by omega)).trans yq7
      refine go_aload_n (pc := 21) hF dX5_bringBack_21 1 rfl ?_
      refine go_aload_n (pc := 22) hF dX5_bringBack_22 0 rfl ?_
      refine go_get (pc := 23) hF fl_X5_11 dX5_bringBack_23 (by omega) u_s7 rfl ?_
      refine go_aload_n (pc := 26) hF dX5_bringBack_26 0 rfl ?_
      refine go_get (pc := 27) hF fl_X5_15 dX5_bringBack_27 (by omega) u_s7 rfl ?_
      refine go_bipush (pc := 30) hF dX5_bringBack_30 (by decide) ?_
      refine go_iand (pc := 32) hF 1 (by decide) dX5_bringBack_32 ?_
      refine go_aald (pc := 33) hF 4 6 dX5_bringBack_33 rfl (by omega) rg_s7 (by omega) rfl ?_
      refine go_callVV (pc := 34) hF [vr E 6] [] mv_X5_23 dX5_bringBack_34 (by omega) ca_s7 (c_X1_setAs E N s7 1 6 _ _ _ _ _ _ _ _ (by omega) (by omega) (by omega) ca_s7 q1_s7) rfl rfl (Nat.le_of_ble_eq_true rfl) (by decide) ⟨Nat.zero_le _, Nat.zero_le _⟩ (fun s8 h_s8 => ?_)
      obtain ⟨u0_s8, f_s8⟩ := h_s8
      have h_s8 := (f_s8 3 (by omega)).trans u_s7
      have rg_s8 := (f_s8 4 (by omega)).trans rg_s7
      have q0_s8 := (f_s8 5 (by omega)).trans q0_s7
      have q1_s8 := (f_s8 6 (by omega)).trans q1_s7
      have q2_s8 := (f_s8 7 (by omega)).trans q2_s7
      have q3_s8 := (f_s8 8 (by omega)).trans q3_s7
      have q4_s8 := (f_s8 9 (by omega)).trans q4_s7
      have q5_s8 := (f_s8 10 (by omega)).trans q5_s7
      have q6_s8 := (f_s8 11 (by omega)).trans q6_s7
      have q7_s8 := (f_s8 12 (by omega)).trans q7_s7
      refine go_aload_n (pc := 37) hF dX5_bringBack_37 0 rfl ?_
      refine go_dup (pc := 38) hF dX5_bringBack_38 rfl ?_
      refine go_get (pc := 39) hF fl_X5_19 dX5_bringBack_39 (by omega) h_s8 rfl ?_
      refine go_iconst (pc := 42) hF dX5_bringBack_42 ?_
      refine go_isub (pc := 43) hF dX5_bringBack_43 ?_
      refine go_put (pc := 44) hF [vr E 4, vi 1, vi (sz - 1)] fl_X5_19 dX5_bringBack_44 (by omega) h_s8 rfl rfl rfl (Nat.le_of_ble_eq_true rfl) (fun s9 u_s9 f_s9 => ?_)
      have rg_s9 := (f_s9 4 (show 4 ≠ 3 by omega)).trans rg_s8
      have ca_s9 := (f_s9 1 (show 1 ≠ 3 by omega)).trans u0_s8
      have q0_s9 := (f_s9 5 (show 5 ≠ 3 by omega)).trans q0_s8
      have q1_s9 := (f_s9 6 (show 6 ≠ 3 by omega)).trans q1_s8
      have q2_s9 := (f_s9 7 (show 7 ≠ 3 by omega)).trans q2_s8
      have q3_s9 := (f_s9 8 (show 8 ≠ 3 by omega)).trans q3_s8
      have q4_s9 := (f_s9 9 (show 9 ≠ 3 by omega)).trans q4_s8
      have q5_s9 := (f_s9 10 (show 10 ≠ 3 by omega)).trans q5_s8
      have q6_s9 := (f_s9 11 (show 11 ≠ 3 by omega)).trans q6_s8
      have q7_s9 := (f_s9 12 (show 12 ≠ 3 by omega)).trans q7_s8
      refine go_vretQ hF hr hlk hQ dX5_bringBack_47 ⟨ca_s9, ⟨u_s9, rg_s9, fun z hz => ?_⟩, (fun j hj => by rw [f_s9 j (by omega), f_s8 j (by omega), f_s7 j (by omega)])⟩
      obtain rfl | rfl | rfl | rfl | rfl | rfl | rfl | rfl : z = 0 ∨ z = 1 ∨ z = 2 ∨ z = 3 ∨ z = 4 ∨ z = 5 ∨ z = 6 ∨ z = 7 := by omega
      · exact q0_s9
      · exact q1_s9
      · exact q2_s9
      · exact q3_s9
      · exact q4_s9
      · exact q5_s9
      · exact q6_s9
      · exact q7_s9
    · exact absurd bq4 (by omega)
  · refine go_aload_n (pc := 0) hF dX5_bringBack_0 0 rfl ?_
    refine go_get (pc := 1) hF fl_X5_19 dX5_bringBack_1 (by omega) y3 rfl ?_
    refine go_if_ne (pc := 4) hF 8 dX5_bringBack_4 (by decide) (by omega) (fun bq4 => ?_) (fun bq4 => ?_)
    · refine go_aload_n (pc := 8) hF dX5_bringBack_8 0 rfl ?_
      refine go_aload_n (pc := 9) hF dX5_bringBack_9 0 rfl ?_
      refine go_get (pc := 10) hF fl_X5_15 dX5_bringBack_10 (by omega) y3 rfl ?_
      refine go_iconst (pc := 13) hF dX5_bringBack_13 ?_
      refine go_isub (pc := 14) hF dX5_bringBack_14 ?_
      refine go_bipush (pc := 15) hF dX5_bringBack_15 (by decide) ?_
      refine go_iand (pc := 17) hF 2 (by decide) dX5_bringBack_17 ?_
      refine go_put (pc := 18) hF [vr E 4, vi 2, vi sz] fl_X5_15 dX5_bringBack_18 (by omega) y3 rfl rfl rfl (Nat.le_of_ble_eq_true rfl) (fun s10 u_s10 f_s10 => ?_)
      have rg_s10 := (f_s10 4 (show 4 ≠ 3 by omega)).trans y4
      have ca_s10 := (f_s10 1 (show 1 ≠ 3 by omega)).trans yc
      have q0_s10 := (f_s10 5 (show 5 ≠ 3 by omega)).trans yq0
      have q1_s10 := (f_s10 6 (show 6 ≠ 3 by omega)).trans yq1
      have q2_s10 := (f_s10 7 (show 7 ≠ 3 by omega)).trans yq2
      have q3_s10 := (f_s10 8 (show 8 ≠ 3 by omega)).trans yq3
      have q4_s10 := (f_s10 9 (show 9 ≠ 3 by omega)).trans yq4
      have q5_s10 := (f_s10 10 (show 10 ≠ 3 by omega)).trans yq5
      have q6_s10 := (f_s10 11 (show 11 ≠ 3 by omega)).trans yq6
      have q7_s10 := (f_s10 12 (show 12 ≠ 3 by omega)).trans yq7
      refine go_aload_n (pc := 21) hF dX5_bringBack_21 1 rfl ?_
      refine go_aload_n (pc := 22) hF dX5_bringBack_22 0 rfl ?_
      refine go_get (pc := 23) hF fl_X5_11 dX5_bringBack_23 (by omega) u_s10 rfl ?_
      refine go_aload_n (pc := 26) hF dX5_bringBack_26 0 rfl ?_
      refine go_get (pc := 27) hF fl_X5_15 dX5_bringBack_27 (by omega) u_s10 rfl ?_
      refine go_bipush (pc := 30) hF dX5_bringBack_30 (by decide) ?_
      refine go_iand (pc := 32) hF 2 (by decide) dX5_bringBack_32 ?_
      refine go_aald (pc := 33) hF 4 7 dX5_bringBack_33 rfl (by omega) rg_s10 (by omega) rfl ?_
      refine go_callVV (pc := 34) hF [vr E 7] [] mv_X5_23 dX5_bringBack_34 (by omega) ca_s10 (c_X1_setAs E N s10 1 7 _ _ _ _ _ _ _ _ (by omega) (by omega) (by omega) ca_s10 q2_s10) rfl rfl (Nat.le_of_ble_eq_true rfl) (by decide) ⟨Nat.zero_le _, Nat.zero_le _⟩ (fun s11 h_s11 => ?_)
      obtain ⟨u0_s11, f_s11⟩ := h_s11
      have h_s11 := (f_s11 3 (by omega)).trans u_s10
      have rg_s11 := (f_s11 4 (by omega)).trans rg_s10
      have q0_s11 := (f_s11 5 (by omega)).trans q0_s10
      have q1_s11 := (f_s11 6 (by omega)).trans q1_s10
      have q2_s11 := (f_s11 7 (by omega)).trans q2_s10
      have q3_s11 := (f_s11 8 (by omega)).trans q3_s10
      have q4_s11 := (f_s11 9 (by omega)).trans q4_s10
      have q5_s11 := (f_s11 10 (by omega)).trans q5_s10
      have q6_s11 := (f_s11 11 (by omega)).trans q6_s10
      have q7_s11 := (f_s11 12 (by omega)).trans q7_s10
      refine go_aload_n (pc := 37) hF dX5_bringBack_37 0 rfl ?_
      refine go_dup (pc := 38) hF dX5_bringBack_38 rfl ?_
      refine go_get (pc := 39) hF fl_X5_19 dX5_bringBack_39 (by omega) h_s11 rfl ?_
      refine go_iconst (pc := 42) hF dX5_bringBack_42 ?_
      refine go_isub (pc := 43) hF dX5_bringBack_43 ?_
      refine go_put (pc := 44) hF [vr E 4, vi 2, vi (sz - 1)] fl_X5_19 dX5_bringBack_44 (by omega) h_s11 rfl rfl rfl (Nat.le_of_ble_eq_true rfl) (fun s12 u_s12 f_s12 => ?_)
      have rg_s12 := (f_s12 4 (show 4 ≠ 3 by omega)).trans rg_s11
      have ca_s12 := (f_s12 1 (show 1 ≠ 3 by omega)).trans u0_s11
      have q0_s12 := (f_s12 5 (show 5 ≠ 3 by omega)).trans q0_s11
      have q1_s12 := (f_s12 6 (show 6 ≠ 3 by omega)).trans q1_s11
      have q2_s12 := (f_s12 7 (show 7 ≠ 3 by omega)).trans q2_s11
      have q3_s12 := (f_s12 8 (show 8 ≠ 3 by omega)).trans q3_s11
      have q4_s12 := (f_s12 9 (show 9 ≠ 3 by omega)).trans q4_s11
      have q5_s12 := (f_s12 10 (show 10 ≠ 3 by omega)).trans q5_s11
      have q6_s12 := (f_s12 11 (show 11 ≠ 3 by omega)).trans q6_s11
      have q7_s12 := (f_s12 12 (show 12 ≠ 3 by omega)).trans q7_s11
      refine go_vretQ hF hr hlk hQ dX5_bringBack_47 ⟨ca_s12, ⟨u_s12, rg_s12, fun z hz => ?_⟩, (fun j hj => by rw [f_s12 j (by omega), f_s11 j (by omega), f_s10 j (by omega)])⟩
      obtain rfl | rfl | rfl | rfl | rfl | rfl | rfl | rfl : z = 0 ∨ z = 1 ∨ z = 2 ∨ z = 3 ∨ z = 4 ∨ z = 5 ∨ z = 6 ∨ z = 7 := by omega
      · exact q0_s12
      · exact q1_s12
      · exact q2_s12
      · exact q3_s12
      · exact q4_s12
      · exact q5_s12
      · exact q6_s12
      · exact q7_s12
    · exact absurd bq4 (by omega)
  · refine go_aload_n (pc := 0) hF dX5_bringBack_0 0 rfl ?_
    refine go_get (pc := 1) hF fl_X5_19 dX5_bringBack_1 (by omega) y3 rfl ?_
    refine go_if_ne (pc := 4) hF 8 dX5_bringBack_4 (by decide) (by omega) (fun bq4 => ?_) (fun bq4 => ?_)
    · refine go_aload_n (pc := 8) hF dX5_bringBack_8 0 rfl ?_
      refine go_aload_n (pc := 9) hF dX5_bringBack_9 0 rfl ?_
      refine go_get (pc := 10) hF fl_X5_15 dX5_bringBack_10 (by omega) y3 rfl ?_
      refine go_iconst (pc := 13) hF dX5_bringBack_13 ?_
      refine go_isub (pc := 14) hF dX5_bringBack_14 ?_
      refine go_bipush (pc := 15) hF dX5_bringBack_15 (by decide) ?_
      refine go_iand (pc := 17) hF 3 (by decide) dX5_bringBack_17 ?_
      refine go_put (pc := 18) hF [vr E 4, vi 3, vi sz] fl_X5_15 dX5_bringBack_18 (by omega) y3 rfl rfl rfl (Nat.le_of_ble_eq_true rfl) (fun s13 u_s13 f_s13 => ?_)
      have rg_s13 := (f_s13 4 (show 4 ≠ 3 by omega)).trans y4
      have ca_s13 := (f_s13 1 (show 1 ≠ 3 by omega)).trans yc
      have q0_s13 := (f_s13 5 (show 5 ≠ 3 by omega)).trans yq0
      have q1_s13 := (f_s13 6 (show 6 ≠ 3 by omega)).trans yq1
      have q2_s13 := (f_s13 7 (show 7 ≠ 3 by omega)).trans yq2
      have q3_s13 := (f_s13 8 (show 8 ≠ 3 by omega)).trans yq3
      have q4_s13 := (f_s13 9 (show 9 ≠ 3 by omega)).trans yq4
      have q5_s13 := (f_s13 10 (show 10 ≠ 3 by omega)).trans yq5
      have q6_s13 := (f_s13 11 (show 11 ≠ 3 by omega)).trans yq6
      have q7_s13 := (f_s13 12 (show 12 ≠ 3 by omega)).trans yq7
      refine go_aload_n (pc := 21) hF dX5_bringBack_21 1 rfl ?_
      refine go_aload_n (pc := 22) hF dX5_bringBack_22 0 rfl ?_
      refine go_get (pc := 23) hF fl_X5_11 dX5_bringBack_23 (by omega) u_s13 rfl ?_
      refine go_aload_n (pc := 26) hF dX5_bringBack_26 0 rfl ?_
      refine go_get (pc := 27) hF fl_X5_15 dX5_bringBack_27 (by omega) u_s13 rfl ?_
      refine go_bipush (pc := 30) hF dX5_bringBack_30 (by decide) ?_
      refine go_iand (pc := 32) hF 3 (by decide) dX5_bringBack_32 ?_
      refine go_aald (pc := 33) hF 4 8 dX5_bringBack_33 rfl (by omega) rg_s13 (by omega) rfl ?_
      refine go_callVV (pc := 34) hF [vr E 8] [] mv_X5_23 dX5_bringBack_34 (by omega) ca_s13 (c_X1_setAs E N s13 1 8 _ _ _ _ _ _ _ _ (by omega) (by omega) (by omega) ca_s13 q3_s13) rfl rfl (Nat.le_of_ble_eq_true rfl) (by decide) ⟨Nat.zero_le _, Nat.zero_le _⟩ (fun s14 h_s14 => ?_)
      obtain ⟨u0_s14, f_s14⟩ := h_s14
      have h_s14 := (f_s14 3 (by omega)).trans u_s13
      have rg_s14 := (f_s14 4 (by omega)).trans rg_s13
      have q0_s14 := (f_s14 5 (by omega)).trans q0_s13
      have q1_s14 := (f_s14 6 (by omega)).trans q1_s13
      have q2_s14 := (f_s14 7 (by omega)).trans q2_s13
      have q3_s14 := (f_s14 8 (by omega)).trans q3_s13
      have q4_s14 := (f_s14 9 (by omega)).trans q4_s13
      have q5_s14 := (f_s14 10 (by omega)).trans q5_s13
      have q6_s14 := (f_s14 11 (by omega)).trans q6_s13
      have q7_s14 := (f_s14 12 (by omega)).trans q7_s13
      refine go_aload_n (pc := 37) hF dX5_bringBack_37 0 rfl ?_
      refine go_dup (pc := 38) hF dX5_bringBack_38 rfl ?_
      refine go_get (pc := 39) hF fl_X5_19 dX5_bringBack_39 (by omega) h_s14 rfl ?_
      refine go_iconst (pc := 42) hF dX5_bringBack_42 ?_
      refine go_isub (pc := 43) hF dX5_bringBack_43 ?_
      refine go_put (pc := 44) hF [vr E 4, vi 3, vi (sz - 1)] fl_X5_19 dX5_bringBack_44 (by omega) h_s14 rfl rfl rfl (Nat.le_of_ble_eq_true rfl) (fun s15 u_s15 f_s15 => ?_)
      have rg_s15 := (f_s15 4 (show 4 ≠ 3 by omega)).trans rg_s14
      have ca_s15 := (f_s15 1 (show 1 ≠ 3 by omega)).trans u0_s14
      have q0_s15 := (f_s15 5 (show 5 ≠ 3 by omega)).trans q0_s14
      have q1_s15 := (f_s15 6 (show 6 ≠ 3 by omega)).trans q1_s14
      have q2_s15 := (f_s15 7 (show 7 ≠ 3 by omega)).trans q2_s14
      have q3_s15 := (f_s15 8 (show 8 ≠ 3 by omega)).trans q3_s14
      have q4_s15 := (f_s15 9 (show 9 ≠ 3 by omega)).trans q4_s14
      have q5_s15 := (f_s15 10 (show 10 ≠ 3 by omega)).trans q5_s14
      have q6_s15 := (f_s15 11 (show 11 ≠ 3 by omega)).trans q6_s14
      have q7_s15 := (f_s15 12 (show 12 ≠ 3 by omega)).trans q7_s14
      refine go_vretQ hF hr hlk hQ dX5_bringBack_47 ⟨ca_s15, ⟨u_s15, rg_s15, fun z hz => ?_⟩, (fun j hj => by rw [f_s15 j (by omega), f_s14 j (by omega), f_s13 j (by omega)])⟩
      obtain rfl | rfl | rfl | rfl | rfl | rfl | rfl | rfl : z = 0 ∨ z = 1 ∨ z = 2 ∨ z = 3 ∨ z = 4 ∨ z = 5 ∨ z = 6 ∨ z = 7 := by omega
      · exact q0_s15
      · exact q1_s15
      · exact q2_s15
      · exact q3_s15
      · exact q4_s15
      · exact q5_s15
      · exact q6_s15
      · exact q7_s15
    · exact absurd bq4 (by omega)
  · refine go_aload_n (pc := 0) hF dX5_bringBack_0 0 rfl ?_
    refine go_get (pc := 1) hF fl_X5_19 dX5_bringBack_1 (by omega) y3 rfl ?_
    refine go_if_ne (pc := 4) hF 8 dX5_bringBack_4 (by decide) (by omega) (fun bq4 => ?_) (fun bq4 => ?_)
    · refine go_aload_n (pc := 8) hF dX5_bringBack_8 0 rfl ?_
      refine go_aload_n (pc := 9) hF dX5_bringBack_9 0 rfl ?_
      refine go_get (pc := 10) hF fl_X5_15 dX5_bringBack_10 (by omega) y3 rfl ?_
      refine go_iconst (pc := 13) hF dX5_bringBack_13 ?_
      refine go_isub (pc := 14) hF dX5_bringBack_14 ?_
      refine go_bipush (pc := 15) hF dX5_bringBack_15 (by decide) ?_
      refine go_iand (pc := 17) hF 4 (by decide) dX5_bringBack_17 ?_
      refine go_put (pc := 18) hF [vr E 4, vi 4, vi sz] fl_X5_15 dX5_bringBack_18 (by omega) y3 rfl rfl rfl (Nat.le_of_ble_eq_true rfl) (fun s16 u_s16 f_s16 => ?_)
      have rg_s16 := (f_s16 4 (show 4 ≠ 3 by omega)).trans y4
      have ca_s16 := (f_s16 1 (show 1 ≠ 3 by omega)).trans yc
      have q0_s16 := (f_s16 5 (show 5 ≠ 3 by omega)).trans yq0
      have q1_s16 := (f_s16 6 (show 6 ≠ 3 by omega)).trans yq1
      have q2_s16 := (f_s16 7 (show 7 ≠ 3 by omega)).trans yq2
      have q3_s16 := (f_s16 8 (show 8 ≠ 3 by omega)).trans yq3
      have q4_s16 := (f_s16 9 (show 9 ≠ 3 by omega)).trans yq4
      have q5_s16 := (f_s16 10 (show 10 ≠ 3 by omega)).trans yq5
      have q6_s16 := (f_s16 11 (show 11 ≠ 3 by omega)).trans yq6
      have q7_s16 := (f_s16 12 (show 12 ≠ 3 by omega)).trans yq7
      refine go_aload_n (pc := 21) hF dX5_bringBack_21 1 rfl ?_
      refine go_aload_n (pc := 22) hF dX5_bringBack_22 0 rfl ?_
      refine go_get (pc := 23) hF fl_X5_11 dX5_bringBack_23 (by omega) u_s16 rfl ?_
      refine go_aload_n (pc := 26) hF dX5_bringBack_26 0 rfl ?_
      refine go_get (pc := 27) hF fl_X5_15 dX5_bringBack_27 (by omega) u_s16 rfl ?_
      refine go_bipush (pc := 30) hF dX5_bringBack_30 (by decide) ?_
      refine go_iand (pc := 32) hF 4 (by decide) dX5_bringBack_32 ?_
      refine go_aald (pc := 33) hF 4 9 dX5_bringBack_33 rfl (by omega) rg_s16 (by omega) rfl ?_
      refine go_callVV (pc := 34) hF [vr E 9] [] mv_X5_23 dX5_bringBack_34 (by omega) ca_s16 (c_X1_setAs E N s16 1 9 _ _ _ _ _ _ _ _ (by omega) (by omega) (by omega) ca_s16 q4_s16) rfl rfl (Nat.le_of_ble_eq_true rfl) (by decide) ⟨Nat.zero_le _, Nat.zero_le _⟩ (fun s17 h_s17 => ?_)
      obtain ⟨u0_s17, f_s17⟩ := h_s17
      have h_s17 := (f_s17 3 (by omega)).trans u_s16
      have rg_s17 := (f_s17 4 (by omega)).trans rg_s16
      have q0_s17 := (f_s17 5 (by omega)).trans q0_s16
      have q1_s17 := (f_s17 6 (by omega)).trans q1_s16
      have q2_s17 := (f_s17 7 (by omega)).trans q2_s16
      have q3_s17 := (f_s17 8 (by omega)).trans q3_s16
      have q4_s17 := (f_s17 9 (by omega)).trans q4_s16
      have q5_s17 := (f_s17 10 (by omega)).trans q5_s16
      have q6_s17 := (f_s17 11 (by omega)).trans q6_s16
      have q7_s17 := (f_s17 12 (by omega)).trans q7_s16
      refine go_aload_n (pc := 37) hF dX5_bringBack_37 0 rfl ?_
      refine go_dup (pc := 38) hF dX5_bringBack_38 rfl ?_
      refine go_get (pc := 39) hF fl_X5_19 dX5_bringBack_39 (by omega) h_s17 rfl ?_
      refine go_iconst (pc := 42) hF dX5_bringBack_42 ?_
      refine go_isub (pc := 43) hF dX5_bringBack_43 ?_
      refine go_put (pc := 44) hF [vr E 4, vi 4, vi (sz - 1)] fl_X5_19 dX5_bringBack_44 (by omega) h_s17 rfl rfl rfl (Nat.le_of_ble_eq_true rfl) (fun s18 u_s18 f_s18 => ?_)
      have rg_s18 := (f_s18 4 (show 4 ≠ 3 by omega)).trans rg_s17
      have ca_s18 := (f_s18 1 (show 1 ≠ 3 by omega)).trans u0_s17
      have q0_s18 := (f_s18 5 (show 5 ≠ 3 by omega)).trans q0_s17
      have q1_s18 := (f_s18 6 (show 6 ≠ 3 by omega)).trans q1_s17
      have q2_s18 := (f_s18 7 (show 7 ≠ 3 by omega)).trans q2_s17
      have q3_s18 := (f_s18 8 (show 8 ≠ 3 by omega)).trans q3_s17
      have q4_s18 := (f_s18 9 (show 9 ≠ 3 by omega)).trans q4_s17
      have q5_s18 := (f_s18 10 (show 10 ≠ 3 by omega)).trans q5_s17
      have q6_s18 := (f_s18 11 (show 11 ≠ 3 by omega)).trans q6_s17
      have q7_s18 := (f_s18 12 (show 12 ≠ 3 by omega)).trans q7_s17
      refine go_vretQ hF hr hlk hQ dX5_bringBack_47 ⟨ca_s18, ⟨u_s18, rg_s18, fun z hz => ?_⟩, (fun j hj => by rw [f_s18 j (by omega), f_s17 j (by omega), f_s16 j (by omega)])⟩
      obtain rfl | rfl | rfl | rfl | rfl | rfl | rfl | rfl : z = 0 ∨ z = 1 ∨ z = 2 ∨ z = 3 ∨ z = 4 ∨ z = 5 ∨ z = 6 ∨ z = 7 := by omega
      · exact q0_s18
      · exact q1_s18
      · exact q2_s18
      · exact q3_s18
      · exact q4_s18
      · exact q5_s18
      · exact q6_s18
      · exact q7_s18
    · exact absurd bq4 (by omega)
  · refine go_aload_n (pc := 0) hF dX5_bringBack_0 0 rfl ?_
    refine go_get (pc := 1) hF fl_X5_19 dX5_bringBack_1 (by omega) y3 rfl ?_
    refine go_if_ne (pc := 4) hF 8 dX5_bringBack_4 (by decide) (by omega) (fun bq4 => ?_) (fun bq4 => ?_)
    · refine go_aload_n (pc := 8) hF dX5_bringBack_8 0 rfl ?_
      refine go_aload_n (pc := 9) hF dX5_bringBack_9 0 rfl ?_
      refine go_get (pc := 10) hF fl_X5_15 dX5_bringBack_10 (by omega) y3 rfl ?_
      refine go_iconst (pc := 13) hF dX5_bringBack_13 ?_
      refine go_isub (pc := 14) hF dX5_bringBack_14 ?_
      refine go_bipush (pc := 15) hF dX5_bringBack_15 (by decide) ?_
      refine go_iand (pc := 17) hF 5 (by decide) dX5_bringBack_17 ?_
      refine go_put (pc := 18) hF [vr E 4, vi 5, vi sz] fl_X5_15 dX5_bringBack_18 (by omega) y3 rfl rfl rfl (Nat.le_of_ble_eq_true rfl) (fun s19 u_s19 f_s19 => ?_)
      have rg_s19 := (f_s19 4 (show 4 ≠ 3 by omega)).trans y4
      have ca_s19 := (f_s19 1 (show 1 ≠ 3 by omega)).trans yc
      have q0_s19 := (f_s19 5 (show 5 ≠ 3 by omega)).trans yq0
      have q1_s19 := (f_s19 6 (show 6 ≠ 3 by omega)).trans yq1
      have q2_s19 := (f_s19 7 (show 7 ≠ 3 by omega)).trans yq2
      have q3_s19 := (f_s19 8 (show 8 ≠ 3 by omega)).trans yq3
      have q4_s19 := (f_s19 9 (show 9 ≠ 3 by omega)).trans yq4
      have q5_s19 := (f_s19 10 (show 10 ≠ 3 by omega)).trans yq5
      have q6_s19 := (f_s19 11 (show 11 ≠ 3 by omega)).trans yq6
      have q7_s19 := (f_s19 12 (show 12 ≠ 3 by omega)).trans yq7
      refine go_aload_n (pc := 21) hF dX5_bringBack_21 1 rfl ?_
      refine go_aload_n (pc := 22) hF dX5_bringBack_22 0 rfl ?_
      refine go_get (pc := 23) hF fl_X5_11 dX5_bringBack_23 (by omega) u_s19 rfl ?_
      refine go_aload_n (pc := 26) hF dX5_bringBack_26 0 rfl ?_
      refine go_get (pc := 27) hF fl_X5_15 dX5_bringBack_27 (by omega) u_s19 rfl ?_
      refine go_bipush (pc := 30) hF dX5_bringBack_30 (by decide) ?_
      refine go_iand (pc := 32) hF 5 (by decide) dX5_bringBack_32 ?_
      refine go_aald (pc := 33) hF 4 10 dX5_bringBack_33 rfl (by omega) rg_s19 (by omega) rfl ?_
      refine go_callVV (pc := 34) hF [vr E 10] [] mv_X5_23 dX5_bringBack_34 (by omega) ca_s19 (c_X1_setAs E N s19 1 10 _ _ _ _ _ _ _ _ (by omega) (by omega) (by omega) ca_s19 q5_s19) rfl rfl (Nat.le_of_ble_eq_true rfl) (by decide) ⟨Nat.zero_le _, Nat.zero_le _⟩ (fun s20 h_s20 => ?_)
      obtain ⟨u0_s20, f_s20⟩ := h_s20
      have h_s20 := (f_s20 3 (by omega)).trans u_s19
      have rg_s20 := (f_s20 4 (by omega)).trans rg_s19
      have q0_s20 := (f_s20 5 (by omega)).trans q0_s19
      have q1_s20 := (f_s20 6 (by omega)).trans q1_s19
      have q2_s20 := (f_s20 7 (by omega)).trans q2_s19
      have q3_s20 := (f_s20 8 (by omega)).trans q3_s19
      have q4_s20 := (f_s20 9 (by omega)).trans q4_s19
      have q5_s20 := (f_s20 10 (by omega)).trans q5_s19
      have q6_s20 := (f_s20 11 (by omega)).trans q6_s19
      have q7_s20 := (f_s20 12 (by omega)).trans q7_s19
      refine go_aload_n (pc := 37) hF dX5_bringBack_37 0 rfl ?_
      refine go_dup (pc := 38) hF dX5_bringBack_38 rfl ?_
      refine go_get (pc := 39) hF fl_X5_19 dX5_bringBack_39 (by omega) h_s20 rfl ?_
      refine go_iconst (pc := 42) hF dX5_bringBack_42 ?_
      refine go_isub (pc := 43) hF dX5_bringBack_43 ?_
      refine go_put (pc := 44) hF [vr E 4, vi 5, vi (sz - 1)] fl_X5_19 dX5_bringBack_44 (by omega) h_s20 rfl rfl rfl (Nat.le_of_ble_eq_true rfl) (fun s21 u_s21 f_s21 => ?_)
      have rg_s21 := (f_s21 4 (show 4 ≠ 3 by omega)).trans rg_s20
      have ca_s21 := (f_s21 1 (show 1 ≠ 3 by omega)).trans u0_s20
      have q0_s21 := (f_s21 5 (show 5 ≠ 3 by omega)).trans q0_s20
      have q1_s21 := (f_s21 6 (show 6 ≠ 3 by omega)).trans q1_s20
      have q2_s21 := (f_s21 7 (show 7 ≠ 3 by omega)).trans q2_s20
      have q3_s21 := (f_s21 8 (show 8 ≠ 3 by omega)).trans q3_s20
      have q4_s21 := (f_s21 9 (show 9 ≠ 3 by omega)).trans q4_s20
      have q5_s21 := (f_s21 10 (show 10 ≠ 3 by omega)).trans q5_s20
      have q6_s21 := (f_s21 11 (show 11 ≠ 3 by omega)).trans q6_s20
      have q7_s21 := (f_s21 12 (show 12 ≠ 3 by omega)).trans q7_s20
      refine go_vretQ hF hr hlk hQ dX5_bringBack_47 ⟨ca_s21, ⟨u_s21, rg_s21, fun z hz => ?_⟩, (fun j hj => by rw [f_s21 j (by omega), f_s20 j (by omega), f_s19 j (by omega)])⟩
      obtain rfl | rfl | rfl | rfl | rfl | rfl | rfl | rfl : z = 0 ∨ z = 1 ∨ z = 2 ∨ z = 3 ∨ z = 4 ∨ z = 5 ∨ z = 6 ∨ z = 7 := by omega
      · exact q0_s21
      · exact q1_s21
      · exact q2_s21
      · exact q3_s21
      · exact q4_s21
      · exact q5_s21
      · exact q6_s21
      · exact q7_s21
    · exact absurd bq4 (by omega)
  · refine go_aload_n (pc := 0) hF dX5_bringBack_0 0 rfl ?_
    refine go_get (pc := 1) hF fl_X5_19 dX5_bringBack_1 (by omega) y3 rfl ?_
    refine go_if_ne (pc := 4) hF 8 dX5_bringBack_4 (by decide) (by omega) (fun bq4 => ?_) (fun bq4 => ?_)
    · refine go_aload_n (pc := 8) hF dX5_bringBack_8 0 rfl ?_
      refine go_aload_n (pc := 9) hF dX5_bringBack_9 0 rfl ?_
      refine go_get (pc := 10) hF fl_X5_15 dX5_bringBack_10 (by omega) y3 rfl ?_
      refine go_iconst (pc := 13) hF dX5_bringBack_13 ?_
      refine go_isub (pc := 14) hF dX5_bringBack_14 ?_
      refine go_bipush (pc := 15) hF dX5_bringBack_15 (by decide) ?_
      refine go_iand (pc := 17) hF 6 (by decide) dX5_bringBack_17 ?_
      refine go_put (pc := 18) hF [vr E 4, vi 6, vi sz] fl_X5_15 dX5_bringBack_18 (by omega) y3 rfl rfl rfl (Nat.le_of_ble_eq_true rfl) (fun s22 u_s22 f_s22 => ?_)
      have rg_s22 := (f_s22 4 (show 4 ≠ 3 by omega)).trans y4
      have ca_s22 := (f_s22 1 (show 1 ≠ 3 by omega)).trans yc
      have q0_s22 := (f_s22 5 (show 5 ≠ 3 by omega)).trans yq0
      have q1_s22 := (f_s22 6 (show 6 ≠ 3 by omega)).trans yq1
      have q2_s22 := (f_s22 7 (show 7 ≠ 3 by omega)).trans yq2
      have q3_s22 := (f_s22 8 (show 8 ≠ 3 by omega)).trans yq3
      have q4_s22 := (f_s22 9 (show 9 ≠ 3 by omega)).trans yq4
      have q5_s22 := (f_s22 10 (show 10 ≠ 3 by omega)).trans yq5
      have q6_s22 := (f_s22 11 (show 11 ≠ 3 by omega)).trans yq6
      have q7_s22 := (f_s22 12 (show 12 ≠ 3 by omega)).trans yq7
      refine go_aload_n (pc := 21) hF dX5_bringBack_21 1 rfl ?_
      refine go_aload_n (pc := 22) hF dX5_bringBack_22 0 rfl ?_
      refine go_get (pc := 23) hF fl_X5_11 dX5_bringBack_23 (by omega) u_s22 rfl ?_
      refine go_aload_n (pc := 26) hF dX5_bringBack_26 0 rfl ?_
      refine go_get (pc := 27) hF fl_X5_15 dX5_bringBack_27 (by omega) u_s22 rfl ?_
      refine go_bipush (pc := 30) hF dX5_bringBack_30 (by decide) ?_
      refine go_iand (pc := 32) hF 6 (by decide) dX5_bringBack_32 ?_
      refine go_aald (pc := 33) hF 4 11 dX5_bringBack_33 rfl (by omega) rg_s22 (by omega) rfl ?_
      refine go_callVV (pc := 34) hF [vr E 11] [] mv_X5_23 dX5_bringBack_34 (by omega) ca_s22 (c_X1_setAs E N s22 1 11 _ _ _ _ _ _ _ _ (by omega) (by omega) (by omega) ca_s22 q6_s22) rfl rfl (Nat.le_of_ble_eq_true rfl) (by decide) ⟨Nat.zero_le _, Nat.zero_le _⟩ (fun s23 h_s23 => ?_)
      obtain ⟨u0_s23, f_s23⟩ := h_s23
      have h_s23 := (f_s23 3 (by omega)).trans u_s22
      have rg_s23 := (f_s23 4 (by omega)).trans rg_s22
      have q0_s23 := (f_s23 5 (by omega)).trans q0_s22
      have q1_s23 := (f_s23 6 (by omega)).trans q1_s22
      have q2_s23 := (f_s23 7 (by omega)).trans q2_s22
      have q3_s23 := (f_s23 8 (by omega)).trans q3_s22
      have q4_s23 := (f_s23 9 (by omega)).trans q4_s22
      have q5_s23 := (f_s23 10 (by omega)).trans q5_s22
      have q6_s23 := (f_s23 11 (by omega)).trans q6_s22
      have q7_s23 := (f_s23 12 (by omega)).trans q7_s22
      refine go_aload_n (pc := 37) hF dX5_bringBack_37 0 rfl ?_
      refine go_dup (pc := 38) hF dX5_bringBack_38 rfl ?_
      refine go_get (pc := 39) hF fl_X5_19 dX5_bringBack_39 (by omega) h_s23 rfl ?_
      refine go_iconst (pc := 42) hF dX5_bringBack_42 ?_
      refine go_isub (pc := 43) hF dX5_bringBack_43 ?_
      refine go_put (pc := 44) hF [vr E 4, vi 6, vi (sz - 1)] fl_X5_19 dX5_bringBack_44 (by omega) h_s23 rfl rfl rfl (Nat.le_of_ble_eq_true rfl) (fun s24 u_s24 f_s24 => ?_)
      have rg_s24 := (f_s24 4 (show 4 ≠ 3 by omega)).trans rg_s23
      have ca_s24 := (f_s24 1 (show 1 ≠ 3 by omega)).trans u0_s23
      have q0_s24 := (f_s24 5 (show 5 ≠ 3 by omega)).trans q0_s23
      have q1_s24 := (f_s24 6 (show 6 ≠ 3 by omega)).trans q1_s23
      have q2_s24 := (f_s24 7 (show 7 ≠ 3 by omega)).trans q2_s23
      have q3_s24 := (f_s24 8 (show 8 ≠ 3 by omega)).trans q3_s23
      have q4_s24 := (f_s24 9 (show 9 ≠ 3 by omega)).trans q4_s23
      have q5_s24 := (f_s24 10 (show 10 ≠ 3 by omega)).trans q5_s23
      have q6_s24 := (f_s24 11 (show 11 ≠ 3 by omega)).trans q6_s23
      have q7_s24 := (f_s24 12 (show 12 ≠ 3 by omega)).trans q7_s23
      refine go_vretQ hF hr hlk hQ dX5_bringBack_47 ⟨ca_s24, ⟨u_s24, rg_s24, fun z hz => ?_⟩, (fun j hj => by rw [f_s24 j (by omega), f_s23 j (by omega), f_s22 j (by omega)])⟩
      obtain rfl | rfl | rfl | rfl | rfl | rfl | rfl | rfl : z = 0 ∨ z = 1 ∨ z = 2 ∨ z = 3 ∨ z = 4 ∨ z = 5 ∨ z = 6 ∨ z = 7 := by omega
      · exact q0_s24
      · exact q1_s24
      · exact q2_s24
      · exact q3_s24
      · exact q4_s24
      · exact q5_s24
      · exact q6_s24
      · exact q7_s24
    · exact absurd bq4 (by omega)
