/-! The law from its entry. -/
theorem nest_in : ∀ w ∈ nestW, w ∈ lw_tbl := by
  intro w hw
  simp only [nestW, List.mem_cons, List.not_mem_nil, or_false] at hw
  rcases hw with rfl | rfl | rfl | rfl | rfl | rfl | rfl | rfl | rfl | rfl | rfl | rfl
  · exact List.mem_of_getElem? (i := 91) (by decide +kernel)
  · exact List.mem_of_getElem? (i := 125) (by decide +kernel)
  · exact List.mem_of_getElem? (i := 139) (by decide +kernel)
  · exact List.mem_of_getElem? (i := 145) (by decide +kernel)
  · exact List.mem_of_getElem? (i := 210) (by decide +kernel)
  · exact List.mem_of_getElem? (i := 220) (by decide +kernel)
  · exact List.mem_of_getElem? (i := 283) (by decide +kernel)
  · exact List.mem_of_getElem? (i := 302) (by decide +kernel)
  · exact List.mem_of_getElem? (i := 561) (by decide +kernel)
  · exact List.mem_of_getElem? (i := 579) (by decide +kernel)
  · exact List.mem_of_getElem? (i := 584) (by decide +kernel)
  · exact List.mem_of_getElem? (i := 719) (by decide +kernel)
theorem okS0 : okS 0 2 0 10 (fun _ => 0) (fun _ => 0) (fun _ => 0) (fun _ => 0) 0 (fun _ => 0) 0 .nil 0 0 0 0 0 0 := ⟨⟨vrow_0 2, ⟨by decide, by decide⟩, ⟨by decide, by decide⟩, ⟨by decide, by decide⟩⟩, ⟨by decide, by decide⟩, fun i i0 i1 => absurd i1 (by omega), ⟨by decide, by decide⟩, fun z z0 z1 => absurd z1 (by omega), ⟨by decide, by decide⟩, ⟨by decide, by decide⟩, ⟨by decide, by decide⟩, ⟨by decide, by decide⟩, ⟨by decide, by decide⟩, ⟨by decide, by decide⟩, trivial, by decide, by decide, by decide⟩
set_option maxHeartbeats 4000000 in
theorem env_of {s : State} {b : Nat} (l : Launch) (hts : ∀ w ∈ lw_tbl, w.before #[Value.ref b] s = true) : ∃ E : En, E.1 = l ∧ ez E = s.heap.size ∧ Kx E s := by
  have htG : ∀ w ∈ GW, w.before #[Value.ref b] s = true := fun w hw => hts w (List.mem_filter.mp hw).1
  obtain ⟨c0, i0, k0⟩ := u_known (C := RX0) (T := TX0) (N := 2) (n := 2) htG inG_X0 (htG _ (GW_1 219 (by decide +kernel) rfl))
  obtain ⟨c1, i1, k1⟩ := u_known (C := RX1) (T := TX1) (N := 4) (n := 4) htG inG_X1 (htG _ (GW_1 90 (by decide +kernel) rfl))
  obtain ⟨c2, i2, k2⟩ := u_known (C := RX2) (T := TX2) (N := 5) (n := 5) htG inG_X2 (htG _ (GW_1 253 (by decide +kernel) rfl))
  obtain ⟨c3, i3, k3⟩ := u_known (C := RX3) (T := TX3) (N := 6) (n := 6) htG inG_X3 (htG _ (GW_1 212 (by decide +kernel) rfl))
  obtain ⟨c4, i4, k4⟩ := u_known (C := RX4) (T := TX4) (N := 4) (n := 4) htG inG_X4 (htG _ (GW_1 260 (by decide +kernel) rfl))
  obtain ⟨c5, i5, k5⟩ := u_known (C := RX5) (T := TX5) (N := 3) (n := 3) htG inG_X5 (htG _ (GW_1 118 (by decide +kernel) rfl))
  obtain ⟨c6, i6, k6⟩ := u_known (C := RX6) (T := TX6) (N := 12) (n := 12) htG inG_X6 (htG _ (GW_1 144 (by decide +kernel) rfl))
  obtain ⟨c7, i7, k7⟩ := u_known (C := RX7) (T := TX7) (N := 4) (n := 4) htG inG_X7 (htG _ (GW_1 138 (by decide +kernel) rfl))
  obtain ⟨c8, i8, k8⟩ := u_known (C := RX9) (T := TX9) (N := 5) (n := 5) htG inG_X9 (htG _ (GW_1 301 (by decide +kernel) rfl))
  obtain ⟨c9, i9, k9⟩ := u_known (C := RX10) (T := TX10) (N := 14) (n := 14) htG inG_X10 (htG _ (GW_1 82 (by decide +kernel) rfl))
  obtain ⟨c10, i10, k10⟩ := u_known (C := RX11) (T := TX11) (N := 34) (n := 34) htG inG_X11 (htG _ (GW_1 892 (by decide +kernel) rfl))
  obtain ⟨dC, dI, hKc⟩ : ∃ (dC : Nat → ClassId) (dI : Nat → Nat → Nat), ∀ (k : Nat) (q : vw_C), vwCl[k]? = some q → u_Kn s q.1 q.2.1 q.2.2 (dC k) (dI k) := by
    refine ⟨fun k => [c0, c1, c2, c3, c4, c5, c6, c7, c8, c9, c10].getD k c0, fun k => [i0, i1, i2, i3, i4, i5, i6, i7, i8, i9, i10].getD k i0, ?_⟩
    intro k q hq
    match k, hq with
    | 0, hq => cases hq; exact k0
    | 1, hq => cases hq; exact k1
    | 2, hq => cases hq; exact k2
    | 3, hq => cases hq; exact k3
    | 4, hq => cases hq; exact k4
    | 5, hq => cases hq; exact k5
    | 6, hq => cases hq; exact k6
    | 7, hq => cases hq; exact k7
    | 8, hq => cases hq; exact k8
    | 9, hq => cases hq; exact k9
    | 10, hq => cases hq; exact k10
    | k + 11, hq => simp [vwCl] at hq
  obtain ⟨a0, ka0, p0, f0, g0, j0⟩ := Cond.arrayClass_spec (hts (.arrayClass .int) (List.mem_of_getElem? (i := 194) (by decide +kernel)))
  obtain ⟨a1, ka1, p1, f1, g1, j1⟩ := Cond.arrayClass_spec (hts (.arrayClass .long) (List.mem_of_getElem? (i := 1001) (by decide +kernel)))
  obtain ⟨a2, ka2, p2, f2, g2, j2⟩ := Cond.arrayClass_spec (hts (.arrayClass .boolean) (List.mem_of_getElem? (i := 1000) (by decide +kernel)))
  have o3 := hts (.arrayOver (.object RX0)) (List.mem_of_getElem? (i := 218) (by decide +kernel))
  have o4 := hts (.arrayOver (.object RX1)) (List.mem_of_getElem? (i := 124) (by decide +kernel))
  have o5 := hts (.arrayOver (.object RX4)) (List.mem_of_getElem? (i := 259) (by decide +kernel))
  obtain ⟨p3, a3, ka3, q3, -, g3, j3, f3⟩ := Cond.arrayOver_spec o3
  obtain ⟨p4, a4, ka4, q4, -, g4, j4, f4⟩ := Cond.arrayOver_spec o4
  obtain ⟨p5, a5, ka5, q5, -, g5, j5, f5⟩ := Cond.arrayOver_spec o5
  refine ⟨(l, dC, dI, (fun k => [a0, a1, a2, a3, a4, a5].getD k a0), s.heap.size), rfl, rfl, ⟨hKc, fun k q hq => ?_⟩, fun w hw => ?_, va_AO.of o3, va_AO.of o4, va_AO.of o5⟩
  · match k, hq with
    | 0, hq => cases hq; exact ⟨fun n z => ⟨fun k h => (by cases h), ka0, g0, p0, j0⟩, f0⟩
    | 1, hq => cases hq; exact ⟨fun n z => ⟨fun k h => (by cases h), ka1, g1, p1, j1⟩, f1⟩
    | 2, hq => cases hq; exact ⟨fun n z => ⟨fun k h => (by cases h), ka2, g2, p2, j2⟩, f2⟩
    | 3, hq => cases hq; exact ⟨fun n z => ⟨fun k h => (by cases h), ka3, g3, p3, j3⟩, ka3, p3, g3, j3, q3, f3⟩
    | 4, hq => cases hq; exact ⟨fun n z => ⟨fun k h => (by cases h), ka4, g4, p4, j4⟩, ka4, p4, g4, j4, q4, f4⟩
    | 5, hq => cases hq; exact ⟨fun n z => ⟨fun k h => (by cases h), ka5, g5, p5, j5⟩, ka5, p5, g5, j5, q5, f5⟩
    | k + 6, hq => simp [eT] at hq
  · obtain ⟨a, i, x, y, rfl⟩ := nest_form w hw
    exact va_Nw.of rfl (hts _ (nest_in _ hw))
set_option maxHeartbeats 4000000 in
set_option maxRecDepth 100000 in
theorem law_go {E : En} {p : Program} {e : Env} {s : State} {m : MethodId} {below : List Frame} {meth : Method} {c : Code} {b L : Nat} {xs : Nat → Int32} (hE : ez E = s.heap.size) (hF : Fx E cL_law 4 RL 20 p room_1 s m #[Value.ref b] c) (hX : va_X b L xs s s.heap) (hbl : b < s.heap.size) (hL : L ≤ 1536) (hr : meth.sig.returnType = ret) (hlocks : meth.locks = false) (σ : Nat → va_E) : Go E p e room_1 s m #[Value.ref b] below meth c (lw_Z below #[Value.ref b] s) 4 (0, 0) 0 σ [(0, .ref b)] [] 0 := by
  refine go_new (pc := 0) (k := (0, 0)) hF (1, 14) 1 nw_L_7 dL_law_0 (show s.heap.size + 0 = ez E + 0 by omega) (Or.inr rfl) (Nat.le_of_ble_eq_true rfl) (Nat.le_of_ble_eq_true rfl) rfl rfl (fun s1 u1 f1 => ?_)
  refine go_dup (pc := 3) hF dL_law_3 rfl ?_
  refine go_callI (pc := 4) (k := (1, 14)) hF (94, 10577) 94 mi_L_9 dL_law_4 (c_X10_init E s1 u1) (Nat.le_of_ble_eq_true rfl) (by decide) (Nat.le_of_ble_eq_true rfl) (Nat.le_of_ble_eq_true rfl) (fun _ => (show s.heap.size + 1 = ez E + 1 by omega)) (fun _ => Or.inl (by decide)) rfl rfl (fun s2 h2 => ?_)
  obtain ⟨hS2, f2⟩ := h2
  refine go_astore_n (pc := 7) hF [(1, vr E 0), (0, .ref b)] dL_law_7 rfl (by decide) ?_
  refine go_new (pc := 8) (k := (94, 10577)) hF (95, 10611) 95 nw_L_10 dL_law_8 (show s.heap.size + 94 = ez E + 94 by omega) (Or.inl (by decide)) (Nat.le_of_ble_eq_true rfl) (Nat.le_of_ble_eq_true rfl) rfl rfl (fun s3 u3 f3 => ?_)
  refine go_dup (pc := 11) hF dL_law_11 rfl ?_
  refine go_callI (pc := 12) (k := (95, 10611)) hF (120, 16863) 120 mi_L_12 dL_law_12 (c_X11_init E s3 u3) (Nat.le_of_ble_eq_true rfl) (by decide) (Nat.le_of_ble_eq_true rfl) (Nat.le_of_ble_eq_true rfl) (fun _ => (show s.heap.size + 95 = ez E + 95 by omega)) (fun _ => Or.inl (by decide)) rfl rfl (fun s4 h4 => ?_)
  obtain ⟨hM4, f4⟩ := h4
  refine go_astore_n (pc := 15) hF [(2, vr E 94), (1, vr E 0), (0, .ref b)] dL_law_15 rfl (by decide) ?_
  refine go_iconst (pc := 16) hF dL_law_16 ?_
  refine go_istore_n (pc := 17) hF [(3, vi 0), (2, vr E 94), (1, vr E 0), (0, .ref b)] dL_law_17 rfl (by decide) ?_
  have hS4 := hS2.keep (τ := s4) (fun q hq => by rw [f4 q ⟨by omega, by omega⟩, f3 q (by omega)])
  exact law_loop hE hF hX hbl hL hr hlocks (L + 1) 0 0 2 0 10 (fun _ => 0) (fun _ => 0) (fun _ => 0) (fun _ => 0) 0 (fun _ => 0) 0 .nil 0 0 0 0 0 0 s4 (by omega) (by omega) okS0 hS4 hM4
