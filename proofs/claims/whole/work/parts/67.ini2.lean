/-! The two₉ objects at first. -/
theorem cell_extq {E : En} {t₉ n₉ : Nat} {g₉ g' : Int → Int} (h : ∀ j₉ : Int, 0 ≤ j₉ → j₉ < n₉ → g₉ j₉ = g' j₉) : vp_cell (ec E t₉) (n₉, Sum.inr (Sum.inr (Sum.inr (Sum.inr (fun j₉ : Nat => rfo E (g₉ j₉)))))) = vp_cell (ec E t₉) (n₉, Sum.inr (Sum.inr (Sum.inr (Sum.inr (fun j₉ : Nat => rfo E (g' j₉)))))) := by
  rw [vp_cell_q, vp_cell_q]
  unfold arrV
  congr 1
  apply Array.ext
  · simp
  · intro t₉ h1 h2
    simp
    simp at h1
    rw [h t₉ (by omega) (by omega)]
theorem go_ar {E : En} {p : Program} {e : Env} {R : Room} {s : State} {m : MethodId} {args : Array Value} {below : List Frame} {meth : Method} {c : Code} {Q : State → Prop} {nL : Nat} {k₉ : Nat × Nat} {N : Nat} {σ : Nat → va_E} {lv : List (Nat × Value)} {st₉ : List Value} {pc : Nat} (i₉ t₉ n₉ : Nat) {g₉ : Int → Int} (g' : Int → Int) (hi₉ : i₉ < N) (hc₉ : σ i₉ = ar E t₉ n₉ g₉) (hg : ∀ j₉ : Int, 0 ≤ j₉ → j₉ < n₉ → g₉ j₉ = g' j₉) (h : ∀ σ' : Nat → va_E, σ' i₉ = ar E t₉ n₉ g' → (∀ j₉, j₉ ≠ i₉ → σ' j₉ = σ j₉) → Go E p e R s m args below meth c Q nL k₉ N σ' lv st₉ pc) : Go E p e R s m args below meth c Q nL k₉ N σ lv st₉ pc := by
  intro H₉ locs₉ ls hP hS₉ hl
  refine h (va_up σ i₉ (ar E t₉ n₉ g')) (va_up_self _ _ _) (fun j₉ hj => va_up_ne _ _ hj) H₉ locs₉ ls ?_ hS₉ hl
  intro j₉ q₉ hq
  obtain ⟨hj, rfl⟩ := wd_of hq
  by_cases hji : j₉ = i₉
  · subst hji
    rw [va_up_self]
    have h1 := hP j₉ _ (at_of hj hc₉)
    show H₉[ez E + j₉]? = some (vp_cell _ _)
    have h2 : H₉[ez E + j₉]? = some (vp_cell (ec E t₉) (n₉, Sum.inr (Sum.inr (Sum.inr (Sum.inr (fun j₉ : Nat => rfo E (g₉ j₉))))))) := h1
    rw [h2, cell_extq hg]
  · rw [va_up_ne _ _ hji]
    exact hP j₉ _ (wd_at hj)
theorem okP0 : okP (fun _ => 0) (fun _ => 0) (fun _ => 0) (fun _ => 0) (fun _ => 0) (fun _ => 0) 0 0 0 0 0 0 := by
  refine ⟨by omega, by omega, by omega, by omega, by omega, by omega, fun z₉ _ _ => ?_, fun z₉ _ _ => ?_⟩
  · show ((0 : Int) ≤ 0 ∧ (0 : Int) ≤ 6) ∧ ((0 : Int) ≤ 0 ∧ (0 : Int) ≤ 24) ∧ ((0 : Int) ≤ 0 ∧ (0 : Int) ≤ 80) ∧ (0 : Int) ≤ 0 ∧ (0 : Int) < 64
    omega
  · show ((0 : Int) ≤ 0 ∧ (0 : Int) ≤ 5) ∧ (-1 : Int) ≤ 0 ∧ (0 : Int) ≤ 80
    omega
theorem jF0 {E : En} {σ : Nat → va_E} {i₉ : Nat} (h : isFr E σ i₉ (fun _ => 0) (fun _ => -1) (fun _ => 0) 0) : jF E σ i₉ := ⟨fun _ _ => False, 0, ⟨_, _, _, _, h, ⟨⟨⟨by decide, by decide⟩, fun q₉ q0 q1₉ => absurd q1₉ (by omega), fun q₉ q' q0 q1₉ => absurd q1₉ (by omega), fun r₉ _ _ h => absurd rfl h⟩, fun r₉ _ _ => ⟨fun _ _ z₉ => z₉, fun h => absurd rfl h⟩⟩, fun r₉ c z₉ => z₉.elim⟩, by decide⟩
def nw0 (z₉ : Int) : Nat := if z₉ = 0 then 67 else if z₉ = 1 then 75 else if z₉ = 2 then 83 else 91
theorem okN0 : okN nw0 62 := by
  refine ⟨fun d₉ d0₉ d1₉ => ?_, Or.inl rfl, fun d₉ d' d0₉ d1₉ e0₉ e1₉ h => ?_⟩
  · rcases (show d₉ = 0 ∨ d₉ = 1 ∨ d₉ = 2 ∨ d₉ = 3 by omega) with rfl | rfl | rfl | rfl <;> exact ⟨by unfold pool₉ nw0; decide, by decide⟩
  · rcases (show d₉ = 0 ∨ d₉ = 1 ∨ d₉ = 2 ∨ d₉ = 3 by omega) with rfl | rfl | rfl | rfl <;> rcases (show d' = 0 ∨ d' = 1 ∨ d' = 2 ∨ d' = 3 by omega) with rfl | rfl | rfl | rfl <;> first | rfl | exact absurd h (by decide)
set_option maxHeartbeats 4000000 in
set_option maxRecDepth 100000 in
theorem c_X11_init (E : En) (σ : Nat → va_E) (hi0₉ : σ 101 = ob 10 [.null, .null, vi 0, .null, .null, .null, .null, vi 0, .null, vi 0, .null, vi 0, .null, .null, .null, .null, .null, .null, .null, .null, .null, .null, .null, .null, .null, .null, .null, .null, .null, vi 0, vi 0, vi 0, vi 0, vi 0]) : CK E M_X11_init 3 25 6252 [vr E 101] 102 σ (fun σ' => mdS E σ' 0 2 0 10 (fun _ => 0) (fun _ => 0) (fun _ => 0) (fun _ => 0) 0 (fun _ => 0) 0 .nil 0 0 0 0 0 0 ∧ ∀ q₉, (q₉ < 102 ∧ q₉ ≠ 101) → σ' q₉ = σ q₉) := by
  refine CT.of2 (own := RX11) (by decide) rfl (Nat.le_of_ble_eq_true rfl) ?_
  intro p e R s m args below meth c Q hF hr hlk hnm hz hR hQ
  have hz0 := hz (by decide)
  refine go_aload_n (pc := 0) hF dX11_init_0 0 rfl ?_
  refine go_objInit (pc := 1) hF ol_X11_1 oi_1 oi_2 dX11_init_1 (Nat.le_of_ble_eq_true rfl) (by decide) ?_
  refine go_aload_n (pc := 4) hF dX11_init_4 0 rfl ?_
  refine go_bipush (pc := 5) hF dX11_init_5 (by decide) ?_
  refine go_newa (pc := 7) (k := (0, 0)) hF (1, 7) (103) 0 7 (a0 := (7, .inl (fun _ => iI 0))) ac_int rfl rfl (fun _ _ h => h) (fun cA₉ => rfl) (by decide) (by decide) (Nat.le_of_ble_eq_true rfl) dX11_init_7 (show s.heap.size + 0 = ez E + (102) by omega) (Or.inl (by omega)) (by rw [hR]; exact Nat.le_of_ble_eq_true rfl) (by rw [hR]; exact Nat.le_of_ble_eq_true rfl) rfl rfl (fun s1₉ u_s1 f_s1 => ?_)
  have u_s1 : s1₉ 102 = ai E 7 (fun _ => 0) := u_s1
  have x_s1 : s1₉ 101 = ob 10 [.null, .null, vi 0, .null, .null, .null, .null, vi 0, .null, vi 0, .null, vi 0, .null, .null, .null, .null, .null, .null, .null, .null, .null, .null, .null, .null, .null, .null, .null, .null, .null, vi 0, vi 0, vi 0, vi 0, vi 0] := (f_s1 101 (by decide)).trans hi0₉
  refine go_putF (pc := 9) hF [vr E 102, .null, vi 0, .null, .null, .null, .null, vi 0, .null, vi 0, .null, vi 0, .null, .null, .null, .null, .null, .null, .null, .null, .null, .null, .null, .null, .null, .null, .null, .null, .null, vi 0, vi 0, vi 0, vi 0, vi 0] fl_X11_7 (fun C₉ T n₉ h => by have e9₉ : some (C₉, T, n₉) = some (RX11, TX11, 34) := h.symm; cases e9₉; rfl) hnm dX11_init_9 (by omega) x_s1 rfl rfl rfl (Nat.le_of_ble_eq_true rfl) (fun s2₉ u_s2 f_s2 => ?_)
  have q102_s2 : s2₉ 102 = ai E 7 (fun _ => 0) := (f_s2 102 (by decide)).trans u_s1
  refine go_aload_n (pc := 12) hF dX11_init_12 0 rfl ?_
  refine go_bipush (pc := 13) hF dX11_init_13 (by decide) ?_
  refine go_newa (pc := 15) (k := (1, 7)) hF (2, 63) (104) 0 56 (a0 := (56, .inl (fun _ => iI 0))) ac_int rfl rfl (fun _ _ h => h) (fun cA₉ => rfl) (by decide) (by decide) (Nat.le_of_ble_eq_true rfl) dX11_init_15 (show s.heap.size + 1 = ez E + (103) by omega) (Or.inl (by omega)) (by rw [hR]; exact Nat.le_of_ble_eq_true rfl) (by rw [hR]; exact Nat.le_of_ble_eq_true rfl) rfl rfl (fun s3₉ u_s3 f_s3 => ?_)
  have u_s3 : s3₉ 103 = ai E 56 (fun _ => 0) := u_s3
  have x_s3 : s3₉ 101 = ob 10 [vr E 102, .null, vi 0, .null, .null, .null, .null, vi 0, .null, vi 0, .null, vi 0, .null, .null, .null, .null, .null, .null, .null, .null, .null, .null, .null, .null, .null, .null, .null, .null, .null, vi 0, vi 0, vi 0, vi 0, vi 0] := (f_s3 101 (by decide)).trans u_s2
  have q102_s3 : s3₉ 102 = ai E 7 (fun _ => 0) := (f_s3 102 (by decide)).trans q102_s2
  refine go_putF (pc := 17) hF [vr E 102, vr E 103, vi 0, .null, .null, .null, .null, vi 0, .null, vi 0, .null, vi 0, .null, .null, .null, .null, .null, .null, .null, .null, .null, .null, .null, .null, .null, .null, .null, .null, .null, vi 0, vi 0, vi 0, vi 0, vi 0] fl_X11_13 (fun C₉ T n₉ h => by have e9₉ : some (C₉, T, n₉) = some (RX11, TX11, 34) := h.symm; cases e9₉; rfl) hnm dX11_init_17 (by omega) x_s3 rfl rfl rfl (Nat.le_of_ble_eq_true rfl) (fun s4₉ u_s4 f_s4 => ?_)
  have q102_s4 : s4₉ 102 = ai E 7 (fun _ => 0) := (f_s4 102 (by decide)).trans q102_s3
  have q103_s4 : s4₉ 103 = ai E 56 (fun _ => 0) := (f_s4 103 (by decide)).trans u_s3
  refine go_aload_n (pc := 20) hF dX11_init_20 0 rfl ?_
  refine go_iconst (pc := 21) hF dX11_init_21 ?_
  refine go_newa (pc := 22) (k := (2, 63)) hF (3, 66) (105) 0 3 (a0 := (3, .inl (fun _ => iI 0))) ac_int rfl rfl (fun _ _ h => h) (fun cA₉ => rfl) (by decide) (by decide) (Nat.le_of_ble_eq_true rfl) dX11_init_22 (show s.heap.size + 2 = ez E + (104) by omega) (Or.inl (by omega)) (by rw [hR]; exact Nat.le_of_ble_eq_true rfl) (by rw [hR]; exact Nat.le_of_ble_eq_true rfl) rfl rfl (fun s5 u_s5 f_s5 => ?_)
  have u_s5 : s5 104 = ai E 3 (fun _ => 0) := u_s5
  have x_s5 : s5 101 = ob 10 [vr E 102, vr E 103, vi 0, .null, .null, .null, .null, vi 0, .null, vi 0, .null, vi 0, .null, .null, .null, .null, .null, .null, .null, .null, .null, .null, .null, .null, .null, .null, .null, .null, .null, vi 0, vi 0, vi 0, vi 0, vi 0] := (f_s5 101 (by decide)).trans u_s4
  have q102_s5 : s5 102 = ai E 7 (fun _ => 0) := (f_s5 102 (by decide)).trans q102_s4
  have q103_s5 : s5 103 = ai E 56 (fun _ => 0) := (f_s5 103 (by decide)).trans q103_s4
  refine go_putF (pc := 24) hF [vr E 102, vr E 103, vi 0, vr E 104, .null, .null, .null, vi 0, .null, vi 0, .null, vi 0, .null, .null, .null, .null, .null, .null, .null, .null, .null, .null, .null, .null, .null, .null, .null, .null, .null, vi 0, vi 0, vi 0, vi 0, vi 0] fl_X11_16 (fun C₉ T n₉ h => by have e9₉ : some (C₉, T, n₉) = some (RX11, TX11, 34) := h.symm; cases e9₉; rfl) hnm dX11_init_24 (by omega) x_s5 rfl rfl rfl (Nat.le_of_ble_eq_true rfl) (fun s6₉ u_s6 f_s6 => ?_)
  have q102_s6 : s6₉ 102 = ai E 7 (fun _ => 0) := (f_s6 102 (by decide)).trans q102_s5
  have q103_s6 : s6₉ 103 = ai E 56 (fun _ => 0) := (f_s6 103 (by decide)).trans q103_s5
  have q104_s6 : s6₉ 104 = ai E 3 (fun _ => 0) := (f_s6 104 (by decide)).trans u_s5
  refine go_aload_n (pc := 27) hF dX11_init_27 0 rfl ?_
  refine go_bipush (pc := 28) hF dX11_init_28 (by decide) ?_
  refine go_newa (pc := 30) (k := (3, 66)) hF (4, 146) (106) 0 80 (a0 := (80, .inl (fun _ => iI 0))) ac_int rfl rfl (fun _ _ h => h) (fun cA₉ => rfl) (by decide) (by decide) (Nat.le_of_ble_eq_true rfl) dX11_init_30 (show s.heap.size + 3 = ez E + (105) by omega) (Or.inl (by omega)) (by rw [hR]; exact Nat.le_of_ble_eq_true rfl) (by rw [hR]; exact Nat.le_of_ble_eq_true rfl) rfl rfl (fun s7 u_s7 f_s7 => ?_)
  have u_s7 : s7 105 = ai E 80 (fun _ => 0) := u_s7
  have x_s7 : s7 101 = ob 10 [vr E 102, vr E 103, vi 0, vr E 104, .null, .null, .null, vi 0, .null, vi 0, .null, vi 0, .null, .null, .null, .null, .null, .null, .null, .null, .null, .null, .null, .null, .null, .null, .null, .null, .null, vi 0, vi 0, vi 0, vi 0, vi 0] := (f_s7 101 (by decide)).trans u_s6
  have q102_s7 : s7 102 = ai E 7 (fun _ => 0) := (f_s7 102 (by decide)).trans q102_s6
  have q103_s7 : s7 103 = ai E 56 (fun _ => 0) := (f_s7 103 (by decide)).trans q103_s6
  have q104_s7 : s7 104 = ai E 3 (fun _ => 0) := (f_s7 104 (by decide)).trans q104_s6
  refine go_putF (pc := 32) hF [vr E 102, vr E 103, vi 0, vr E 104, vr E 105, .null, .null, vi 0, .null, vi 0, .null, vi 0, .null, .null, .null, .null, .null, .null, .null, .null, .null, .null, .null, .null, .null, .null, .null, .null, .null, vi 0, vi 0, vi 0, vi 0, vi 0] fl_X11_19 (fun C₉ T n₉ h => by have e9₉ : some (C₉, T, n₉) = some (RX11, TX11, 34) := h.symm; cases e9₉; rfl) hnm dX11_init_32 (by omega) x_s7 rfl rfl rfl (Nat.le_of_ble_eq_true rfl) (fun s8 u_s8 f_s8 => ?_)
  have q102_s8 : s8 102 = ai E 7 (fun _ => 0) := (f_s8 102 (by decide)).trans q102_s7
  have q103_s8 : s8 103 = ai E 56 (fun _ => 0) := (f_s8 103 (by decide)).trans q103_s7
  have q104_s8 : s8 104 = ai E 3 (fun _ => 0) := (f_s8 104 (by decide)).trans q104_s7
  have q105_s8 : s8 105 = ai E 80 (fun _ => 0) := (f_s8 105 (by decide)).trans u_s7
  refine go_aload_n (pc := 35) hF dX11_init_35 0 rfl ?_
  refine go_bipush (pc := 36) hF dX11_init_36 (by decide) ?_
  refine go_newa (pc := 38) (k := (4, 146)) hF (5, 226) (107) 0 80 (a0 := (80, .inl (fun _ => iI 0))) ac_int rfl rfl (fun _ _ h => h) (fun cA₉ => rfl) (by decide) (by decide) (Nat.le_of_ble_eq_true rfl) dX11_init_38 (show s.heap.size + 4 = ez E + (106) by omega) (Or.inl (by omega)) (by rw [hR]; exact Nat.le_of_ble_eq_true rfl) (by rw [hR]; exact Nat.le_of_ble_eq_true rfl) rfl rfl (fun s9 u_s9 f_s9 => ?_)
  have u_s9 : s9 106 = ai E 80 (fun _ => 0) := u_s9
  have x_s9 : s9 101 = ob 10 [vr E 102, vr E 103, vi 0, vr E 104, vr E 105, .null, .null, vi 0, .null, vi 0, .null, vi 0, .null, .null, .null, .null, .null, .null, .null, .null, .null, .null, .null, .null, .null, .null, .null, .null, .null, vi 0, vi 0, vi 0, vi 0, vi 0] := (f_s9 101 (by decide)).trans u_s8
  have q102_s9 : s9 102 = ai E 7 (fun _ => 0) := (f_s9 102 (by decide)).trans q102_s8
  have q103_s9 : s9 103 = ai E 56 (fun _ => 0) := (f_s9 103 (by decide)).trans q103_s8
  have q104_s9 : s9 104 = ai E 3 (fun _ => 0) := (f_s9 104 (by decide)).trans q104_s8
  have q105_s9 : s9 105 = ai E 80 (fun _ => 0) := (f_s9 105 (by decide)).trans q105_s8
  refine go_putF (pc := 40) hF [vr E 102, vr E 103, vi 0, vr E 104, vr E 105, vr E 106, .null, vi 0, .null, vi 0, .null, vi 0, .null, .null, .null, .null, .null, .null, .null, .null, .null, .null, .null, .null, .null, .null, .null, .null, .null, vi 0, vi 0, vi 0, vi 0, vi 0] fl_X11_22 (fun C₉ T n₉ h => by have e9₉ : some (C₉, T, n₉) = some (RX11, TX11, 34) := h.symm; cases e9₉; rfl) hnm dX11_init_40 (by omega) x_s9 rfl rfl rfl (Nat.le_of_ble_eq_true rfl) (fun s10 u_s10 f_s10 => ?_)
  have q102_s10 : s10 102 = ai E 7 (fun _ => 0) := (f_s10 102 (by decide)).trans q102_s9
  have q103_s10 : s10 103 = ai E 56 (fun _ => 0) := (f_s10 103 (by decide)).trans q103_s9
  have q104_s10 : s10 104 = ai E 3 (fun _ => 0) := (f_s10 104 (by decide)).trans q104_s9
  have q105_s10 : s10 105 = ai E 80 (fun _ => 0) := (f_s10 105 (by decide)).trans q105_s9
  have q106_s10 : s10 106 = ai E 80 (fun _ => 0) := (f_s10 106 (by decide)).trans u_s9
  refine go_aload_n (pc := 43) hF dX11_init_43 0 rfl ?_
  refine go_bipush (pc := 44) hF dX11_init_44 (by decide) ?_
  refine go_newa (pc := 46) (k := (5, 226)) hF (6, 306) (108) 0 80 (a0 := (80, .inl (fun _ => iI 0))) ac_int rfl rfl (fun _ _ h => h) (fun cA₉ => rfl) (by decide) (by decide) (Nat.le_of_ble_eq_true rfl) dX11_init_46 (show s.heap.size + 5 = ez E + (107) by omega) (Or.inl (by omega)) (by rw [hR]; exact Nat.le_of_ble_eq_true rfl) (by rw [hR]; exact Nat.le_of_ble_eq_true rfl) rfl rfl (fun s11 u_s11 f_s11 => ?_)
  have u_s11 : s11 107 = ai E 80 (fun _ => 0) := u_s11
  have x_s11 : s11 101 = ob 10 [vr E 102, vr E 103, vi 0, vr E 104, vr E 105, vr E 106, .null, vi 0, .null, vi 0, .null, vi 0, .null, .null, .null, .null, .null, .null, .null, .null, .null, .null, .null, .null, .null, .null, .null, .null, .null, vi 0, vi 0, vi 0, vi 0, vi 0] := (f_s11 101 (by decide)).trans u_s10
  have q102_s11 : s11 102 = ai E 7 (fun _ => 0) := (f_s11 102 (by decide)).trans q102_s10
  have q103_s11 : s11 103 = ai E 56 (fun _ => 0) := (f_s11 103 (by decide)).trans q103_s10
  have q104_s11 : s11 104 = ai E 3 (fun _ => 0) := (f_s11 104 (by decide)).trans q104_s10
  have q105_s11 : s11 105 = ai E 80 (fun _ => 0) := (f_s11 105 (by decide)).trans q105_s10
  have q106_s11 : s11 106 = ai E 80 (fun _ => 0) := (f_s11 106 (by decide)).trans q106_s10
  refine go_putF (pc := 48) hF [vr E 102, vr E 103, vi 0, vr E 104, vr E 105, vr E 106, vr E 107, vi 0, .null, vi 0, .null, vi 0, .null, .null, .null, .null, .null, .null, .null, .null, .null, .null, .null, .null, .null, .null, .null, .null, .null, vi 0, vi 0, vi 0, vi 0, vi 0] fl_X11_25 (fun C₉ T n₉ h => by have e9₉ : some (C₉, T, n₉) = some (RX11, TX11, 34) := h.symm; cases e9₉; rfl) hnm dX11_init_48 (by omega) x_s11 rfl rfl rfl (Nat.le_of_ble_eq_true rfl) (fun s12 u_s12 f_s12 => ?_)
  have q102_s12 : s12 102 = ai E 7 (fun _ => 0) := (f_s12 102 (by decide)).trans q102_s11
  have q103_s12 : s12 103 = ai E 56 (fun _ => 0) := (f_s12 103 (by decide)).trans q103_s11
  have q104_s12 : s12 104 = ai E 3 (fun _ => 0) := (f_s12 104 (by decide)).trans q104_s11
  have q105_s12 : s12 105 = ai E 80 (fun _ => 0) := (f_s12 105 (by decide)).trans q105_s11
  have q106_s12 : s12 106 = ai E 80 (fun _ => 0) := (f_s12 106 (by decide)).trans q106_s11
  have q107_s12 : s12 107 = ai E 80 (fun _ => 0) := (f_s12 107 (by decide)).trans u_s11
  refine go_aload_n (pc := 51) hF dX11_init_51 0 rfl ?_
  refine go_bipush (pc := 52) hF dX11_init_52 (by decide) ?_
  refine go_newa (pc := 54) (k := (6, 306)) hF (7, 386) (109) 0 80 (a0 := (80, .inl (fun _ => iI 0))) ac_int rfl rfl (fun _ _ h => h) (fun cA₉ => rfl) (by decide) (by decide) (Nat.le_of_ble_eq_true rfl) dX11_init_54 (show s.heap.size + 6 = ez E + (108) by omega) (Or.inl (by omega)) (by rw [hR]; exact Nat.le_of_ble_eq_true rfl) (by rw [hR]; exact Nat.le_of_ble_eq_true rfl) rfl rfl (fun s13 u_s13 f_s13 => ?_)
  have u_s13 : s13 108 = ai E 80 (fun _ => 0) := u_s13
  have x_s13 : s13 101 = ob 10 [vr E 102, vr E 103, vi 0, vr E 104, vr E 105, vr E 106, vr E 107, vi 0, .null, vi 0, .null, vi 0, .null, .null, .null, .null, .null, .null, .null, .null, .null, .null, .null, .null, .null, .null, .null, .null, .null, vi 0, vi 0, vi 0, vi 0, vi 0] := (f_s13 101 (by decide)).trans u_s12
  have q102_s13 : s13 102 = ai E 7 (fun _ => 0) := (f_s13 102 (by decide)).trans q102_s12
  have q103_s13 : s13 103 = ai E 56 (fun _ => 0) := (f_s13 103 (by decide)).trans q103_s12
  have q104_s13 : s13 104 = ai E 3 (fun _ => 0) := (f_s13 104 (by decide)).trans q104_s12
  have q105_s13 : s13 105 = ai E 80 (fun _ => 0) := (f_s13 105 (by decide)).trans q105_s12
  have q106_s13 : s13 106 = ai E 80 (fun _ => 0) := (f_s13 106 (by decide)).trans q106_s12
  have q107_s13 : s13 107 = ai E 80 (fun _ => 0) := (f_s13 107 (by decide)).trans q107_s12
  refine go_putF (pc := 56) hF [vr E 102, vr E 103, vi 0, vr E 104, vr E 105, vr E 106, vr E 107, vi 0, vr E 108, vi 0, .null, vi 0, .null, .null, .null, .null, .null, .null, .null, .null, .null, .null, .null, .null, .null, .null, .null, .null, .null, vi 0, vi 0, vi 0, vi 0, vi 0] fl_X11_28 (fun C₉ T n₉ h => by have e9₉ : some (C₉, T, n₉) = some (RX11, TX11, 34) := h.symm; cases e9₉; rfl) hnm dX11_init_56 (by omega) x_s13 rfl rfl rfl (Nat.le_of_ble_eq_true rfl) (fun s14 u_s14 f_s14 => ?_)
  have q102_s14 : s14 102 = ai E 7 (fun _ => 0) := (f_s14 102 (by decide)).trans q102_s13
  have q103_s14 : s14 103 = ai E 56 (fun _ => 0) := (f_s14 103 (by decide)).trans q103_s13
  have q104_s14 : s14 104 = ai E 3 (fun _ => 0) := (f_s14 104 (by decide)).trans q104_s13
  have q105_s14 : s14 105 = ai E 80 (fun _ => 0) := (f_s14 105 (by decide)).trans q105_s13
  have q106_s14 : s14 106 = ai E 80 (fun _ => 0) := (f_s14 106 (by decide)).trans q106_s13
  have q107_s14 : s14 107 = ai E 80 (fun _ => 0) := (f_s14 107 (by decide)).trans q107_s13
  have q108_s14 : s14 108 = ai E 80 (fun _ => 0) := (f_s14 108 (by decide)).trans u_s13
  refine go_aload_n (pc := 59) hF dX11_init_59 0 rfl ?_
  refine go_bipush (pc := 60) hF dX11_init_60 (by decide) ?_
  refine go_newa (pc := 62) (k := (7, 386)) hF (8, 466) (110) 0 80 (a0 := (80, .inl (fun _ => iI 0))) ac_int rfl rfl (fun _ _ h => h) (fun cA₉ => rfl) (by decide) (by decide) (Nat.le_of_ble_eq_true rfl) dX11_init_62 (show s.heap.size + 7 = ez E + (109) by omega) (Or.inl (by omega)) (by rw [hR]; exact Nat.le_of_ble_eq_true rfl) (by rw [hR]; exact Nat.le_of_ble_eq_true rfl) rfl rfl (fun s15 u_s15 f_s15 => ?_)
  have u_s15 : s15 109 = ai E 80 (fun _ => 0) := u_s15
  have x_s15 : s15 101 = ob 10 [vr E 102, vr E 103, vi 0, vr E 104, vr E 105, vr E 106, vr E 107, vi 0, vr E 108, vi 0, .null, vi 0, .null, .null, .null, .null, .null, .null, .null, .null, .null, .null, .null, .null, .null, .null, .null, .null, .null, vi 0, vi 0, vi 0, vi 0, vi 0] := (f_s15 101 (by decide)).trans u_s14
  have q102_s15 : s15 102 = ai E 7 (fun _ => 0) := (f_s15 102 (by decide)).trans q102_s14
  have q103_s15 : s15 103 = ai E 56 (fun _ => 0) := (f_s15 103 (by decide)).trans q103_s14
  have q104_s15 : s15 104 = ai E 3 (fun _ => 0) := (f_s15 104 (by decide)).trans q104_s14
  have q105_s15 : s15 105 = ai E 80 (fun _ => 0) := (f_s15 105 (by decide)).trans q105_s14
  have q106_s15 : s15 106 = ai E 80 (fun _ => 0) := (f_s15 106 (by decide)).trans q106_s14
  have q107_s15 : s15 107 = ai E 80 (fun _ => 0) := (f_s15 107 (by decide)).trans q107_s14
  have q108_s15 : s15 108 = ai E 80 (fun _ => 0) := (f_s15 108 (by decide)).trans q108_s14
  refine go_putF (pc := 64) hF [vr E 102, vr E 103, vi 0, vr E 104, vr E 105, vr E 106, vr E 107, vi 0, vr E 108, vi 0, vr E 109, vi 0, .null, .null, .null, .null, .null, .null, .null, .null, .null, .null, .null, .null, .null, .null, .null, .null, .null, vi 0, vi 0, vi 0, vi 0, vi 0] fl_X11_31 (fun C₉ T n₉ h => by have e9₉ : some (C₉, T, n₉) = some (RX11, TX11, 34) := h.symm; cases e9₉; rfl) hnm dX11_init_64 (by omega) x_s15 rfl rfl rfl (Nat.le_of_ble_eq_true rfl) (fun s16 u_s16 f_s16 => ?_)
  have q102_s16 : s16 102 = ai E 7 (fun _ => 0) := (f_s16 102 (by decide)).trans q102_s15
  have q103_s16 : s16 103 = ai E 56 (fun _ => 0) := (f_s16 103 (by decide)).trans q103_s15
  have q104_s16 : s16 104 = ai E 3 (fun _ => 0) := (f_s16 104 (by decide)).trans q104_s15
  have q105_s16 : s16 105 = ai E 80 (fun _ => 0) := (f_s16 105 (by decide)).trans q105_s15
  have q106_s16 : s16 106 = ai E 80 (fun _ => 0) := (f_s16 106 (by decide)).trans q106_s15
  have q107_s16 : s16 107 = ai E 80 (fun _ => 0) := (f_s16 107 (by decide)).trans q107_s15
  have q108_s16 : s16 108 = ai E 80 (fun _ => 0) := (f_s16 108 (by decide)).trans q108_s15
  have q109_s16 : s16 109 = ai E 80 (fun _ => 0) := (f_s16 109 (by decide)).trans u_s15
  refine go_aload_n (pc := 67) hF dX11_init_67 0 rfl ?_
  refine go_iconst (pc := 68) hF dX11_init_68 ?_
  refine go_newa (pc := 69) (k := (8, 466)) hF (9, 470) (111) 0 4 (a0 := (4, .inl (fun _ => iI 0))) ac_int rfl rfl (fun _ _ h => h) (fun cA₉ => rfl) (by decide) (by decide) (Nat.le_of_ble_eq_true rfl) dX11_init_69 (show s.heap.size + 8 = ez E + (110) by omega) (Or.inl (by omega)) (by rw [hR]; exact Nat.le_of_ble_eq_true rfl) (by rw [hR]; exact Nat.le_of_ble_eq_true rfl) rfl rfl (fun s17 u_s17 f_s17 => ?_)
  have u_s17 : s17 110 = ai E 4 (fun _ => 0) := u_s17
  have x_s17 : s17 101 = ob 10 [vr E 102, vr E 103, vi 0, vr E 104, vr E 105, vr E 106, vr E 107, vi 0, vr E 108, vi 0, vr E 109, vi 0, .null, .null, .null, .null, .null, .null, .null, .null, .null, .null, .null, .null, .null, .null, .null, .null, .null, vi 0, vi 0, vi 0, vi 0, vi 0] := (f_s17 101 (by decide)).trans u_s16
  have q102_s17 : s17 102 = ai E 7 (fun _ => 0) := (f_s17 102 (by decide)).trans q102_s16
  have q103_s17 : s17 103 = ai E 56 (fun _ => 0) := (f_s17 103 (by decide)).trans q103_s16
  have q104_s17 : s17 104 = ai E 3 (fun _ => 0) := (f_s17 104 (by decide)).trans q104_s16
  have q105_s17 : s17 105 = ai E 80 (fun _ => 0) := (f_s17 105 (by decide)).trans q105_s16
  have q106_s17 : s17 106 = ai E 80 (fun _ => 0) := (f_s17 106 (by decide)).trans q106_s16
  have q107_s17 : s17 107 = ai E 80 (fun _ => 0) := (f_s17 107 (by decide)).trans q107_s16
  have q108_s17 : s17 108 = ai E 80 (fun _ => 0) := (f_s17 108 (by decide)).trans q108_s16
  have q109_s17 : s17 109 = ai E 80 (fun _ => 0) := (f_s17 109 (by decide)).trans q109_s16
  refine go_putF (pc := 71) hF [vr E 102, vr E 103, vi 0, vr E 104, vr E 105, vr E 106, vr E 107, vi 0, vr E 108, vi 0, vr E 109, vi 0, vr E 110, .null, .null, .null, .null, .null, .null, .null, .null, .null, .null, .null, .null, .null, .null, .null, .null, vi 0, vi 0, vi 0, vi 0, vi 0] fl_X11_34 (fun C₉ T n₉ h => by have e9₉ : some (C₉, T, n₉) = some (RX11, TX11, 34) := h.symm; cases e9₉; rfl) hnm dX11_init_71 (by omega) x_s17 rfl rfl rfl (Nat.le_of_ble_eq_true rfl) (fun s18 u_s18 f_s18 => ?_)
  have q102_s18 : s18 102 = ai E 7 (fun _ => 0) := (f_s18 102 (by decide)).trans q102_s17
  have q103_s18 : s18 103 = ai E 56 (fun _ => 0) := (f_s18 103 (by decide)).trans q103_s17
  have q104_s18 : s18 104 = ai E 3 (fun _ => 0) := (f_s18 104 (by decide)).trans q104_s17
  have q105_s18 : s18 105 = ai E 80 (fun _ => 0) := (f_s18 105 (by decide)).trans q105_s17
  have q106_s18 : s18 106 = ai E 80 (fun _ => 0) := (f_s18 106 (by decide)).trans q106_s17
  have q107_s18 : s18 107 = ai E 80 (fun _ => 0) := (f_s18 107 (by decide)).trans q107_s17
  have q108_s18 : s18 108 = ai E 80 (fun _ => 0) := (f_s18 108 (by decide)).trans q108_s17
  have q109_s18 : s18 109 = ai E 80 (fun _ => 0) := (f_s18 109 (by decide)).trans q109_s17
  have q110_s18 : s18 110 = ai E 4 (fun _ => 0) := (f_s18 110 (by decide)).trans u_s17
  refine go_aload_n (pc := 74) hF dX11_init_74 0 rfl ?_
  refine go_iconst (pc := 75) hF dX11_init_75 ?_
  refine go_newa (pc := 76) (k := (9, 470)) hF (10, 474) (112) 2 4 (a0 := (4, .inl (fun _ => iI 0))) ac_boolean rfl rfl (fun _ _ h => h) (fun cA₉ => rfl) (by decide) (by decide) (Nat.le_of_ble_eq_true rfl) dX11_init_76 (show s.heap.size + 9 = ez E + (111) by omega) (Or.inl (by omega)) (by rw [hR]; exact Nat.le_of_ble_eq_true rfl) (by rw [hR]; exact Nat.le_of_ble_eq_true rfl) rfl rfl (fun s19 u_s19 f_s19 => ?_)
  have u_s19 : s19 111 = az E 4 (fun _ => 0) := u_s19
  have x_s19 : s19 101 = ob 10 [vr E 102, vr E 103, vi 0, vr E 104, vr E 105, vr E 106, vr E 107, vi 0, vr E 108, vi 0, vr E 109, vi 0, vr E 110, .null, .null, .null, .null, .null, .null, .null, .null, .null, .null, .null, .null, .null, .null, .null, .null, vi 0, vi 0, vi 0, vi 0, vi 0] := (f_s19 101 (by decide)).trans u_s18
  have q102_s19 : s19 102 = ai E 7 (fun _ => 0) := (f_s19 102 (by decide)).trans q102_s18
  have q103_s19 : s19 103 = ai E 56 (fun _ => 0) := (f_s19 103 (by decide)).trans q103_s18
  have q104_s19 : s19 104 = ai E 3 (fun _ => 0) := (f_s19 104 (by decide)).trans q104_s18
  have q105_s19 : s19 105 = ai E 80 (fun _ => 0) := (f_s19 105 (by decide)).trans q105_s18
  have q106_s19 : s19 106 = ai E 80 (fun _ => 0) := (f_s19 106 (by decide)).trans q106_s18
  have q107_s19 : s19 107 = ai E 80 (fun _ => 0) := (f_s19 107 (by decide)).trans q107_s18
  have q108_s19 : s19 108 = ai E 80 (fun _ => 0) := (f_s19 108 (by decide)).trans q108_s18
  have q109_s19 : s19 109 = ai E 80 (fun _ => 0) := (f_s19 109 (by decide)).trans q109_s18
  have q110_s19 : s19 110 = ai E 4 (fun _ => 0) := (f_s19 110 (by decide)).trans q110_s18
  refine go_putF (pc := 78) hF [vr E 102, vr E 103, vi 0, vr E 104, vr E 105, vr E 106, vr E 107, vi 0, vr E 108, vi 0, vr E 109, vi 0, vr E 110, vr E 111, .null, .null, .null, .null, .null, .null, .null, .null, .null, .null, .null, .null, .null, .null, .null, vi 0, vi 0, vi 0, vi 0, vi 0] fl_X11_37 (fun C₉ T n₉ h => by have e9₉ : some (C₉, T, n₉) = some (RX11, TX11, 34) := h.symm; cases e9₉; rfl) hnm dX11_init_78 (by omega) x_s19 rfl rfl rfl (Nat.le_of_ble_eq_true rfl) (fun s20 u_s20 f_s20 => ?_)
  have q102_s20 : s20 102 = ai E 7 (fun _ => 0) := (f_s20 102 (by decide)).trans q102_s19
  have q103_s20 : s20 103 = ai E 56 (fun _ => 0) := (f_s20 103 (by decide)).trans q103_s19
  have q104_s20 : s20 104 = ai E 3 (fun _ => 0) := (f_s20 104 (by decide)).trans q104_s19
  have q105_s20 : s20 105 = ai E 80 (fun _ => 0) := (f_s20 105 (by decide)).trans q105_s19
  have q106_s20 : s20 106 = ai E 80 (fun _ => 0) := (f_s20 106 (by decide)).trans q106_s19
  have q107_s20 : s20 107 = ai E 80 (fun _ => 0) := (f_s20 107 (by decide)).trans q107_s19
  have q108_s20 : s20 108 = ai E 80 (fun _ => 0) := (f_s20 108 (by decide)).trans q108_s19
  have q109_s20 : s20 109 = ai E 80 (fun _ => 0) := (f_s20 109 (by decide)).trans q109_s19
  have q110_s20 : s20 110 = ai E 4 (fun _ => 0) := (f_s20 110 (by decide)).trans q110_s19
  have q111_s20 : s20 111 = az E 4 (fun _ => 0) := (f_s20 111 (by decide)).trans u_s19
  refine go_aload_n (pc := 81) hF dX11_init_81 0 rfl ?_
  refine go_bipush (pc := 82) hF dX11_init_82 (by decide) ?_
  refine go_newa (pc := 84) (k := (10, 474)) hF (11, 486) (113) 0 12 (a0 := (12, .inl (fun _ => iI 0))) ac_int rfl rfl (fun _ _ h => h) (fun cA₉ => rfl) (by decide) (by decide) (Nat.le_of_ble_eq_true rfl) dX11_init_84 (show s.heap.size + 10 = ez E + (112) by omega) (Or.inl (by omega)) (by rw [hR]; exact Nat.le_of_ble_eq_true rfl) (by rw [hR]; exact Nat.le_of_ble_eq_true rfl) rfl rfl (fun s21 u_s21 f_s21 => ?_)
  have u_s21 : s21 112 = ai E 12 (fun _ => 0) := u_s21
  have x_s21 : s21 101 = ob 10 [vr E 102, vr E 103, vi 0, vr E 104, vr E 105, vr E 106, vr E 107, vi 0, vr E 108, vi 0, vr E 109, vi 0, vr E 110, vr E 111, .null, .null, .null, .null, .null, .null, .null, .null, .null, .null, .null, .null, .null, .null, .null, vi 0, vi 0, vi 0, vi 0, vi 0] := (f_s21 101 (by decide)).trans u_s20
  have q102_s21 : s21 102 = ai E 7 (fun _ => 0) := (f_s21 102 (by decide)).trans q102_s20
  have q103_s21 : s21 103 = ai E 56 (fun _ => 0) := (f_s21 103 (by decide)).trans q103_s20
  have q104_s21 : s21 104 = ai E 3 (fun _ => 0) := (f_s21 104 (by decide)).trans q104_s20
  have q105_s21 : s21 105 = ai E 80 (fun _ => 0) := (f_s21 105 (by decide)).trans q105_s20
  have q106_s21 : s21 106 = ai E 80 (fun _ => 0) := (f_s21 106 (by decide)).trans q106_s20
  have q107_s21 : s21 107 = ai E 80 (fun _ => 0) := (f_s21 107 (by decide)).trans q107_s20
  have q108_s21 : s21 108 = ai E 80 (fun _ => 0) := (f_s21 108 (by decide)).trans q108_s20
  have q109_s21 : s21 109 = ai E 80 (fun _ => 0) := (f_s21 109 (by decide)).trans q109_s20
  have q110_s21 : s21 110 = ai E 4 (fun _ => 0) := (f_s21 110 (by decide)).trans q110_s20
  have q111_s21 : s21 111 = az E 4 (fun _ => 0) := (f_s21 111 (by decide)).trans q111_s20
  refine go_putF (pc := 86) hF [vr E 102, vr E 103, vi 0, vr E 104, vr E 105, vr E 106, vr E 107, vi 0, vr E 108, vi 0, vr E 109, vi 0, vr E 110, vr E 111, vr E 112, .null, .null, .null, .null, .null, .null, .null, .null, .null, .null, .null, .null, .null, .null, vi 0, vi 0, vi 0, vi 0, vi 0] fl_X11_41 (fun C₉ T n₉ h => by have e9₉ : some (C₉, T, n₉) = some (RX11, TX11, 34) := h.symm; cases e9₉; rfl) hnm dX11_init_86 (by omega) x_s21 rfl rfl rfl (Nat.le_of_ble_eq_true rfl) (fun s22 u_s22 f_s22 => ?_)
  have q102_s22 : s22 102 = ai E 7 (fun _ => 0) := (f_s22 102 (by decide)).trans q102_s21
  have q103_s22 : s22 103 = ai E 56 (fun _ => 0) := (f_s22 103 (by decide)).trans q103_s21
  have q104_s22 : s22 104 = ai E 3 (fun _ => 0) := (f_s22 104 (by decide)).trans q104_s21
  have q105_s22 : s22 105 = ai E 80 (fun _ => 0) := (f_s22 105 (by decide)).trans q105_s21
  have q106_s22 : s22 106 = ai E 80 (fun _ => 0) := (f_s22 106 (by decide)).trans q106_s21
  have q107_s22 : s22 107 = ai E 80 (fun _ => 0) := (f_s22 107 (by decide)).trans q107_s21
  have q108_s22 : s22 108 = ai E 80 (fun _ => 0) := (f_s22 108 (by decide)).trans q108_s21
  have q109_s22 : s22 109 = ai E 80 (fun _ => 0) := (f_s22 109 (by decide)).trans q109_s21
  have q110_s22 : s22 110 = ai E 4 (fun _ => 0) := (f_s22 110 (by decide)).trans q110_s21
  have q111_s22 : s22 111 = az E 4 (fun _ => 0) := (f_s22 111 (by decide)).trans q111_s21
  have q112_s22 : s22 112 = ai E 12 (fun _ => 0) := (f_s22 112 (by decide)).trans u_s21
  refine go_aload_n (pc := 89) hF dX11_init_89 0 rfl ?_
  refine go_bipush (pc := 90) hF dX11_init_90 (by decide) ?_
  refine go_newa (pc := 92) (k := (11, 486)) hF (12, 534) (114) 0 48 (a0 := (48, .inl (fun _ => iI 0))) ac_int rfl rfl (fun _ _ h => h) (fun cA₉ => rfl) (by decide) (by decide) (Nat.le_of_ble_eq_true rfl) dX11_init_92 (show s.heap.size + 11 = ez E + (113) by omega) (Or.inl (by omega)) (by rw [hR]; exact Nat.le_of_ble_eq_true rfl) (by rw [hR]; exact Nat.le_of_ble_eq_true rfl) rfl rfl (fun s23 u_s23 f_s23 => ?_)
  have u_s23 : s23 113 = ai E 48 (fun _ => 0) := u_s23
  have x_s23 : s23 101 = ob 10 [vr E 102, vr E 103, vi 0, vr E 104, vr E 105, vr E 106, vr E 107, vi 0, vr E 108, vi 0, vr E 109, vi 0, vr E 110, vr E 111, vr E 112, .null, .null, .null, .null, .null, .null, .null, .null, .null, .null, .null, .null, .null, .null, vi 0, vi 0, vi 0, vi 0, vi 0] := (f_s23 101 (by decide)).trans u_s22
  have q102_s23 : s23 102 = ai E 7 (fun _ => 0) := (f_s23 102 (by decide)).trans q102_s22
  have q103_s23 : s23 103 = ai E 56 (fun _ => 0) := (f_s23 103 (by decide)).trans q103_s22
  have q104_s23 : s23 104 = ai E 3 (fun _ => 0) := (f_s23 104 (by decide)).trans q104_s22
  have q105_s23 : s23 105 = ai E 80 (fun _ => 0) := (f_s23 105 (by decide)).trans q105_s22
  have q106_s23 : s23 106 = ai E 80 (fun _ => 0) := (f_s23 106 (by decide)).trans q106_s22
  have q107_s23 : s23 107 = ai E 80 (fun _ => 0) := (f_s23 107 (by decide)).trans q107_s22
  have q108_s23 : s23 108 = ai E 80 (fun _ => 0) := (f_s23 108 (by decide)).trans q108_s22
  have q109_s23 : s23 109 = ai E 80 (fun _ => 0) := (f_s23 109 (by decide)).trans q109_s22
  have q110_s23 : s23 110 = ai E 4 (fun _ => 0) := (f_s23 110 (by decide)).trans q110_s22
  have q111_s23 : s23 111 = az E 4 (fun _ => 0) := (f_s23 111 (by decide)).trans q111_s22
  have q112_s23 : s23 112 = ai E 12 (fun _ => 0) := (f_s23 112 (by decide)).trans q112_s22
  refine go_putF (pc := 94) hF [vr E 102, vr E 103, vi 0, vr E 104, vr E 105, vr E 106, vr E 107, vi 0, vr E 108, vi 0, vr E 109, vi 0, vr E 110, vr E 111, vr E 112, vr E 113, .null, .null, .null, .null, .null, .null, .null, .null, .null, .null, .null, .null, .null, vi 0, vi 0, vi 0, vi 0, vi 0] fl_X11_44 (fun C₉ T n₉ h => by have e9₉ : some (C₉, T, n₉) = some (RX11, TX11, 34) := h.symm; cases e9₉; rfl) hnm dX11_init_94 (by omega) x_s23 rfl rfl rfl (Nat.le_of_ble_eq_true rfl) (fun s24 u_s24 f_s24 => ?_)
  have q102_s24 : s24 102 = ai E 7 (fun _ => 0) := (f_s24 102 (by decide)).trans q102_s23
  have q103_s24 : s24 103 = ai E 56 (fun _ => 0) := (f_s24 103 (by decide)).trans q103_s23
  have q104_s24 : s24 104 = ai E 3 (fun _ => 0) := (f_s24 104 (by decide)).trans q104_s23
  have q105_s24 : s24 105 = ai E 80 (fun _ => 0) := (f_s24 105 (by decide)).trans q105_s23
  have q106_s24 : s24 106 = ai E 80 (fun _ => 0) := (f_s24 106 (by decide)).trans q106_s23
  have q107_s24 : s24 107 = ai E 80 (fun _ => 0) := (f_s24 107 (by decide)).trans q107_s23
  have q108_s24 : s24 108 = ai E 80 (fun _ => 0) := (f_s24 108 (by decide)).trans q108_s23
  have q109_s24 : s24 109 = ai E 80 (fun _ => 0) := (f_s24 109 (by decide)).trans q109_s23
  have q110_s24 : s24 110 = ai E 4 (fun _ => 0) := (f_s24 110 (by decide)).trans q110_s23
  have q111_s24 : s24 111 = az E 4 (fun _ => 0) := (f_s24 111 (by decide)).trans q111_s23
  have q112_s24 : s24 112 = ai E 12 (fun _ => 0) := (f_s24 112 (by decide)).trans q112_s23
  have q113_s24 : s24 113 = ai E 48 (fun _ => 0) := (f_s24 113 (by decide)).trans u_s23
  refine go_aload_n (pc := 97) hF dX11_init_97 0 rfl ?_
  refine go_bipush (pc := 98) hF dX11_init_98 (by decide) ?_
  refine go_newa (pc := 100) (k := (12, 534)) hF (13, 582) (115) 0 48 (a0 := (48, .inl (fun _ => iI 0))) ac_int rfl rfl (fun _ _ h => h) (fun cA₉ => rfl) (by decide) (by decide) (Nat.le_of_ble_eq_true rfl) dX11_init_100 (show s.heap.size + 12 = ez E + (114) by omega) (Or.inl (by omega)) (by rw [hR]; exact Nat.le_of_ble_eq_true rfl) (by rw [hR]; exact Nat.le_of_ble_eq_true rfl) rfl rfl (fun s25 u_s25 f_s25 => ?_)
  have u_s25 : s25 114 = ai E 48 (fun _ => 0) := u_s25
  have x_s25 : s25 101 = ob 10 [vr E 102, vr E 103, vi 0, vr E 104, vr E 105, vr E 106, vr E 107, vi 0, vr E 108, vi 0, vr E 109, vi 0, vr E 110, vr E 111, vr E 112, vr E 113, .null, .null, .null, .null, .null, .null, .null, .null, .null, .null, .null, .null, .null, vi 0, vi 0, vi 0, vi 0, vi 0] := (f_s25 101 (by decide)).trans u_s24
  have q102_s25 : s25 102 = ai E 7 (fun _ => 0) := (f_s25 102 (by decide)).trans q102_s24
  have q103_s25 : s25 103 = ai E 56 (fun _ => 0) := (f_s25 103 (by decide)).trans q103_s24
  have q104_s25 : s25 104 = ai E 3 (fun _ => 0) := (f_s25 104 (by decide)).trans q104_s24
  have q105_s25 : s25 105 = ai E 80 (fun _ => 0) := (f_s25 105 (by decide)).trans q105_s24
  have q106_s25 : s25 106 = ai E 80 (fun _ => 0) := (f_s25 106 (by decide)).trans q106_s24
  have q107_s25 : s25 107 = ai E 80 (fun _ => 0) := (f_s25 107 (by decide)).trans q107_s24
  have q108_s25 : s25 108 = ai E 80 (fun _ => 0) := (f_s25 108 (by decide)).trans q108_s24
  have q109_s25 : s25 109 = ai E 80 (fun _ => 0) := (f_s25 109 (by decide)).trans q109_s24
  have q110_s25 : s25 110 = ai E 4 (fun _ => 0) := (f_s25 110 (by decide)).trans q110_s24
  have q111_s25 : s25 111 = az E 4 (fun _ => 0) := (f_s25 111 (by decide)).trans q111_s24
  have q112_s25 : s25 112 = ai E 12 (fun _ => 0) := (f_s25 112 (by decide)).trans q112_s24
  have q113_s25 : s25 113 = ai E 48 (fun _ => 0) := (f_s25 113 (by decide)).trans q113_s24
  refine go_putF (pc := 102) hF [vr E 102, vr E 103, vi 0, vr E 104, vr E 105, vr E 106, vr E 107, vi 0, vr E 108, vi 0, vr E 109, vi 0, vr E 110, vr E 111, vr E 112, vr E 113, vr E 114, .null, .null, .null, .null, .null, .null, .null, .null, .null, .null, .null, .null, vi 0, vi 0, vi 0, vi 0, vi 0] fl_X11_47 (fun C₉ T n₉ h => by have e9₉ : some (C₉, T, n₉) = some (RX11, TX11, 34) := h.symm; cases e9₉; rfl) hnm dX11_init_102 (by omega) x_s25 rfl rfl rfl (Nat.le_of_ble_eq_true rfl) (fun s26 u_s26 f_s26 => ?_)
  have q102_s26 : s26 102 = ai E 7 (fun _ => 0) := (f_s26 102 (by decide)).trans q102_s25
  have q103_s26 : s26 103 = ai E 56 (fun _ => 0) := (f_s26 103 (by decide)).trans q103_s25
  have q104_s26 : s26 104 = ai E 3 (fun _ => 0) := (f_s26 104 (by decide)).trans q104_s25
  have q105_s26 : s26 105 = ai E 80 (fun _ => 0) := (f_s26 105 (by decide)).trans q105_s25
  have q106_s26 : s26 106 = ai E 80 (fun _ => 0) := (f_s26 106 (by decide)).trans q106_s25
  have q107_s26 : s26 107 = ai E 80 (fun _ => 0) := (f_s26 107 (by decide)).trans q107_s25
  have q108_s26 : s26 108 = ai E 80 (fun _ => 0) := (f_s26 108 (by decide)).trans q108_s25
  have q109_s26 : s26 109 = ai E 80 (fun _ => 0) := (f_s26 109 (by decide)).trans q109_s25
  have q110_s26 : s26 110 = ai E 4 (fun _ => 0) := (f_s26 110 (by decide)).trans q110_s25
  have q111_s26 : s26 111 = az E 4 (fun _ => 0) := (f_s26 111 (by decide)).trans q111_s25
  have q112_s26 : s26 112 = ai E 12 (fun _ => 0) := (f_s26 112 (by decide)).trans q112_s25
  have q113_s26 : s26 113 = ai E 48 (fun _ => 0) := (f_s26 113 (by decide)).trans q113_s25
  have q114_s26 : s26 114 = ai E 48 (fun _ => 0) := (f_s26 114 (by decide)).trans u_s25
  refine go_aload_n (pc := 105) hF dX11_init_105 0 rfl ?_
  refine go_bipush (pc := 106) hF dX11_init_106 (by decide) ?_
  refine go_newa (pc := 108) (k := (13, 582)) hF (14, 662) (116) 0 80 (a0 := (80, .inl (fun _ => iI 0))) ac_int rfl rfl (fun _ _ h => h) (fun cA₉ => rfl) (by decide) (by decide) (Nat.le_of_ble_eq_true rfl) dX11_init_108 (show s.heap.size + 13 = ez E + (115) by omega) (Or.inl (by omega)) (by rw [hR]; exact Nat.le_of_ble_eq_true rfl) (by rw [hR]; exact Nat.le_of_ble_eq_true rfl) rfl rfl (fun s27 u_s27 f_s27 => ?_)
  have u_s27 : s27 115 = ai E 80 (fun _ => 0) := u_s27
  have x_s27 : s27 101 = ob 10 [vr E 102, vr E 103, vi 0, vr E 104, vr E 105, vr E 106, vr E 107, vi 0, vr E 108, vi 0, vr E 109, vi 0, vr E 110, vr E 111, vr E 112, vr E 113, vr E 114, .null, .null, .null, .null, .null, .null, .null, .null, .null, .null, .null, .null, vi 0, vi 0, vi 0, vi 0, vi 0] := (f_s27 101 (by decide)).trans u_s26
  have q102_s27 : s27 102 = ai E 7 (fun _ => 0) := (f_s27 102 (by decide)).trans q102_s26
  have q103_s27 : s27 103 = ai E 56 (fun _ => 0) := (f_s27 103 (by decide)).trans q103_s26
  have q104_s27 : s27 104 = ai E 3 (fun _ => 0) := (f_s27 104 (by decide)).trans q104_s26
  have q105_s27 : s27 105 = ai E 80 (fun _ => 0) := (f_s27 105 (by decide)).trans q105_s26
  have q106_s27 : s27 106 = ai E 80 (fun _ => 0) := (f_s27 106 (by decide)).trans q106_s26
  have q107_s27 : s27 107 = ai E 80 (fun _ => 0) := (f_s27 107 (by decide)).trans q107_s26
  have q108_s27 : s27 108 = ai E 80 (fun _ => 0) := (f_s27 108 (by decide)).trans q108_s26
  have q109_s27 : s27 109 = ai E 80 (fun _ => 0) := (f_s27 109 (by decide)).trans q109_s26
  have q110_s27 : s27 110 = ai E 4 (fun _ => 0) := (f_s27 110 (by decide)).trans q110_s26
  have q111_s27 : s27 111 = az E 4 (fun _ => 0) := (f_s27 111 (by decide)).trans q111_s26
  have q112_s27 : s27 112 = ai E 12 (fun _ => 0) := (f_s27 112 (by decide)).trans q112_s26
  have q113_s27 : s27 113 = ai E 48 (fun _ => 0) := (f_s27 113 (by decide)).trans q113_s26
  have q114_s27 : s27 114 = ai E 48 (fun _ => 0) := (f_s27 114 (by decide)).trans q114_s26
  refine go_putF (pc := 110) hF [vr E 102, vr E 103, vi 0, vr E 104, vr E 105, vr E 106, vr E 107, vi 0, vr E 108, vi 0, vr E 109, vi 0, vr E 110, vr E 111, vr E 112, vr E 113, vr E 114, vr E 115, .null, .null, .null, .null, .null, .null, .null, .null, .null, .null, .null, vi 0, vi 0, vi 0, vi 0, vi 0] fl_X11_50 (fun C₉ T n₉ h => by have e9₉ : some (C₉, T, n₉) = some (RX11, TX11, 34) := h.symm; cases e9₉; rfl) hnm dX11_init_110 (by omega) x_s27 rfl rfl rfl (Nat.le_of_ble_eq_true rfl) (fun s28 u_s28 f_s28 => ?_)
  have q102_s28 : s28 102 = ai E 7 (fun _ => 0) := (f_s28 102 (by decide)).trans q102_s27
  have q103_s28 : s28 103 = ai E 56 (fun _ => 0) := (f_s28 103 (by decide)).trans q103_s27
  have q104_s28 : s28 104 = ai E 3 (fun _ => 0) := (f_s28 104 (by decide)).trans q104_s27
  have q105_s28 : s28 105 = ai E 80 (fun _ => 0) := (f_s28 105 (by decide)).trans q105_s27
  have q106_s28 : s28 106 = ai E 80 (fun _ => 0) := (f_s28 106 (by decide)).trans q106_s27
  have q107_s28 : s28 107 = ai E 80 (fun _ => 0) := (f_s28 107 (by decide)).trans q107_s27
  have q108_s28 : s28 108 = ai E 80 (fun _ => 0) := (f_s28 108 (by decide)).trans q108_s27
  have q109_s28 : s28 109 = ai E 80 (fun _ => 0) := (f_s28 109 (by decide)).trans q109_s27
  have q110_s28 : s28 110 = ai E 4 (fun _ => 0) := (f_s28 110 (by decide)).trans q110_s27
  have q111_s28 : s28 111 = az E 4 (fun _ => 0) := (f_s28 111 (by decide)).trans q111_s27
  have q112_s28 : s28 112 = ai E 12 (fun _ => 0) := (f_s28 112 (by decide)).trans q112_s27
  have q113_s28 : s28 113 = ai E 48 (fun _ => 0) := (f_s28 113 (by decide)).trans q113_s27
  have q114_s28 : s28 114 = ai E 48 (fun _ => 0) := (f_s28 114 (by decide)).trans q114_s27
  have q115_s28 : s28 115 = ai E 80 (fun _ => 0) := (f_s28 115 (by decide)).trans u_s27
  refine go_aload_n (pc := 113) hF dX11_init_113 0 rfl ?_
  refine go_bipush (pc := 114) hF dX11_init_114 (by decide) ?_
  refine go_newa (pc := 116) (k := (14, 662)) hF (15, 742) (117) 0 80 (a0 := (80, .inl (fun _ => iI 0))) ac_int rfl rfl (fun _ _ h => h) (fun cA₉ => rfl) (by decide) (by decide) (Nat.le_of_ble_eq_true rfl) dX11_init_116 (show s.heap.size + 14 = ez E + (116) by omega) (Or.inl (by omega)) (by rw [hR]; exact Nat.le_of_ble_eq_true rfl) (by rw [hR]; exact Nat.le_of_ble_eq_true rfl) rfl rfl (fun s29 u_s29 f_s29 => ?_)
  have u_s29 : s29 116 = ai E 80 (fun _ => 0) := u_s29
  have x_s29 : s29 101 = ob 10 [vr E 102, vr E 103, vi 0, vr E 104, vr E 105, vr E 106, vr E 107, vi 0, vr E 108, vi 0, vr E 109, vi 0, vr E 110, vr E 111, vr E 112, vr E 113, vr E 114, vr E 115, .null, .null, .null, .null, .null, .null, .null, .null, .null, .null, .null, vi 0, vi 0, vi 0, vi 0, vi 0] := (f_s29 101 (by decide)).trans u_s28
  have q102_s29 : s29 102 = ai E 7 (fun _ => 0) := (f_s29 102 (by decide)).trans q102_s28
  have q103_s29 : s29 103 = ai E 56 (fun _ => 0) := (f_s29 103 (by decide)).trans q103_s28
  have q104_s29 : s29 104 = ai E 3 (fun _ => 0) := (f_s29 104 (by decide)).trans q104_s28
  have q105_s29 : s29 105 = ai E 80 (fun _ => 0) := (f_s29 105 (by decide)).trans q105_s28
  have q106_s29 : s29 106 = ai E 80 (fun _ => 0) := (f_s29 106 (by decide)).trans q106_s28
  have q107_s29 : s29 107 = ai E 80 (fun _ => 0) := (f_s29 107 (by decide)).trans q107_s28
  have q108_s29 : s29 108 = ai E 80 (fun _ => 0) := (f_s29 108 (by decide)).trans q108_s28
  have q109_s29 : s29 109 = ai E 80 (fun _ => 0) := (f_s29 109 (by decide)).trans q109_s28
  have q110_s29 : s29 110 = ai E 4 (fun _ => 0) := (f_s29 110 (by decide)).trans q110_s28
  have q111_s29 : s29 111 = az E 4 (fun _ => 0) := (f_s29 111 (by decide)).trans q111_s28
  have q112_s29 : s29 112 = ai E 12 (fun _ => 0) := (f_s29 112 (by decide)).trans q112_s28
  have q113_s29 : s29 113 = ai E 48 (fun _ => 0) := (f_s29 113 (by decide)).trans q113_s28
  have q114_s29 : s29 114 = ai E 48 (fun _ => 0) := (f_s29 114 (by decide)).trans q114_s28
  have q115_s29 : s29 115 = ai E 80 (fun _ => 0) := (f_s29 115 (by decide)).trans q115_s28
  refine go_putF (pc := 118) hF [vr E 102, vr E 103, vi 0, vr E 104, vr E 105, vr E 106, vr E 107, vi 0, vr E 108, vi 0, vr E 109, vi 0, vr E 110, vr E 111, vr E 112, vr E 113, vr E 114, vr E 115, vr E 116, .null, .null, .null, .null, .null, .null, .null, .null, .null, .null, vi 0, vi 0, vi 0, vi 0, vi 0] fl_X11_53 (fun C₉ T n₉ h => by have e9₉ : some (C₉, T, n₉) = some (RX11, TX11, 34) := h.symm; cases e9₉; rfl) hnm dX11_init_118 (by omega) x_s29 rfl rfl rfl (Nat.le_of_ble_eq_true rfl) (fun s30 u_s30 f_s30 => ?_)
  have q102_s30 : s30 102 = ai E 7 (fun _ => 0) := (f_s30 102 (by decide)).trans q102_s29
  have q103_s30 : s30 103 = ai E 56 (fun _ => 0) := (f_s30 103 (by decide)).trans q103_s29
  have q104_s30 : s30 104 = ai E 3 (fun _ => 0) := (f_s30 104 (by decide)).trans q104_s29
  have q105_s30 : s30 105 = ai E 80 (fun _ => 0) := (f_s30 105 (by decide)).trans q105_s29
  have q106_s30 : s30 106 = ai E 80 (fun _ => 0) := (f_s30 106 (by decide)).trans q106_s29
  have q107_s30 : s30 107 = ai E 80 (fun _ => 0) := (f_s30 107 (by decide)).trans q107_s29
  have q108_s30 : s30 108 = ai E 80 (fun _ => 0) := (f_s30 108 (by decide)).trans q108_s29
  have q109_s30 : s30 109 = ai E 80 (fun _ => 0) := (f_s30 109 (by decide)).trans q109_s29
  have q110_s30 : s30 110 = ai E 4 (fun _ => 0) := (f_s30 110 (by decide)).trans q110_s29
  have q111_s30 : s30 111 = az E 4 (fun _ => 0) := (f_s30 111 (by decide)).trans q111_s29
  have q112_s30 : s30 112 = ai E 12 (fun _ => 0) := (f_s30 112 (by decide)).trans q112_s29
  have q113_s30 : s30 113 = ai E 48 (fun _ => 0) := (f_s30 113 (by decide)).trans q113_s29
  have q114_s30 : s30 114 = ai E 48 (fun _ => 0) := (f_s30 114 (by decide)).trans q114_s29
  have q115_s30 : s30 115 = ai E 80 (fun _ => 0) := (f_s30 115 (by decide)).trans q115_s29
  have q116_s30 : s30 116 = ai E 80 (fun _ => 0) := (f_s30 116 (by decide)).trans u_s29
  refine go_aload_n (pc := 121) hF dX11_init_121 0 rfl ?_
  refine go_iconst (pc := 122) hF dX11_init_122 ?_
  refine go_newa (pc := 123) (k := (15, 742)) hF (16, 746) (118) 0 4 (a0 := (4, .inl (fun _ => iI 0))) ac_int rfl rfl (fun _ _ h => h) (fun cA₉ => rfl) (by decide) (by decide) (Nat.le_of_ble_eq_true rfl) dX11_init_123 (show s.heap.size + 15 = ez E + (117) by omega) (Or.inl (by omega)) (by rw [hR]; exact Nat.le_of_ble_eq_true rfl) (by rw [hR]; exact Nat.le_of_ble_eq_true rfl) rfl rfl (fun s31 u_s31 f_s31 => ?_)
  have u_s31 : s31 117 = ai E 4 (fun _ => 0) := u_s31
  have x_s31 : s31 101 = ob 10 [vr E 102, vr E 103, vi 0, vr E 104, vr E 105, vr E 106, vr E 107, vi 0, vr E 108, vi 0, vr E 109, vi 0, vr E 110, vr E 111, vr E 112, vr E 113, vr E 114, vr E 115, vr E 116, .null, .null, .null, .null, .null, .null, .null, .null, .null, .null, vi 0, vi 0, vi 0, vi 0, vi 0] := (f_s31 101 (by decide)).trans u_s30
  have q102_s31 : s31 102 = ai E 7 (fun _ => 0) := (f_s31 102 (by decide)).trans q102_s30
  have q103_s31 : s31 103 = ai E 56 (fun _ => 0) := (f_s31 103 (by decide)).trans q103_s30
  have q104_s31 : s31 104 = ai E 3 (fun _ => 0) := (f_s31 104 (by decide)).trans q104_s30
  have q105_s31 : s31 105 = ai E 80 (fun _ => 0) := (f_s31 105 (by decide)).trans q105_s30
  have q106_s31 : s31 106 = ai E 80 (fun _ => 0) := (f_s31 106 (by decide)).trans q106_s30
  have q107_s31 : s31 107 = ai E 80 (fun _ => 0) := (f_s31 107 (by decide)).trans q107_s30
  have q108_s31 : s31 108 = ai E 80 (fun _ => 0) := (f_s31 108 (by decide)).trans q108_s30
  have q109_s31 : s31 109 = ai E 80 (fun _ => 0) := (f_s31 109 (by decide)).trans q109_s30
  have q110_s31 : s31 110 = ai E 4 (fun _ => 0) := (f_s31 110 (by decide)).trans q110_s30
  have q111_s31 : s31 111 = az E 4 (fun _ => 0) := (f_s31 111 (by decide)).trans q111_s30
  have q112_s31 : s31 112 = ai E 12 (fun _ => 0) := (f_s31 112 (by decide)).trans q112_s30
  have q113_s31 : s31 113 = ai E 48 (fun _ => 0) := (f_s31 113 (by decide)).trans q113_s30
  have q114_s31 : s31 114 = ai E 48 (fun _ => 0) := (f_s31 114 (by decide)).trans q114_s30
  have q115_s31 : s31 115 = ai E 80 (fun _ => 0) := (f_s31 115 (by decide)).trans q115_s30
  have q116_s31 : s31 116 = ai E 80 (fun _ => 0) := (f_s31 116 (by decide)).trans q116_s30
  refine go_putF (pc := 125) hF [vr E 102, vr E 103, vi 0, vr E 104, vr E 105, vr E 106, vr E 107, vi 0, vr E 108, vi 0, vr E 109, vi 0, vr E 110, vr E 111, vr E 112, vr E 113, vr E 114, vr E 115, vr E 116, vr E 117, .null, .null, .null, .null, .null, .null, .null, .null, .null, vi 0, vi 0, vi 0, vi 0, vi 0] fl_X11_56 (fun C₉ T n₉ h => by have e9₉ : some (C₉, T, n₉) = some (RX11, TX11, 34) := h.symm; cases e9₉; rfl) hnm dX11_init_125 (by omega) x_s31 rfl rfl rfl (Nat.le_of_ble_eq_true rfl) (fun s32 u_s32 f_s32 => ?_)
  have q102_s32 : s32 102 = ai E 7 (fun _ => 0) := (f_s32 102 (by decide)).trans q102_s31
  have q103_s32 : s32 103 = ai E 56 (fun _ => 0) := (f_s32 103 (by decide)).trans q103_s31
  have q104_s32 : s32 104 = ai E 3 (fun _ => 0) := (f_s32 104 (by decide)).trans q104_s31
  have q105_s32 : s32 105 = ai E 80 (fun _ => 0) := (f_s32 105 (by decide)).trans q105_s31
  have q106_s32 : s32 106 = ai E 80 (fun _ => 0) := (f_s32 106 (by decide)).trans q106_s31
  have q107_s32 : s32 107 = ai E 80 (fun _ => 0) := (f_s32 107 (by decide)).trans q107_s31
  have q108_s32 : s32 108 = ai E 80 (fun _ => 0) := (f_s32 108 (by decide)).trans q108_s31
  have q109_s32 : s32 109 = ai E 80 (fun _ => 0) := (f_s32 109 (by decide)).trans q109_s31
  have q110_s32 : s32 110 = ai E 4 (fun _ => 0) := (f_s32 110 (by decide)).trans q110_s31
  have q111_s32 : s32 111 = az E 4 (fun _ => 0) := (f_s32 111 (by decide)).trans q111_s31
  have q112_s32 : s32 112 = ai E 12 (fun _ => 0) := (f_s32 112 (by decide)).trans q112_s31
  have q113_s32 : s32 113 = ai E 48 (fun _ => 0) := (f_s32 113 (by decide)).trans q113_s31
  have q114_s32 : s32 114 = ai E 48 (fun _ => 0) := (f_s32 114 (by decide)).trans q114_s31
  have q115_s32 : s32 115 = ai E 80 (fun _ => 0) := (f_s32 115 (by decide)).trans q115_s31
  have q116_s32 : s32 116 = ai E 80 (fun _ => 0) := (f_s32 116 (by decide)).trans q116_s31
  have q117_s32 : s32 117 = ai E 4 (fun _ => 0) := (f_s32 117 (by decide)).trans u_s31
  refine go_aload_n (pc := 128) hF dX11_init_128 0 rfl ?_
  refine go_iconst (pc := 129) hF dX11_init_129 ?_
  refine go_newa (pc := 130) (k := (16, 746)) hF (17, 750) (119) 0 4 (a0 := (4, .inl (fun _ => iI 0))) ac_int rfl rfl (fun _ _ h => h) (fun cA₉ => rfl) (by decide) (by decide) (Nat.le_of_ble_eq_true rfl) dX11_init_130 (show s.heap.size + 16 = ez E + (118) by omega) (Or.inl (by omega)) (by rw [hR]; exact Nat.le_of_ble_eq_true rfl) (by rw [hR]; exact Nat.le_of_ble_eq_true rfl) rfl rfl (fun s33 u_s33 f_s33 => ?_)
  have u_s33 : s33 118 = ai E 4 (fun _ => 0) := u_s33
  have x_s33 : s33 101 = ob 10 [vr E 102, vr E 103, vi 0, vr E 104, vr E 105, vr E 106, vr E 107, vi 0, vr E 108, vi 0, vr E 109, vi 0, vr E 110, vr E 111, vr E 112, vr E 113, vr E 114, vr E 115, vr E 116, vr E 117, .null, .null, .null, .null, .null, .null, .null, .null, .null, vi 0, vi 0, vi 0, vi 0, vi 0] := (f_s33 101 (by decide)).trans u_s32
  have q102_s33 : s33 102 = ai E 7 (fun _ => 0) := (f_s33 102 (by decide)).trans q102_s32
  have q103_s33 : s33 103 = ai E 56 (fun _ => 0) := (f_s33 103 (by decide)).trans q103_s32
  have q104_s33 : s33 104 = ai E 3 (fun _ => 0) := (f_s33 104 (by decide)).trans q104_s32
  have q105_s33 : s33 105 = ai E 80 (fun _ => 0) := (f_s33 105 (by decide)).trans q105_s32
  have q106_s33 : s33 106 = ai E 80 (fun _ => 0) := (f_s33 106 (by decide)).trans q106_s32
  have q107_s33 : s33 107 = ai E 80 (fun _ => 0) := (f_s33 107 (by decide)).trans q107_s32
  have q108_s33 : s33 108 = ai E 80 (fun _ => 0) := (f_s33 108 (by decide)).trans q108_s32
  have q109_s33 : s33 109 = ai E 80 (fun _ => 0) := (f_s33 109 (by decide)).trans q109_s32
  have q110_s33 : s33 110 = ai E 4 (fun _ => 0) := (f_s33 110 (by decide)).trans q110_s32
  have q111_s33 : s33 111 = az E 4 (fun _ => 0) := (f_s33 111 (by decide)).trans q111_s32
  have q112_s33 : s33 112 = ai E 12 (fun _ => 0) := (f_s33 112 (by decide)).trans q112_s32
  have q113_s33 : s33 113 = ai E 48 (fun _ => 0) := (f_s33 113 (by decide)).trans q113_s32
  have q114_s33 : s33 114 = ai E 48 (fun _ => 0) := (f_s33 114 (by decide)).trans q114_s32
  have q115_s33 : s33 115 = ai E 80 (fun _ => 0) := (f_s33 115 (by decide)).trans q115_s32
  have q116_s33 : s33 116 = ai E 80 (fun _ => 0) := (f_s33 116 (by decide)).trans q116_s32
  have q117_s33 : s33 117 = ai E 4 (fun _ => 0) := (f_s33 117 (by decide)).trans q117_s32
  refine go_putF (pc := 132) hF [vr E 102, vr E 103, vi 0, vr E 104, vr E 105, vr E 106, vr E 107, vi 0, vr E 108, vi 0, vr E 109, vi 0, vr E 110, vr E 111, vr E 112, vr E 113, vr E 114, vr E 115, vr E 116, vr E 117, vr E 118, .null, .null, .null, .null, .null, .null, .null, .null, vi 0, vi 0, vi 0, vi 0, vi 0] fl_X11_59 (fun C₉ T n₉ h => by have e9₉ : some (C₉, T, n₉) = some (RX11, TX11, 34) := h.symm; cases e9₉; rfl) hnm dX11_init_132 (by omega) x_s33 rfl rfl rfl (Nat.le_of_ble_eq_true rfl) (fun s34 u_s34 f_s34 => ?_)
  have q102_s34 : s34 102 = ai E 7 (fun _ => 0) := (f_s34 102 (by decide)).trans q102_s33
  have q103_s34 : s34 103 = ai E 56 (fun _ => 0) := (f_s34 103 (by decide)).trans q103_s33
  have q104_s34 : s34 104 = ai E 3 (fun _ => 0) := (f_s34 104 (by decide)).trans q104_s33
  have q105_s34 : s34 105 = ai E 80 (fun _ => 0) := (f_s34 105 (by decide)).trans q105_s33
  have q106_s34 : s34 106 = ai E 80 (fun _ => 0) := (f_s34 106 (by decide)).trans q106_s33
  have q107_s34 : s34 107 = ai E 80 (fun _ => 0) := (f_s34 107 (by decide)).trans q107_s33
  have q108_s34 : s34 108 = ai E 80 (fun _ => 0) := (f_s34 108 (by decide)).trans q108_s33
  have q109_s34 : s34 109 = ai E 80 (fun _ => 0) := (f_s34 109 (by decide)).trans q109_s33
  have q110_s34 : s34 110 = ai E 4 (fun _ => 0) := (f_s34 110 (by decide)).trans q110_s33
  have q111_s34 : s34 111 = az E 4 (fun _ => 0) := (f_s34 111 (by decide)).trans q111_s33
  have q112_s34 : s34 112 = ai E 12 (fun _ => 0) := (f_s34 112 (by decide)).trans q112_s33
  have q113_s34 : s34 113 = ai E 48 (fun _ => 0) := (f_s34 113 (by decide)).trans q113_s33
  have q114_s34 : s34 114 = ai E 48 (fun _ => 0) := (f_s34 114 (by decide)).trans q114_s33
  have q115_s34 : s34 115 = ai E 80 (fun _ => 0) := (f_s34 115 (by decide)).trans q115_s33
  have q116_s34 : s34 116 = ai E 80 (fun _ => 0) := (f_s34 116 (by decide)).trans q116_s33
  have q117_s34 : s34 117 = ai E 4 (fun _ => 0) := (f_s34 117 (by decide)).trans q117_s33
  have q118_s34 : s34 118 = ai E 4 (fun _ => 0) := (f_s34 118 (by decide)).trans u_s33
  refine go_aload_n (pc := 135) hF dX11_init_135 0 rfl ?_
  refine go_sipush (pc := 136) hF dX11_init_136 (by decide) ?_
  refine go_newa (pc := 139) (k := (17, 750)) hF (18, 1436) (120) 0 686 (a0 := (686, .inl (fun _ => iI 0))) ac_int rfl rfl (fun _ _ h => h) (fun cA₉ => rfl) (by decide) (by decide) (Nat.le_of_ble_eq_true rfl) dX11_init_139 (show s.heap.size + 17 = ez E + (119) by omega) (Or.inl (by omega)) (by rw [hR]; exact Nat.le_of_ble_eq_true rfl) (by rw [hR]; exact Nat.le_of_ble_eq_true rfl) rfl rfl (fun s35 u_s35 f_s35 => ?_)
  have u_s35 : s35 119 = ai E 686 (fun _ => 0) := u_s35
  have x_s35 : s35 101 = ob 10 [vr E 102, vr E 103, vi 0, vr E 104, vr E 105, vr E 106, vr E 107, vi 0, vr E 108, vi 0, vr E 109, vi 0, vr E 110, vr E 111, vr E 112, vr E 113, vr E 114, vr E 115, vr E 116, vr E 117, vr E 118, .null, .null, .null, .null, .null, .null, .null, .null, vi 0, vi 0, vi 0, vi 0, vi 0] := (f_s35 101 (by decide)).trans u_s34
  have q102_s35 : s35 102 = ai E 7 (fun _ => 0) := (f_s35 102 (by decide)).trans q102_s34
  have q103_s35 : s35 103 = ai E 56 (fun _ => 0) := (f_s35 103 (by decide)).trans q103_s34
  have q104_s35 : s35 104 = ai E 3 (fun _ => 0) := (f_s35 104 (by decide)).trans q104_s34
  have q105_s35 : s35 105 = ai E 80 (fun _ => 0) := (f_s35 105 (by decide)).trans q105_s34
  have q106_s35 : s35 106 = ai E 80 (fun _ => 0) := (f_s35 106 (by decide)).trans q106_s34
  have q107_s35 : s35 107 = ai E 80 (fun _ => 0) := (f_s35 107 (by decide)).trans q107_s34
  have q108_s35 : s35 108 = ai E 80 (fun _ => 0) := (f_s35 108 (by decide)).trans q108_s34
  have q109_s35 : s35 109 = ai E 80 (fun _ => 0) := (f_s35 109 (by decide)).trans q109_s34
  have q110_s35 : s35 110 = ai E 4 (fun _ => 0) := (f_s35 110 (by decide)).trans q110_s34
  have q111_s35 : s35 111 = az E 4 (fun _ => 0) := (f_s35 111 (by decide)).trans q111_s34
  have q112_s35 : s35 112 = ai E 12 (fun _ => 0) := (f_s35 112 (by decide)).trans q112_s34
  have q113_s35 : s35 113 = ai E 48 (fun _ => 0) := (f_s35 113 (by decide)).trans q113_s34
  have q114_s35 : s35 114 = ai E 48 (fun _ => 0) := (f_s35 114 (by decide)).trans q114_s34
  have q115_s35 : s35 115 = ai E 80 (fun _ => 0) := (f_s35 115 (by decide)).trans q115_s34
  have q116_s35 : s35 116 = ai E 80 (fun _ => 0) := (f_s35 116 (by decide)).trans q116_s34
  have q117_s35 : s35 117 = ai E 4 (fun _ => 0) := (f_s35 117 (by decide)).trans q117_s34
  have q118_s35 : s35 118 = ai E 4 (fun _ => 0) := (f_s35 118 (by decide)).trans q118_s34
  refine go_putF (pc := 141) hF [vr E 102, vr E 103, vi 0, vr E 104, vr E 105, vr E 106, vr E 107, vi 0, vr E 108, vi 0, vr E 109, vi 0, vr E 110, vr E 111, vr E 112, vr E 113, vr E 114, vr E 115, vr E 116, vr E 117, vr E 118, vr E 119, .null, .null, .null, .null, .null, .null, .null, vi 0, vi 0, vi 0, vi 0, vi 0] fl_X11_62 (fun C₉ T n₉ h => by have e9₉ : some (C₉, T, n₉) = some (RX11, TX11, 34) := h.symm; cases e9₉; rfl) hnm dX11_init_141 (by omega) x_s35 rfl rfl rfl (Nat.le_of_ble_eq_true rfl) (fun s36 u_s36 f_s36 => ?_)
  have q102_s36 : s36 102 = ai E 7 (fun _ => 0) := (f_s36 102 (by decide)).trans q102_s35
  have q103_s36 : s36 103 = ai E 56 (fun _ => 0) := (f_s36 103 (by decide)).trans q103_s35
  have q104_s36 : s36 104 = ai E 3 (fun _ => 0) := (f_s36 104 (by decide)).trans q104_s35
  have q105_s36 : s36 105 = ai E 80 (fun _ => 0) := (f_s36 105 (by decide)).trans q105_s35
  have q106_s36 : s36 106 = ai E 80 (fun _ => 0) := (f_s36 106 (by decide)).trans q106_s35
  have q107_s36 : s36 107 = ai E 80 (fun _ => 0) := (f_s36 107 (by decide)).trans q107_s35
  have q108_s36 : s36 108 = ai E 80 (fun _ => 0) := (f_s36 108 (by decide)).trans q108_s35
  have q109_s36 : s36 109 = ai E 80 (fun _ => 0) := (f_s36 109 (by decide)).trans q109_s35
  have q110_s36 : s36 110 = ai E 4 (fun _ => 0) := (f_s36 110 (by decide)).trans q110_s35
  have q111_s36 : s36 111 = az E 4 (fun _ => 0) := (f_s36 111 (by decide)).trans q111_s35
  have q112_s36 : s36 112 = ai E 12 (fun _ => 0) := (f_s36 112 (by decide)).trans q112_s35
  have q113_s36 : s36 113 = ai E 48 (fun _ => 0) := (f_s36 113 (by decide)).trans q113_s35
  have q114_s36 : s36 114 = ai E 48 (fun _ => 0) := (f_s36 114 (by decide)).trans q114_s35
  have q115_s36 : s36 115 = ai E 80 (fun _ => 0) := (f_s36 115 (by decide)).trans q115_s35
  have q116_s36 : s36 116 = ai E 80 (fun _ => 0) := (f_s36 116 (by decide)).trans q116_s35
  have q117_s36 : s36 117 = ai E 4 (fun _ => 0) := (f_s36 117 (by decide)).trans q117_s35
  have q118_s36 : s36 118 = ai E 4 (fun _ => 0) := (f_s36 118 (by decide)).trans q118_s35
  have q119_s36 : s36 119 = ai E 686 (fun _ => 0) := (f_s36 119 (by decide)).trans u_s35
  refine go_aload_n (pc := 144) hF dX11_init_144 0 rfl ?_
  refine go_sipush (pc := 145) hF dX11_init_145 (by decide) ?_
  refine go_newa (pc := 148) (k := (18, 1436)) hF (19, 2122) (121) 0 686 (a0 := (686, .inl (fun _ => iI 0))) ac_int rfl rfl (fun _ _ h => h) (fun cA₉ => rfl) (by decide) (by decide) (Nat.le_of_ble_eq_true rfl) dX11_init_148 (show s.heap.size + 18 = ez E + (120) by omega) (Or.inl (by omega)) (by rw [hR]; exact Nat.le_of_ble_eq_true rfl) (by rw [hR]; exact Nat.le_of_ble_eq_true rfl) rfl rfl (fun s37 u_s37 f_s37 => ?_)
  have u_s37 : s37 120 = ai E 686 (fun _ => 0) := u_s37
  have x_s37 : s37 101 = ob 10 [vr E 102, vr E 103, vi 0, vr E 104, vr E 105, vr E 106, vr E 107, vi 0, vr E 108, vi 0, vr E 109, vi 0, vr E 110, vr E 111, vr E 112, vr E 113, vr E 114, vr E 115, vr E 116, vr E 117, vr E 118, vr E 119, .null, .null, .null, .null, .null, .null, .null, vi 0, vi 0, vi 0, vi 0, vi 0] := (f_s37 101 (by decide)).trans u_s36
  have q102_s37 : s37 102 = ai E 7 (fun _ => 0) := (f_s37 102 (by decide)).trans q102_s36
  have q103_s37 : s37 103 = ai E 56 (fun _ => 0) := (f_s37 103 (by decide)).trans q103_s36
  have q104_s37 : s37 104 = ai E 3 (fun _ => 0) := (f_s37 104 (by decide)).trans q104_s36
  have q105_s37 : s37 105 = ai E 80 (fun _ => 0) := (f_s37 105 (by decide)).trans q105_s36
  have q106_s37 : s37 106 = ai E 80 (fun _ => 0) := (f_s37 106 (by decide)).trans q106_s36
  have q107_s37 : s37 107 = ai E 80 (fun _ => 0) := (f_s37 107 (by decide)).trans q107_s36
  have q108_s37 : s37 108 = ai E 80 (fun _ => 0) := (f_s37 108 (by decide)).trans q108_s36
  have q109_s37 : s37 109 = ai E 80 (fun _ => 0) := (f_s37 109 (by decide)).trans q109_s36
  have q110_s37 : s37 110 = ai E 4 (fun _ => 0) := (f_s37 110 (by decide)).trans q110_s36
  have q111_s37 : s37 111 = az E 4 (fun _ => 0) := (f_s37 111 (by decide)).trans q111_s36
  have q112_s37 : s37 112 = ai E 12 (fun _ => 0) := (f_s37 112 (by decide)).trans q112_s36
  have q113_s37 : s37 113 = ai E 48 (fun _ => 0) := (f_s37 113 (by decide)).trans q113_s36
  have q114_s37 : s37 114 = ai E 48 (fun _ => 0) := (f_s37 114 (by decide)).trans q114_s36
  have q115_s37 : s37 115 = ai E 80 (fun _ => 0) := (f_s37 115 (by decide)).trans q115_s36
  have q116_s37 : s37 116 = ai E 80 (fun _ => 0) := (f_s37 116 (by decide)).trans q116_s36
  have q117_s37 : s37 117 = ai E 4 (fun _ => 0) := (f_s37 117 (by decide)).trans q117_s36
  have q118_s37 : s37 118 = ai E 4 (fun _ => 0) := (f_s37 118 (by decide)).trans q118_s36
  have q119_s37 : s37 119 = ai E 686 (fun _ => 0) := (f_s37 119 (by decide)).trans q119_s36
  refine go_putF (pc := 150) hF [vr E 102, vr E 103, vi 0, vr E 104, vr E 105, vr E 106, vr E 107, vi 0, vr E 108, vi 0, vr E 109, vi 0, vr E 110, vr E 111, vr E 112, vr E 113, vr E 114, vr E 115, vr E 116, vr E 117, vr E 118, vr E 119, vr E 120, .null, .null, .null, .null, .null, .null, vi 0, vi 0, vi 0, vi 0, vi 0] fl_X11_65 (fun C₉ T n₉ h => by have e9₉ : some (C₉, T, n₉) = some (RX11, TX11, 34) := h.symm; cases e9₉; rfl) hnm dX11_init_150 (by omega) x_s37 rfl rfl rfl (Nat.le_of_ble_eq_true rfl) (fun s38 u_s38 f_s38 => ?_)
  have q102_s38 : s38 102 = ai E 7 (fun _ => 0) := (f_s38 102 (by decide)).trans q102_s37
  have q103_s38 : s38 103 = ai E 56 (fun _ => 0) := (f_s38 103 (by decide)).trans q103_s37
  have q104_s38 : s38 104 = ai E 3 (fun _ => 0) := (f_s38 104 (by decide)).trans q104_s37
  have q105_s38 : s38 105 = ai E 80 (fun _ => 0) := (f_s38 105 (by decide)).trans q105_s37
  have q106_s38 : s38 106 = ai E 80 (fun _ => 0) := (f_s38 106 (by decide)).trans q106_s37
  have q107_s38 : s38 107 = ai E 80 (fun _ => 0) := (f_s38 107 (by decide)).trans q107_s37
  have q108_s38 : s38 108 = ai E 80 (fun _ => 0) := (f_s38 108 (by decide)).trans q108_s37
  have q109_s38 : s38 109 = ai E 80 (fun _ => 0) := (f_s38 109 (by decide)).trans q109_s37
  have q110_s38 : s38 110 = ai E 4 (fun _ => 0) := (f_s38 110 (by decide)).trans q110_s37
  have q111_s38 : s38 111 = az E 4 (fun _ => 0) := (f_s38 111 (by decide)).trans q111_s37
  have q112_s38 : s38 112 = ai E 12 (fun _ => 0) := (f_s38 112 (by decide)).trans q112_s37
  have q113_s38 : s38 113 = ai E 48 (fun _ => 0) := (f_s38 113 (by decide)).trans q113_s37
  have q114_s38 : s38 114 = ai E 48 (fun _ => 0) := (f_s38 114 (by decide)).trans q114_s37
  have q115_s38 : s38 115 = ai E 80 (fun _ => 0) := (f_s38 115 (by decide)).trans q115_s37
  have q116_s38 : s38 116 = ai E 80 (fun _ => 0) := (f_s38 116 (by decide)).trans q116_s37
  have q117_s38 : s38 117 = ai E 4 (fun _ => 0) := (f_s38 117 (by decide)).trans q117_s37
  have q118_s38 : s38 118 = ai E 4 (fun _ => 0) := (f_s38 118 (by decide)).trans q118_s37
  have q119_s38 : s38 119 = ai E 686 (fun _ => 0) := (f_s38 119 (by decide)).trans q119_s37
  have q120_s38 : s38 120 = ai E 686 (fun _ => 0) := (f_s38 120 (by decide)).trans u_s37
  refine go_aload_n (pc := 153) hF dX11_init_153 0 rfl ?_
  refine go_sipush (pc := 154) hF dX11_init_154 (by decide) ?_
  refine go_newa (pc := 157) (k := (19, 2122)) hF (20, 4180) (122) 0 2058 (a0 := (2058, .inl (fun _ => iI 0))) ac_int rfl rfl (fun _ _ h => h) (fun cA₉ => rfl) (by decide) (by decide) (Nat.le_of_ble_eq_true rfl) dX11_init_157 (show s.heap.size + 19 = ez E + (121) by omega) (Or.inl (by omega)) (by rw [hR]; exact Nat.le_of_ble_eq_true rfl) (by rw [hR]; exact Nat.le_of_ble_eq_true rfl) rfl rfl (fun s39 u_s39 f_s39 => ?_)
  have u_s39 : s39 121 = ai E 2058 (fun _ => 0) := u_s39
  have x_s39 : s39 101 = ob 10 [vr E 102, vr E 103, vi 0, vr E 104, vr E 105, vr E 106, vr E 107, vi 0, vr E 108, vi 0, vr E 109, vi 0, vr E 110, vr E 111, vr E 112, vr E 113, vr E 114, vr E 115, vr E 116, vr E 117, vr E 118, vr E 119, vr E 120, .null, .null, .null, .null, .null, .null, vi 0, vi 0, vi 0, vi 0, vi 0] := (f_s39 101 (by decide)).trans u_s38
  have q102_s39 : s39 102 = ai E 7 (fun _ => 0) := (f_s39 102 (by decide)).trans q102_s38
  have q103_s39 : s39 103 = ai E 56 (fun _ => 0) := (f_s39 103 (by decide)).trans q103_s38
  have q104_s39 : s39 104 = ai E 3 (fun _ => 0) := (f_s39 104 (by decide)).trans q104_s38
  have q105_s39 : s39 105 = ai E 80 (fun _ => 0) := (f_s39 105 (by decide)).trans q105_s38
  have q106_s39 : s39 106 = ai E 80 (fun _ => 0) := (f_s39 106 (by decide)).trans q106_s38
  have q107_s39 : s39 107 = ai E 80 (fun _ => 0) := (f_s39 107 (by decide)).trans q107_s38
  have q108_s39 : s39 108 = ai E 80 (fun _ => 0) := (f_s39 108 (by decide)).trans q108_s38
  have q109_s39 : s39 109 = ai E 80 (fun _ => 0) := (f_s39 109 (by decide)).trans q109_s38
  have q110_s39 : s39 110 = ai E 4 (fun _ => 0) := (f_s39 110 (by decide)).trans q110_s38
  have q111_s39 : s39 111 = az E 4 (fun _ => 0) := (f_s39 111 (by decide)).trans q111_s38
  have q112_s39 : s39 112 = ai E 12 (fun _ => 0) := (f_s39 112 (by decide)).trans q112_s38
  have q113_s39 : s39 113 = ai E 48 (fun _ => 0) := (f_s39 113 (by decide)).trans q113_s38
  have q114_s39 : s39 114 = ai E 48 (fun _ => 0) := (f_s39 114 (by decide)).trans q114_s38
  have q115_s39 : s39 115 = ai E 80 (fun _ => 0) := (f_s39 115 (by decide)).trans q115_s38
  have q116_s39 : s39 116 = ai E 80 (fun _ => 0) := (f_s39 116 (by decide)).trans q116_s38
  have q117_s39 : s39 117 = ai E 4 (fun _ => 0) := (f_s39 117 (by decide)).trans q117_s38
  have q118_s39 : s39 118 = ai E 4 (fun _ => 0) := (f_s39 118 (by decide)).trans q118_s38
  have q119_s39 : s39 119 = ai E 686 (fun _ => 0) := (f_s39 119 (by decide)).trans q119_s38
  have q120_s39 : s39 120 = ai E 686 (fun _ => 0) := (f_s39 120 (by decide)).trans q120_s38
  refine go_putF (pc := 159) hF [vr E 102, vr E 103, vi 0, vr E 104, vr E 105, vr E 106, vr E 107, vi 0, vr E 108, vi 0, vr E 109, vi 0, vr E 110, vr E 111, vr E 112, vr E 113, vr E 114, vr E 115, vr E 116, vr E 117, vr E 118, vr E 119, vr E 120, vr E 121, .null, .null, .null, .null, .null, vi 0, vi 0, vi 0, vi 0, vi 0] fl_X11_68 (fun C₉ T n₉ h => by have e9₉ : some (C₉, T, n₉) = some (RX11, TX11, 34) := h.symm; cases e9₉; rfl) hnm dX11_init_159 (by omega) x_s39 rfl rfl rfl (Nat.le_of_ble_eq_true rfl) (fun s40 u_s40 f_s40 => ?_)
  have q102_s40 : s40 102 = ai E 7 (fun _ => 0) := (f_s40 102 (by decide)).trans q102_s39
  have q103_s40 : s40 103 = ai E 56 (fun _ => 0) := (f_s40 103 (by decide)).trans q103_s39
  have q104_s40 : s40 104 = ai E 3 (fun _ => 0) := (f_s40 104 (by decide)).trans q104_s39
  have q105_s40 : s40 105 = ai E 80 (fun _ => 0) := (f_s40 105 (by decide)).trans q105_s39
  have q106_s40 : s40 106 = ai E 80 (fun _ => 0) := (f_s40 106 (by decide)).trans q106_s39
  have q107_s40 : s40 107 = ai E 80 (fun _ => 0) := (f_s40 107 (by decide)).trans q107_s39
  have q108_s40 : s40 108 = ai E 80 (fun _ => 0) := (f_s40 108 (by decide)).trans q108_s39
  have q109_s40 : s40 109 = ai E 80 (fun _ => 0) := (f_s40 109 (by decide)).trans q109_s39
  have q110_s40 : s40 110 = ai E 4 (fun _ => 0) := (f_s40 110 (by decide)).trans q110_s39
  have q111_s40 : s40 111 = az E 4 (fun _ => 0) := (f_s40 111 (by decide)).trans q111_s39
  have q112_s40 : s40 112 = ai E 12 (fun _ => 0) := (f_s40 112 (by decide)).trans q112_s39
  have q113_s40 : s40 113 = ai E 48 (fun _ => 0) := (f_s40 113 (by decide)).trans q113_s39
  have q114_s40 : s40 114 = ai E 48 (fun _ => 0) := (f_s40 114 (by decide)).trans q114_s39
  have q115_s40 : s40 115 = ai E 80 (fun _ => 0) := (f_s40 115 (by decide)).trans q115_s39
  have q116_s40 : s40 116 = ai E 80 (fun _ => 0) := (f_s40 116 (by decide)).trans q116_s39
  have q117_s40 : s40 117 = ai E 4 (fun _ => 0) := (f_s40 117 (by decide)).trans q117_s39
  have q118_s40 : s40 118 = ai E 4 (fun _ => 0) := (f_s40 118 (by decide)).trans q118_s39
  have q119_s40 : s40 119 = ai E 686 (fun _ => 0) := (f_s40 119 (by decide)).trans q119_s39
  have q120_s40 : s40 120 = ai E 686 (fun _ => 0) := (f_s40 120 (by decide)).trans q120_s39
  have q121_s40 : s40 121 = ai E 2058 (fun _ => 0) := (f_s40 121 (by decide)).trans u_s39
  refine go_aload_n (pc := 162) hF dX11_init_162 0 rfl ?_
  refine go_sipush (pc := 163) hF dX11_init_163 (by decide) ?_
  refine go_newa (pc := 166) (k := (20, 4180)) hF (21, 6238) (123) 0 2058 (a0 := (2058, .inl (fun _ => iI 0))) ac_int rfl rfl (fun _ _ h => h) (fun cA₉ => rfl) (by decide) (by decide) (Nat.le_of_ble_eq_true rfl) dX11_init_166 (show s.heap.size + 20 = ez E + (122) by omega) (Or.inl (by omega)) (by rw [hR]; exact Nat.le_of_ble_eq_true rfl) (by rw [hR]; exact Nat.le_of_ble_eq_true rfl) rfl rfl (fun s41 u_s41 f_s41 => ?_)
  have u_s41 : s41 122 = ai E 2058 (fun _ => 0) := u_s41
  have x_s41 : s41 101 = ob 10 [vr E 102, vr E 103, vi 0, vr E 104, vr E 105, vr E 106, vr E 107, vi 0, vr E 108, vi 0, vr E 109, vi 0, vr E 110, vr E 111, vr E 112, vr E 113, vr E 114, vr E 115, vr E 116, vr E 117, vr E 118, vr E 119, vr E 120, vr E 121, .null, .null, .null, .null, .null, vi 0, vi 0, vi 0, vi 0, vi 0] := (f_s41 101 (by decide)).trans u_s40
  have q102_s41 : s41 102 = ai E 7 (fun _ => 0) := (f_s41 102 (by decide)).trans q102_s40
  have q103_s41 : s41 103 = ai E 56 (fun _ => 0) := (f_s41 103 (by decide)).trans q103_s40
  have q104_s41 : s41 104 = ai E 3 (fun _ => 0) := (f_s41 104 (by decide)).trans q104_s40
  have q105_s41 : s41 105 = ai E 80 (fun _ => 0) := (f_s41 105 (by decide)).trans q105_s40
  have q106_s41 : s41 106 = ai E 80 (fun _ => 0) := (f_s41 106 (by decide)).trans q106_s40
  have q107_s41 : s41 107 = ai E 80 (fun _ => 0) := (f_s41 107 (by decide)).trans q107_s40
  have q108_s41 : s41 108 = ai E 80 (fun _ => 0) := (f_s41 108 (by decide)).trans q108_s40
  have q109_s41 : s41 109 = ai E 80 (fun _ => 0) := (f_s41 109 (by decide)).trans q109_s40
  have q110_s41 : s41 110 = ai E 4 (fun _ => 0) := (f_s41 110 (by decide)).trans q110_s40
  have q111_s41 : s41 111 = az E 4 (fun _ => 0) := (f_s41 111 (by decide)).trans q111_s40
  have q112_s41 : s41 112 = ai E 12 (fun _ => 0) := (f_s41 112 (by decide)).trans q112_s40
  have q113_s41 : s41 113 = ai E 48 (fun _ => 0) := (f_s41 113 (by decide)).trans q113_s40
  have q114_s41 : s41 114 = ai E 48 (fun _ => 0) := (f_s41 114 (by decide)).trans q114_s40
  have q115_s41 : s41 115 = ai E 80 (fun _ => 0) := (f_s41 115 (by decide)).trans q115_s40
  have q116_s41 : s41 116 = ai E 80 (fun _ => 0) := (f_s41 116 (by decide)).trans q116_s40
  have q117_s41 : s41 117 = ai E 4 (fun _ => 0) := (f_s41 117 (by decide)).trans q117_s40
  have q118_s41 : s41 118 = ai E 4 (fun _ => 0) := (f_s41 118 (by decide)).trans q118_s40
  have q119_s41 : s41 119 = ai E 686 (fun _ => 0) := (f_s41 119 (by decide)).trans q119_s40
  have q120_s41 : s41 120 = ai E 686 (fun _ => 0) := (f_s41 120 (by decide)).trans q120_s40
  have q121_s41 : s41 121 = ai E 2058 (fun _ => 0) := (f_s41 121 (by decide)).trans q121_s40
  refine go_putF (pc := 168) hF [vr E 102, vr E 103, vi 0, vr E 104, vr E 105, vr E 106, vr E 107, vi 0, vr E 108, vi 0, vr E 109, vi 0, vr E 110, vr E 111, vr E 112, vr E 113, vr E 114, vr E 115, vr E 116, vr E 117, vr E 118, vr E 119, vr E 120, vr E 121, vr E 122, .null, .null, .null, .null, vi 0, vi 0, vi 0, vi 0, vi 0] fl_X11_71 (fun C₉ T n₉ h => by have e9₉ : some (C₉, T, n₉) = some (RX11, TX11, 34) := h.symm; cases e9₉; rfl) hnm dX11_init_168 (by omega) x_s41 rfl rfl rfl (Nat.le_of_ble_eq_true rfl) (fun s42 u_s42 f_s42 => ?_)
  have q102_s42 : s42 102 = ai E 7 (fun _ => 0) := (f_s42 102 (by decide)).trans q102_s41
  have q103_s42 : s42 103 = ai E 56 (fun _ => 0) := (f_s42 103 (by decide)).trans q103_s41
  have q104_s42 : s42 104 = ai E 3 (fun _ => 0) := (f_s42 104 (by decide)).trans q104_s41
  have q105_s42 : s42 105 = ai E 80 (fun _ => 0) := (f_s42 105 (by decide)).trans q105_s41
  have q106_s42 : s42 106 = ai E 80 (fun _ => 0) := (f_s42 106 (by decide)).trans q106_s41
  have q107_s42 : s42 107 = ai E 80 (fun _ => 0) := (f_s42 107 (by decide)).trans q107_s41
  have q108_s42 : s42 108 = ai E 80 (fun _ => 0) := (f_s42 108 (by decide)).trans q108_s41
  have q109_s42 : s42 109 = ai E 80 (fun _ => 0) := (f_s42 109 (by decide)).trans q109_s41
  have q110_s42 : s42 110 = ai E 4 (fun _ => 0) := (f_s42 110 (by decide)).trans q110_s41
  have q111_s42 : s42 111 = az E 4 (fun _ => 0) := (f_s42 111 (by decide)).trans q111_s41
  have q112_s42 : s42 112 = ai E 12 (fun _ => 0) := (f_s42 112 (by decide)).trans q112_s41
  have q113_s42 : s42 113 = ai E 48 (fun _ => 0) := (f_s42 113 (by decide)).trans q113_s41
  have q114_s42 : s42 114 = ai E 48 (fun _ => 0) := (f_s42 114 (by decide)).trans q114_s41
  have q115_s42 : s42 115 = ai E 80 (fun _ => 0) := (f_s42 115 (by decide)).trans q115_s41
  have q116_s42 : s42 116 = ai E 80 (fun _ => 0) := (f_s42 116 (by decide)).trans q116_s41
  have q117_s42 : s42 117 = ai E 4 (fun _ => 0) := (f_s42 117 (by decide)).trans q117_s41
  have q118_s42 : s42 118 = ai E 4 (fun _ => 0) := (f_s42 118 (by decide)).trans q118_s41
  have q119_s42 : s42 119 = ai E 686 (fun _ => 0) := (f_s42 119 (by decide)).trans q119_s41
  have q120_s42 : s42 120 = ai E 686 (fun _ => 0) := (f_s42 120 (by decide)).trans q120_s41
  have q121_s42 : s42 121 = ai E 2058 (fun _ => 0) := (f_s42 121 (by decide)).trans q121_s41
  have q122_s42 : s42 122 = ai E 2058 (fun _ => 0) := (f_s42 122 (by decide)).trans u_s41
  refine go_aload_n (pc := 171) hF dX11_init_171 0 rfl ?_
  refine go_iconst (pc := 172) hF dX11_init_172 ?_
  refine go_newa (pc := 173) (k := (21, 6238)) hF (22, 6241) (124) 0 3 (a0 := (3, .inl (fun _ => iI 0))) ac_int rfl rfl (fun _ _ h => h) (fun cA₉ => rfl) (by decide) (by decide) (Nat.le_of_ble_eq_true rfl) dX11_init_173 (show s.heap.size + 21 = ez E + (123) by omega) (Or.inl (by omega)) (by rw [hR]; exact Nat.le_of_ble_eq_true rfl) (by rw [hR]; exact Nat.le_of_ble_eq_true rfl) rfl rfl (fun s43 u_s43 f_s43 => ?_)
  have u_s43 : s43 123 = ai E 3 (fun _ => 0) := u_s43
  have x_s43 : s43 101 = ob 10 [vr E 102, vr E 103, vi 0, vr E 104, vr E 105, vr E 106, vr E 107, vi 0, vr E 108, vi 0, vr E 109, vi 0, vr E 110, vr E 111, vr E 112, vr E 113, vr E 114, vr E 115, vr E 116, vr E 117, vr E 118, vr E 119, vr E 120, vr E 121, vr E 122, .null, .null, .null, .null, vi 0, vi 0, vi 0, vi 0, vi 0] := (f_s43 101 (by decide)).trans u_s42
  have q102_s43 : s43 102 = ai E 7 (fun _ => 0) := (f_s43 102 (by decide)).trans q102_s42
  have q103_s43 : s43 103 = ai E 56 (fun _ => 0) := (f_s43 103 (by decide)).trans q103_s42
  have q104_s43 : s43 104 = ai E 3 (fun _ => 0) := (f_s43 104 (by decide)).trans q104_s42
  have q105_s43 : s43 105 = ai E 80 (fun _ => 0) := (f_s43 105 (by decide)).trans q105_s42
  have q106_s43 : s43 106 = ai E 80 (fun _ => 0) := (f_s43 106 (by decide)).trans q106_s42
  have q107_s43 : s43 107 = ai E 80 (fun _ => 0) := (f_s43 107 (by decide)).trans q107_s42
  have q108_s43 : s43 108 = ai E 80 (fun _ => 0) := (f_s43 108 (by decide)).trans q108_s42
  have q109_s43 : s43 109 = ai E 80 (fun _ => 0) := (f_s43 109 (by decide)).trans q109_s42
  have q110_s43 : s43 110 = ai E 4 (fun _ => 0) := (f_s43 110 (by decide)).trans q110_s42
  have q111_s43 : s43 111 = az E 4 (fun _ => 0) := (f_s43 111 (by decide)).trans q111_s42
  have q112_s43 : s43 112 = ai E 12 (fun _ => 0) := (f_s43 112 (by decide)).trans q112_s42
  have q113_s43 : s43 113 = ai E 48 (fun _ => 0) := (f_s43 113 (by decide)).trans q113_s42
  have q114_s43 : s43 114 = ai E 48 (fun _ => 0) := (f_s43 114 (by decide)).trans q114_s42
  have q115_s43 : s43 115 = ai E 80 (fun _ => 0) := (f_s43 115 (by decide)).trans q115_s42
  have q116_s43 : s43 116 = ai E 80 (fun _ => 0) := (f_s43 116 (by decide)).trans q116_s42
  have q117_s43 : s43 117 = ai E 4 (fun _ => 0) := (f_s43 117 (by decide)).trans q117_s42
  have q118_s43 : s43 118 = ai E 4 (fun _ => 0) := (f_s43 118 (by decide)).trans q118_s42
  have q119_s43 : s43 119 = ai E 686 (fun _ => 0) := (f_s43 119 (by decide)).trans q119_s42
  have q120_s43 : s43 120 = ai E 686 (fun _ => 0) := (f_s43 120 (by decide)).trans q120_s42
  have q121_s43 : s43 121 = ai E 2058 (fun _ => 0) := (f_s43 121 (by decide)).trans q121_s42
  have q122_s43 : s43 122 = ai E 2058 (fun _ => 0) := (f_s43 122 (by decide)).trans q122_s42
  refine go_putF (pc := 175) hF [vr E 102, vr E 103, vi 0, vr E 104, vr E 105, vr E 106, vr E 107, vi 0, vr E 108, vi 0, vr E 109, vi 0, vr E 110, vr E 111, vr E 112, vr E 113, vr E 114, vr E 115, vr E 116, vr E 117, vr E 118, vr E 119, vr E 120, vr E 121, vr E 122, vr E 123, .null, .null, .null, vi 0, vi 0, vi 0, vi 0, vi 0] fl_X11_74 (fun C₉ T n₉ h => by have e9₉ : some (C₉, T, n₉) = some (RX11, TX11, 34) := h.symm; cases e9₉; rfl) hnm dX11_init_175 (by omega) x_s43 rfl rfl rfl (Nat.le_of_ble_eq_true rfl) (fun s44 u_s44 f_s44 => ?_)
  have q102_s44 : s44 102 = ai E 7 (fun _ => 0) := (f_s44 102 (by decide)).trans q102_s43
  have q103_s44 : s44 103 = ai E 56 (fun _ => 0) := (f_s44 103 (by decide)).trans q103_s43
  have q104_s44 : s44 104 = ai E 3 (fun _ => 0) := (f_s44 104 (by decide)).trans q104_s43
  have q105_s44 : s44 105 = ai E 80 (fun _ => 0) := (f_s44 105 (by decide)).trans q105_s43
  have q106_s44 : s44 106 = ai E 80 (fun _ => 0) := (f_s44 106 (by decide)).trans q106_s43
  have q107_s44 : s44 107 = ai E 80 (fun _ => 0) := (f_s44 107 (by decide)).trans q107_s43
  have q108_s44 : s44 108 = ai E 80 (fun _ => 0) := (f_s44 108 (by decide)).trans q108_s43
  have q109_s44 : s44 109 = ai E 80 (fun _ => 0) := (f_s44 109 (by decide)).trans q109_s43
  have q110_s44 : s44 110 = ai E 4 (fun _ => 0) := (f_s44 110 (by decide)).trans q110_s43
  have q111_s44 : s44 111 = az E 4 (fun _ => 0) := (f_s44 111 (by decide)).trans q111_s43
  have q112_s44 : s44 112 = ai E 12 (fun _ => 0) := (f_s44 112 (by decide)).trans q112_s43
  have q113_s44 : s44 113 = ai E 48 (fun _ => 0) := (f_s44 113 (by decide)).trans q113_s43
  have q114_s44 : s44 114 = ai E 48 (fun _ => 0) := (f_s44 114 (by decide)).trans q114_s43
  have q115_s44 : s44 115 = ai E 80 (fun _ => 0) := (f_s44 115 (by decide)).trans q115_s43
  have q116_s44 : s44 116 = ai E 80 (fun _ => 0) := (f_s44 116 (by decide)).trans q116_s43
  have q117_s44 : s44 117 = ai E 4 (fun _ => 0) := (f_s44 117 (by decide)).trans q117_s43
  have q118_s44 : s44 118 = ai E 4 (fun _ => 0) := (f_s44 118 (by decide)).trans q118_s43
  have q119_s44 : s44 119 = ai E 686 (fun _ => 0) := (f_s44 119 (by decide)).trans q119_s43
  have q120_s44 : s44 120 = ai E 686 (fun _ => 0) := (f_s44 120 (by decide)).trans q120_s43
  have q121_s44 : s44 121 = ai E 2058 (fun _ => 0) := (f_s44 121 (by decide)).trans q121_s43
  have q122_s44 : s44 122 = ai E 2058 (fun _ => 0) := (f_s44 122 (by decide)).trans q122_s43
  have q123_s44 : s44 123 = ai E 3 (fun _ => 0) := (f_s44 123 (by decide)).trans u_s43
  refine go_aload_n (pc := 178) hF dX11_init_178 0 rfl ?_
  refine go_iconst (pc := 179) hF dX11_init_179 ?_
  refine go_newa (pc := 180) (k := (22, 6241)) hF (23, 6245) (125) 1 4 (a0 := (4, .inr (.inl (fun _ => lI 0)))) ac_long rfl rfl (fun _ _ h => h) (fun cA₉ => rfl) (by decide) (by decide) (Nat.le_of_ble_eq_true rfl) dX11_init_180 (show s.heap.size + 22 = ez E + (124) by omega) (Or.inl (by omega)) (by rw [hR]; exact Nat.le_of_ble_eq_true rfl) (by rw [hR]; exact Nat.le_of_ble_eq_true rfl) rfl rfl (fun s45 u_s45 f_s45 => ?_)
  have u_s45 : s45 124 = al E 4 (fun _ => 0) := u_s45
  have x_s45 : s45 101 = ob 10 [vr E 102, vr E 103, vi 0, vr E 104, vr E 105, vr E 106, vr E 107, vi 0, vr E 108, vi 0, vr E 109, vi 0, vr E 110, vr E 111, vr E 112, vr E 113, vr E 114, vr E 115, vr E 116, vr E 117, vr E 118, vr E 119, vr E 120, vr E 121, vr E 122, vr E 123, .null, .null, .null, vi 0, vi 0, vi 0, vi 0, vi 0] := (f_s45 101 (by decide)).trans u_s44
  have q102_s45 : s45 102 = ai E 7 (fun _ => 0) := (f_s45 102 (by decide)).trans q102_s44
  have q103_s45 : s45 103 = ai E 56 (fun _ => 0) := (f_s45 103 (by decide)).trans q103_s44
  have q104_s45 : s45 104 = ai E 3 (fun _ => 0) := (f_s45 104 (by decide)).trans q104_s44
  have q105_s45 : s45 105 = ai E 80 (fun _ => 0) := (f_s45 105 (by decide)).trans q105_s44
  have q106_s45 : s45 106 = ai E 80 (fun _ => 0) := (f_s45 106 (by decide)).trans q106_s44
  have q107_s45 : s45 107 = ai E 80 (fun _ => 0) := (f_s45 107 (by decide)).trans q107_s44
  have q108_s45 : s45 108 = ai E 80 (fun _ => 0) := (f_s45 108 (by decide)).trans q108_s44
  have q109_s45 : s45 109 = ai E 80 (fun _ => 0) := (f_s45 109 (by decide)).trans q109_s44
  have q110_s45 : s45 110 = ai E 4 (fun _ => 0) := (f_s45 110 (by decide)).trans q110_s44
  have q111_s45 : s45 111 = az E 4 (fun _ => 0) := (f_s45 111 (by decide)).trans q111_s44
  have q112_s45 : s45 112 = ai E 12 (fun _ => 0) := (f_s45 112 (by decide)).trans q112_s44
  have q113_s45 : s45 113 = ai E 48 (fun _ => 0) := (f_s45 113 (by decide)).trans q113_s44
  have q114_s45 : s45 114 = ai E 48 (fun _ => 0) := (f_s45 114 (by decide)).trans q114_s44
  have q115_s45 : s45 115 = ai E 80 (fun _ => 0) := (f_s45 115 (by decide)).trans q115_s44
  have q116_s45 : s45 116 = ai E 80 (fun _ => 0) := (f_s45 116 (by decide)).trans q116_s44
  have q117_s45 : s45 117 = ai E 4 (fun _ => 0) := (f_s45 117 (by decide)).trans q117_s44
  have q118_s45 : s45 118 = ai E 4 (fun _ => 0) := (f_s45 118 (by decide)).trans q118_s44
  have q119_s45 : s45 119 = ai E 686 (fun _ => 0) := (f_s45 119 (by decide)).trans q119_s44
  have q120_s45 : s45 120 = ai E 686 (fun _ => 0) := (f_s45 120 (by decide)).trans q120_s44
  have q121_s45 : s45 121 = ai E 2058 (fun _ => 0) := (f_s45 121 (by decide)).trans q121_s44
  have q122_s45 : s45 122 = ai E 2058 (fun _ => 0) := (f_s45 122 (by decide)).trans q122_s44
  have q123_s45 : s45 123 = ai E 3 (fun _ => 0) := (f_s45 123 (by decide)).trans q123_s44
  refine go_putF (pc := 182) hF [vr E 102, vr E 103, vi 0, vr E 104, vr E 105, vr E 106, vr E 107, vi 0, vr E 108, vi 0, vr E 109, vi 0, vr E 110, vr E 111, vr E 112, vr E 113, vr E 114, vr E 115, vr E 116, vr E 117, vr E 118, vr E 119, vr E 120, vr E 121, vr E 122, vr E 123, vr E 124, .null, .null, vi 0, vi 0, vi 0, vi 0, vi 0] fl_X11_77 (fun C₉ T n₉ h => by have e9₉ : some (C₉, T, n₉) = some (RX11, TX11, 34) := h.symm; cases e9₉; rfl) hnm dX11_init_182 (by omega) x_s45 rfl rfl rfl (Nat.le_of_ble_eq_true rfl) (fun s46 u_s46 f_s46 => ?_)
  have q102_s46 : s46 102 = ai E 7 (fun _ => 0) := (f_s46 102 (by decide)).trans q102_s45
  have q103_s46 : s46 103 = ai E 56 (fun _ => 0) := (f_s46 103 (by decide)).trans q103_s45
  have q104_s46 : s46 104 = ai E 3 (fun _ => 0) := (f_s46 104 (by decide)).trans q104_s45
  have q105_s46 : s46 105 = ai E 80 (fun _ => 0) := (f_s46 105 (by decide)).trans q105_s45
  have q106_s46 : s46 106 = ai E 80 (fun _ => 0) := (f_s46 106 (by decide)).trans q106_s45
  have q107_s46 : s46 107 = ai E 80 (fun _ => 0) := (f_s46 107 (by decide)).trans q107_s45
  have q108_s46 : s46 108 = ai E 80 (fun _ => 0) := (f_s46 108 (by decide)).trans q108_s45
  have q109_s46 : s46 109 = ai E 80 (fun _ => 0) := (f_s46 109 (by decide)).trans q109_s45
  have q110_s46 : s46 110 = ai E 4 (fun _ => 0) := (f_s46 110 (by decide)).trans q110_s45
  have q111_s46 : s46 111 = az E 4 (fun _ => 0) := (f_s46 111 (by decide)).trans q111_s45
  have q112_s46 : s46 112 = ai E 12 (fun _ => 0) := (f_s46 112 (by decide)).trans q112_s45
  have q113_s46 : s46 113 = ai E 48 (fun _ => 0) := (f_s46 113 (by decide)).trans q113_s45
  have q114_s46 : s46 114 = ai E 48 (fun _ => 0) := (f_s46 114 (by decide)).trans q114_s45
  have q115_s46 : s46 115 = ai E 80 (fun _ => 0) := (f_s46 115 (by decide)).trans q115_s45
  have q116_s46 : s46 116 = ai E 80 (fun _ => 0) := (f_s46 116 (by decide)).trans q116_s45
  have q117_s46 : s46 117 = ai E 4 (fun _ => 0) := (f_s46 117 (by decide)).trans q117_s45
  have q118_s46 : s46 118 = ai E 4 (fun _ => 0) := (f_s46 118 (by decide)).trans q118_s45
  have q119_s46 : s46 119 = ai E 686 (fun _ => 0) := (f_s46 119 (by decide)).trans q119_s45
  have q120_s46 : s46 120 = ai E 686 (fun _ => 0) := (f_s46 120 (by decide)).trans q120_s45
  have q121_s46 : s46 121 = ai E 2058 (fun _ => 0) := (f_s46 121 (by decide)).trans q121_s45
  have q122_s46 : s46 122 = ai E 2058 (fun _ => 0) := (f_s46 122 (by decide)).trans q122_s45
  have q123_s46 : s46 123 = ai E 3 (fun _ => 0) := (f_s46 123 (by decide)).trans q123_s45
  have q124_s46 : s46 124 = al E 4 (fun _ => 0) := (f_s46 124 (by decide)).trans u_s45
  refine go_aload_n (pc := 185) hF dX11_init_185 0 rfl ?_
  refine go_iconst (pc := 186) hF dX11_init_186 ?_
  refine go_newa (pc := 187) (k := (23, 6245)) hF (24, 6249) (126) 1 4 (a0 := (4, .inr (.inl (fun _ => lI 0)))) ac_long rfl rfl (fun _ _ h => h) (fun cA₉ => rfl) (by decide) (by decide) (Nat.le_of_ble_eq_true rfl) dX11_init_187 (show s.heap.size + 23 = ez E + (125) by omega) (Or.inl (by omega)) (by rw [hR]; exact Nat.le_of_ble_eq_true rfl) (by rw [hR]; exact Nat.le_of_ble_eq_true rfl) rfl rfl (fun s47 u_s47 f_s47 => ?_)
  have u_s47 : s47 125 = al E 4 (fun _ => 0) := u_s47
  have x_s47 : s47 101 = ob 10 [vr E 102, vr E 103, vi 0, vr E 104, vr E 105, vr E 106, vr E 107, vi 0, vr E 108, vi 0, vr E 109, vi 0, vr E 110, vr E 111, vr E 112, vr E 113, vr E 114, vr E 115, vr E 116, vr E 117, vr E 118, vr E 119, vr E 120, vr E 121, vr E 122, vr E 123, vr E 124, .null, .null, vi 0, vi 0, vi 0, vi 0, vi 0] := (f_s47 101 (by decide)).trans u_s46
  have q102_s47 : s47 102 = ai E 7 (fun _ => 0) := (f_s47 102 (by decide)).trans q102_s46
  have q103_s47 : s47 103 = ai E 56 (fun _ => 0) := (f_s47 103 (by decide)).trans q103_s46
  have q104_s47 : s47 104 = ai E 3 (fun _ => 0) := (f_s47 104 (by decide)).trans q104_s46
  have q105_s47 : s47 105 = ai E 80 (fun _ => 0) := (f_s47 105 (by decide)).trans q105_s46
  have q106_s47 : s47 106 = ai E 80 (fun _ => 0) := (f_s47 106 (by decide)).trans q106_s46
  have q107_s47 : s47 107 = ai E 80 (fun _ => 0) := (f_s47 107 (by decide)).trans q107_s46
  have q108_s47 : s47 108 = ai E 80 (fun _ => 0) := (f_s47 108 (by decide)).trans q108_s46
  have q109_s47 : s47 109 = ai E 80 (fun _ => 0) := (f_s47 109 (by decide)).trans q109_s46
  have q110_s47 : s47 110 = ai E 4 (fun _ => 0) := (f_s47 110 (by decide)).trans q110_s46
  have q111_s47 : s47 111 = az E 4 (fun _ => 0) := (f_s47 111 (by decide)).trans q111_s46
  have q112_s47 : s47 112 = ai E 12 (fun _ => 0) := (f_s47 112 (by decide)).trans q112_s46
  have q113_s47 : s47 113 = ai E 48 (fun _ => 0) := (f_s47 113 (by decide)).trans q113_s46
  have q114_s47 : s47 114 = ai E 48 (fun _ => 0) := (f_s47 114 (by decide)).trans q114_s46
  have q115_s47 : s47 115 = ai E 80 (fun _ => 0) := (f_s47 115 (by decide)).trans q115_s46
  have q116_s47 : s47 116 = ai E 80 (fun _ => 0) := (f_s47 116 (by decide)).trans q116_s46
  have q117_s47 : s47 117 = ai E 4 (fun _ => 0) := (f_s47 117 (by decide)).trans q117_s46
  have q118_s47 : s47 118 = ai E 4 (fun _ => 0) := (f_s47 118 (by decide)).trans q118_s46
  have q119_s47 : s47 119 = ai E 686 (fun _ => 0) := (f_s47 119 (by decide)).trans q119_s46
  have q120_s47 : s47 120 = ai E 686 (fun _ => 0) := (f_s47 120 (by decide)).trans q120_s46
  have q121_s47 : s47 121 = ai E 2058 (fun _ => 0) := (f_s47 121 (by decide)).trans q121_s46
  have q122_s47 : s47 122 = ai E 2058 (fun _ => 0) := (f_s47 122 (by decide)).trans q122_s46
  have q123_s47 : s47 123 = ai E 3 (fun _ => 0) := (f_s47 123 (by decide)).trans q123_s46
  have q124_s47 : s47 124 = al E 4 (fun _ => 0) := (f_s47 124 (by decide)).trans q124_s46
  refine go_putF (pc := 189) hF [vr E 102, vr E 103, vi 0, vr E 104, vr E 105, vr E 106, vr E 107, vi 0, vr E 108, vi 0, vr E 109, vi 0, vr E 110, vr E 111, vr E 112, vr E 113, vr E 114, vr E 115, vr E 116, vr E 117, vr E 118, vr E 119, vr E 120, vr E 121, vr E 122, vr E 123, vr E 124, vr E 125, .null, vi 0, vi 0, vi 0, vi 0, vi 0] fl_X11_81 (fun C₉ T n₉ h => by have e9₉ : some (C₉, T, n₉) = some (RX11, TX11, 34) := h.symm; cases e9₉; rfl) hnm dX11_init_189 (by omega) x_s47 rfl rfl rfl (Nat.le_of_ble_eq_true rfl) (fun s48 u_s48 f_s48 => ?_)
  have q102_s48 : s48 102 = ai E 7 (fun _ => 0) := (f_s48 102 (by decide)).trans q102_s47
  have q103_s48 : s48 103 = ai E 56 (fun _ => 0) := (f_s48 103 (by decide)).trans q103_s47
  have q104_s48 : s48 104 = ai E 3 (fun _ => 0) := (f_s48 104 (by decide)).trans q104_s47
  have q105_s48 : s48 105 = ai E 80 (fun _ => 0) := (f_s48 105 (by decide)).trans q105_s47
  have q106_s48 : s48 106 = ai E 80 (fun _ => 0) := (f_s48 106 (by decide)).trans q106_s47
  have q107_s48 : s48 107 = ai E 80 (fun _ => 0) := (f_s48 107 (by decide)).trans q107_s47
  have q108_s48 : s48 108 = ai E 80 (fun _ => 0) := (f_s48 108 (by decide)).trans q108_s47
  have q109_s48 : s48 109 = ai E 80 (fun _ => 0) := (f_s48 109 (by decide)).trans q109_s47
  have q110_s48 : s48 110 = ai E 4 (fun _ => 0) := (f_s48 110 (by decide)).trans q110_s47
  have q111_s48 : s48 111 = az E 4 (fun _ => 0) := (f_s48 111 (by decide)).trans q111_s47
  have q112_s48 : s48 112 = ai E 12 (fun _ => 0) := (f_s48 112 (by decide)).trans q112_s47
  have q113_s48 : s48 113 = ai E 48 (fun _ => 0) := (f_s48 113 (by decide)).trans q113_s47
  have q114_s48 : s48 114 = ai E 48 (fun _ => 0) := (f_s48 114 (by decide)).trans q114_s47
  have q115_s48 : s48 115 = ai E 80 (fun _ => 0) := (f_s48 115 (by decide)).trans q115_s47
  have q116_s48 : s48 116 = ai E 80 (fun _ => 0) := (f_s48 116 (by decide)).trans q116_s47
  have q117_s48 : s48 117 = ai E 4 (fun _ => 0) := (f_s48 117 (by decide)).trans q117_s47
  have q118_s48 : s48 118 = ai E 4 (fun _ => 0) := (f_s48 118 (by decide)).trans q118_s47
  have q119_s48 : s48 119 = ai E 686 (fun _ => 0) := (f_s48 119 (by decide)).trans q119_s47
  have q120_s48 : s48 120 = ai E 686 (fun _ => 0) := (f_s48 120 (by decide)).trans q120_s47
  have q121_s48 : s48 121 = ai E 2058 (fun _ => 0) := (f_s48 121 (by decide)).trans q121_s47
  have q122_s48 : s48 122 = ai E 2058 (fun _ => 0) := (f_s48 122 (by decide)).trans q122_s47
  have q123_s48 : s48 123 = ai E 3 (fun _ => 0) := (f_s48 123 (by decide)).trans q123_s47
  have q124_s48 : s48 124 = al E 4 (fun _ => 0) := (f_s48 124 (by decide)).trans q124_s47
  have q125_s48 : s48 125 = al E 4 (fun _ => 0) := (f_s48 125 (by decide)).trans u_s47
  refine go_aload_n (pc := 192) hF dX11_init_192 0 rfl ?_
  refine go_iconst (pc := 193) hF dX11_init_193 ?_
  refine go_newa (pc := 194) (k := (24, 6249)) hF (25, 6252) (127) 0 3 (a0 := (3, .inl (fun _ => iI 0))) ac_int rfl rfl (fun _ _ h => h) (fun cA₉ => rfl) (by decide) (by decide) (Nat.le_of_ble_eq_true rfl) dX11_init_194 (show s.heap.size + 24 = ez E + (126) by omega) (Or.inl (by omega)) (by rw [hR]; exact Nat.le_of_ble_eq_true rfl) (by rw [hR]; exact Nat.le_of_ble_eq_true rfl) rfl rfl (fun s49 u_s49 f_s49 => ?_)
  have u_s49 : s49 126 = ai E 3 (fun _ => 0) := u_s49
  have x_s49 : s49 101 = ob 10 [vr E 102, vr E 103, vi 0, vr E 104, vr E 105, vr E 106, vr E 107, vi 0, vr E 108, vi 0, vr E 109, vi 0, vr E 110, vr E 111, vr E 112, vr E 113, vr E 114, vr E 115, vr E 116, vr E 117, vr E 118, vr E 119, vr E 120, vr E 121, vr E 122, vr E 123, vr E 124, vr E 125, .null, vi 0, vi 0, vi 0, vi 0, vi 0] := (f_s49 101 (by decide)).trans u_s48
  have q102_s49 : s49 102 = ai E 7 (fun _ => 0) := (f_s49 102 (by decide)).trans q102_s48
  have q103_s49 : s49 103 = ai E 56 (fun _ => 0) := (f_s49 103 (by decide)).trans q103_s48
  have q104_s49 : s49 104 = ai E 3 (fun _ => 0) := (f_s49 104 (by decide)).trans q104_s48
  have q105_s49 : s49 105 = ai E 80 (fun _ => 0) := (f_s49 105 (by decide)).trans q105_s48
  have q106_s49 : s49 106 = ai E 80 (fun _ => 0) := (f_s49 106 (by decide)).trans q106_s48
  have q107_s49 : s49 107 = ai E 80 (fun _ => 0) := (f_s49 107 (by decide)).trans q107_s48
  have q108_s49 : s49 108 = ai E 80 (fun _ => 0) := (f_s49 108 (by decide)).trans q108_s48
  have q109_s49 : s49 109 = ai E 80 (fun _ => 0) := (f_s49 109 (by decide)).trans q109_s48
  have q110_s49 : s49 110 = ai E 4 (fun _ => 0) := (f_s49 110 (by decide)).trans q110_s48
  have q111_s49 : s49 111 = az E 4 (fun _ => 0) := (f_s49 111 (by decide)).trans q111_s48
  have q112_s49 : s49 112 = ai E 12 (fun _ => 0) := (f_s49 112 (by decide)).trans q112_s48
  have q113_s49 : s49 113 = ai E 48 (fun _ => 0) := (f_s49 113 (by decide)).trans q113_s48
  have q114_s49 : s49 114 = ai E 48 (fun _ => 0) := (f_s49 114 (by decide)).trans q114_s48
  have q115_s49 : s49 115 = ai E 80 (fun _ => 0) := (f_s49 115 (by decide)).trans q115_s48
  have q116_s49 : s49 116 = ai E 80 (fun _ => 0) := (f_s49 116 (by decide)).trans q116_s48
  have q117_s49 : s49 117 = ai E 4 (fun _ => 0) := (f_s49 117 (by decide)).trans q117_s48
  have q118_s49 : s49 118 = ai E 4 (fun _ => 0) := (f_s49 118 (by decide)).trans q118_s48
  have q119_s49 : s49 119 = ai E 686 (fun _ => 0) := (f_s49 119 (by decide)).trans q119_s48
  have q120_s49 : s49 120 = ai E 686 (fun _ => 0) := (f_s49 120 (by decide)).trans q120_s48
  have q121_s49 : s49 121 = ai E 2058 (fun _ => 0) := (f_s49 121 (by decide)).trans q121_s48
  have q122_s49 : s49 122 = ai E 2058 (fun _ => 0) := (f_s49 122 (by decide)).trans q122_s48
  have q123_s49 : s49 123 = ai E 3 (fun _ => 0) := (f_s49 123 (by decide)).trans q123_s48
  have q124_s49 : s49 124 = al E 4 (fun _ => 0) := (f_s49 124 (by decide)).trans q124_s48
  have q125_s49 : s49 125 = al E 4 (fun _ => 0) := (f_s49 125 (by decide)).trans q125_s48
  refine go_putF (pc := 196) hF [vr E 102, vr E 103, vi 0, vr E 104, vr E 105, vr E 106, vr E 107, vi 0, vr E 108, vi 0, vr E 109, vi 0, vr E 110, vr E 111, vr E 112, vr E 113, vr E 114, vr E 115, vr E 116, vr E 117, vr E 118, vr E 119, vr E 120, vr E 121, vr E 122, vr E 123, vr E 124, vr E 125, vr E 126, vi 0, vi 0, vi 0, vi 0, vi 0] fl_X11_84 (fun C₉ T n₉ h => by have e9₉ : some (C₉, T, n₉) = some (RX11, TX11, 34) := h.symm; cases e9₉; rfl) hnm dX11_init_196 (by omega) x_s49 rfl rfl rfl (Nat.le_of_ble_eq_true rfl) (fun s50 u_s50 f_s50 => ?_)
  have q102_s50 : s50 102 = ai E 7 (fun _ => 0) := (f_s50 102 (by decide)).trans q102_s49
  have q103_s50 : s50 103 = ai E 56 (fun _ => 0) := (f_s50 103 (by decide)).trans q103_s49
  have q104_s50 : s50 104 = ai E 3 (fun _ => 0) := (f_s50 104 (by decide)).trans q104_s49
  have q105_s50 : s50 105 = ai E 80 (fun _ => 0) := (f_s50 105 (by decide)).trans q105_s49
  have q106_s50 : s50 106 = ai E 80 (fun _ => 0) := (f_s50 106 (by decide)).trans q106_s49
  have q107_s50 : s50 107 = ai E 80 (fun _ => 0) := (f_s50 107 (by decide)).trans q107_s49
  have q108_s50 : s50 108 = ai E 80 (fun _ => 0) := (f_s50 108 (by decide)).trans q108_s49
  have q109_s50 : s50 109 = ai E 80 (fun _ => 0) := (f_s50 109 (by decide)).trans q109_s49
  have q110_s50 : s50 110 = ai E 4 (fun _ => 0) := (f_s50 110 (by decide)).trans q110_s49
  have q111_s50 : s50 111 = az E 4 (fun _ => 0) := (f_s50 111 (by decide)).trans q111_s49
  have q112_s50 : s50 112 = ai E 12 (fun _ => 0) := (f_s50 112 (by decide)).trans q112_s49
  have q113_s50 : s50 113 = ai E 48 (fun _ => 0) := (f_s50 113 (by decide)).trans q113_s49
  have q114_s50 : s50 114 = ai E 48 (fun _ => 0) := (f_s50 114 (by decide)).trans q114_s49
  have q115_s50 : s50 115 = ai E 80 (fun _ => 0) := (f_s50 115 (by decide)).trans q115_s49
  have q116_s50 : s50 116 = ai E 80 (fun _ => 0) := (f_s50 116 (by decide)).trans q116_s49
  have q117_s50 : s50 117 = ai E 4 (fun _ => 0) := (f_s50 117 (by decide)).trans q117_s49
  have q118_s50 : s50 118 = ai E 4 (fun _ => 0) := (f_s50 118 (by decide)).trans q118_s49
  have q119_s50 : s50 119 = ai E 686 (fun _ => 0) := (f_s50 119 (by decide)).trans q119_s49
  have q120_s50 : s50 120 = ai E 686 (fun _ => 0) := (f_s50 120 (by decide)).trans q120_s49
  have q121_s50 : s50 121 = ai E 2058 (fun _ => 0) := (f_s50 121 (by decide)).trans q121_s49
  have q122_s50 : s50 122 = ai E 2058 (fun _ => 0) := (f_s50 122 (by decide)).trans q122_s49
  have q123_s50 : s50 123 = ai E 3 (fun _ => 0) := (f_s50 123 (by decide)).trans q123_s49
  have q124_s50 : s50 124 = al E 4 (fun _ => 0) := (f_s50 124 (by decide)).trans q124_s49
  have q125_s50 : s50 125 = al E 4 (fun _ => 0) := (f_s50 125 (by decide)).trans q125_s49
  have q126_s50 : s50 126 = ai E 3 (fun _ => 0) := (f_s50 126 (by decide)).trans u_s49
  refine go_aload_n (pc := 199) hF dX11_init_199 0 rfl ?_
  refine go_get (pc := 200) hF fl_X11_7 dX11_init_200 (by omega) u_s50 rfl ?_
  refine go_iconst (pc := 203) hF dX11_init_203 ?_
  refine go_iconst (pc := 204) hF dX11_init_204 ?_
  refine go_iast (pc := 205) hF dX11_init_205 (by decide) q102_s50 (by omega) (fun s51 u_s51 f_s51 => ?_)
  have x_s51 : s51 101 = ob 10 [vr E 102, vr E 103, vi 0, vr E 104, vr E 105, vr E 106, vr E 107, vi 0, vr E 108, vi 0, vr E 109, vi 0, vr E 110, vr E 111, vr E 112, vr E 113, vr E 114, vr E 115, vr E 116, vr E 117, vr E 118, vr E 119, vr E 120, vr E 121, vr E 122, vr E 123, vr E 124, vr E 125, vr E 126, vi 0, vi 0, vi 0, vi 0, vi 0] := (f_s51 101 (by decide)).trans u_s50
  have q103_s51 : s51 103 = ai E 56 (fun _ => 0) := (f_s51 103 (by decide)).trans q103_s50
  have q104_s51 : s51 104 = ai E 3 (fun _ => 0) := (f_s51 104 (by decide)).trans q104_s50
  have q105_s51 : s51 105 = ai E 80 (fun _ => 0) := (f_s51 105 (by decide)).trans q105_s50
  have q106_s51 : s51 106 = ai E 80 (fun _ => 0) := (f_s51 106 (by decide)).trans q106_s50
  have q107_s51 : s51 107 = ai E 80 (fun _ => 0) := (f_s51 107 (by decide)).trans q107_s50
  have q108_s51 : s51 108 = ai E 80 (fun _ => 0) := (f_s51 108 (by decide)).trans q108_s50
  have q109_s51 : s51 109 = ai E 80 (fun _ => 0) := (f_s51 109 (by decide)).trans q109_s50
  have q110_s51 : s51 110 = ai E 4 (fun _ => 0) := (f_s51 110 (by decide)).trans q110_s50
  have q111_s51 : s51 111 = az E 4 (fun _ => 0) := (f_s51 111 (by decide)).trans q111_s50
  have q112_s51 : s51 112 = ai E 12 (fun _ => 0) := (f_s51 112 (by decide)).trans q112_s50
  have q113_s51 : s51 113 = ai E 48 (fun _ => 0) := (f_s51 113 (by decide)).trans q113_s50
  have q114_s51 : s51 114 = ai E 48 (fun _ => 0) := (f_s51 114 (by decide)).trans q114_s50
  have q115_s51 : s51 115 = ai E 80 (fun _ => 0) := (f_s51 115 (by decide)).trans q115_s50
  have q116_s51 : s51 116 = ai E 80 (fun _ => 0) := (f_s51 116 (by decide)).trans q116_s50
  have q117_s51 : s51 117 = ai E 4 (fun _ => 0) := (f_s51 117 (by decide)).trans q117_s50
  have q118_s51 : s51 118 = ai E 4 (fun _ => 0) := (f_s51 118 (by decide)).trans q118_s50
  have q119_s51 : s51 119 = ai E 686 (fun _ => 0) := (f_s51 119 (by decide)).trans q119_s50
  have q120_s51 : s51 120 = ai E 686 (fun _ => 0) := (f_s51 120 (by decide)).trans q120_s50
  have q121_s51 : s51 121 = ai E 2058 (fun _ => 0) := (f_s51 121 (by decide)).trans q121_s50
  have q122_s51 : s51 122 = ai E 2058 (fun _ => 0) := (f_s51 122 (by decide)).trans q122_s50
  have q123_s51 : s51 123 = ai E 3 (fun _ => 0) := (f_s51 123 (by decide)).trans q123_s50
  have q124_s51 : s51 124 = al E 4 (fun _ => 0) := (f_s51 124 (by decide)).trans q124_s50
  have q125_s51 : s51 125 = al E 4 (fun _ => 0) := (f_s51 125 (by decide)).trans q125_s50
  have q126_s51 : s51 126 = ai E 3 (fun _ => 0) := (f_s51 126 (by decide)).trans q126_s50
  refine go_aload_n (pc := 206) hF dX11_init_206 0 rfl ?_
  refine go_get (pc := 207) hF fl_X11_7 dX11_init_207 (by omega) x_s51 rfl ?_
  refine go_bipush (pc := 210) hF dX11_init_210 (by decide) ?_
  refine go_bipush (pc := 212) hF dX11_init_212 (by decide) ?_
  refine go_iast (pc := 214) hF dX11_init_214 (by decide) u_s51 (by omega) (fun s52 u_s52 f_s52 => ?_)
  have x_s52 : s52 101 = ob 10 [vr E 102, vr E 103, vi 0, vr E 104, vr E 105, vr E 106, vr E 107, vi 0, vr E 108, vi 0, vr E 109, vi 0, vr E 110, vr E 111, vr E 112, vr E 113, vr E 114, vr E 115, vr E 116, vr E 117, vr E 118, vr E 119, vr E 120, vr E 121, vr E 122, vr E 123, vr E 124, vr E 125, vr E 126, vi 0, vi 0, vi 0, vi 0, vi 0] := (f_s52 101 (by decide)).trans x_s51
  have q103_s52 : s52 103 = ai E 56 (fun _ => 0) := (f_s52 103 (by decide)).trans q103_s51
  have q104_s52 : s52 104 = ai E 3 (fun _ => 0) := (f_s52 104 (by decide)).trans q104_s51
  have q105_s52 : s52 105 = ai E 80 (fun _ => 0) := (f_s52 105 (by decide)).trans q105_s51
  have q106_s52 : s52 106 = ai E 80 (fun _ => 0) := (f_s52 106 (by decide)).trans q106_s51
  have q107_s52 : s52 107 = ai E 80 (fun _ => 0) := (f_s52 107 (by decide)).trans q107_s51
  have q108_s52 : s52 108 = ai E 80 (fun _ => 0) := (f_s52 108 (by decide)).trans q108_s51
  have q109_s52 : s52 109 = ai E 80 (fun _ => 0) := (f_s52 109 (by decide)).trans q109_s51
  have q110_s52 : s52 110 = ai E 4 (fun _ => 0) := (f_s52 110 (by decide)).trans q110_s51
  have q111_s52 : s52 111 = az E 4 (fun _ => 0) := (f_s52 111 (by decide)).trans q111_s51
  have q112_s52 : s52 112 = ai E 12 (fun _ => 0) := (f_s52 112 (by decide)).trans q112_s51
  have q113_s52 : s52 113 = ai E 48 (fun _ => 0) := (f_s52 113 (by decide)).trans q113_s51
  have q114_s52 : s52 114 = ai E 48 (fun _ => 0) := (f_s52 114 (by decide)).trans q114_s51
  have q115_s52 : s52 115 = ai E 80 (fun _ => 0) := (f_s52 115 (by decide)).trans q115_s51
  have q116_s52 : s52 116 = ai E 80 (fun _ => 0) := (f_s52 116 (by decide)).trans q116_s51
  have q117_s52 : s52 117 = ai E 4 (fun _ => 0) := (f_s52 117 (by decide)).trans q117_s51
  have q118_s52 : s52 118 = ai E 4 (fun _ => 0) := (f_s52 118 (by decide)).trans q118_s51
  have q119_s52 : s52 119 = ai E 686 (fun _ => 0) := (f_s52 119 (by decide)).trans q119_s51
  have q120_s52 : s52 120 = ai E 686 (fun _ => 0) := (f_s52 120 (by decide)).trans q120_s51
  have q121_s52 : s52 121 = ai E 2058 (fun _ => 0) := (f_s52 121 (by decide)).trans q121_s51
  have q122_s52 : s52 122 = ai E 2058 (fun _ => 0) := (f_s52 122 (by decide)).trans q122_s51
  have q123_s52 : s52 123 = ai E 3 (fun _ => 0) := (f_s52 123 (by decide)).trans q123_s51
  have q124_s52 : s52 124 = al E 4 (fun _ => 0) := (f_s52 124 (by decide)).trans q124_s51
  have q125_s52 : s52 125 = al E 4 (fun _ => 0) := (f_s52 125 (by decide)).trans q125_s51
  have q126_s52 : s52 126 = ai E 3 (fun _ => 0) := (f_s52 126 (by decide)).trans q126_s51
  exact go_vretK hF hr hlk hQ rfl rfl dX11_init_215 ⟨⟨_, _, _, _, _, _, _, _, _, _, _, _, _, x_s52, u_s52, q103_s52, q104_s52, q105_s52, q106_s52, q107_s52, q108_s52, q126_s52, ⟨⟨_, q109_s52⟩, ⟨_, q110_s52⟩, ⟨_, q111_s52⟩, ⟨_, q112_s52⟩, ⟨_, q113_s52⟩, ⟨_, q114_s52⟩, ⟨_, q115_s52⟩, ⟨_, q116_s52⟩, ⟨_, q117_s52⟩, ⟨_, q118_s52⟩, ⟨_, q119_s52⟩, ⟨_, q120_s52⟩, ⟨_, q121_s52⟩, ⟨_, q122_s52⟩, ⟨_, q123_s52⟩, ⟨_, q124_s52⟩, ⟨_, q125_s52⟩⟩, ⟨rfl, fun h => absurd h (by decide), fun h => absurd h (by decide), fun h => absurd h (by decide), rfl, rfl, rfl⟩, fun i₉ i0₉ i1₉ => absurd i1₉ (by omega), ⟨rfl, rfl, rfl⟩, ⟨rfl, rfl, rfl⟩, trivial⟩, (fun jj h1 => by rw [f_s52 jj (by omega), f_s51 jj (by omega), f_s50 jj (by omega), f_s49 jj (by omega), f_s48 jj (by omega), f_s47 jj (by omega), f_s46 jj (by omega), f_s45 jj (by omega), f_s44 jj (by omega), f_s43 jj (by omega), f_s42 jj (by omega), f_s41 jj (by omega), f_s40 jj (by omega), f_s39 jj (by omega), f_s38 jj (by omega), f_s37 jj (by omega), f_s36 jj (by omega), f_s35 jj (by omega), f_s34 jj (by omega), f_s33 jj (by omega), f_s32 jj (by omega), f_s31 jj (by omega), f_s30 jj (by omega), f_s29 jj (by omega), f_s28 jj (by omega), f_s27 jj (by omega), f_s26 jj (by omega), f_s25 jj (by omega), f_s24 jj (by omega), f_s23 jj (by omega), f_s22 jj (by omega), f_s21 jj (by omega), f_s20 jj (by omega), f_s19 jj (by omega), f_s18 jj (by omega), f_s17 jj (by omega), f_s16 jj (by omega), f_s15 jj (by omega), f_s14 jj (by omega), f_s13 jj (by omega), f_s12 jj (by omega), f_s11 jj (by omega), f_s10 jj (by omega), f_s9 jj (by omega), f_s8 jj (by omega), f_s7 jj (by omega), f_s6 jj (by omega), f_s5 jj (by omega), f_s4 jj (by omega), f_s3 jj (by omega), f_s2 jj (by omega), f_s1 jj (by omega)])⟩
