/-! The two₉ objects at first. -/
theorem cell_extq {E : En} {t₉ n₉ : Nat} {g₉ g' : Int → Int} (h : ∀ j₉ : Int, 0 ≤ j₉ → j₉ < n₉ → g₉ j₉ = g' j₉) : vp_cell (ec E t₉) (n₉, Sum.inr (Sum.inr (Sum.inr (Sum.inr (fun j₉ : Nat => rfo E (g₉ j₉)))))) = vp_cell (ec E t₉) (n₉, Sum.inr (Sum.inr (Sum.inr (Sum.inr (fun j₉ : Nat => rfo E (g' j₉)))))) := by
  rw [vp_cell_q, vp_cell_q]
  unfold arrV
  congr 1
  apply Array.ext
  · simp
  · intro t₉ h1 h2
    simp
    simp at h1
    rw [h t₉ (by omega) (by omega)]
theorem go_ar {E : En} {p : Program} {e : Env} {R : Room} {s : State} {m : MethodId} {args : Array Value} {below : List Frame} {meth : Method} {c : Code} {Q : State → Prop} {nL : Nat} {k₉ : Nat × Nat} {N : Nat} {σ : Nat → va_E} {lv : List (Nat × Value)} {st₉ : List Value} {pc : Nat} (i₉ t₉ n₉ : Nat) {g₉ : Int → Int} (g' : Int → Int) (hi₉ : i₉ < N) (hc₉ : σ i₉ = ar E t₉ n₉ g₉) (hg : ∀ j₉ : Int, 0 ≤ j₉ → j₉ < n₉ → g₉ j₉ = g' j₉) (h : ∀ σ' : Nat → va_E, σ' i₉ = ar E t₉ n₉ g' → (∀ j₉, j₉ ≠ i₉ → σ' j₉ = σ j₉) → Go E p e R s m args below meth c Q nL k₉ N σ' lv st₉ pc) : Go E p e R s m args below meth c Q nL k₉ N σ lv st₉ pc := by
  intro H₉ locs₉ ls hP hS₉ hl
  refine h (va_up σ i₉ (ar E t₉ n₉ g')) (va_up_self _ _ _) (fun j₉ hj => va_up_ne _ _ hj) H₉ locs₉ ls ?_ hS₉ hl
  intro j₉ q₉ hq
  obtain ⟨hj, rfl⟩ := wd_of hq
  by_cases hji : j₉ = i₉
  · subst hji
    rw [va_up_self]
    have h1 := hP j₉ _ (at_of hj hc₉)
    show H₉[ez E + j₉]? = some (vp_cell _ _)
    have h2 : H₉[ez E + j₉]? = some (vp_cell (ec E t₉) (n₉, Sum.inr (Sum.inr (Sum.inr (Sum.inr (fun j₉ : Nat => rfo E (g₉ j₉))))))) := h1
    rw [h2, cell_extq hg]
  · rw [va_up_ne _ _ hji]
    exact hP j₉ _ (wd_at hj)
theorem okP0 : okP (fun _ => 0) (fun _ => 0) (fun _ => 0) (fun _ => 0) (fun _ => 0) (fun _ => 0) 0 0 0 0 0 0 := by
  refine ⟨by omega, by omega, by omega, by omega, by omega, by omega, fun z₉ _ _ => ?_, fun z₉ _ _ => ?_⟩
  · show ((0 : Int) ≤ 0 ∧ (0 : Int) ≤ 6) ∧ ((0 : Int) ≤ 0 ∧ (0 : Int) ≤ 24) ∧ ((0 : Int) ≤ 0 ∧ (0 : Int) ≤ 80) ∧ (0 : Int) ≤ 0 ∧ (0 : Int) < 64
    omega
  · show ((0 : Int) ≤ 0 ∧ (0 : Int) ≤ 5) ∧ (-1 : Int) ≤ 0 ∧ (0 : Int) ≤ 80
    omega
theorem jF0 {E : En} {σ : Nat → va_E} {i₉ : Nat} (h : isFr E σ i₉ (fun _ => 0) (fun _ => -1) (fun _ => 0) 0) : jF E σ i₉ := ⟨fun _ _ => False, 0, ⟨_, _, _, _, h, ⟨⟨⟨by decide, by decide⟩, fun q₉ q0 q1₉ => absurd q1₉ (by omega), fun q₉ q' q0 q1₉ => absurd q1₉ (by omega), fun r₉ _ _ h => absurd rfl h⟩, fun r₉ _ _ => ⟨fun _ _ z₉ => z₉, fun h => absurd rfl h⟩⟩, fun r₉ c z₉ => z₉.elim⟩, by decide⟩
def nw0 (z₉ : Int) : Nat := if z₉ = 0 then 64 else if z₉ = 1 then 68 else if z₉ = 2 then 72 else 76
theorem okN0 : okN nw0 59 := by
  refine ⟨fun d₉ d0₉ d1₉ => ?_, Or.inl rfl, fun d₉ d' d0₉ d1₉ e0₉ e1₉ h => ?_⟩
  · rcases (show d₉ = 0 ∨ d₉ = 1 ∨ d₉ = 2 ∨ d₉ = 3 by omega) with rfl | rfl | rfl | rfl <;> exact ⟨by unfold pool₉ nw0; decide, by decide⟩
  · rcases (show d₉ = 0 ∨ d₉ = 1 ∨ d₉ = 2 ∨ d₉ = 3 by omega) with rfl | rfl | rfl | rfl <;> rcases (show d' = 0 ∨ d' = 1 ∨ d' = 2 ∨ d' = 3 by omega) with rfl | rfl | rfl | rfl <;> first | rfl | exact absurd h (by decide)
set_option maxHeartbeats 4000000 in
set_option maxRecDepth 100000 in
theorem c_X11_init (E : En) (σ : Nat → va_E) (hi0₉ : σ 94 = ob 10 [.null, .null, vi 0, .null, .null, .null, .null, vi 0, .null, vi 0, .null, vi 0, .null, .null, .null, .null, .null, .null, .null, .null, .null, .null, .null, .null, .null, .null, .null, .null, .null, vi 0, vi 0, vi 0, vi 0, vi 0]) : CK E M_X11_init 3 25 6252 [vr E 94] 95 σ (fun σ' => mdS E σ' 0 2 0 10 (fun _ => 0) (fun _ => 0) (fun _ => 0) (fun _ => 0) 0 (fun _ => 0) 0 .nil 0 0 0 0 0 0 ∧ ∀ q₉, (q₉ < 95 ∧ q₉ ≠ 94) → σ' q₉ = σ q₉) := by
  refine CT.of2 (own := RX11) (by decide) rfl (Nat.le_of_ble_eq_true rfl) ?_
  intro p e R s m args below meth c Q hF hr hlk hnm hz hR hQ
  have hz0 := hz (by decide)
  refine go_aload_n (pc := 0) hF dX11_init_0 0 rfl ?_
  refine go_objInit (pc := 1) hF ol_X11_1 oi_1 oi_2 dX11_init_1 (Nat.le_of_ble_eq_true rfl) (by decide) ?_
  refine go_aload_n (pc := 4) hF dX11_init_4 0 rfl ?_
  refine go_bipush (pc := 5) hF dX11_init_5 (by decide) ?_
  refine go_newa (pc := 7) (k := (0, 0)) hF (1, 7) (96) 0 7 (a0 := (7, .inl (fun _ => iI 0))) ac_int rfl rfl (fun _ _ h => h) (fun cA₉ => rfl) (by decide) (by decide) (Nat.le_of_ble_eq_true rfl) dX11_init_7 (show s.heap.size + 0 = ez E + (95) by omega) (Or.inl (by omega)) (by rw [hR]; exact Nat.le_of_ble_eq_true rfl) (by rw [hR]; exact Nat.le_of_ble_eq_true rfl) rfl rfl (fun s1₉ u_s1 f_s1 => ?_)
  have u_s1 : s1₉ 95 = ai E 7 (fun _ => 0) := u_s1
  have x_s1 : s1₉ 94 = ob 10 [.null, .null, vi 0, .null, .null, .null, .null, vi 0, .null, vi 0, .null, vi 0, .null, .null, .null, .null, .null, .null, .null, .null, .null, .null, .null, .null, .null, .null, .null, .null, .null, vi 0, vi 0, vi 0, vi 0, vi 0] := (f_s1 94 (by decide)).trans hi0₉
  refine go_putF (pc := 9) hF [vr E 95, .null, vi 0, .null, .null, .null, .null, vi 0, .null, vi 0, .null, vi 0, .null, .null, .null, .null, .null, .null, .null, .null, .null, .null, .null, .null, .null, .null, .null, .null, .null, vi 0, vi 0, vi 0, vi 0, vi 0] fl_X11_7 (fun C₉ T n₉ h => by have e9₉ : some (C₉, T, n₉) = some (RX11, TX11, 34) := h.symm; cases e9₉; rfl) hnm dX11_init_9 (by omega) x_s1 rfl rfl rfl (Nat.le_of_ble_eq_true rfl) (fun s2₉ u_s2 f_s2 => ?_)
  have q95_s2 : s2₉ 95 = ai E 7 (fun _ => 0) := (f_s2 95 (by decide)).trans u_s1
  refine go_aload_n (pc := 12) hF dX11_init_12 0 rfl ?_
  refine go_bipush (pc := 13) hF dX11_init_13 (by decide) ?_
  refine go_newa (pc := 15) (k := (1, 7)) hF (2, 63) (97) 0 56 (a0 := (56, .inl (fun _ => iI 0))) ac_int rfl rfl (fun _ _ h => h) (fun cA₉ => rfl) (by decide) (by decide) (Nat.le_of_ble_eq_true rfl) dX11_init_15 (show s.heap.size + 1 = ez E + (96) by omega) (Or.inl (by omega)) (by rw [hR]; exact Nat.le_of_ble_eq_true rfl) (by rw [hR]; exact Nat.le_of_ble_eq_true rfl) rfl rfl (fun s3₉ u_s3 f_s3 => ?_)
  have u_s3 : s3₉ 96 = ai E 56 (fun _ => 0) := u_s3
  have x_s3 : s3₉ 94 = ob 10 [vr E 95, .null, vi 0, .null, .null, .null, .null, vi 0, .null, vi 0, .null, vi 0, .null, .null, .null, .null, .null, .null, .null, .null, .null, .null, .null, .null, .null, .null, .null, .null, .null, vi 0, vi 0, vi 0, vi 0, vi 0] := (f_s3 94 (by decide)).trans u_s2
  have q95_s3 : s3₉ 95 = ai E 7 (fun _ => 0) := (f_s3 95 (by decide)).trans q95_s2
  refine go_putF (pc := 17) hF [vr E 95, vr E 96, vi 0, .null, .null, .null, .null, vi 0, .null, vi 0, .null, vi 0, .null, .null, .null, .null, .null, .null, .null, .null, .null, .null, .null, .null, .null, .null, .null, .null, .null, vi 0, vi 0, vi 0, vi 0, vi 0] fl_X11_13 (fun C₉ T n₉ h => by have e9₉ : some (C₉, T, n₉) = some (RX11, TX11, 34) := h.symm; cases e9₉; rfl) hnm dX11_init_17 (by omega) x_s3 rfl rfl rfl (Nat.le_of_ble_eq_true rfl) (fun s4₉ u_s4 f_s4 => ?_)
  have q95_s4 : s4₉ 95 = ai E 7 (fun _ => 0) := (f_s4 95 (by decide)).trans q95_s3
  have q96_s4 : s4₉ 96 = ai E 56 (fun _ => 0) := (f_s4 96 (by decide)).trans u_s3
  refine go_aload_n (pc := 20) hF dX11_init_20 0 rfl ?_
  refine go_iconst (pc := 21) hF dX11_init_21 ?_
  refine go_newa (pc := 22) (k := (2, 63)) hF (3, 66) (98) 0 3 (a0 := (3, .inl (fun _ => iI 0))) ac_int rfl rfl (fun _ _ h => h) (fun cA₉ => rfl) (by decide) (by decide) (Nat.le_of_ble_eq_true rfl) dX11_init_22 (show s.heap.size + 2 = ez E + (97) by omega) (Or.inl (by omega)) (by rw [hR]; exact Nat.le_of_ble_eq_true rfl) (by rw [hR]; exact Nat.le_of_ble_eq_true rfl) rfl rfl (fun s5 u_s5 f_s5 => ?_)
  have u_s5 : s5 97 = ai E 3 (fun _ => 0) := u_s5
  have x_s5 : s5 94 = ob 10 [vr E 95, vr E 96, vi 0, .null, .null, .null, .null, vi 0, .null, vi 0, .null, vi 0, .null, .null, .null, .null, .null, .null, .null, .null, .null, .null, .null, .null, .null, .null, .null, .null, .null, vi 0, vi 0, vi 0, vi 0, vi 0] := (f_s5 94 (by decide)).trans u_s4
  have q95_s5 : s5 95 = ai E 7 (fun _ => 0) := (f_s5 95 (by decide)).trans q95_s4
  have q96_s5 : s5 96 = ai E 56 (fun _ => 0) := (f_s5 96 (by decide)).trans q96_s4
  refine go_putF (pc := 24) hF [vr E 95, vr E 96, vi 0, vr E 97, .null, .null, .null, vi 0, .null, vi 0, .null, vi 0, .null, .null, .null, .null, .null, .null, .null, .null, .null, .null, .null, .null, .null, .null, .null, .null, .null, vi 0, vi 0, vi 0, vi 0, vi 0] fl_X11_16 (fun C₉ T n₉ h => by have e9₉ : some (C₉, T, n₉) = some (RX11, TX11, 34) := h.symm; cases e9₉; rfl) hnm dX11_init_24 (by omega) x_s5 rfl rfl rfl (Nat.le_of_ble_eq_true rfl) (fun s6₉ u_s6 f_s6 => ?_)
  have q95_s6 : s6₉ 95 = ai E 7 (fun _ => 0) := (f_s6 95 (by decide)).trans q95_s5
  have q96_s6 : s6₉ 96 = ai E 56 (fun _ => 0) := (f_s6 96 (by decide)).trans q96_s5
  have q97_s6 : s6₉ 97 = ai E 3 (fun _ => 0) := (f_s6 97 (by decide)).trans u_s5
  refine go_aload_n (pc := 27) hF dX11_init_27 0 rfl ?_
  refine go_bipush (pc := 28) hF dX11_init_28 (by decide) ?_
  refine go_newa (pc := 30) (k := (3, 66)) hF (4, 146) (99) 0 80 (a0 := (80, .inl (fun _ => iI 0))) ac_int rfl rfl (fun _ _ h => h) (fun cA₉ => rfl) (by decide) (by decide) (Nat.le_of_ble_eq_true rfl) dX11_init_30 (show s.heap.size + 3 = ez E + (98) by omega) (Or.inl (by omega)) (by rw [hR]; exact Nat.le_of_ble_eq_true rfl) (by rw [hR]; exact Nat.le_of_ble_eq_true rfl) rfl rfl (fun s7 u_s7 f_s7 => ?_)
  have u_s7 : s7 98 = ai E 80 (fun _ => 0) := u_s7
  have x_s7 : s7 94 = ob 10 [vr E 95, vr E 96, vi 0, vr E 97, .null, .null, .null, vi 0, .null, vi 0, .null, vi 0, .null, .null, .null, .null, .null, .null, .null, .null, .null, .null, .null, .null, .null, .null, .null, .null, .null, vi 0, vi 0, vi 0, vi 0, vi 0] := (f_s7 94 (by decide)).trans u_s6
  have q95_s7 : s7 95 = ai E 7 (fun _ => 0) := (f_s7 95 (by decide)).trans q95_s6
  have q96_s7 : s7 96 = ai E 56 (fun _ => 0) := (f_s7 96 (by decide)).trans q96_s6
  have q97_s7 : s7 97 = ai E 3 (fun _ => 0) := (f_s7 97 (by decide)).trans q97_s6
  refine go_putF (pc := 32) hF [vr E 95, vr E 96, vi 0, vr E 97, vr E 98, .null, .null, vi 0, .null, vi 0, .null, vi 0, .null, .null, .null, .null, .null, .null, .null, .null, .null, .null, .null, .null, .null, .null, .null, .null, .null, vi 0, vi 0, vi 0, vi 0, vi 0] fl_X11_19 (fun C₉ T n₉ h => by have e9₉ : some (C₉, T, n₉) = some (RX11, TX11, 34) := h.symm; cases e9₉; rfl) hnm dX11_init_32 (by omega) x_s7 rfl rfl rfl (Nat.le_of_ble_eq_true rfl) (fun s8 u_s8 f_s8 => ?_)
  have q95_s8 : s8 95 = ai E 7 (fun _ => 0) := (f_s8 95 (by decide)).trans q95_s7
  have q96_s8 : s8 96 = ai E 56 (fun _ => 0) := (f_s8 96 (by decide)).trans q96_s7
  have q97_s8 : s8 97 = ai E 3 (fun _ => 0) := (f_s8 97 (by decide)).trans q97_s7
  have q98_s8 : s8 98 = ai E 80 (fun _ => 0) := (f_s8 98 (by decide)).trans u_s7
  refine go_aload_n (pc := 35) hF dX11_init_35 0 rfl ?_
  refine go_bipush (pc := 36) hF dX11_init_36 (by decide) ?_
  refine go_newa (pc := 38) (k := (4, 146)) hF (5, 226) (100) 0 80 (a0 := (80, .inl (fun _ => iI 0))) ac_int rfl rfl (fun _ _ h => h) (fun cA₉ => rfl) (by decide) (by decide) (Nat.le_of_ble_eq_true rfl) dX11_init_38 (show s.heap.size + 4 = ez E + (99) by omega) (Or.inl (by omega)) (by rw [hR]; exact Nat.le_of_ble_eq_true rfl) (by rw [hR]; exact Nat.le_of_ble_eq_true rfl) rfl rfl (fun s9 u_s9 f_s9 => ?_)
  have u_s9 : s9 99 = ai E 80 (fun _ => 0) := u_s9
  have x_s9 : s9 94 = ob 10 [vr E 95, vr E 96, vi 0, vr E 97, vr E 98, .null, .null, vi 0, .null, vi 0, .null, vi 0, .null, .null, .null, .null, .null, .null, .null, .null, .null, .null, .null, .null, .null, .null, .null, .null, .null, vi 0, vi 0, vi 0, vi 0, vi 0] := (f_s9 94 (by decide)).trans u_s8
  have q95_s9 : s9 95 = ai E 7 (fun _ => 0) := (f_s9 95 (by decide)).trans q95_s8
  have q96_s9 : s9 96 = ai E 56 (fun _ => 0) := (f_s9 96 (by decide)).trans q96_s8
  have q97_s9 : s9 97 = ai E 3 (fun _ => 0) := (f_s9 97 (by decide)).trans q97_s8
  have q98_s9 : s9 98 = ai E 80 (fun _ => 0) := (f_s9 98 (by decide)).trans q98_s8
  refine go_putF (pc := 40) hF [vr E 95, vr E 96, vi 0, vr E 97, vr E 98, vr E 99, .null, vi 0, .null, vi 0, .null, vi 0, .null, .null, .null, .null, .null, .null, .null, .null, .null, .null, .null, .null, .null, .null, .null, .null, .null, vi 0, vi 0, vi 0, vi 0, vi 0] fl_X11_22 (fun C₉ T n₉ h => by have e9₉ : some (C₉, T, n₉) = some (RX11, TX11, 34) := h.symm; cases e9₉; rfl) hnm dX11_init_40 (by omega) x_s9 rfl rfl rfl (Nat.le_of_ble_eq_true rfl) (fun s10 u_s10 f_s10 => ?_)
  have q95_s10 : s10 95 = ai E 7 (fun _ => 0) := (f_s10 95 (by decide)).trans q95_s9
  have q96_s10 : s10 96 = ai E 56 (fun _ => 0) := (f_s10 96 (by decide)).trans q96_s9
  have q97_s10 : s10 97 = ai E 3 (fun _ => 0) := (f_s10 97 (by decide)).trans q97_s9
  have q98_s10 : s10 98 = ai E 80 (fun _ => 0) := (f_s10 98 (by decide)).trans q98_s9
  have q99_s10 : s10 99 = ai E 80 (fun _ => 0) := (f_s10 99 (by decide)).trans u_s9
  refine go_aload_n (pc := 43) hF dX11_init_43 0 rfl ?_
  refine go_bipush (pc := 44) hF dX11_init_44 (by decide) ?_
  refine go_newa (pc := 46) (k := (5, 226)) hF (6, 306) (101) 0 80 (a0 := (80, .inl (fun _ => iI 0))) ac_int rfl rfl (fun _ _ h => h) (fun cA₉ => rfl) (by decide) (by decide) (Nat.le_of_ble_eq_true rfl) dX11_init_46 (show s.heap.size + 5 = ez E + (100) by omega) (Or.inl (by omega)) (by rw [hR]; exact Nat.le_of_ble_eq_true rfl) (by rw [hR]; exact Nat.le_of_ble_eq_true rfl) rfl rfl (fun s11 u_s11 f_s11 => ?_)
  have u_s11 : s11 100 = ai E 80 (fun _ => 0) := u_s11
  have x_s11 : s11 94 = ob 10 [vr E 95, vr E 96, vi 0, vr E 97, vr E 98, vr E 99, .null, vi 0, .null, vi 0, .null, vi 0, .null, .null, .null, .null, .null, .null, .null, .null, .null, .null, .null, .null, .null, .null, .null, .null, .null, vi 0, vi 0, vi 0, vi 0, vi 0] := (f_s11 94 (by decide)).trans u_s10
  have q95_s11 : s11 95 = ai E 7 (fun _ => 0) := (f_s11 95 (by decide)).trans q95_s10
  have q96_s11 : s11 96 = ai E 56 (fun _ => 0) := (f_s11 96 (by decide)).trans q96_s10
  have q97_s11 : s11 97 = ai E 3 (fun _ => 0) := (f_s11 97 (by decide)).trans q97_s10
  have q98_s11 : s11 98 = ai E 80 (fun _ => 0) := (f_s11 98 (by decide)).trans q98_s10
  have q99_s11 : s11 99 = ai E 80 (fun _ => 0) := (f_s11 99 (by decide)).trans q99_s10
  refine go_putF (pc := 48) hF [vr E 95, vr E 96, vi 0, vr E 97, vr E 98, vr E 99, vr E 100, vi 0, .null, vi 0, .null, vi 0, .null, .null, .null, .null, .null, .null, .null, .null, .null, .null, .null, .null, .null, .null, .null, .null, .null, vi 0, vi 0, vi 0, vi 0, vi 0] fl_X11_25 (fun C₉ T n₉ h => by have e9₉ : some (C₉, T, n₉) = some (RX11, TX11, 34) := h.symm; cases e9₉; rfl) hnm dX11_init_48 (by omega) x_s11 rfl rfl rfl (Nat.le_of_ble_eq_true rfl) (fun s12 u_s12 f_s12 => ?_)
  have q95_s12 : s12 95 = ai E 7 (fun _ => 0) := (f_s12 95 (by decide)).trans q95_s11
  have q96_s12 : s12 96 = ai E 56 (fun _ => 0) := (f_s12 96 (by decide)).trans q96_s11
  have q97_s12 : s12 97 = ai E 3 (fun _ => 0) := (f_s12 97 (by decide)).trans q97_s11
  have q98_s12 : s12 98 = ai E 80 (fun _ => 0) := (f_s12 98 (by decide)).trans q98_s11
  have q99_s12 : s12 99 = ai E 80 (fun _ => 0) := (f_s12 99 (by decide)).trans q99_s11
  have q100_s12 : s12 100 = ai E 80 (fun _ => 0) := (f_s12 100 (by decide)).trans u_s11
  refine go_aload_n (pc := 51) hF dX11_init_51 0 rfl ?_
  refine go_bipush (pc := 52) hF dX11_init_52 (by decide) ?_
  refine go_newa (pc := 54) (k := (6, 306)) hF (7, 386) (102) 0 80 (a0 := (80, .inl (fun _ => iI 0))) ac_int rfl rfl (fun _ _ h => h) (fun cA₉ => rfl) (by decide) (by decide) (Nat.le_of_ble_eq_true rfl) dX11_init_54 (show s.heap.size + 6 = ez E + (101) by omega) (Or.inl (by omega)) (by rw [hR]; exact Nat.le_of_ble_eq_true rfl) (by rw [hR]; exact Nat.le_of_ble_eq_true rfl) rfl rfl (fun s13 u_s13 f_s13 => ?_)
  have u_s13 : s13 101 = ai E 80 (fun _ => 0) := u_s13
  have x_s13 : s13 94 = ob 10 [vr E 95, vr E 96, vi 0, vr E 97, vr E 98, vr E 99, vr E 100, vi 0, .null, vi 0, .null, vi 0, .null, .null, .null, .null, .null, .null, .null, .null, .null, .null, .null, .null, .null, .null, .null, .null, .null, vi 0, vi 0, vi 0, vi 0, vi 0] := (f_s13 94 (by decide)).trans u_s12
  have q95_s13 : s13 95 = ai E 7 (fun _ => 0) := (f_s13 95 (by decide)).trans q95_s12
  have q96_s13 : s13 96 = ai E 56 (fun _ => 0) := (f_s13 96 (by decide)).trans q96_s12
  have q97_s13 : s13 97 = ai E 3 (fun _ => 0) := (f_s13 97 (by decide)).trans q97_s12
  have q98_s13 : s13 98 = ai E 80 (fun _ => 0) := (f_s13 98 (by decide)).trans q98_s12
  have q99_s13 : s13 99 = ai E 80 (fun _ => 0) := (f_s13 99 (by decide)).trans q99_s12
  have q100_s13 : s13 100 = ai E 80 (fun _ => 0) := (f_s13 100 (by decide)).trans q100_s12
  refine go_putF (pc := 56) hF [vr E 95, vr E 96, vi 0, vr E 97, vr E 98, vr E 99, vr E 100, vi 0, vr E 101, vi 0, .null, vi 0, .null, .null, .null, .null, .null, .null, .null, .null, .null, .null, .null, .null, .null, .null, .null, .null, .null, vi 0, vi 0, vi 0, vi 0, vi 0] fl_X11_28 (fun C₉ T n₉ h => by have e9₉ : some (C₉, T, n₉) = some (RX11, TX11, 34) := h.symm; cases e9₉; rfl) hnm dX11_init_56 (by omega) x_s13 rfl rfl rfl (Nat.le_of_ble_eq_true rfl) (fun s14 u_s14 f_s14 => ?_)
  have q95_s14 : s14 95 = ai E 7 (fun _ => 0) := (f_s14 95 (by decide)).trans q95_s13
  have q96_s14 : s14 96 = ai E 56 (fun _ => 0) := (f_s14 96 (by decide)).trans q96_s13
  have q97_s14 : s14 97 = ai E 3 (fun _ => 0) := (f_s14 97 (by decide)).trans q97_s13
  have q98_s14 : s14 98 = ai E 80 (fun _ => 0) := (f_s14 98 (by decide)).trans q98_s13
  have q99_s14 : s14 99 = ai E 80 (fun _ => 0) := (f_s14 99 (by decide)).trans q99_s13
  have q100_s14 : s14 100 = ai E 80 (fun _ => 0) := (f_s14 100 (by decide)).trans q100_s13
  have q101_s14 : s14 101 = ai E 80 (fun _ => 0) := (f_s14 101 (by decide)).trans u_s13
  refine go_aload_n (pc := 59) hF dX11_init_59 0 rfl ?_
  refine go_bipush (pc := 60) hF dX11_init_60 (by decide) ?_
  refine go_newa (pc := 62) (k := (7, 386)) hF (8, 466) (103) 0 80 (a0 := (80, .inl (fun _ => iI 0))) ac_int rfl rfl (fun _ _ h => h) (fun cA₉ => rfl) (by decide) (by decide) (Nat.le_of_ble_eq_true rfl) dX11_init_62 (show s.heap.size + 7 = ez E + (102) by omega) (Or.inl (by omega)) (by rw [hR]; exact Nat.le_of_ble_eq_true rfl) (by rw [hR]; exact Nat.le_of_ble_eq_true rfl) rfl rfl (fun s15 u_s15 f_s15 => ?_)
  have u_s15 : s15 102 = ai E 80 (fun _ => 0) := u_s15
  have x_s15 : s15 94 = ob 10 [vr E 95, vr E 96, vi 0, vr E 97, vr E 98, vr E 99, vr E 100, vi 0, vr E 101, vi 0, .null, vi 0, .null, .null, .null, .null, .null, .null, .null, .null, .null, .null, .null, .null, .null, .null, .null, .null, .null, vi 0, vi 0, vi 0, vi 0, vi 0] := (f_s15 94 (by decide)).trans u_s14
  have q95_s15 : s15 95 = ai E 7 (fun _ => 0) := (f_s15 95 (by decide)).trans q95_s14
  have q96_s15 : s15 96 = ai E 56 (fun _ => 0) := (f_s15 96 (by decide)).trans q96_s14
  have q97_s15 : s15 97 = ai E 3 (fun _ => 0) := (f_s15 97 (by decide)).trans q97_s14
  have q98_s15 : s15 98 = ai E 80 (fun _ => 0) := (f_s15 98 (by decide)).trans q98_s14
  have q99_s15 : s15 99 = ai E 80 (fun _ => 0) := (f_s15 99 (by decide)).trans q99_s14
  have q100_s15 : s15 100 = ai E 80 (fun _ => 0) := (f_s15 100 (by decide)).trans q100_s14
  have q101_s15 : s15 101 = ai E 80 (fun _ => 0) := (f_s15 101 (by decide)).trans q101_s14
  refine go_putF (pc := 64) hF [vr E 95, vr E 96, vi 0, vr E 97, vr E 98, vr E 99, vr E 100, vi 0, vr E 101, vi 0, vr E 102, vi 0, .null, .null, .null, .null, .null, .null, .null, .null, .null, .null, .null, .null, .null, .null, .null, .null, .null, vi 0, vi 0, vi 0, vi 0, vi 0] fl_X11_31 (fun C₉ T n₉ h => by have e9₉ : some (C₉, T, n₉) = some (RX11, TX11, 34) := h.symm; cases e9₉; rfl) hnm dX11_init_64 (by omega) x_s15 rfl rfl rfl (Nat.le_of_ble_eq_true rfl) (fun s16 u_s16 f_s16 => ?_)
  have q95_s16 : s16 95 = ai E 7 (fun _ => 0) := (f_s16 95 (by decide)).trans q95_s15
  have q96_s16 : s16 96 = ai E 56 (fun _ => 0) := (f_s16 96 (by decide)).trans q96_s15
  have q97_s16 : s16 97 = ai E 3 (fun _ => 0) := (f_s16 97 (by decide)).trans q97_s15
  have q98_s16 : s16 98 = ai E 80 (fun _ => 0) := (f_s16 98 (by decide)).trans q98_s15
  have q99_s16 : s16 99 = ai E 80 (fun _ => 0) := (f_s16 99 (by decide)).trans q99_s15
  have q100_s16 : s16 100 = ai E 80 (fun _ => 0) := (f_s16 100 (by decide)).trans q100_s15
  have q101_s16 : s16 101 = ai E 80 (fun _ => 0) := (f_s16 101 (by decide)).trans q101_s15
  have q102_s16 : s16 102 = ai E 80 (fun _ => 0) := (f_s16 102 (by decide)).trans u_s15
  refine go_aload_n (pc := 67) hF dX11_init_67 0 rfl ?_
  refine go_iconst (pc := 68) hF dX11_init_68 ?_
  refine go_newa (pc := 69) (k := (8, 466)) hF (9, 470) (104) 0 4 (a0 := (4, .inl (fun _ => iI 0))) ac_int rfl rfl (fun _ _ h => h) (fun cA₉ => rfl) (by decide) (by decide) (Nat.le_of_ble_eq_true rfl) dX11_init_69 (show s.heap.size + 8 = ez E + (103) by omega) (Or.inl (by omega)) (by rw [hR]; exact Nat.le_of_ble_eq_true rfl) (by rw [hR]; exact Nat.le_of_ble_eq_true rfl) rfl rfl (fun s17 u_s17 f_s17 => ?_)
  have u_s17 : s17 103 = ai E 4 (fun _ => 0) := u_s17
  have x_s17 : s17 94 = ob 10 [vr E 95, vr E 96, vi 0, vr E 97, vr E 98, vr E 99, vr E 100, vi 0, vr E 101, vi 0, vr E 102, vi 0, .null, .null, .null, .null, .null, .null, .null, .null, .null, .null, .null, .null, .null, .null, .null, .null, .null, vi 0, vi 0, vi 0, vi 0, vi 0] := (f_s17 94 (by decide)).trans u_s16
  have q95_s17 : s17 95 = ai E 7 (fun _ => 0) := (f_s17 95 (by decide)).trans q95_s16
  have q96_s17 : s17 96 = ai E 56 (fun _ => 0) := (f_s17 96 (by decide)).trans q96_s16
  have q97_s17 : s17 97 = ai E 3 (fun _ => 0) := (f_s17 97 (by decide)).trans q97_s16
  have q98_s17 : s17 98 = ai E 80 (fun _ => 0) := (f_s17 98 (by decide)).trans q98_s16
  have q99_s17 : s17 99 = ai E 80 (fun _ => 0) := (f_s17 99 (by decide)).trans q99_s16
  have q100_s17 : s17 100 = ai E 80 (fun _ => 0) := (f_s17 100 (by decide)).trans q100_s16
  have q101_s17 : s17 101 = ai E 80 (fun _ => 0) := (f_s17 101 (by decide)).trans q101_s16
  have q102_s17 : s17 102 = ai E 80 (fun _ => 0) := (f_s17 102 (by decide)).trans q102_s16
  refine go_putF (pc := 71) hF [vr E 95, vr E 96, vi 0, vr E 97, vr E 98, vr E 99, vr E 100, vi 0, vr E 101, vi 0, vr E 102, vi 0, vr E 103, .null, .null, .null, .null, .null, .null, .null, .null, .null, .null, .null, .null, .null, .null, .null, .null, vi 0, vi 0, vi 0, vi 0, vi 0] fl_X11_34 (fun C₉ T n₉ h => by have e9₉ : some (C₉, T, n₉) = some (RX11, TX11, 34) := h.symm; cases e9₉; rfl) hnm dX11_init_71 (by omega) x_s17 rfl rfl rfl (Nat.le_of_ble_eq_true rfl) (fun s18 u_s18 f_s18 => ?_)
  have q95_s18 : s18 95 = ai E 7 (fun _ => 0) := (f_s18 95 (by decide)).trans q95_s17
  have q96_s18 : s18 96 = ai E 56 (fun _ => 0) := (f_s18 96 (by decide)).trans q96_s17
  have q97_s18 : s18 97 = ai E 3 (fun _ => 0) := (f_s18 97 (by decide)).trans q97_s17
  have q98_s18 : s18 98 = ai E 80 (fun _ => 0) := (f_s18 98 (by decide)).trans q98_s17
  have q99_s18 : s18 99 = ai E 80 (fun _ => 0) := (f_s18 99 (by decide)).trans q99_s17
  have q100_s18 : s18 100 = ai E 80 (fun _ => 0) := (f_s18 100 (by decide)).trans q100_s17
  have q101_s18 : s18 101 = ai E 80 (fun _ => 0) := (f_s18 101 (by decide)).trans q101_s17
  have q102_s18 : s18 102 = ai E 80 (fun _ => 0) := (f_s18 102 (by decide)).trans q102_s17
  have q103_s18 : s18 103 = ai E 4 (fun _ => 0) := (f_s18 103 (by decide)).trans u_s17
  refine go_aload_n (pc := 74) hF dX11_init_74 0 rfl ?_
  refine go_iconst (pc := 75) hF dX11_init_75 ?_
  refine go_newa (pc := 76) (k := (9, 470)) hF (10, 474) (105) 2 4 (a0 := (4, .inl (fun _ => iI 0))) ac_boolean rfl rfl (fun _ _ h => h) (fun cA₉ => rfl) (by decide) (by decide) (Nat.le_of_ble_eq_true rfl) dX11_init_76 (show s.heap.size + 9 = ez E + (104) by omega) (Or.inl (by omega)) (by rw [hR]; exact Nat.le_of_ble_eq_true rfl) (by rw [hR]; exact Nat.le_of_ble_eq_true rfl) rfl rfl (fun s19 u_s19 f_s19 => ?_)
  have u_s19 : s19 104 = az E 4 (fun _ => 0) := u_s19
  have x_s19 : s19 94 = ob 10 [vr E 95, vr E 96, vi 0, vr E 97, vr E 98, vr E 99, vr E 100, vi 0, vr E 101, vi 0, vr E 102, vi 0, vr E 103, .null, .null, .null, .null, .null, .null, .null, .null, .null, .null, .null, .null, .null, .null, .null, .null, vi 0, vi 0, vi 0, vi 0, vi 0] := (f_s19 94 (by decide)).trans u_s18
  have q95_s19 : s19 95 = ai E 7 (fun _ => 0) := (f_s19 95 (by decide)).trans q95_s18
  have q96_s19 : s19 96 = ai E 56 (fun _ => 0) := (f_s19 96 (by decide)).trans q96_s18
  have q97_s19 : s19 97 = ai E 3 (fun _ => 0) := (f_s19 97 (by decide)).trans q97_s18
  have q98_s19 : s19 98 = ai E 80 (fun _ => 0) := (f_s19 98 (by decide)).trans q98_s18
  have q99_s19 : s19 99 = ai E 80 (fun _ => 0) := (f_s19 99 (by decide)).trans q99_s18
  have q100_s19 : s19 100 = ai E 80 (fun _ => 0) := (f_s19 100 (by decide)).trans q100_s18
  have q101_s19 : s19 101 = ai E 80 (fun _ => 0) := (f_s19 101 (by decide)).trans q101_s18
  have q102_s19 : s19 102 = ai E 80 (fun _ => 0) := (f_s19 102 (by decide)).trans q102_s18
  have q103_s19 : s19 103 = ai E 4 (fun _ => 0) := (f_s19 103 (by decide)).trans q103_s18
  refine go_putF (pc := 78) hF [vr E 95, vr E 96, vi 0, vr E 97, vr E 98, vr E 99, vr E 100, vi 0, vr E 101, vi 0, vr E 102, vi 0, vr E 103, vr E 104, .null, .null, .null, .null, .null, .null, .null, .null, .null, .null, .null, .null, .null, .null, .null, vi 0, vi 0, vi 0, vi 0, vi 0] fl_X11_37 (fun C₉ T n₉ h => by have e9₉ : some (C₉, T, n₉) = some (RX11, TX11, 34) := h.symm; cases e9₉; rfl) hnm dX11_init_78 (by omega) x_s19 rfl rfl rfl (Nat.le_of_ble_eq_true rfl) (fun s20 u_s20 f_s20 => ?_)
  have q95_s20 : s20 95 = ai E 7 (fun _ => 0) := (f_s20 95 (by decide)).trans q95_s19
  have q96_s20 : s20 96 = ai E 56 (fun _ => 0) := (f_s20 96 (by decide)).trans q96_s19
  have q97_s20 : s20 97 = ai E 3 (fun _ => 0) := (f_s20 97 (by decide)).trans q97_s19
  have q98_s20 : s20 98 = ai E 80 (fun _ => 0) := (f_s20 98 (by decide)).trans q98_s19
  have q99_s20 : s20 99 = ai E 80 (fun _ => 0) := (f_s20 99 (by decide)).trans q99_s19
  have q100_s20 : s20 100 = ai E 80 (fun _ => 0) := (f_s20 100 (by decide)).trans q100_s19
  have q101_s20 : s20 101 = ai E 80 (fun _ => 0) := (f_s20 101 (by decide)).trans q101_s19
  have q102_s20 : s20 102 = ai E 80 (fun _ => 0) := (f_s20 102 (by decide)).trans q102_s19
  have q103_s20 : s20 103 = ai E 4 (fun _ => 0) := (f_s20 103 (by decide)).trans q103_s19
  have q104_s20 : s20 104 = az E 4 (fun _ => 0) := (f_s20 104 (by decide)).trans u_s19
  refine go_aload_n (pc := 81) hF dX11_init_81 0 rfl ?_
  refine go_bipush (pc := 82) hF dX11_init_82 (by decide) ?_
  refine go_newa (pc := 84) (k := (10, 474)) hF (11, 486) (106) 0 12 (a0 := (12, .inl (fun _ => iI 0))) ac_int rfl rfl (fun _ _ h => h) (fun cA₉ => rfl) (by decide) (by decide) (Nat.le_of_ble_eq_true rfl) dX11_init_84 (show s.heap.size + 10 = ez E + (105) by omega) (Or.inl (by omega)) (by rw [hR]; exact Nat.le_of_ble_eq_true rfl) (by rw [hR]; exact Nat.le_of_ble_eq_true rfl) rfl rfl (fun s21 u_s21 f_s21 => ?_)
  have u_s21 : s21 105 = ai E 12 (fun _ => 0) := u_s21
  have x_s21 : s21 94 = ob 10 [vr E 95, vr E 96, vi 0, vr E 97, vr E 98, vr E 99, vr E 100, vi 0, vr E 101, vi 0, vr E 102, vi 0, vr E 103, vr E 104, .null, .null, .null, .null, .null, .null, .null, .null, .null, .null, .null, .null, .null, .null, .null, vi 0, vi 0, vi 0, vi 0, vi 0] := (f_s21 94 (by decide)).trans u_s20
  have q95_s21 : s21 95 = ai E 7 (fun _ => 0) := (f_s21 95 (by decide)).trans q95_s20
  have q96_s21 : s21 96 = ai E 56 (fun _ => 0) := (f_s21 96 (by decide)).trans q96_s20
  have q97_s21 : s21 97 = ai E 3 (fun _ => 0) := (f_s21 97 (by decide)).trans q97_s20
  have q98_s21 : s21 98 = ai E 80 (fun _ => 0) := (f_s21 98 (by decide)).trans q98_s20
  have q99_s21 : s21 99 = ai E 80 (fun _ => 0) := (f_s21 99 (by decide)).trans q99_s20
  have q100_s21 : s21 100 = ai E 80 (fun _ => 0) := (f_s21 100 (by decide)).trans q100_s20
  have q101_s21 : s21 101 = ai E 80 (fun _ => 0) := (f_s21 101 (by decide)).trans q101_s20
  have q102_s21 : s21 102 = ai E 80 (fun _ => 0) := (f_s21 102 (by decide)).trans q102_s20
  have q103_s21 : s21 103 = ai E 4 (fun _ => 0) := (f_s21 103 (by decide)).trans q103_s20
  have q104_s21 : s21 104 = az E 4 (fun _ => 0) := (f_s21 104 (by decide)).trans q104_s20
  refine go_putF (pc := 86) hF [vr E 95, vr E 96, vi 0, vr E 97, vr E 98, vr E 99, vr E 100, vi 0, vr E 101, vi 0, vr E 102, vi 0, vr E 103, vr E 104, vr E 105, .null, .null, .null, .null, .null, .null, .null, .null, .null, .null, .null, .null, .null, .null, vi 0, vi 0, vi 0, vi 0, vi 0] fl_X11_41 (fun C₉ T n₉ h => by have e9₉ : some (C₉, T, n₉) = some (RX11, TX11, 34) := h.symm; cases e9₉; rfl) hnm dX11_init_86 (by omega) x_s21 rfl rfl rfl (Nat.le_of_ble_eq_true rfl) (fun s22 u_s22 f_s22 => ?_)
  have q95_s22 : s22 95 = ai E 7 (fun _ => 0) := (f_s22 95 (by decide)).trans q95_s21
  have q96_s22 : s22 96 = ai E 56 (fun _ => 0) := (f_s22 96 (by decide)).trans q96_s21
  have q97_s22 : s22 97 = ai E 3 (fun _ => 0) := (f_s22 97 (by decide)).trans q97_s21
  have q98_s22 : s22 98 = ai E 80 (fun _ => 0) := (f_s22 98 (by decide)).trans q98_s21
  have q99_s22 : s22 99 = ai E 80 (fun _ => 0) := (f_s22 99 (by decide)).trans q99_s21
  have q100_s22 : s22 100 = ai E 80 (fun _ => 0) := (f_s22 100 (by decide)).trans q100_s21
  have q101_s22 : s22 101 = ai E 80 (fun _ => 0) := (f_s22 101 (by decide)).trans q101_s21
  have q102_s22 : s22 102 = ai E 80 (fun _ => 0) := (f_s22 102 (by decide)).trans q102_s21
  have q103_s22 : s22 103 = ai E 4 (fun _ => 0) := (f_s22 103 (by decide)).trans q103_s21
  have q104_s22 : s22 104 = az E 4 (fun _ => 0) := (f_s22 104 (by decide)).trans q104_s21
  have q105_s22 : s22 105 = ai E 12 (fun _ => 0) := (f_s22 105 (by decide)).trans u_s21
  refine go_aload_n (pc := 89) hF dX11_init_89 0 rfl ?_
  refine go_bipush (pc := 90) hF dX11_init_90 (by decide) ?_
  refine go_newa (pc := 92) (k := (11, 486)) hF (12, 534) (107) 0 48 (a0 := (48, .inl (fun _ => iI 0))) ac_int rfl rfl (fun _ _ h => h) (fun cA₉ => rfl) (by decide) (by decide) (Nat.le_of_ble_eq_true rfl) dX11_init_92 (show s.heap.size + 11 = ez E + (106) by omega) (Or.inl (by omega)) (by rw [hR]; exact Nat.le_of_ble_eq_true rfl) (by rw [hR]; exact Nat.le_of_ble_eq_true rfl) rfl rfl (fun s23 u_s23 f_s23 => ?_)
  have u_s23 : s23 106 = ai E 48 (fun _ => 0) := u_s23
  have x_s23 : s23 94 = ob 10 [vr E 95, vr E 96, vi 0, vr E 97, vr E 98, vr E 99, vr E 100, vi 0, vr E 101, vi 0, vr E 102, vi 0, vr E 103, vr E 104, vr E 105, .null, .null, .null, .null, .null, .null, .null, .null, .null, .null, .null, .null, .null, .null, vi 0, vi 0, vi 0, vi 0, vi 0] := (f_s23 94 (by decide)).trans u_s22
  have q95_s23 : s23 95 = ai E 7 (fun _ => 0) := (f_s23 95 (by decide)).trans q95_s22
  have q96_s23 : s23 96 = ai E 56 (fun _ => 0) := (f_s23 96 (by decide)).trans q96_s22
  have q97_s23 : s23 97 = ai E 3 (fun _ => 0) := (f_s23 97 (by decide)).trans q97_s22
  have q98_s23 : s23 98 = ai E 80 (fun _ => 0) := (f_s23 98 (by decide)).trans q98_s22
  have q99_s23 : s23 99 = ai E 80 (fun _ => 0) := (f_s23 99 (by decide)).trans q99_s22
  have q100_s23 : s23 100 = ai E 80 (fun _ => 0) := (f_s23 100 (by decide)).trans q100_s22
  have q101_s23 : s23 101 = ai E 80 (fun _ => 0) := (f_s23 101 (by decide)).trans q101_s22
  have q102_s23 : s23 102 = ai E 80 (fun _ => 0) := (f_s23 102 (by decide)).trans q102_s22
  have q103_s23 : s23 103 = ai E 4 (fun _ => 0) := (f_s23 103 (by decide)).trans q103_s22
  have q104_s23 : s23 104 = az E 4 (fun _ => 0) := (f_s23 104 (by decide)).trans q104_s22
  have q105_s23 : s23 105 = ai E 12 (fun _ => 0) := (f_s23 105 (by decide)).trans q105_s22
  refine go_putF (pc := 94) hF [vr E 95, vr E 96, vi 0, vr E 97, vr E 98, vr E 99, vr E 100, vi 0, vr E 101, vi 0, vr E 102, vi 0, vr E 103, vr E 104, vr E 105, vr E 106, .null, .null, .null, .null, .null, .null, .null, .null, .null, .null, .null, .null, .null, vi 0, vi 0, vi 0, vi 0, vi 0] fl_X11_44 (fun C₉ T n₉ h => by have e9₉ : some (C₉, T, n₉) = some (RX11, TX11, 34) := h.symm; cases e9₉; rfl) hnm dX11_init_94 (by omega) x_s23 rfl rfl rfl (Nat.le_of_ble_eq_true rfl) (fun s24 u_s24 f_s24 => ?_)
  have q95_s24 : s24 95 = ai E 7 (fun _ => 0) := (f_s24 95 (by decide)).trans q95_s23
  have q96_s24 : s24 96 = ai E 56 (fun _ => 0) := (f_s24 96 (by decide)).trans q96_s23
  have q97_s24 : s24 97 = ai E 3 (fun _ => 0) := (f_s24 97 (by decide)).trans q97_s23
  have q98_s24 : s24 98 = ai E 80 (fun _ => 0) := (f_s24 98 (by decide)).trans q98_s23
  have q99_s24 : s24 99 = ai E 80 (fun _ => 0) := (f_s24 99 (by decide)).trans q99_s23
  have q100_s24 : s24 100 = ai E 80 (fun _ => 0) := (f_s24 100 (by decide)).trans q100_s23
  have q101_s24 : s24 101 = ai E 80 (fun _ => 0) := (f_s24 101 (by decide)).trans q101_s23
  have q102_s24 : s24 102 = ai E 80 (fun _ => 0) := (f_s24 102 (by decide)).trans q102_s23
  have q103_s24 : s24 103 = ai E 4 (fun _ => 0) := (f_s24 103 (by decide)).trans q103_s23
  have q104_s24 : s24 104 = az E 4 (fun _ => 0) := (f_s24 104 (by decide)).trans q104_s23
  have q105_s24 : s24 105 = ai E 12 (fun _ => 0) := (f_s24 105 (by decide)).trans q105_s23
  have q106_s24 : s24 106 = ai E 48 (fun _ => 0) := (f_s24 106 (by decide)).trans u_s23
  refine go_aload_n (pc := 97) hF dX11_init_97 0 rfl ?_
  refine go_bipush (pc := 98) hF dX11_init_98 (by decide) ?_
  refine go_newa (pc := 100) (k := (12, 534)) hF (13, 582) (108) 0 48 (a0 := (48, .inl (fun _ => iI 0))) ac_int rfl rfl (fun _ _ h => h) (fun cA₉ => rfl) (by decide) (by decide) (Nat.le_of_ble_eq_true rfl) dX11_init_100 (show s.heap.size + 12 = ez E + (107) by omega) (Or.inl (by omega)) (by rw [hR]; exact Nat.le_of_ble_eq_true rfl) (by rw [hR]; exact Nat.le_of_ble_eq_true rfl) rfl rfl (fun s25 u_s25 f_s25 => ?_)
  have u_s25 : s25 107 = ai E 48 (fun _ => 0) := u_s25
  have x_s25 : s25 94 = ob 10 [vr E 95, vr E 96, vi 0, vr E 97, vr E 98, vr E 99, vr E 100, vi 0, vr E 101, vi 0, vr E 102, vi 0, vr E 103, vr E 104, vr E 105, vr E 106, .null, .null, .null, .null, .null, .null, .null, .null, .null, .null, .null, .null, .null, vi 0, vi 0, vi 0, vi 0, vi 0] := (f_s25 94 (by decide)).trans u_s24
  have q95_s25 : s25 95 = ai E 7 (fun _ => 0) := (f_s25 95 (by decide)).trans q95_s24
  have q96_s25 : s25 96 = ai E 56 (fun _ => 0) := (f_s25 96 (by decide)).trans q96_s24
  have q97_s25 : s25 97 = ai E 3 (fun _ => 0) := (f_s25 97 (by decide)).trans q97_s24
  have q98_s25 : s25 98 = ai E 80 (fun _ => 0) := (f_s25 98 (by decide)).trans q98_s24
  have q99_s25 : s25 99 = ai E 80 (fun _ => 0) := (f_s25 99 (by decide)).trans q99_s24
  have q100_s25 : s25 100 = ai E 80 (fun _ => 0) := (f_s25 100 (by decide)).trans q100_s24
  have q101_s25 : s25 101 = ai E 80 (fun _ => 0) := (f_s25 101 (by decide)).trans q101_s24
  have q102_s25 : s25 102 = ai E 80 (fun _ => 0) := (f_s25 102 (by decide)).trans q102_s24
  have q103_s25 : s25 103 = ai E 4 (fun _ => 0) := (f_s25 103 (by decide)).trans q103_s24
  have q104_s25 : s25 104 = az E 4 (fun _ => 0) := (f_s25 104 (by decide)).trans q104_s24
  have q105_s25 : s25 105 = ai E 12 (fun _ => 0) := (f_s25 105 (by decide)).trans q105_s24
  have q106_s25 : s25 106 = ai E 48 (fun _ => 0) := (f_s25 106 (by decide)).trans q106_s24
  refine go_putF (pc := 102) hF [vr E 95, vr E 96, vi 0, vr E 97, vr E 98, vr E 99, vr E 100, vi 0, vr E 101, vi 0, vr E 102, vi 0, vr E 103, vr E 104, vr E 105, vr E 106, vr E 107, .null, .null, .null, .null, .null, .null, .null, .null, .null, .null, .null, .null, vi 0, vi 0, vi 0, vi 0, vi 0] fl_X11_47 (fun C₉ T n₉ h => by have e9₉ : some (C₉, T, n₉) = some (RX11, TX11, 34) := h.symm; cases e9₉; rfl) hnm dX11_init_102 (by omega) x_s25 rfl rfl rfl (Nat.le_of_ble_eq_true rfl) (fun s26 u_s26 f_s26 => ?_)
  have q95_s26 : s26 95 = ai E 7 (fun _ => 0) := (f_s26 95 (by decide)).trans q95_s25
  have q96_s26 : s26 96 = ai E 56 (fun _ => 0) := (f_s26 96 (by decide)).trans q96_s25
  have q97_s26 : s26 97 = ai E 3 (fun _ => 0) := (f_s26 97 (by decide)).trans q97_s25
  have q98_s26 : s26 98 = ai E 80 (fun _ => 0) := (f_s26 98 (by decide)).trans q98_s25
  have q99_s26 : s26 99 = ai E 80 (fun _ => 0) := (f_s26 99 (by decide)).trans q99_s25
  have q100_s26 : s26 100 = ai E 80 (fun _ => 0) := (f_s26 100 (by decide)).trans q100_s25
  have q101_s26 : s26 101 = ai E 80 (fun _ => 0) := (f_s26 101 (by decide)).trans q101_s25
  have q102_s26 : s26 102 = ai E 80 (fun _ => 0) := (f_s26 102 (by decide)).trans q102_s25
  have q103_s26 : s26 103 = ai E 4 (fun _ => 0) := (f_s26 103 (by decide)).trans q103_s25
  have q104_s26 : s26 104 = az E 4 (fun _ => 0) := (f_s26 104 (by decide)).trans q104_s25
  have q105_s26 : s26 105 = ai E 12 (fun _ => 0) := (f_s26 105 (by decide)).trans q105_s25
  have q106_s26 : s26 106 = ai E 48 (fun _ => 0) := (f_s26 106 (by decide)).trans q106_s25
  have q107_s26 : s26 107 = ai E 48 (fun _ => 0) := (f_s26 107 (by decide)).trans u_s25
  refine go_aload_n (pc := 105) hF dX11_init_105 0 rfl ?_
  refine go_bipush (pc := 106) hF dX11_init_106 (by decide) ?_
  refine go_newa (pc := 108) (k := (13, 582)) hF (14, 662) (109) 0 80 (a0 := (80, .inl (fun _ => iI 0))) ac_int rfl rfl (fun _ _ h => h) (fun cA₉ => rfl) (by decide) (by decide) (Nat.le_of_ble_eq_true rfl) dX11_init_108 (show s.heap.size + 13 = ez E + (108) by omega) (Or.inl (by omega)) (by rw [hR]; exact Nat.le_of_ble_eq_true rfl) (by rw [hR]; exact Nat.le_of_ble_eq_true rfl) rfl rfl (fun s27 u_s27 f_s27 => ?_)
  have u_s27 : s27 108 = ai E 80 (fun _ => 0) := u_s27
  have x_s27 : s27 94 = ob 10 [vr E 95, vr E 96, vi 0, vr E 97, vr E 98, vr E 99, vr E 100, vi 0, vr E 101, vi 0, vr E 102, vi 0, vr E 103, vr E 104, vr E 105, vr E 106, vr E 107, .null, .null, .null, .null, .null, .null, .null, .null, .null, .null, .null, .null, vi 0, vi 0, vi 0, vi 0, vi 0] := (f_s27 94 (by decide)).trans u_s26
  have q95_s27 : s27 95 = ai E 7 (fun _ => 0) := (f_s27 95 (by decide)).trans q95_s26
  have q96_s27 : s27 96 = ai E 56 (fun _ => 0) := (f_s27 96 (by decide)).trans q96_s26
  have q97_s27 : s27 97 = ai E 3 (fun _ => 0) := (f_s27 97 (by decide)).trans q97_s26
  have q98_s27 : s27 98 = ai E 80 (fun _ => 0) := (f_s27 98 (by decide)).trans q98_s26
  have q99_s27 : s27 99 = ai E 80 (fun _ => 0) := (f_s27 99 (by decide)).trans q99_s26
  have q100_s27 : s27 100 = ai E 80 (fun _ => 0) := (f_s27 100 (by decide)).trans q100_s26
  have q101_s27 : s27 101 = ai E 80 (fun _ => 0) := (f_s27 101 (by decide)).trans q101_s26
  have q102_s27 : s27 102 = ai E 80 (fun _ => 0) := (f_s27 102 (by decide)).trans q102_s26
  have q103_s27 : s27 103 = ai E 4 (fun _ => 0) := (f_s27 103 (by decide)).trans q103_s26
  have q104_s27 : s27 104 = az E 4 (fun _ => 0) := (f_s27 104 (by decide)).trans q104_s26
  have q105_s27 : s27 105 = ai E 12 (fun _ => 0) := (f_s27 105 (by decide)).trans q105_s26
  have q106_s27 : s27 106 = ai E 48 (fun _ => 0) := (f_s27 106 (by decide)).trans q106_s26
  have q107_s27 : s27 107 = ai E 48 (fun _ => 0) := (f_s27 107 (by decide)).trans q107_s26
  refine go_putF (pc := 110) hF [vr E 95, vr E 96, vi 0, vr E 97, vr E 98, vr E 99, vr E 100, vi 0, vr E 101, vi 0, vr E 102, vi 0, vr E 103, vr E 104, vr E 105, vr E 106, vr E 107, vr E 108, .null, .null, .null, .null, .null, .null, .null, .null, .null, .null, .null, vi 0, vi 0, vi 0, vi 0, vi 0] fl_X11_50 (fun C₉ T n₉ h => by have e9₉ : some (C₉, T, n₉) = some (RX11, TX11, 34) := h.symm; cases e9₉; rfl) hnm dX11_init_110 (by omega) x_s27 rfl rfl rfl (Nat.le_of_ble_eq_true rfl) (fun s28 u_s28 f_s28 => ?_)
  have q95_s28 : s28 95 = ai E 7 (fun _ => 0) := (f_s28 95 (by decide)).trans q95_s27
  have q96_s28 : s28 96 = ai E 56 (fun _ => 0) := (f_s28 96 (by decide)).trans q96_s27
  have q97_s28 : s28 97 = ai E 3 (fun _ => 0) := (f_s28 97 (by decide)).trans q97_s27
  have q98_s28 : s28 98 = ai E 80 (fun _ => 0) := (f_s28 98 (by decide)).trans q98_s27
  have q99_s28 : s28 99 = ai E 80 (fun _ => 0) := (f_s28 99 (by decide)).trans q99_s27
  have q100_s28 : s28 100 = ai E 80 (fun _ => 0) := (f_s28 100 (by decide)).trans q100_s27
  have q101_s28 : s28 101 = ai E 80 (fun _ => 0) := (f_s28 101 (by decide)).trans q101_s27
  have q102_s28 : s28 102 = ai E 80 (fun _ => 0) := (f_s28 102 (by decide)).trans q102_s27
  have q103_s28 : s28 103 = ai E 4 (fun _ => 0) := (f_s28 103 (by decide)).trans q103_s27
  have q104_s28 : s28 104 = az E 4 (fun _ => 0) := (f_s28 104 (by decide)).trans q104_s27
  have q105_s28 : s28 105 = ai E 12 (fun _ => 0) := (f_s28 105 (by decide)).trans q105_s27
  have q106_s28 : s28 106 = ai E 48 (fun _ => 0) := (f_s28 106 (by decide)).trans q106_s27
  have q107_s28 : s28 107 = ai E 48 (fun _ => 0) := (f_s28 107 (by decide)).trans q107_s27
  have q108_s28 : s28 108 = ai E 80 (fun _ => 0) := (f_s28 108 (by decide)).trans u_s27
  refine go_aload_n (pc := 113) hF dX11_init_113 0 rfl ?_
  refine go_bipush (pc := 114) hF dX11_init_114 (by decide) ?_
  refine go_newa (pc := 116) (k := (14, 662)) hF (15, 742) (110) 0 80 (a0 := (80, .inl (fun _ => iI 0))) ac_int rfl rfl (fun _ _ h => h) (fun cA₉ => rfl) (by decide) (by decide) (Nat.le_of_ble_eq_true rfl) dX11_init_116 (show s.heap.size + 14 = ez E + (109) by omega) (Or.inl (by omega)) (by rw [hR]; exact Nat.le_of_ble_eq_true rfl) (by rw [hR]; exact Nat.le_of_ble_eq_true rfl) rfl rfl (fun s29 u_s29 f_s29 => ?_)
  have u_s29 : s29 109 = ai E 80 (fun _ => 0) := u_s29
  have x_s29 : s29 94 = ob 10 [vr E 95, vr E 96, vi 0, vr E 97, vr E 98, vr E 99, vr E 100, vi 0, vr E 101, vi 0, vr E 102, vi 0, vr E 103, vr E 104, vr E 105, vr E 106, vr E 107, vr E 108, .null, .null, .null, .null, .null, .null, .null, .null, .null, .null, .null, vi 0, vi 0, vi 0, vi 0, vi 0] := (f_s29 94 (by decide)).trans u_s28
  have q95_s29 : s29 95 = ai E 7 (fun _ => 0) := (f_s29 95 (by decide)).trans q95_s28
  have q96_s29 : s29 96 = ai E 56 (fun _ => 0) := (f_s29 96 (by decide)).trans q96_s28
  have q97_s29 : s29 97 = ai E 3 (fun _ => 0) := (f_s29 97 (by decide)).trans q97_s28
  have q98_s29 : s29 98 = ai E 80 (fun _ => 0) := (f_s29 98 (by decide)).trans q98_s28
  have q99_s29 : s29 99 = ai E 80 (fun _ => 0) := (f_s29 99 (by decide)).trans q99_s28
  have q100_s29 : s29 100 = ai E 80 (fun _ => 0) := (f_s29 100 (by decide)).trans q100_s28
  have q101_s29 : s29 101 = ai E 80 (fun _ => 0) := (f_s29 101 (by decide)).trans q101_s28
  have q102_s29 : s29 102 = ai E 80 (fun _ => 0) := (f_s29 102 (by decide)).trans q102_s28
  have q103_s29 : s29 103 = ai E 4 (fun _ => 0) := (f_s29 103 (by decide)).trans q103_s28
  have q104_s29 : s29 104 = az E 4 (fun _ => 0) := (f_s29 104 (by decide)).trans q104_s28
  have q105_s29 : s29 105 = ai E 12 (fun _ => 0) := (f_s29 105 (by decide)).trans q105_s28
  have q106_s29 : s29 106 = ai E 48 (fun _ => 0) := (f_s29 106 (by decide)).trans q106_s28
  have q107_s29 : s29 107 = ai E 48 (fun _ => 0) := (f_s29 107 (by decide)).trans q107_s28
  have q108_s29 : s29 108 = ai E 80 (fun _ => 0) := (f_s29 108 (by decide)).trans q108_s28
  refine go_putF (pc := 118) hF [vr E 95, vr E 96, vi 0, vr E 97, vr E 98, vr E 99, vr E 100, vi 0, vr E 101, vi 0, vr E 102, vi 0, vr E 103, vr E 104, vr E 105, vr E 106, vr E 107, vr E 108, vr E 109, .null, .null, .null, .null, .null, .null, .null, .null, .null, .null, vi 0, vi 0, vi 0, vi 0, vi 0] fl_X11_53 (fun C₉ T n₉ h => by have e9₉ : some (C₉, T, n₉) = some (RX11, TX11, 34) := h.symm; cases e9₉; rfl) hnm dX11_init_118 (by omega) x_s29 rfl rfl rfl (Nat.le_of_ble_eq_true rfl) (fun s30 u_s30 f_s30 => ?_)
  have q95_s30 : s30 95 = ai E 7 (fun _ => 0) := (f_s30 95 (by decide)).trans q95_s29
  have q96_s30 : s30 96 = ai E 56 (fun _ => 0) := (f_s30 96 (by decide)).trans q96_s29
  have q97_s30 : s30 97 = ai E 3 (fun _ => 0) := (f_s30 97 (by decide)).trans q97_s29
  have q98_s30 : s30 98 = ai E 80 (fun _ => 0) := (f_s30 98 (by decide)).trans q98_s29
  have q99_s30 : s30 99 = ai E 80 (fun _ => 0) := (f_s30 99 (by decide)).trans q99_s29
  have q100_s30 : s30 100 = ai E 80 (fun _ => 0) := (f_s30 100 (by decide)).trans q100_s29
  have q101_s30 : s30 101 = ai E 80 (fun _ => 0) := (f_s30 101 (by decide)).trans q101_s29
  have q102_s30 : s30 102 = ai E 80 (fun _ => 0) := (f_s30 102 (by decide)).trans q102_s29
  have q103_s30 : s30 103 = ai E 4 (fun _ => 0) := (f_s30 103 (by decide)).trans q103_s29
  have q104_s30 : s30 104 = az E 4 (fun _ => 0) := (f_s30 104 (by decide)).trans q104_s29
  have q105_s30 : s30 105 = ai E 12 (fun _ => 0) := (f_s30 105 (by decide)).trans q105_s29
  have q106_s30 : s30 106 = ai E 48 (fun _ => 0) := (f_s30 106 (by decide)).trans q106_s29
  have q107_s30 : s30 107 = ai E 48 (fun _ => 0) := (f_s30 107 (by decide)).trans q107_s29
  have q108_s30 : s30 108 = ai E 80 (fun _ => 0) := (f_s30 108 (by decide)).trans q108_s29
  have q109_s30 : s30 109 = ai E 80 (fun _ => 0) := (f_s30 109 (by decide)).trans u_s29
  refine go_aload_n (pc := 121) hF dX11_init_121 0 rfl ?_
  refine go_iconst (pc := 122) hF dX11_init_122 ?_
  refine go_newa (pc := 123) (k := (15, 742)) hF (16, 746) (111) 0 4 (a0 := (4, .inl (fun _ => iI 0))) ac_int rfl rfl (fun _ _ h => h) (fun cA₉ => rfl) (by decide) (by decide) (Nat.le_of_ble_eq_true rfl) dX11_init_123 (show s.heap.size + 15 = ez E + (110) by omega) (Or.inl (by omega)) (by rw [hR]; exact Nat.le_of_ble_eq_true rfl) (by rw [hR]; exact Nat.le_of_ble_eq_true rfl) rfl rfl (fun s31 u_s31 f_s31 => ?_)
  have u_s31 : s31 110 = ai E 4 (fun _ => 0) := u_s31
  have x_s31 : s31 94 = ob 10 [vr E 95, vr E 96, vi 0, vr E 97, vr E 98, vr E 99, vr E 100, vi 0, vr E 101, vi 0, vr E 102, vi 0, vr E 103, vr E 104, vr E 105, vr E 106, vr E 107, vr E 108, vr E 109, .null, .null, .null, .null, .null, .null, .null, .null, .null, .null, vi 0, vi 0, vi 0, vi 0, vi 0] := (f_s31 94 (by decide)).trans u_s30
  have q95_s31 : s31 95 = ai E 7 (fun _ => 0) := (f_s31 95 (by decide)).trans q95_s30
  have q96_s31 : s31 96 = ai E 56 (fun _ => 0) := (f_s31 96 (by decide)).trans q96_s30
  have q97_s31 : s31 97 = ai E 3 (fun _ => 0) := (f_s31 97 (by decide)).trans q97_s30
  have q98_s31 : s31 98 = ai E 80 (fun _ => 0) := (f_s31 98 (by decide)).trans q98_s30
  have q99_s31 : s31 99 = ai E 80 (fun _ => 0) := (f_s31 99 (by decide)).trans q99_s30
  have q100_s31 : s31 100 = ai E 80 (fun _ => 0) := (f_s31 100 (by decide)).trans q100_s30
  have q101_s31 : s31 101 = ai E 80 (fun _ => 0) := (f_s31 101 (by decide)).trans q101_s30
  have q102_s31 : s31 102 = ai E 80 (fun _ => 0) := (f_s31 102 (by decide)).trans q102_s30
  have q103_s31 : s31 103 = ai E 4 (fun _ => 0) := (f_s31 103 (by decide)).trans q103_s30
  have q104_s31 : s31 104 = az E 4 (fun _ => 0) := (f_s31 104 (by decide)).trans q104_s30
  have q105_s31 : s31 105 = ai E 12 (fun _ => 0) := (f_s31 105 (by decide)).trans q105_s30
  have q106_s31 : s31 106 = ai E 48 (fun _ => 0) := (f_s31 106 (by decide)).trans q106_s30
  have q107_s31 : s31 107 = ai E 48 (fun _ => 0) := (f_s31 107 (by decide)).trans q107_s30
  have q108_s31 : s31 108 = ai E 80 (fun _ => 0) := (f_s31 108 (by decide)).trans q108_s30
  have q109_s31 : s31 109 = ai E 80 (fun _ => 0) := (f_s31 109 (by decide)).trans q109_s30
  refine go_putF (pc := 125) hF [vr E 95, vr E 96, vi 0, vr E 97, vr E 98, vr E 99, vr E 100, vi 0, vr E 101, vi 0, vr E 102, vi 0, vr E 103, vr E 104, vr E 105, vr E 106, vr E 107, vr E 108, vr E 109, vr E 110, .null, .null, .null, .null, .null, .null, .null, .null, .null, vi 0, vi 0, vi 0, vi 0, vi 0] fl_X11_56 (fun C₉ T n₉ h => by have e9₉ : some (C₉, T, n₉) = some (RX11, TX11, 34) := h.symm; cases e9₉; rfl) hnm dX11_init_125 (by omega) x_s31 rfl rfl rfl (Nat.le_of_ble_eq_true rfl) (fun s32 u_s32 f_s32 => ?_)
  have q95_s32 : s32 95 = ai E 7 (fun _ => 0) := (f_s32 95 (by decide)).trans q95_s31
  have q96_s32 : s32 96 = ai E 56 (fun _ => 0) := (f_s32 96 (by decide)).trans q96_s31
  have q97_s32 : s32 97 = ai E 3 (fun _ => 0) := (f_s32 97 (by decide)).trans q97_s31
  have q98_s32 : s32 98 = ai E 80 (fun _ => 0) := (f_s32 98 (by decide)).trans q98_s31
  have q99_s32 : s32 99 = ai E 80 (fun _ => 0) := (f_s32 99 (by decide)).trans q99_s31
  have q100_s32 : s32 100 = ai E 80 (fun _ => 0) := (f_s32 100 (by decide)).trans q100_s31
  have q101_s32 : s32 101 = ai E 80 (fun _ => 0) := (f_s32 101 (by decide)).trans q101_s31
  have q102_s32 : s32 102 = ai E 80 (fun _ => 0) := (f_s32 102 (by decide)).trans q102_s31
  have q103_s32 : s32 103 = ai E 4 (fun _ => 0) := (f_s32 103 (by decide)).trans q103_s31
  have q104_s32 : s32 104 = az E 4 (fun _ => 0) := (f_s32 104 (by decide)).trans q104_s31
  have q105_s32 : s32 105 = ai E 12 (fun _ => 0) := (f_s32 105 (by decide)).trans q105_s31
  have q106_s32 : s32 106 = ai E 48 (fun _ => 0) := (f_s32 106 (by decide)).trans q106_s31
  have q107_s32 : s32 107 = ai E 48 (fun _ => 0) := (f_s32 107 (by decide)).trans q107_s31
  have q108_s32 : s32 108 = ai E 80 (fun _ => 0) := (f_s32 108 (by decide)).trans q108_s31
  have q109_s32 : s32 109 = ai E 80 (fun _ => 0) := (f_s32 109 (by decide)).trans q109_s31
  have q110_s32 : s32 110 = ai E 4 (fun _ => 0) := (f_s32 110 (by decide)).trans u_s31
  refine go_aload_n (pc := 128) hF dX11_init_128 0 rfl ?_
  refine go_iconst (pc := 129) hF dX11_init_129 ?_
  refine go_newa (pc := 130) (k := (16, 746)) hF (17, 750) (112) 0 4 (a0 := (4, .inl (fun _ => iI 0))) ac_int rfl rfl (fun _ _ h => h) (fun cA₉ => rfl) (by decide) (by decide) (Nat.le_of_ble_eq_true rfl) dX11_init_130 (show s.heap.size + 16 = ez E + (111) by omega) (Or.inl (by omega)) (by rw [hR]; exact Nat.le_of_ble_eq_true rfl) (by rw [hR]; exact Nat.le_of_ble_eq_true rfl) rfl rfl (fun s33 u_s33 f_s33 => ?_)
  have u_s33 : s33 111 = ai E 4 (fun _ => 0) := u_s33
  have x_s33 : s33 94 = ob 10 [vr E 95, vr E 96, vi 0, vr E 97, vr E 98, vr E 99, vr E 100, vi 0, vr E 101, vi 0, vr E 102, vi 0, vr E 103, vr E 104, vr E 105, vr E 106, vr E 107, vr E 108, vr E 109, vr E 110, .null, .null, .null, .null, .null, .null, .null, .null, .null, vi 0, vi 0, vi 0, vi 0, vi 0] := (f_s33 94 (by decide)).trans u_s32
  have q95_s33 : s33 95 = ai E 7 (fun _ => 0) := (f_s33 95 (by decide)).trans q95_s32
  have q96_s33 : s33 96 = ai E 56 (fun _ => 0) := (f_s33 96 (by decide)).trans q96_s32
  have q97_s33 : s33 97 = ai E 3 (fun _ => 0) := (f_s33 97 (by decide)).trans q97_s32
  have q98_s33 : s33 98 = ai E 80 (fun _ => 0) := (f_s33 98 (by decide)).trans q98_s32
  have q99_s33 : s33 99 = ai E 80 (fun _ => 0) := (f_s33 99 (by decide)).trans q99_s32
  have q100_s33 : s33 100 = ai E 80 (fun _ => 0) := (f_s33 100 (by decide)).trans q100_s32
  have q101_s33 : s33 101 = ai E 80 (fun _ => 0) := (f_s33 101 (by decide)).trans q101_s32
  have q102_s33 : s33 102 = ai E 80 (fun _ => 0) := (f_s33 102 (by decide)).trans q102_s32
  have q103_s33 : s33 103 = ai E 4 (fun _ => 0) := (f_s33 103 (by decide)).trans q103_s32
  have q104_s33 : s33 104 = az E 4 (fun _ => 0) := (f_s33 104 (by decide)).trans q104_s32
  have q105_s33 : s33 105 = ai E 12 (fun _ => 0) := (f_s33 105 (by decide)).trans q105_s32
  have q106_s33 : s33 106 = ai E 48 (fun _ => 0) := (f_s33 106 (by decide)).trans q106_s32
  have q107_s33 : s33 107 = ai E 48 (fun _ => 0) := (f_s33 107 (by decide)).trans q107_s32
  have q108_s33 : s33 108 = ai E 80 (fun _ => 0) := (f_s33 108 (by decide)).trans q108_s32
  have q109_s33 : s33 109 = ai E 80 (fun _ => 0) := (f_s33 109 (by decide)).trans q109_s32
  have q110_s33 : s33 110 = ai E 4 (fun _ => 0) := (f_s33 110 (by decide)).trans q110_s32
  refine go_putF (pc := 132) hF [vr E 95, vr E 96, vi 0, vr E 97, vr E 98, vr E 99, vr E 100, vi 0, vr E 101, vi 0, vr E 102, vi 0, vr E 103, vr E 104, vr E 105, vr E 106, vr E 107, vr E 108, vr E 109, vr E 110, vr E 111, .null, .null, .null, .null, .null, .null, .null, .null, vi 0, vi 0, vi 0, vi 0, vi 0] fl_X11_59 (fun C₉ T n₉ h => by have e9₉ : some (C₉, T, n₉) = some (RX11, TX11, 34) := h.symm; cases e9₉; rfl) hnm dX11_init_132 (by omega) x_s33 rfl rfl rfl (Nat.le_of_ble_eq_true rfl) (fun s34 u_s34 f_s34 => ?_)
  have q95_s34 : s34 95 = ai E 7 (fun _ => 0) := (f_s34 95 (by decide)).trans q95_s33
  have q96_s34 : s34 96 = ai E 56 (fun _ => 0) := (f_s34 96 (by decide)).trans q96_s33
  have q97_s34 : s34 97 = ai E 3 (fun _ => 0) := (f_s34 97 (by decide)).trans q97_s33
  have q98_s34 : s34 98 = ai E 80 (fun _ => 0) := (f_s34 98 (by decide)).trans q98_s33
  have q99_s34 : s34 99 = ai E 80 (fun _ => 0) := (f_s34 99 (by decide)).trans q99_s33
  have q100_s34 : s34 100 = ai E 80 (fun _ => 0) := (f_s34 100 (by decide)).trans q100_s33
  have q101_s34 : s34 101 = ai E 80 (fun _ => 0) := (f_s34 101 (by decide)).trans q101_s33
  have q102_s34 : s34 102 = ai E 80 (fun _ => 0) := (f_s34 102 (by decide)).trans q102_s33
  have q103_s34 : s34 103 = ai E 4 (fun _ => 0) := (f_s34 103 (by decide)).trans q103_s33
  have q104_s34 : s34 104 = az E 4 (fun _ => 0) := (f_s34 104 (by decide)).trans q104_s33
  have q105_s34 : s34 105 = ai E 12 (fun _ => 0) := (f_s34 105 (by decide)).trans q105_s33
  have q106_s34 : s34 106 = ai E 48 (fun _ => 0) := (f_s34 106 (by decide)).trans q106_s33
  have q107_s34 : s34 107 = ai E 48 (fun _ => 0) := (f_s34 107 (by decide)).trans q107_s33
  have q108_s34 : s34 108 = ai E 80 (fun _ => 0) := (f_s34 108 (by decide)).trans q108_s33
  have q109_s34 : s34 109 = ai E 80 (fun _ => 0) := (f_s34 109 (by decide)).trans q109_s33
  have q110_s34 : s34 110 = ai E 4 (fun _ => 0) := (f_s34 110 (by decide)).trans q110_s33
  have q111_s34 : s34 111 = ai E 4 (fun _ => 0) := (f_s34 111 (by decide)).trans u_s33
  refine go_aload_n (pc := 135) hF dX11_init_135 0 rfl ?_
  refine go_sipush (pc := 136) hF dX11_init_136 (by decide) ?_
  refine go_newa (pc := 139) (k := (17, 750)) hF (18, 1436) (113) 0 686 (a0 := (686, .inl (fun _ => iI 0))) ac_int rfl rfl (fun _ _ h => h) (fun cA₉ => rfl) (by decide) (by decide) (Nat.le_of_ble_eq_true rfl) dX11_init_139 (show s.heap.size + 17 = ez E + (112) by omega) (Or.inl (by omega)) (by rw [hR]; exact Nat.le_of_ble_eq_true rfl) (by rw [hR]; exact Nat.le_of_ble_eq_true rfl) rfl rfl (fun s35 u_s35 f_s35 => ?_)
  have u_s35 : s35 112 = ai E 686 (fun _ => 0) := u_s35
  have x_s35 : s35 94 = ob 10 [vr E 95, vr E 96, vi 0, vr E 97, vr E 98, vr E 99, vr E 100, vi 0, vr E 101, vi 0, vr E 102, vi 0, vr E 103, vr E 104, vr E 105, vr E 106, vr E 107, vr E 108, vr E 109, vr E 110, vr E 111, .null, .null, .null, .null, .null, .null, .null, .null, vi 0, vi 0, vi 0, vi 0, vi 0] := (f_s35 94 (by decide)).trans u_s34
  have q95_s35 : s35 95 = ai E 7 (fun _ => 0) := (f_s35 95 (by decide)).trans q95_s34
  have q96_s35 : s35 96 = ai E 56 (fun _ => 0) := (f_s35 96 (by decide)).trans q96_s34
  have q97_s35 : s35 97 = ai E 3 (fun _ => 0) := (f_s35 97 (by decide)).trans q97_s34
  have q98_s35 : s35 98 = ai E 80 (fun _ => 0) := (f_s35 98 (by decide)).trans q98_s34
  have q99_s35 : s35 99 = ai E 80 (fun _ => 0) := (f_s35 99 (by decide)).trans q99_s34
  have q100_s35 : s35 100 = ai E 80 (fun _ => 0) := (f_s35 100 (by decide)).trans q100_s34
  have q101_s35 : s35 101 = ai E 80 (fun _ => 0) := (f_s35 101 (by decide)).trans q101_s34
  have q102_s35 : s35 102 = ai E 80 (fun _ => 0) := (f_s35 102 (by decide)).trans q102_s34
  have q103_s35 : s35 103 = ai E 4 (fun _ => 0) := (f_s35 103 (by decide)).trans q103_s34
  have q104_s35 : s35 104 = az E 4 (fun _ => 0) := (f_s35 104 (by decide)).trans q104_s34
  have q105_s35 : s35 105 = ai E 12 (fun _ => 0) := (f_s35 105 (by decide)).trans q105_s34
  have q106_s35 : s35 106 = ai E 48 (fun _ => 0) := (f_s35 106 (by decide)).trans q106_s34
  have q107_s35 : s35 107 = ai E 48 (fun _ => 0) := (f_s35 107 (by decide)).trans q107_s34
  have q108_s35 : s35 108 = ai E 80 (fun _ => 0) := (f_s35 108 (by decide)).trans q108_s34
  have q109_s35 : s35 109 = ai E 80 (fun _ => 0) := (f_s35 109 (by decide)).trans q109_s34
  have q110_s35 : s35 110 = ai E 4 (fun _ => 0) := (f_s35 110 (by decide)).trans q110_s34
  have q111_s35 : s35 111 = ai E 4 (fun _ => 0) := (f_s35 111 (by decide)).trans q111_s34
  refine go_putF (pc := 141) hF [vr E 95, vr E 96, vi 0, vr E 97, vr E 98, vr E 99, vr E 100, vi 0, vr E 101, vi 0, vr E 102, vi 0, vr E 103, vr E 104, vr E 105, vr E 106, vr E 107, vr E 108, vr E 109, vr E 110, vr E 111, vr E 112, .null, .null, .null, .null, .null, .null, .null, vi 0, vi 0, vi 0, vi 0, vi 0] fl_X11_62 (fun C₉ T n₉ h => by have e9₉ : some (C₉, T, n₉) = some (RX11, TX11, 34) := h.symm; cases e9₉; rfl) hnm dX11_init_141 (by omega) x_s35 rfl rfl rfl (Nat.le_of_ble_eq_true rfl) (fun s36 u_s36 f_s36 => ?_)
  have q95_s36 : s36 95 = ai E 7 (fun _ => 0) := (f_s36 95 (by decide)).trans q95_s35
  have q96_s36 : s36 96 = ai E 56 (fun _ => 0) := (f_s36 96 (by decide)).trans q96_s35
  have q97_s36 : s36 97 = ai E 3 (fun _ => 0) := (f_s36 97 (by decide)).trans q97_s35
  have q98_s36 : s36 98 = ai E 80 (fun _ => 0) := (f_s36 98 (by decide)).trans q98_s35
  have q99_s36 : s36 99 = ai E 80 (fun _ => 0) := (f_s36 99 (by decide)).trans q99_s35
  have q100_s36 : s36 100 = ai E 80 (fun _ => 0) := (f_s36 100 (by decide)).trans q100_s35
  have q101_s36 : s36 101 = ai E 80 (fun _ => 0) := (f_s36 101 (by decide)).trans q101_s35
  have q102_s36 : s36 102 = ai E 80 (fun _ => 0) := (f_s36 102 (by decide)).trans q102_s35
  have q103_s36 : s36 103 = ai E 4 (fun _ => 0) := (f_s36 103 (by decide)).trans q103_s35
  have q104_s36 : s36 104 = az E 4 (fun _ => 0) := (f_s36 104 (by decide)).trans q104_s35
  have q105_s36 : s36 105 = ai E 12 (fun _ => 0) := (f_s36 105 (by decide)).trans q105_s35
  have q106_s36 : s36 106 = ai E 48 (fun _ => 0) := (f_s36 106 (by decide)).trans q106_s35
  have q107_s36 : s36 107 = ai E 48 (fun _ => 0) := (f_s36 107 (by decide)).trans q107_s35
  have q108_s36 : s36 108 = ai E 80 (fun _ => 0) := (f_s36 108 (by decide)).trans q108_s35
  have q109_s36 : s36 109 = ai E 80 (fun _ => 0) := (f_s36 109 (by decide)).trans q109_s35
  have q110_s36 : s36 110 = ai E 4 (fun _ => 0) := (f_s36 110 (by decide)).trans q110_s35
  have q111_s36 : s36 111 = ai E 4 (fun _ => 0) := (f_s36 111 (by decide)).trans q111_s35
  have q112_s36 : s36 112 = ai E 686 (fun _ => 0) := (f_s36 112 (by decide)).trans u_s35
  refine go_aload_n (pc := 144) hF dX11_init_144 0 rfl ?_
  refine go_sipush (pc := 145) hF dX11_init_145 (by decide) ?_
  refine go_newa (pc := 148) (k := (18, 1436)) hF (19, 2122) (114) 0 686 (a0 := (686, .inl (fun _ => iI 0))) ac_int rfl rfl (fun _ _ h => h) (fun cA₉ => rfl) (by decide) (by decide) (Nat.le_of_ble_eq_true rfl) dX11_init_148 (show s.heap.size + 18 = ez E + (113) by omega) (Or.inl (by omega)) (by rw [hR]; exact Nat.le_of_ble_eq_true rfl) (by rw [hR]; exact Nat.le_of_ble_eq_true rfl) rfl rfl (fun s37 u_s37 f_s37 => ?_)
  have u_s37 : s37 113 = ai E 686 (fun _ => 0) := u_s37
  have x_s37 : s37 94 = ob 10 [vr E 95, vr E 96, vi 0, vr E 97, vr E 98, vr E 99, vr E 100, vi 0, vr E 101, vi 0, vr E 102, vi 0, vr E 103, vr E 104, vr E 105, vr E 106, vr E 107, vr E 108, vr E 109, vr E 110, vr E 111, vr E 112, .null, .null, .null, .null, .null, .null, .null, vi 0, vi 0, vi 0, vi 0, vi 0] := (f_s37 94 (by decide)).trans u_s36
  have q95_s37 : s37 95 = ai E 7 (fun _ => 0) := (f_s37 95 (by decide)).trans q95_s36
  have q96_s37 : s37 96 = ai E 56 (fun _ => 0) := (f_s37 96 (by decide)).trans q96_s36
  have q97_s37 : s37 97 = ai E 3 (fun _ => 0) := (f_s37 97 (by decide)).trans q97_s36
  have q98_s37 : s37 98 = ai E 80 (fun _ => 0) := (f_s37 98 (by decide)).trans q98_s36
  have q99_s37 : s37 99 = ai E 80 (fun _ => 0) := (f_s37 99 (by decide)).trans q99_s36
  have q100_s37 : s37 100 = ai E 80 (fun _ => 0) := (f_s37 100 (by decide)).trans q100_s36
  have q101_s37 : s37 101 = ai E 80 (fun _ => 0) := (f_s37 101 (by decide)).trans q101_s36
  have q102_s37 : s37 102 = ai E 80 (fun _ => 0) := (f_s37 102 (by decide)).trans q102_s36
  have q103_s37 : s37 103 = ai E 4 (fun _ => 0) := (f_s37 103 (by decide)).trans q103_s36
  have q104_s37 : s37 104 = az E 4 (fun _ => 0) := (f_s37 104 (by decide)).trans q104_s36
  have q105_s37 : s37 105 = ai E 12 (fun _ => 0) := (f_s37 105 (by decide)).trans q105_s36
  have q106_s37 : s37 106 = ai E 48 (fun _ => 0) := (f_s37 106 (by decide)).trans q106_s36
  have q107_s37 : s37 107 = ai E 48 (fun _ => 0) := (f_s37 107 (by decide)).trans q107_s36
  have q108_s37 : s37 108 = ai E 80 (fun _ => 0) := (f_s37 108 (by decide)).trans q108_s36
  have q109_s37 : s37 109 = ai E 80 (fun _ => 0) := (f_s37 109 (by decide)).trans q109_s36
  have q110_s37 : s37 110 = ai E 4 (fun _ => 0) := (f_s37 110 (by decide)).trans q110_s36
  have q111_s37 : s37 111 = ai E 4 (fun _ => 0) := (f_s37 111 (by decide)).trans q111_s36
  have q112_s37 : s37 112 = ai E 686 (fun _ => 0) := (f_s37 112 (by decide)).trans q112_s36
  refine go_putF (pc := 150) hF [vr E 95, vr E 96, vi 0, vr E 97, vr E 98, vr E 99, vr E 100, vi 0, vr E 101, vi 0, vr E 102, vi 0, vr E 103, vr E 104, vr E 105, vr E 106, vr E 107, vr E 108, vr E 109, vr E 110, vr E 111, vr E 112, vr E 113, .null, .null, .null, .null, .null, .null, vi 0, vi 0, vi 0, vi 0, vi 0] fl_X11_65 (fun C₉ T n₉ h => by have e9₉ : some (C₉, T, n₉) = some (RX11, TX11, 34) := h.symm; cases e9₉; rfl) hnm dX11_init_150 (by omega) x_s37 rfl rfl rfl (Nat.le_of_ble_eq_true rfl) (fun s38 u_s38 f_s38 => ?_)
  have q95_s38 : s38 95 = ai E 7 (fun _ => 0) := (f_s38 95 (by decide)).trans q95_s37
  have q96_s38 : s38 96 = ai E 56 (fun _ => 0) := (f_s38 96 (by decide)).trans q96_s37
  have q97_s38 : s38 97 = ai E 3 (fun _ => 0) := (f_s38 97 (by decide)).trans q97_s37
  have q98_s38 : s38 98 = ai E 80 (fun _ => 0) := (f_s38 98 (by decide)).trans q98_s37
  have q99_s38 : s38 99 = ai E 80 (fun _ => 0) := (f_s38 99 (by decide)).trans q99_s37
  have q100_s38 : s38 100 = ai E 80 (fun _ => 0) := (f_s38 100 (by decide)).trans q100_s37
  have q101_s38 : s38 101 = ai E 80 (fun _ => 0) := (f_s38 101 (by decide)).trans q101_s37
  have q102_s38 : s38 102 = ai E 80 (fun _ => 0) := (f_s38 102 (by decide)).trans q102_s37
  have q103_s38 : s38 103 = ai E 4 (fun _ => 0) := (f_s38 103 (by decide)).trans q103_s37
  have q104_s38 : s38 104 = az E 4 (fun _ => 0) := (f_s38 104 (by decide)).trans q104_s37
  have q105_s38 : s38 105 = ai E 12 (fun _ => 0) := (f_s38 105 (by decide)).trans q105_s37
  have q106_s38 : s38 106 = ai E 48 (fun _ => 0) := (f_s38 106 (by decide)).trans q106_s37
  have q107_s38 : s38 107 = ai E 48 (fun _ => 0) := (f_s38 107 (by decide)).trans q107_s37
  have q108_s38 : s38 108 = ai E 80 (fun _ => 0) := (f_s38 108 (by decide)).trans q108_s37
  have q109_s38 : s38 109 = ai E 80 (fun _ => 0) := (f_s38 109 (by decide)).trans q109_s37
  have q110_s38 : s38 110 = ai E 4 (fun _ => 0) := (f_s38 110 (by decide)).trans q110_s37
  have q111_s38 : s38 111 = ai E 4 (fun _ => 0) := (f_s38 111 (by decide)).trans q111_s37
  have q112_s38 : s38 112 = ai E 686 (fun _ => 0) := (f_s38 112 (by decide)).trans q112_s37
  have q113_s38 : s38 113 = ai E 686 (fun _ => 0) := (f_s38 113 (by decide)).trans u_s37
  refine go_aload_n (pc := 153) hF dX11_init_153 0 rfl ?_
  refine go_sipush (pc := 154) hF dX11_init_154 (by decide) ?_
  refine go_newa (pc := 157) (k := (19, 2122)) hF (20, 4180) (115) 0 2058 (a0 := (2058, .inl (fun _ => iI 0))) ac_int rfl rfl (fun _ _ h => h) (fun cA₉ => rfl) (by decide) (by decide) (Nat.le_of_ble_eq_true rfl) dX11_init_157 (show s.heap.size + 19 = ez E + (114) by omega) (Or.inl (by omega)) (by rw [hR]; exact Nat.le_of_ble_eq_true rfl) (by rw [hR]; exact Nat.le_of_ble_eq_true rfl) rfl rfl (fun s39 u_s39 f_s39 => ?_)
  have u_s39 : s39 114 = ai E 2058 (fun _ => 0) := u_s39
  have x_s39 : s39 94 = ob 10 [vr E 95, vr E 96, vi 0, vr E 97, vr E 98, vr E 99, vr E 100, vi 0, vr E 101, vi 0, vr E 102, vi 0, vr E 103, vr E 104, vr E 105, vr E 106, vr E 107, vr E 108, vr E 109, vr E 110, vr E 111, vr E 112, vr E 113, .null, .null, .null, .null, .null, .null, vi 0, vi 0, vi 0, vi 0, vi 0] := (f_s39 94 (by decide)).trans u_s38
  have q95_s39 : s39 95 = ai E 7 (fun _ => 0) := (f_s39 95 (by decide)).trans q95_s38
  have q96_s39 : s39 96 = ai E 56 (fun _ => 0) := (f_s39 96 (by decide)).trans q96_s38
  have q97_s39 : s39 97 = ai E 3 (fun _ => 0) := (f_s39 97 (by decide)).trans q97_s38
  have q98_s39 : s39 98 = ai E 80 (fun _ => 0) := (f_s39 98 (by decide)).trans q98_s38
  have q99_s39 : s39 99 = ai E 80 (fun _ => 0) := (f_s39 99 (by decide)).trans q99_s38
  have q100_s39 : s39 100 = ai E 80 (fun _ => 0) := (f_s39 100 (by decide)).trans q100_s38
  have q101_s39 : s39 101 = ai E 80 (fun _ => 0) := (f_s39 101 (by decide)).trans q101_s38
  have q102_s39 : s39 102 = ai E 80 (fun _ => 0) := (f_s39 102 (by decide)).trans q102_s38
  have q103_s39 : s39 103 = ai E 4 (fun _ => 0) := (f_s39 103 (by decide)).trans q103_s38
  have q104_s39 : s39 104 = az E 4 (fun _ => 0) := (f_s39 104 (by decide)).trans q104_s38
  have q105_s39 : s39 105 = ai E 12 (fun _ => 0) := (f_s39 105 (by decide)).trans q105_s38
  have q106_s39 : s39 106 = ai E 48 (fun _ => 0) := (f_s39 106 (by decide)).trans q106_s38
  have q107_s39 : s39 107 = ai E 48 (fun _ => 0) := (f_s39 107 (by decide)).trans q107_s38
  have q108_s39 : s39 108 = ai E 80 (fun _ => 0) := (f_s39 108 (by decide)).trans q108_s38
  have q109_s39 : s39 109 = ai E 80 (fun _ => 0) := (f_s39 109 (by decide)).trans q109_s38
  have q110_s39 : s39 110 = ai E 4 (fun _ => 0) := (f_s39 110 (by decide)).trans q110_s38
  have q111_s39 : s39 111 = ai E 4 (fun _ => 0) := (f_s39 111 (by decide)).trans q111_s38
  have q112_s39 : s39 112 = ai E 686 (fun _ => 0) := (f_s39 112 (by decide)).trans q112_s38
  have q113_s39 : s39 113 = ai E 686 (fun _ => 0) := (f_s39 113 (by decide)).trans q113_s38
  refine go_putF (pc := 159) hF [vr E 95, vr E 96, vi 0, vr E 97, vr E 98, vr E 99, vr E 100, vi 0, vr E 101, vi 0, vr E 102, vi 0, vr E 103, vr E 104, vr E 105, vr E 106, vr E 107, vr E 108, vr E 109, vr E 110, vr E 111, vr E 112, vr E 113, vr E 114, .null, .null, .null, .null, .null, vi 0, vi 0, vi 0, vi 0, vi 0] fl_X11_68 (fun C₉ T n₉ h => by have e9₉ : some (C₉, T, n₉) = some (RX11, TX11, 34) := h.symm; cases e9₉; rfl) hnm dX11_init_159 (by omega) x_s39 rfl rfl rfl (Nat.le_of_ble_eq_true rfl) (fun s40 u_s40 f_s40 => ?_)
  have q95_s40 : s40 95 = ai E 7 (fun _ => 0) := (f_s40 95 (by decide)).trans q95_s39
  have q96_s40 : s40 96 = ai E 56 (fun _ => 0) := (f_s40 96 (by decide)).trans q96_s39
  have q97_s40 : s40 97 = ai E 3 (fun _ => 0) := (f_s40 97 (by decide)).trans q97_s39
  have q98_s40 : s40 98 = ai E 80 (fun _ => 0) := (f_s40 98 (by decide)).trans q98_s39
  have q99_s40 : s40 99 = ai E 80 (fun _ => 0) := (f_s40 99 (by decide)).trans q99_s39
  have q100_s40 : s40 100 = ai E 80 (fun _ => 0) := (f_s40 100 (by decide)).trans q100_s39
  have q101_s40 : s40 101 = ai E 80 (fun _ => 0) := (f_s40 101 (by decide)).trans q101_s39
  have q102_s40 : s40 102 = ai E 80 (fun _ => 0) := (f_s40 102 (by decide)).trans q102_s39
  have q103_s40 : s40 103 = ai E 4 (fun _ => 0) := (f_s40 103 (by decide)).trans q103_s39
  have q104_s40 : s40 104 = az E 4 (fun _ => 0) := (f_s40 104 (by decide)).trans q104_s39
  have q105_s40 : s40 105 = ai E 12 (fun _ => 0) := (f_s40 105 (by decide)).trans q105_s39
  have q106_s40 : s40 106 = ai E 48 (fun _ => 0) := (f_s40 106 (by decide)).trans q106_s39
  have q107_s40 : s40 107 = ai E 48 (fun _ => 0) := (f_s40 107 (by decide)).trans q107_s39
  have q108_s40 : s40 108 = ai E 80 (fun _ => 0) := (f_s40 108 (by decide)).trans q108_s39
  have q109_s40 : s40 109 = ai E 80 (fun _ => 0) := (f_s40 109 (by decide)).trans q109_s39
  have q110_s40 : s40 110 = ai E 4 (fun _ => 0) := (f_s40 110 (by decide)).trans q110_s39
  have q111_s40 : s40 111 = ai E 4 (fun _ => 0) := (f_s40 111 (by decide)).trans q111_s39
  have q112_s40 : s40 112 = ai E 686 (fun _ => 0) := (f_s40 112 (by decide)).trans q112_s39
  have q113_s40 : s40 113 = ai E 686 (fun _ => 0) := (f_s40 113 (by decide)).trans q113_s39
  have q114_s40 : s40 114 = ai E 2058 (fun _ => 0) := (f_s40 114 (by decide)).trans u_s39
  refine go_aload_n (pc := 162) hF dX11_init_162 0 rfl ?_
  refine go_sipush (pc := 163) hF dX11_init_163 (by decide) ?_
  refine go_newa (pc := 166) (k := (20, 4180)) hF (21, 6238) (116) 0 2058 (a0 := (2058, .inl (fun _ => iI 0))) ac_int rfl rfl (fun _ _ h => h) (fun cA₉ => rfl) (by decide) (by decide) (Nat.le_of_ble_eq_true rfl) dX11_init_166 (show s.heap.size + 20 = ez E + (115) by omega) (Or.inl (by omega)) (by rw [hR]; exact Nat.le_of_ble_eq_true rfl) (by rw [hR]; exact Nat.le_of_ble_eq_true rfl) rfl rfl (fun s41 u_s41 f_s41 => ?_)
  have u_s41 : s41 115 = ai E 2058 (fun _ => 0) := u_s41
  have x_s41 : s41 94 = ob 10 [vr E 95, vr E 96, vi 0, vr E 97, vr E 98, vr E 99, vr E 100, vi 0, vr E 101, vi 0, vr E 102, vi 0, vr E 103, vr E 104, vr E 105, vr E 106, vr E 107, vr E 108, vr E 109, vr E 110, vr E 111, vr E 112, vr E 113, vr E 114, .null, .null, .null, .null, .null, vi 0, vi 0, vi 0, vi 0, vi 0] := (f_s41 94 (by decide)).trans u_s40
  have q95_s41 : s41 95 = ai E 7 (fun _ => 0) := (f_s41 95 (by decide)).trans q95_s40
  have q96_s41 : s41 96 = ai E 56 (fun _ => 0) := (f_s41 96 (by decide)).trans q96_s40
  have q97_s41 : s41 97 = ai E 3 (fun _ => 0) := (f_s41 97 (by decide)).trans q97_s40
  have q98_s41 : s41 98 = ai E 80 (fun _ => 0) := (f_s41 98 (by decide)).trans q98_s40
  have q99_s41 : s41 99 = ai E 80 (fun _ => 0) := (f_s41 99 (by decide)).trans q99_s40
  have q100_s41 : s41 100 = ai E 80 (fun _ => 0) := (f_s41 100 (by decide)).trans q100_s40
  have q101_s41 : s41 101 = ai E 80 (fun _ => 0) := (f_s41 101 (by decide)).trans q101_s40
  have q102_s41 : s41 102 = ai E 80 (fun _ => 0) := (f_s41 102 (by decide)).trans q102_s40
  have q103_s41 : s41 103 = ai E 4 (fun _ => 0) := (f_s41 103 (by decide)).trans q103_s40
  have q104_s41 : s41 104 = az E 4 (fun _ => 0) := (f_s41 104 (by decide)).trans q104_s40
  have q105_s41 : s41 105 = ai E 12 (fun _ => 0) := (f_s41 105 (by decide)).trans q105_s40
  have q106_s41 : s41 106 = ai E 48 (fun _ => 0) := (f_s41 106 (by decide)).trans q106_s40
  have q107_s41 : s41 107 = ai E 48 (fun _ => 0) := (f_s41 107 (by decide)).trans q107_s40
  have q108_s41 : s41 108 = ai E 80 (fun _ => 0) := (f_s41 108 (by decide)).trans q108_s40
  have q109_s41 : s41 109 = ai E 80 (fun _ => 0) := (f_s41 109 (by decide)).trans q109_s40
  have q110_s41 : s41 110 = ai E 4 (fun _ => 0) := (f_s41 110 (by decide)).trans q110_s40
  have q111_s41 : s41 111 = ai E 4 (fun _ => 0) := (f_s41 111 (by decide)).trans q111_s40
  have q112_s41 : s41 112 = ai E 686 (fun _ => 0) := (f_s41 112 (by decide)).trans q112_s40
  have q113_s41 : s41 113 = ai E 686 (fun _ => 0) := (f_s41 113 (by decide)).trans q113_s40
  have q114_s41 : s41 114 = ai E 2058 (fun _ => 0) := (f_s41 114 (by decide)).trans q114_s40
  refine go_putF (pc := 168) hF [vr E 95, vr E 96, vi 0, vr E 97, vr E 98, vr E 99, vr E 100, vi 0, vr E 101, vi 0, vr E 102, vi 0, vr E 103, vr E 104, vr E 105, vr E 106, vr E 107, vr E 108, vr E 109, vr E 110, vr E 111, vr E 112, vr E 113, vr E 114, vr E 115, .null, .null, .null, .null, vi 0, vi 0, vi 0, vi 0, vi 0] fl_X11_71 (fun C₉ T n₉ h => by have e9₉ : some (C₉, T, n₉) = some (RX11, TX11, 34) := h.symm; cases e9₉; rfl) hnm dX11_init_168 (by omega) x_s41 rfl rfl rfl (Nat.le_of_ble_eq_true rfl) (fun s42 u_s42 f_s42 => ?_)
  have q95_s42 : s42 95 = ai E 7 (fun _ => 0) := (f_s42 95 (by decide)).trans q95_s41
  have q96_s42 : s42 96 = ai E 56 (fun _ => 0) := (f_s42 96 (by decide)).trans q96_s41
  have q97_s42 : s42 97 = ai E 3 (fun _ => 0) := (f_s42 97 (by decide)).trans q97_s41
  have q98_s42 : s42 98 = ai E 80 (fun _ => 0) := (f_s42 98 (by decide)).trans q98_s41
  have q99_s42 : s42 99 = ai E 80 (fun _ => 0) := (f_s42 99 (by decide)).trans q99_s41
  have q100_s42 : s42 100 = ai E 80 (fun _ => 0) := (f_s42 100 (by decide)).trans q100_s41
  have q101_s42 : s42 101 = ai E 80 (fun _ => 0) := (f_s42 101 (by decide)).trans q101_s41
  have q102_s42 : s42 102 = ai E 80 (fun _ => 0) := (f_s42 102 (by decide)).trans q102_s41
  have q103_s42 : s42 103 = ai E 4 (fun _ => 0) := (f_s42 103 (by decide)).trans q103_s41
  have q104_s42 : s42 104 = az E 4 (fun _ => 0) := (f_s42 104 (by decide)).trans q104_s41
  have q105_s42 : s42 105 = ai E 12 (fun _ => 0) := (f_s42 105 (by decide)).trans q105_s41
  have q106_s42 : s42 106 = ai E 48 (fun _ => 0) := (f_s42 106 (by decide)).trans q106_s41
  have q107_s42 : s42 107 = ai E 48 (fun _ => 0) := (f_s42 107 (by decide)).trans q107_s41
  have q108_s42 : s42 108 = ai E 80 (fun _ => 0) := (f_s42 108 (by decide)).trans q108_s41
  have q109_s42 : s42 109 = ai E 80 (fun _ => 0) := (f_s42 109 (by decide)).trans q109_s41
  have q110_s42 : s42 110 = ai E 4 (fun _ => 0) := (f_s42 110 (by decide)).trans q110_s41
  have q111_s42 : s42 111 = ai E 4 (fun _ => 0) := (f_s42 111 (by decide)).trans q111_s41
  have q112_s42 : s42 112 = ai E 686 (fun _ => 0) := (f_s42 112 (by decide)).trans q112_s41
  have q113_s42 : s42 113 = ai E 686 (fun _ => 0) := (f_s42 113 (by decide)).trans q113_s41
  have q114_s42 : s42 114 = ai E 2058 (fun _ => 0) := (f_s42 114 (by decide)).trans q114_s41
  have q115_s42 : s42 115 = ai E 2058 (fun _ => 0) := (f_s42 115 (by decide)).trans u_s41
  refine go_aload_n (pc := 171) hF dX11_init_171 0 rfl ?_
  refine go_iconst (pc := 172) hF dX11_init_172 ?_
  refine go_newa (pc := 173) (k := (21, 6238)) hF (22, 6241) (117) 0 3 (a0 := (3, .inl (fun _ => iI 0))) ac_int rfl rfl (fun _ _ h => h) (fun cA₉ => rfl) (by decide) (by decide) (Nat.le_of_ble_eq_true rfl) dX11_init_173 (show s.heap.size + 21 = ez E + (116) by omega) (Or.inl (by omega)) (by rw [hR]; exact Nat.le_of_ble_eq_true rfl) (by rw [hR]; exact Nat.le_of_ble_eq_true rfl) rfl rfl (fun s43 u_s43 f_s43 => ?_)
  have u_s43 : s43 116 = ai E 3 (fun _ => 0) := u_s43
  have x_s43 : s43 94 = ob 10 [vr E 95, vr E 96, vi 0, vr E 97, vr E 98, vr E 99, vr E 100, vi 0, vr E 101, vi 0, vr E 102, vi 0, vr E 103, vr E 104, vr E 105, vr E 106, vr E 107, vr E 108, vr E 109, vr E 110, vr E 111, vr E 112, vr E 113, vr E 114, vr E 115, .null, .null, .null, .null, vi 0, vi 0, vi 0, vi 0, vi 0] := (f_s43 94 (by decide)).trans u_s42
  have q95_s43 : s43 95 = ai E 7 (fun _ => 0) := (f_s43 95 (by decide)).trans q95_s42
  have q96_s43 : s43 96 = ai E 56 (fun _ => 0) := (f_s43 96 (by decide)).trans q96_s42
  have q97_s43 : s43 97 = ai E 3 (fun _ => 0) := (f_s43 97 (by decide)).trans q97_s42
  have q98_s43 : s43 98 = ai E 80 (fun _ => 0) := (f_s43 98 (by decide)).trans q98_s42
  have q99_s43 : s43 99 = ai E 80 (fun _ => 0) := (f_s43 99 (by decide)).trans q99_s42
  have q100_s43 : s43 100 = ai E 80 (fun _ => 0) := (f_s43 100 (by decide)).trans q100_s42
  have q101_s43 : s43 101 = ai E 80 (fun _ => 0) := (f_s43 101 (by decide)).trans q101_s42
  have q102_s43 : s43 102 = ai E 80 (fun _ => 0) := (f_s43 102 (by decide)).trans q102_s42
  have q103_s43 : s43 103 = ai E 4 (fun _ => 0) := (f_s43 103 (by decide)).trans q103_s42
  have q104_s43 : s43 104 = az E 4 (fun _ => 0) := (f_s43 104 (by decide)).trans q104_s42
  have q105_s43 : s43 105 = ai E 12 (fun _ => 0) := (f_s43 105 (by decide)).trans q105_s42
  have q106_s43 : s43 106 = ai E 48 (fun _ => 0) := (f_s43 106 (by decide)).trans q106_s42
  have q107_s43 : s43 107 = ai E 48 (fun _ => 0) := (f_s43 107 (by decide)).trans q107_s42
  have q108_s43 : s43 108 = ai E 80 (fun _ => 0) := (f_s43 108 (by decide)).trans q108_s42
  have q109_s43 : s43 109 = ai E 80 (fun _ => 0) := (f_s43 109 (by decide)).trans q109_s42
  have q110_s43 : s43 110 = ai E 4 (fun _ => 0) := (f_s43 110 (by decide)).trans q110_s42
  have q111_s43 : s43 111 = ai E 4 (fun _ => 0) := (f_s43 111 (by decide)).trans q111_s42
  have q112_s43 : s43 112 = ai E 686 (fun _ => 0) := (f_s43 112 (by decide)).trans q112_s42
  have q113_s43 : s43 113 = ai E 686 (fun _ => 0) := (f_s43 113 (by decide)).trans q113_s42
  have q114_s43 : s43 114 = ai E 2058 (fun _ => 0) := (f_s43 114 (by decide)).trans q114_s42
  have q115_s43 : s43 115 = ai E 2058 (fun _ => 0) := (f_s43 115 (by decide)).trans q115_s42
  refine go_putF (pc := 175) hF [vr E 95, vr E 96, vi 0, vr E 97, vr E 98, vr E 99, vr E 100, vi 0, vr E 101, vi 0, vr E 102, vi 0, vr E 103, vr E 104, vr E 105, vr E 106, vr E 107, vr E 108, vr E 109, vr E 110, vr E 111, vr E 112, vr E 113, vr E 114, vr E 115, vr E 116, .null, .null, .null, vi 0, vi 0, vi 0, vi 0, vi 0] fl_X11_74 (fun C₉ T n₉ h => by have e9₉ : some (C₉, T, n₉) = some (RX11, TX11, 34) := h.symm; cases e9₉; rfl) hnm dX11_init_175 (by omega) x_s43 rfl rfl rfl (Nat.le_of_ble_eq_true rfl) (fun s44 u_s44 f_s44 => ?_)
  have q95_s44 : s44 95 = ai E 7 (fun _ => 0) := (f_s44 95 (by decide)).trans q95_s43
  have q96_s44 : s44 96 = ai E 56 (fun _ => 0) := (f_s44 96 (by decide)).trans q96_s43
  have q97_s44 : s44 97 = ai E 3 (fun _ => 0) := (f_s44 97 (by decide)).trans q97_s43
  have q98_s44 : s44 98 = ai E 80 (fun _ => 0) := (f_s44 98 (by decide)).trans q98_s43
  have q99_s44 : s44 99 = ai E 80 (fun _ => 0) := (f_s44 99 (by decide)).trans q99_s43
  have q100_s44 : s44 100 = ai E 80 (fun _ => 0) := (f_s44 100 (by decide)).trans q100_s43
  have q101_s44 : s44 101 = ai E 80 (fun _ => 0) := (f_s44 101 (by decide)).trans q101_s43
  have q102_s44 : s44 102 = ai E 80 (fun _ => 0) := (f_s44 102 (by decide)).trans q102_s43
  have q103_s44 : s44 103 = ai E 4 (fun _ => 0) := (f_s44 103 (by decide)).trans q103_s43
  have q104_s44 : s44 104 = az E 4 (fun _ => 0) := (f_s44 104 (by decide)).trans q104_s43
  have q105_s44 : s44 105 = ai E 12 (fun _ => 0) := (f_s44 105 (by decide)).trans q105_s43
  have q106_s44 : s44 106 = ai E 48 (fun _ => 0) := (f_s44 106 (by decide)).trans q106_s43
  have q107_s44 : s44 107 = ai E 48 (fun _ => 0) := (f_s44 107 (by decide)).trans q107_s43
  have q108_s44 : s44 108 = ai E 80 (fun _ => 0) := (f_s44 108 (by decide)).trans q108_s43
  have q109_s44 : s44 109 = ai E 80 (fun _ => 0) := (f_s44 109 (by decide)).trans q109_s43
  have q110_s44 : s44 110 = ai E 4 (fun _ => 0) := (f_s44 110 (by decide)).trans q110_s43
  have q111_s44 : s44 111 = ai E 4 (fun _ => 0) := (f_s44 111 (by decide)).trans q111_s43
  have q112_s44 : s44 112 = ai E 686 (fun _ => 0) := (f_s44 112 (by decide)).trans q112_s43
  have q113_s44 : s44 113 = ai E 686 (fun _ => 0) := (f_s44 113 (by decide)).trans q113_s43
  have q114_s44 : s44 114 = ai E 2058 (fun _ => 0) := (f_s44 114 (by decide)).trans q114_s43
  have q115_s44 : s44 115 = ai E 2058 (fun _ => 0) := (f_s44 115 (by decide)).trans q115_s43
  have q116_s44 : s44 116 = ai E 3 (fun _ => 0) := (f_s44 116 (by decide)).trans u_s43
  refine go_aload_n (pc := 178) hF dX11_init_178 0 rfl ?_
  refine go_iconst (pc := 179) hF dX11_init_179 ?_
  refine go_newa (pc := 180) (k := (22, 6241)) hF (23, 6245) (118) 1 4 (a0 := (4, .inr (.inl (fun _ => lI 0)))) ac_long rfl rfl (fun _ _ h => h) (fun cA₉ => rfl) (by decide) (by decide) (Nat.le_of_ble_eq_true rfl) dX11_init_180 (show s.heap.size + 22 = ez E + (117) by omega) (Or.inl (by omega)) (by rw [hR]; exact Nat.le_of_ble_eq_true rfl) (by rw [hR]; exact Nat.le_of_ble_eq_true rfl) rfl rfl (fun s45 u_s45 f_s45 => ?_)
  have u_s45 : s45 117 = al E 4 (fun _ => 0) := u_s45
  have x_s45 : s45 94 = ob 10 [vr E 95, vr E 96, vi 0, vr E 97, vr E 98, vr E 99, vr E 100, vi 0, vr E 101, vi 0, vr E 102, vi 0, vr E 103, vr E 104, vr E 105, vr E 106, vr E 107, vr E 108, vr E 109, vr E 110, vr E 111, vr E 112, vr E 113, vr E 114, vr E 115, vr E 116, .null, .null, .null, vi 0, vi 0, vi 0, vi 0, vi 0] := (f_s45 94 (by decide)).trans u_s44
  have q95_s45 : s45 95 = ai E 7 (fun _ => 0) := (f_s45 95 (by decide)).trans q95_s44
  have q96_s45 : s45 96 = ai E 56 (fun _ => 0) := (f_s45 96 (by decide)).trans q96_s44
  have q97_s45 : s45 97 = ai E 3 (fun _ => 0) := (f_s45 97 (by decide)).trans q97_s44
  have q98_s45 : s45 98 = ai E 80 (fun _ => 0) := (f_s45 98 (by decide)).trans q98_s44
  have q99_s45 : s45 99 = ai E 80 (fun _ => 0) := (f_s45 99 (by decide)).trans q99_s44
  have q100_s45 : s45 100 = ai E 80 (fun _ => 0) := (f_s45 100 (by decide)).trans q100_s44
  have q101_s45 : s45 101 = ai E 80 (fun _ => 0) := (f_s45 101 (by decide)).trans q101_s44
  have q102_s45 : s45 102 = ai E 80 (fun _ => 0) := (f_s45 102 (by decide)).trans q102_s44
  have q103_s45 : s45 103 = ai E 4 (fun _ => 0) := (f_s45 103 (by decide)).trans q103_s44
  have q104_s45 : s45 104 = az E 4 (fun _ => 0) := (f_s45 104 (by decide)).trans q104_s44
  have q105_s45 : s45 105 = ai E 12 (fun _ => 0) := (f_s45 105 (by decide)).trans q105_s44
  have q106_s45 : s45 106 = ai E 48 (fun _ => 0) := (f_s45 106 (by decide)).trans q106_s44
  have q107_s45 : s45 107 = ai E 48 (fun _ => 0) := (f_s45 107 (by decide)).trans q107_s44
  have q108_s45 : s45 108 = ai E 80 (fun _ => 0) := (f_s45 108 (by decide)).trans q108_s44
  have q109_s45 : s45 109 = ai E 80 (fun _ => 0) := (f_s45 109 (by decide)).trans q109_s44
  have q110_s45 : s45 110 = ai E 4 (fun _ => 0) := (f_s45 110 (by decide)).trans q110_s44
  have q111_s45 : s45 111 = ai E 4 (fun _ => 0) := (f_s45 111 (by decide)).trans q111_s44
  have q112_s45 : s45 112 = ai E 686 (fun _ => 0) := (f_s45 112 (by decide)).trans q112_s44
  have q113_s45 : s45 113 = ai E 686 (fun _ => 0) := (f_s45 113 (by decide)).trans q113_s44
  have q114_s45 : s45 114 = ai E 2058 (fun _ => 0) := (f_s45 114 (by decide)).trans q114_s44
  have q115_s45 : s45 115 = ai E 2058 (fun _ => 0) := (f_s45 115 (by decide)).trans q115_s44
  have q116_s45 : s45 116 = ai E 3 (fun _ => 0) := (f_s45 116 (by decide)).trans q116_s44
  refine go_putF (pc := 182) hF [vr E 95, vr E 96, vi 0, vr E 97, vr E 98, vr E 99, vr E 100, vi 0, vr E 101, vi 0, vr E 102, vi 0, vr E 103, vr E 104, vr E 105, vr E 106, vr E 107, vr E 108, vr E 109, vr E 110, vr E 111, vr E 112, vr E 113, vr E 114, vr E 115, vr E 116, vr E 117, .null, .null, vi 0, vi 0, vi 0, vi 0, vi 0] fl_X11_77 (fun C₉ T n₉ h => by have e9₉ : some (C₉, T, n₉) = some (RX11, TX11, 34) := h.symm; cases e9₉; rfl) hnm dX11_init_182 (by omega) x_s45 rfl rfl rfl (Nat.le_of_ble_eq_true rfl) (fun s46 u_s46 f_s46 => ?_)
  have q95_s46 : s46 95 = ai E 7 (fun _ => 0) := (f_s46 95 (by decide)).trans q95_s45
  have q96_s46 : s46 96 = ai E 56 (fun _ => 0) := (f_s46 96 (by decide)).trans q96_s45
  have q97_s46 : s46 97 = ai E 3 (fun _ => 0) := (f_s46 97 (by decide)).trans q97_s45
  have q98_s46 : s46 98 = ai E 80 (fun _ => 0) := (f_s46 98 (by decide)).trans q98_s45
  have q99_s46 : s46 99 = ai E 80 (fun _ => 0) := (f_s46 99 (by decide)).trans q99_s45
  have q100_s46 : s46 100 = ai E 80 (fun _ => 0) := (f_s46 100 (by decide)).trans q100_s45
  have q101_s46 : s46 101 = ai E 80 (fun _ => 0) := (f_s46 101 (by decide)).trans q101_s45
  have q102_s46 : s46 102 = ai E 80 (fun _ => 0) := (f_s46 102 (by decide)).trans q102_s45
  have q103_s46 : s46 103 = ai E 4 (fun _ => 0) := (f_s46 103 (by decide)).trans q103_s45
  have q104_s46 : s46 104 = az E 4 (fun _ => 0) := (f_s46 104 (by decide)).trans q104_s45
  have q105_s46 : s46 105 = ai E 12 (fun _ => 0) := (f_s46 105 (by decide)).trans q105_s45
  have q106_s46 : s46 106 = ai E 48 (fun _ => 0) := (f_s46 106 (by decide)).trans q106_s45
  have q107_s46 : s46 107 = ai E 48 (fun _ => 0) := (f_s46 107 (by decide)).trans q107_s45
  have q108_s46 : s46 108 = ai E 80 (fun _ => 0) := (f_s46 108 (by decide)).trans q108_s45
  have q109_s46 : s46 109 = ai E 80 (fun _ => 0) := (f_s46 109 (by decide)).trans q109_s45
  have q110_s46 : s46 110 = ai E 4 (fun _ => 0) := (f_s46 110 (by decide)).trans q110_s45
  have q111_s46 : s46 111 = ai E 4 (fun _ => 0) := (f_s46 111 (by decide)).trans q111_s45
  have q112_s46 : s46 112 = ai E 686 (fun _ => 0) := (f_s46 112 (by decide)).trans q112_s45
  have q113_s46 : s46 113 = ai E 686 (fun _ => 0) := (f_s46 113 (by decide)).trans q113_s45
  have q114_s46 : s46 114 = ai E 2058 (fun _ => 0) := (f_s46 114 (by decide)).trans q114_s45
  have q115_s46 : s46 115 = ai E 2058 (fun _ => 0) := (f_s46 115 (by decide)).trans q115_s45
  have q116_s46 : s46 116 = ai E 3 (fun _ => 0) := (f_s46 116 (by decide)).trans q116_s45
  have q117_s46 : s46 117 = al E 4 (fun _ => 0) := (f_s46 117 (by decide)).trans u_s45
  refine go_aload_n (pc := 185) hF dX11_init_185 0 rfl ?_
  refine go_iconst (pc := 186) hF dX11_init_186 ?_
  refine go_newa (pc := 187) (k := (23, 6245)) hF (24, 6249) (119) 1 4 (a0 := (4, .inr (.inl (fun _ => lI 0)))) ac_long rfl rfl (fun _ _ h => h) (fun cA₉ => rfl) (by decide) (by decide) (Nat.le_of_ble_eq_true rfl) dX11_init_187 (show s.heap.size + 23 = ez E + (118) by omega) (Or.inl (by omega)) (by rw [hR]; exact Nat.le_of_ble_eq_true rfl) (by rw [hR]; exact Nat.le_of_ble_eq_true rfl) rfl rfl (fun s47 u_s47 f_s47 => ?_)
  have u_s47 : s47 118 = al E 4 (fun _ => 0) := u_s47
  have x_s47 : s47 94 = ob 10 [vr E 95, vr E 96, vi 0, vr E 97, vr E 98, vr E 99, vr E 100, vi 0, vr E 101, vi 0, vr E 102, vi 0, vr E 103, vr E 104, vr E 105, vr E 106, vr E 107, vr E 108, vr E 109, vr E 110, vr E 111, vr E 112, vr E 113, vr E 114, vr E 115, vr E 116, vr E 117, .null, .null, vi 0, vi 0, vi 0, vi 0, vi 0] := (f_s47 94 (by decide)).trans u_s46
  have q95_s47 : s47 95 = ai E 7 (fun _ => 0) := (f_s47 95 (by decide)).trans q95_s46
  have q96_s47 : s47 96 = ai E 56 (fun _ => 0) := (f_s47 96 (by decide)).trans q96_s46
  have q97_s47 : s47 97 = ai E 3 (fun _ => 0) := (f_s47 97 (by decide)).trans q97_s46
  have q98_s47 : s47 98 = ai E 80 (fun _ => 0) := (f_s47 98 (by decide)).trans q98_s46
  have q99_s47 : s47 99 = ai E 80 (fun _ => 0) := (f_s47 99 (by decide)).trans q99_s46
  have q100_s47 : s47 100 = ai E 80 (fun _ => 0) := (f_s47 100 (by decide)).trans q100_s46
  have q101_s47 : s47 101 = ai E 80 (fun _ => 0) := (f_s47 101 (by decide)).trans q101_s46
  have q102_s47 : s47 102 = ai E 80 (fun _ => 0) := (f_s47 102 (by decide)).trans q102_s46
  have q103_s47 : s47 103 = ai E 4 (fun _ => 0) := (f_s47 103 (by decide)).trans q103_s46
  have q104_s47 : s47 104 = az E 4 (fun _ => 0) := (f_s47 104 (by decide)).trans q104_s46
  have q105_s47 : s47 105 = ai E 12 (fun _ => 0) := (f_s47 105 (by decide)).trans q105_s46
  have q106_s47 : s47 106 = ai E 48 (fun _ => 0) := (f_s47 106 (by decide)).trans q106_s46
  have q107_s47 : s47 107 = ai E 48 (fun _ => 0) := (f_s47 107 (by decide)).trans q107_s46
  have q108_s47 : s47 108 = ai E 80 (fun _ => 0) := (f_s47 108 (by decide)).trans q108_s46
  have q109_s47 : s47 109 = ai E 80 (fun _ => 0) := (f_s47 109 (by decide)).trans q109_s46
  have q110_s47 : s47 110 = ai E 4 (fun _ => 0) := (f_s47 110 (by decide)).trans q110_s46
  have q111_s47 : s47 111 = ai E 4 (fun _ => 0) := (f_s47 111 (by decide)).trans q111_s46
  have q112_s47 : s47 112 = ai E 686 (fun _ => 0) := (f_s47 112 (by decide)).trans q112_s46
  have q113_s47 : s47 113 = ai E 686 (fun _ => 0) := (f_s47 113 (by decide)).trans q113_s46
  have q114_s47 : s47 114 = ai E 2058 (fun _ => 0) := (f_s47 114 (by decide)).trans q114_s46
  have q115_s47 : s47 115 = ai E 2058 (fun _ => 0) := (f_s47 115 (by decide)).trans q115_s46
  have q116_s47 : s47 116 = ai E 3 (fun _ => 0) := (f_s47 116 (by decide)).trans q116_s46
  have q117_s47 : s47 117 = al E 4 (fun _ => 0) := (f_s47 117 (by decide)).trans q117_s46
  refine go_putF (pc := 189) hF [vr E 95, vr E 96, vi 0, vr E 97, vr E 98, vr E 99, vr E 100, vi 0, vr E 101, vi 0, vr E 102, vi 0, vr E 103, vr E 104, vr E 105, vr E 106, vr E 107, vr E 108, vr E 109, vr E 110, vr E 111, vr E 112, vr E 113, vr E 114, vr E 115, vr E 116, vr E 117, vr E 118, .null, vi 0, vi 0, vi 0, vi 0, vi 0] fl_X11_81 (fun C₉ T n₉ h => by have e9₉ : some (C₉, T, n₉) = some (RX11, TX11, 34) := h.symm; cases e9₉; rfl) hnm dX11_init_189 (by omega) x_s47 rfl rfl rfl (Nat.le_of_ble_eq_true rfl) (fun s48 u_s48 f_s48 => ?_)
  have q95_s48 : s48 95 = ai E 7 (fun _ => 0) := (f_s48 95 (by decide)).trans q95_s47
  have q96_s48 : s48 96 = ai E 56 (fun _ => 0) := (f_s48 96 (by decide)).trans q96_s47
  have q97_s48 : s48 97 = ai E 3 (fun _ => 0) := (f_s48 97 (by decide)).trans q97_s47
  have q98_s48 : s48 98 = ai E 80 (fun _ => 0) := (f_s48 98 (by decide)).trans q98_s47
  have q99_s48 : s48 99 = ai E 80 (fun _ => 0) := (f_s48 99 (by decide)).trans q99_s47
  have q100_s48 : s48 100 = ai E 80 (fun _ => 0) := (f_s48 100 (by decide)).trans q100_s47
  have q101_s48 : s48 101 = ai E 80 (fun _ => 0) := (f_s48 101 (by decide)).trans q101_s47
  have q102_s48 : s48 102 = ai E 80 (fun _ => 0) := (f_s48 102 (by decide)).trans q102_s47
  have q103_s48 : s48 103 = ai E 4 (fun _ => 0) := (f_s48 103 (by decide)).trans q103_s47
  have q104_s48 : s48 104 = az E 4 (fun _ => 0) := (f_s48 104 (by decide)).trans q104_s47
  have q105_s48 : s48 105 = ai E 12 (fun _ => 0) := (f_s48 105 (by decide)).trans q105_s47
  have q106_s48 : s48 106 = ai E 48 (fun _ => 0) := (f_s48 106 (by decide)).trans q106_s47
  have q107_s48 : s48 107 = ai E 48 (fun _ => 0) := (f_s48 107 (by decide)).trans q107_s47
  have q108_s48 : s48 108 = ai E 80 (fun _ => 0) := (f_s48 108 (by decide)).trans q108_s47
  have q109_s48 : s48 109 = ai E 80 (fun _ => 0) := (f_s48 109 (by decide)).trans q109_s47
  have q110_s48 : s48 110 = ai E 4 (fun _ => 0) := (f_s48 110 (by decide)).trans q110_s47
  have q111_s48 : s48 111 = ai E 4 (fun _ => 0) := (f_s48 111 (by decide)).trans q111_s47
  have q112_s48 : s48 112 = ai E 686 (fun _ => 0) := (f_s48 112 (by decide)).trans q112_s47
  have q113_s48 : s48 113 = ai E 686 (fun _ => 0) := (f_s48 113 (by decide)).trans q113_s47
  have q114_s48 : s48 114 = ai E 2058 (fun _ => 0) := (f_s48 114 (by decide)).trans q114_s47
  have q115_s48 : s48 115 = ai E 2058 (fun _ => 0) := (f_s48 115 (by decide)).trans q115_s47
  have q116_s48 : s48 116 = ai E 3 (fun _ => 0) := (f_s48 116 (by decide)).trans q116_s47
  have q117_s48 : s48 117 = al E 4 (fun _ => 0) := (f_s48 117 (by decide)).trans q117_s47
  have q118_s48 : s48 118 = al E 4 (fun _ => 0) := (f_s48 118 (by decide)).trans u_s47
  refine go_aload_n (pc := 192) hF dX11_init_192 0 rfl ?_
  refine go_iconst (pc := 193) hF dX11_init_193 ?_
  refine go_newa (pc := 194) (k := (24, 6249)) hF (25, 6252) (120) 0 3 (a0 := (3, .inl (fun _ => iI 0))) ac_int rfl rfl (fun _ _ h => h) (fun cA₉ => rfl) (by decide) (by decide) (Nat.le_of_ble_eq_true rfl) dX11_init_194 (show s.heap.size + 24 = ez E + (119) by omega) (Or.inl (by omega)) (by rw [hR]; exact Nat.le_of_ble_eq_true rfl) (by rw [hR]; exact Nat.le_of_ble_eq_true rfl) rfl rfl (fun s49 u_s49 f_s49 => ?_)
  have u_s49 : s49 119 = ai E 3 (fun _ => 0) := u_s49
  have x_s49 : s49 94 = ob 10 [vr E 95, vr E 96, vi 0, vr E 97, vr E 98, vr E 99, vr E 100, vi 0, vr E 101, vi 0, vr E 102, vi 0, vr E 103, vr E 104, vr E 105, vr E 106, vr E 107, vr E 108, vr E 109, vr E 110, vr E 111, vr E 112, vr E 113, vr E 114, vr E 115, vr E 116, vr E 117, vr E 118, .null, vi 0, vi 0, vi 0, vi 0, vi 0] := (f_s49 94 (by decide)).trans u_s48
  have q95_s49 : s49 95 = ai E 7 (fun _ => 0) := (f_s49 95 (by decide)).trans q95_s48
  have q96_s49 : s49 96 = ai E 56 (fun _ => 0) := (f_s49 96 (by decide)).trans q96_s48
  have q97_s49 : s49 97 = ai E 3 (fun _ => 0) := (f_s49 97 (by decide)).trans q97_s48
  have q98_s49 : s49 98 = ai E 80 (fun _ => 0) := (f_s49 98 (by decide)).trans q98_s48
  have q99_s49 : s49 99 = ai E 80 (fun _ => 0) := (f_s49 99 (by decide)).trans q99_s48
  have q100_s49 : s49 100 = ai E 80 (fun _ => 0) := (f_s49 100 (by decide)).trans q100_s48
  have q101_s49 : s49 101 = ai E 80 (fun _ => 0) := (f_s49 101 (by decide)).trans q101_s48
  have q102_s49 : s49 102 = ai E 80 (fun _ => 0) := (f_s49 102 (by decide)).trans q102_s48
  have q103_s49 : s49 103 = ai E 4 (fun _ => 0) := (f_s49 103 (by decide)).trans q103_s48
  have q104_s49 : s49 104 = az E 4 (fun _ => 0) := (f_s49 104 (by decide)).trans q104_s48
  have q105_s49 : s49 105 = ai E 12 (fun _ => 0) := (f_s49 105 (by decide)).trans q105_s48
  have q106_s49 : s49 106 = ai E 48 (fun _ => 0) := (f_s49 106 (by decide)).trans q106_s48
  have q107_s49 : s49 107 = ai E 48 (fun _ => 0) := (f_s49 107 (by decide)).trans q107_s48
  have q108_s49 : s49 108 = ai E 80 (fun _ => 0) := (f_s49 108 (by decide)).trans q108_s48
  have q109_s49 : s49 109 = ai E 80 (fun _ => 0) := (f_s49 109 (by decide)).trans q109_s48
  have q110_s49 : s49 110 = ai E 4 (fun _ => 0) := (f_s49 110 (by decide)).trans q110_s48
  have q111_s49 : s49 111 = ai E 4 (fun _ => 0) := (f_s49 111 (by decide)).trans q111_s48
  have q112_s49 : s49 112 = ai E 686 (fun _ => 0) := (f_s49 112 (by decide)).trans q112_s48
  have q113_s49 : s49 113 = ai E 686 (fun _ => 0) := (f_s49 113 (by decide)).trans q113_s48
  have q114_s49 : s49 114 = ai E 2058 (fun _ => 0) := (f_s49 114 (by decide)).trans q114_s48
  have q115_s49 : s49 115 = ai E 2058 (fun _ => 0) := (f_s49 115 (by decide)).trans q115_s48
  have q116_s49 : s49 116 = ai E 3 (fun _ => 0) := (f_s49 116 (by decide)).trans q116_s48
  have q117_s49 : s49 117 = al E 4 (fun _ => 0) := (f_s49 117 (by decide)).trans q117_s48
  have q118_s49 : s49 118 = al E 4 (fun _ => 0) := (f_s49 118 (by decide)).trans q118_s48
  refine go_putF (pc := 196) hF [vr E 95, vr E 96, vi 0, vr E 97, vr E 98, vr E 99, vr E 100, vi 0, vr E 101, vi 0, vr E 102, vi 0, vr E 103, vr E 104, vr E 105, vr E 106, vr E 107, vr E 108, vr E 109, vr E 110, vr E 111, vr E 112, vr E 113, vr E 114, vr E 115, vr E 116, vr E 117, vr E 118, vr E 119, vi 0, vi 0, vi 0, vi 0, vi 0] fl_X11_84 (fun C₉ T n₉ h => by have e9₉ : some (C₉, T, n₉) = some (RX11, TX11, 34) := h.symm; cases e9₉; rfl) hnm dX11_init_196 (by omega) x_s49 rfl rfl rfl (Nat.le_of_ble_eq_true rfl) (fun s50 u_s50 f_s50 => ?_)
  have q95_s50 : s50 95 = ai E 7 (fun _ => 0) := (f_s50 95 (by decide)).trans q95_s49
  have q96_s50 : s50 96 = ai E 56 (fun _ => 0) := (f_s50 96 (by decide)).trans q96_s49
  have q97_s50 : s50 97 = ai E 3 (fun _ => 0) := (f_s50 97 (by decide)).trans q97_s49
  have q98_s50 : s50 98 = ai E 80 (fun _ => 0) := (f_s50 98 (by decide)).trans q98_s49
  have q99_s50 : s50 99 = ai E 80 (fun _ => 0) := (f_s50 99 (by decide)).trans q99_s49
  have q100_s50 : s50 100 = ai E 80 (fun _ => 0) := (f_s50 100 (by decide)).trans q100_s49
  have q101_s50 : s50 101 = ai E 80 (fun _ => 0) := (f_s50 101 (by decide)).trans q101_s49
  have q102_s50 : s50 102 = ai E 80 (fun _ => 0) := (f_s50 102 (by decide)).trans q102_s49
  have q103_s50 : s50 103 = ai E 4 (fun _ => 0) := (f_s50 103 (by decide)).trans q103_s49
  have q104_s50 : s50 104 = az E 4 (fun _ => 0) := (f_s50 104 (by decide)).trans q104_s49
  have q105_s50 : s50 105 = ai E 12 (fun _ => 0) := (f_s50 105 (by decide)).trans q105_s49
  have q106_s50 : s50 106 = ai E 48 (fun _ => 0) := (f_s50 106 (by decide)).trans q106_s49
  have q107_s50 : s50 107 = ai E 48 (fun _ => 0) := (f_s50 107 (by decide)).trans q107_s49
  have q108_s50 : s50 108 = ai E 80 (fun _ => 0) := (f_s50 108 (by decide)).trans q108_s49
  have q109_s50 : s50 109 = ai E 80 (fun _ => 0) := (f_s50 109 (by decide)).trans q109_s49
  have q110_s50 : s50 110 = ai E 4 (fun _ => 0) := (f_s50 110 (by decide)).trans q110_s49
  have q111_s50 : s50 111 = ai E 4 (fun _ => 0) := (f_s50 111 (by decide)).trans q111_s49
  have q112_s50 : s50 112 = ai E 686 (fun _ => 0) := (f_s50 112 (by decide)).trans q112_s49
  have q113_s50 : s50 113 = ai E 686 (fun _ => 0) := (f_s50 113 (by decide)).trans q113_s49
  have q114_s50 : s50 114 = ai E 2058 (fun _ => 0) := (f_s50 114 (by decide)).trans q114_s49
  have q115_s50 : s50 115 = ai E 2058 (fun _ => 0) := (f_s50 115 (by decide)).trans q115_s49
  have q116_s50 : s50 116 = ai E 3 (fun _ => 0) := (f_s50 116 (by decide)).trans q116_s49
  have q117_s50 : s50 117 = al E 4 (fun _ => 0) := (f_s50 117 (by decide)).trans q117_s49
  have q118_s50 : s50 118 = al E 4 (fun _ => 0) := (f_s50 118 (by decide)).trans q118_s49
  have q119_s50 : s50 119 = ai E 3 (fun _ => 0) := (f_s50 119 (by decide)).trans u_s49
  refine go_aload_n (pc := 199) hF dX11_init_199 0 rfl ?_
  refine go_get (pc := 200) hF fl_X11_7 dX11_init_200 (by omega) u_s50 rfl ?_
  refine go_iconst (pc := 203) hF dX11_init_203 ?_
  refine go_iconst (pc := 204) hF dX11_init_204 ?_
  refine go_iast (pc := 205) hF dX11_init_205 (by decide) q95_s50 (by omega) (fun s51 u_s51 f_s51 => ?_)
  have x_s51 : s51 94 = ob 10 [vr E 95, vr E 96, vi 0, vr E 97, vr E 98, vr E 99, vr E 100, vi 0, vr E 101, vi 0, vr E 102, vi 0, vr E 103, vr E 104, vr E 105, vr E 106, vr E 107, vr E 108, vr E 109, vr E 110, vr E 111, vr E 112, vr E 113, vr E 114, vr E 115, vr E 116, vr E 117, vr E 118, vr E 119, vi 0, vi 0, vi 0, vi 0, vi 0] := (f_s51 94 (by decide)).trans u_s50
  have q96_s51 : s51 96 = ai E 56 (fun _ => 0) := (f_s51 96 (by decide)).trans q96_s50
  have q97_s51 : s51 97 = ai E 3 (fun _ => 0) := (f_s51 97 (by decide)).trans q97_s50
  have q98_s51 : s51 98 = ai E 80 (fun _ => 0) := (f_s51 98 (by decide)).trans q98_s50
  have q99_s51 : s51 99 = ai E 80 (fun _ => 0) := (f_s51 99 (by decide)).trans q99_s50
  have q100_s51 : s51 100 = ai E 80 (fun _ => 0) := (f_s51 100 (by decide)).trans q100_s50
  have q101_s51 : s51 101 = ai E 80 (fun _ => 0) := (f_s51 101 (by decide)).trans q101_s50
  have q102_s51 : s51 102 = ai E 80 (fun _ => 0) := (f_s51 102 (by decide)).trans q102_s50
  have q103_s51 : s51 103 = ai E 4 (fun _ => 0) := (f_s51 103 (by decide)).trans q103_s50
  have q104_s51 : s51 104 = az E 4 (fun _ => 0) := (f_s51 104 (by decide)).trans q104_s50
  have q105_s51 : s51 105 = ai E 12 (fun _ => 0) := (f_s51 105 (by decide)).trans q105_s50
  have q106_s51 : s51 106 = ai E 48 (fun _ => 0) := (f_s51 106 (by decide)).trans q106_s50
  have q107_s51 : s51 107 = ai E 48 (fun _ => 0) := (f_s51 107 (by decide)).trans q107_s50
  have q108_s51 : s51 108 = ai E 80 (fun _ => 0) := (f_s51 108 (by decide)).trans q108_s50
  have q109_s51 : s51 109 = ai E 80 (fun _ => 0) := (f_s51 109 (by decide)).trans q109_s50
  have q110_s51 : s51 110 = ai E 4 (fun _ => 0) := (f_s51 110 (by decide)).trans q110_s50
  have q111_s51 : s51 111 = ai E 4 (fun _ => 0) := (f_s51 111 (by decide)).trans q111_s50
  have q112_s51 : s51 112 = ai E 686 (fun _ => 0) := (f_s51 112 (by decide)).trans q112_s50
  have q113_s51 : s51 113 = ai E 686 (fun _ => 0) := (f_s51 113 (by decide)).trans q113_s50
  have q114_s51 : s51 114 = ai E 2058 (fun _ => 0) := (f_s51 114 (by decide)).trans q114_s50
  have q115_s51 : s51 115 = ai E 2058 (fun _ => 0) := (f_s51 115 (by decide)).trans q115_s50
  have q116_s51 : s51 116 = ai E 3 (fun _ => 0) := (f_s51 116 (by decide)).trans q116_s50
  have q117_s51 : s51 117 = al E 4 (fun _ => 0) := (f_s51 117 (by decide)).trans q117_s50
  have q118_s51 : s51 118 = al E 4 (fun _ => 0) := (f_s51 118 (by decide)).trans q118_s50
  have q119_s51 : s51 119 = ai E 3 (fun _ => 0) := (f_s51 119 (by decide)).trans q119_s50
  refine go_aload_n (pc := 206) hF dX11_init_206 0 rfl ?_
  refine go_get (pc := 207) hF fl_X11_7 dX11_init_207 (by omega) x_s51 rfl ?_
  refine go_bipush (pc := 210) hF dX11_init_210 (by decide) ?_
  refine go_bipush (pc := 212) hF dX11_init_212 (by decide) ?_
  refine go_iast (pc := 214) hF dX11_init_214 (by decide) u_s51 (by omega) (fun s52 u_s52 f_s52 => ?_)
  have x_s52 : s52 94 = ob 10 [vr E 95, vr E 96, vi 0, vr E 97, vr E 98, vr E 99, vr E 100, vi 0, vr E 101, vi 0, vr E 102, vi 0, vr E 103, vr E 104, vr E 105, vr E 106, vr E 107, vr E 108, vr E 109, vr E 110, vr E 111, vr E 112, vr E 113, vr E 114, vr E 115, vr E 116, vr E 117, vr E 118, vr E 119, vi 0, vi 0, vi 0, vi 0, vi 0] := (f_s52 94 (by decide)).trans x_s51
  have q96_s52 : s52 96 = ai E 56 (fun _ => 0) := (f_s52 96 (by decide)).trans q96_s51
  have q97_s52 : s52 97 = ai E 3 (fun _ => 0) := (f_s52 97 (by decide)).trans q97_s51
  have q98_s52 : s52 98 = ai E 80 (fun _ => 0) := (f_s52 98 (by decide)).trans q98_s51
  have q99_s52 : s52 99 = ai E 80 (fun _ => 0) := (f_s52 99 (by decide)).trans q99_s51
  have q100_s52 : s52 100 = ai E 80 (fun _ => 0) := (f_s52 100 (by decide)).trans q100_s51
  have q101_s52 : s52 101 = ai E 80 (fun _ => 0) := (f_s52 101 (by decide)).trans q101_s51
  have q102_s52 : s52 102 = ai E 80 (fun _ => 0) := (f_s52 102 (by decide)).trans q102_s51
  have q103_s52 : s52 103 = ai E 4 (fun _ => 0) := (f_s52 103 (by decide)).trans q103_s51
  have q104_s52 : s52 104 = az E 4 (fun _ => 0) := (f_s52 104 (by decide)).trans q104_s51
  have q105_s52 : s52 105 = ai E 12 (fun _ => 0) := (f_s52 105 (by decide)).trans q105_s51
  have q106_s52 : s52 106 = ai E 48 (fun _ => 0) := (f_s52 106 (by decide)).trans q106_s51
  have q107_s52 : s52 107 = ai E 48 (fun _ => 0) := (f_s52 107 (by decide)).trans q107_s51
  have q108_s52 : s52 108 = ai E 80 (fun _ => 0) := (f_s52 108 (by decide)).trans q108_s51
  have q109_s52 : s52 109 = ai E 80 (fun _ => 0) := (f_s52 109 (by decide)).trans q109_s51
  have q110_s52 : s52 110 = ai E 4 (fun _ => 0) := (f_s52 110 (by decide)).trans q110_s51
  have q111_s52 : s52 111 = ai E 4 (fun _ => 0) := (f_s52 111 (by decide)).trans q111_s51
  have q112_s52 : s52 112 = ai E 686 (fun _ => 0) := (f_s52 112 (by decide)).trans q112_s51
  have q113_s52 : s52 113 = ai E 686 (fun _ => 0) := (f_s52 113 (by decide)).trans q113_s51
  have q114_s52 : s52 114 = ai E 2058 (fun _ => 0) := (f_s52 114 (by decide)).trans q114_s51
  have q115_s52 : s52 115 = ai E 2058 (fun _ => 0) := (f_s52 115 (by decide)).trans q115_s51
  have q116_s52 : s52 116 = ai E 3 (fun _ => 0) := (f_s52 116 (by decide)).trans q116_s51
  have q117_s52 : s52 117 = al E 4 (fun _ => 0) := (f_s52 117 (by decide)).trans q117_s51
  have q118_s52 : s52 118 = al E 4 (fun _ => 0) := (f_s52 118 (by decide)).trans q118_s51
  have q119_s52 : s52 119 = ai E 3 (fun _ => 0) := (f_s52 119 (by decide)).trans q119_s51
  exact go_vretK hF hr hlk hQ rfl rfl dX11_init_215 ⟨⟨_, _, _, _, _, _, _, _, _, _, _, _, _, x_s52, u_s52, q96_s52, q97_s52, q98_s52, q99_s52, q100_s52, q101_s52, q119_s52, ⟨⟨_, q102_s52⟩, ⟨_, q103_s52⟩, ⟨_, q104_s52⟩, ⟨_, q105_s52⟩, ⟨_, q106_s52⟩, ⟨_, q107_s52⟩, ⟨_, q108_s52⟩, ⟨_, q109_s52⟩, ⟨_, q110_s52⟩, ⟨_, q111_s52⟩, ⟨_, q112_s52⟩, ⟨_, q113_s52⟩, ⟨_, q114_s52⟩, ⟨_, q115_s52⟩, ⟨_, q116_s52⟩, ⟨_, q117_s52⟩, ⟨_, q118_s52⟩⟩, ⟨rfl, fun h => absurd h (by decide), fun h => absurd h (by decide), fun h => absurd h (by decide), rfl, rfl, rfl⟩, fun i₉ i0₉ i1₉ => absurd i1₉ (by omega), ⟨rfl, rfl, rfl⟩, ⟨rfl, rfl, rfl⟩, trivial⟩, (fun jj h1 => by rw [f_s52 jj (by omega), f_s51 jj (by omega), f_s50 jj (by omega), f_s49 jj (by omega), f_s48 jj (by omega), f_s47 jj (by omega), f_s46 jj (by omega), f_s45 jj (by omega), f_s44 jj (by omega), f_s43 jj (by omega), f_s42 jj (by omega), f_s41 jj (by omega), f_s40 jj (by omega), f_s39 jj (by omega), f_s38 jj (by omega), f_s37 jj (by omega), f_s36 jj (by omega), f_s35 jj (by omega), f_s34 jj (by omega), f_s33 jj (by omega), f_s32 jj (by omega), f_s31 jj (by omega), f_s30 jj (by omega), f_s29 jj (by omega), f_s28 jj (by omega), f_s27 jj (by omega), f_s26 jj (by omega), f_s25 jj (by omega), f_s24 jj (by omega), f_s23 jj (by omega), f_s22 jj (by omega), f_s21 jj (by omega), f_s20 jj (by omega), f_s19 jj (by omega), f_s18 jj (by omega), f_s17 jj (by omega), f_s16 jj (by omega), f_s15 jj (by omega), f_s14 jj (by omega), f_s13 jj (by omega), f_s12 jj (by omega), f_s11 jj (by omega), f_s10 jj (by omega), f_s9 jj (by omega), f_s8 jj (by omega), f_s7 jj (by omega), f_s6 jj (by omega), f_s5 jj (by omega), f_s4 jj (by omega), f_s3 jj (by omega), f_s2 jj (by omega), f_s1 jj (by omega)])⟩
