/-! Explorer: explore, and what is₉ asked₉ of₉ it. -/
def S0₉ (r₉ : Int) : XS := fun x₉ c => x₉ = r₉ ∧ c = 0
theorem ex_ne {u₉ kd pr : Int} : ∀ t₉, wf t₉ → ∀ S₉ : XS, (∃ r₉ c, S₉ r₉ c) → ∃ r₉ c, ex₉ u₉ kd pr t₉ S₉ r₉ c := by
  refine tInd (fun S₉ h => h) (fun c r₉ hc₉ _ ih₉ S₉ h => ih₉ _ ?_) (fun a₉ b₉ r₉ _ _ _ iha ihb ihr S₉ h => ihr _ ?_) (fun n₉ a₉ r₉ _ _ _ iha ihr S₉ h => ihr _ ?_)
  · obtain ⟨x₉, k₉, h⟩ := h
    unfold xLook
    split
    · exact ⟨x₉, k₉ + 1, by show S₉ x₉ (k₉ + 1 - 1); rw [Int.add_sub_cancel]; exact h⟩
    · exact ⟨_, _, x₉, k₉, h, rfl, rfl⟩
  · obtain ⟨x₉, k₉, h⟩ := iha S₉ h
    exact ⟨x₉, k₉, Or.inl h⟩
  · obtain ⟨x₉, k₉, h⟩ := h
    cases n₉ with
    | zero => exact ⟨x₉, k₉, h⟩
    | succ n₉ => exact ⟨x₉, k₉, Or.inl h⟩
/-- all₉ ways of₉ t₉ from the row₉ r₉ are explored -/
def expK (E : En) (σ : Nat → va_E) (t₉ : Tr) (r₉ u₉ kd pr : Int) : Prop := ∃ (nw : Int → Nat) (un : Nat), okN nw un ∧ isEx E σ nw un 1 ∧ σ 63 = ob 1 [vi (en r₉), vi u₉, vi kd, vi pr] ∧ frI E σ (nw 0) (img (ex₉ u₉ kd pr t₉ (S0₉ r₉))) (cB₉ t₉) ∧ allF E σ
/-- what Explorer holds₉: nothing₉ yet, or such -/
def expS (E : En) (σ : Nat → va_E) (t₉ : Tr) : Prop := (∃ (nw : Int → Nat) (un : Nat) (a₉ b₉ c d₉ : Int), okN nw un ∧ isEx E σ nw un 0 ∧ σ 63 = ob 1 [vi a₉, vi b₉, vi c, vi d₉] ∧ allF E σ) ∨ ∃ r₉ u₉ kd pr, vrow u₉ r₉ ∧ (1 ≤ u₉ ∧ u₉ ≤ 3) ∧ (0 ≤ kd ∧ kd ≤ 3) ∧ (2 ≤ pr ∧ pr ≤ 99) ∧ expK E σ t₉ r₉ u₉ kd pr
theorem expK.keep {E : En} {σ τ : Nat → va_E} {t₉ : Tr} {r₉ u₉ kd pr : Int} (h : expK E σ t₉ r₉ u₉ kd pr) (hk : ∀ j₉, 56 ≤ j₉ → j₉ ≤ 91 → τ j₉ = σ j₉) : expK E τ t₉ r₉ u₉ kd pr := by
  obtain ⟨nw, un, h1, h2, h3, h4, h5⟩ := h
  have := pool_rg (h1.1 0 (by omega) (by omega)).1
  exact ⟨nw, un, h1, h2.keep (fun j₉ a₉ b₉ => hk j₉ a₉ (by omega)), (hk 63 (by omega) (by omega)).trans h3, h4.keep (fun j₉ a₉ b₉ => hk j₉ (by omega) (by omega)), h5.keep (fun j₉ a₉ b₉ _ => hk j₉ (by omega) b₉)⟩
theorem expS.keep {E : En} {σ τ : Nat → va_E} {t₉ : Tr} (h : expS E σ t₉) (hk : ∀ j₉, 56 ≤ j₉ → j₉ ≤ 91 → τ j₉ = σ j₉) : expS E τ t₉ := by
  rcases h with ⟨nw, un, a₉, b₉, c, d₉, h1, h2, h3, h4⟩ | ⟨r₉, u₉, kd, pr, h1, h2, h3, h4, h5⟩
  · exact Or.inl ⟨nw, un, a₉, b₉, c, d₉, h1, h2.keep (fun j₉ k1₉ k2₉ => hk j₉ k1₉ (by omega)), (hk 63 (by omega) (by omega)).trans h3, h4.keep (fun j₉ k1₉ k2₉ _ => hk j₉ (by omega) k2₉)⟩
  · exact Or.inr ⟨r₉, u₉, kd, pr, h1, h2, h3, h4, h5.keep hk⟩
/-- y₉ is₉ the most (the least₉) of₉ a₉ set₉ -/
def topS (S₉ : XS) (y₉ : Int) : Prop := (∀ r₉ c, S₉ r₉ c → c ≤ y₉) ∧ ∃ r₉, S₉ r₉ y₉
def botS (S₉ : XS) (y₉ : Int) : Prop := (∀ r₉ c, S₉ r₉ c → y₉ ≤ c) ∧ ∃ r₉, S₉ r₉ y₉
/-- so many₉ rows₉ are there₉ -/
def cntS (S₉ : XS) (y₉ : Int) : Prop := 0 ≤ y₉ ∧ ∃ f₉ : Int → Int, (∀ q₉ : Int, 0 ≤ q₉ → q₉ < y₉ → ∃ c, S₉ (f₉ q₉) c) ∧ (∀ q₉ q' : Int, 0 ≤ q₉ → q₉ < y₉ → 0 ≤ q' → q' < y₉ → f₉ q₉ = f₉ q' → q₉ = q') ∧ ∀ r₉ c, S₉ r₉ c → ∃ q₉ : Int, 0 ≤ q₉ ∧ q₉ < y₉ ∧ f₉ q₉ = r₉

set_option maxHeartbeats 4000000 in
set_option maxRecDepth 100000 in
theorem c_X2_mostTaken (E : En) (N : Nat) (σ : Nat → va_E) (t₉ : Tr) (r₉ u₉ kd pr : Int) (hN₉ : 101 ≤ N) (hwf : wf t₉) (hu : 1 ≤ u₉ ∧ u₉ ≤ 3) (hkd : 0 ≤ kd ∧ kd ≤ 3) (hcB : cB₉ t₉ ≤ 1000000000) (hrw : vrow u₉ r₉) (hK₉ : expK E σ t₉ r₉ u₉ kd pr) : CI E M_X2_mostTaken 3 [vr E 56] N σ (fun y₉ σ' => σ' = σ ∧ topS (ex₉ u₉ kd pr t₉ (S0₉ r₉)) y₉ ∧ 0 ≤ y₉ ∧ y₉ ≤ cB₉ t₉) := by
  refine CT.of2 (own := RX2) (by decide) rfl (Nat.le_of_ble_eq_true rfl) ?_
  intro p e R s m args below meth c Q hF hr hlk hnm hz hR hQ
  obtain ⟨nw, un, hok, hx, hst, hfr, hall⟩ := hK₉
  have p0₉ := (hok.1 0 (by omega) (by omega)).1
  have r0_ := pool_rg p0₉
  have hne : ∃ x₉ c, ex₉ u₉ kd pr t₉ (S0₉ r₉) x₉ c := ex_ne t₉ hwf _ ⟨r₉, 0, rfl, rfl⟩
  refine go_aload_n (pc := 0) hF dX2_mostTaken_0 0 rfl ?_
  refine go_get (pc := 1) hF fl_X2_11 dX2_mostTaken_1 (by omega) hx.1 rfl ?_
  refine go_iconst (pc := 4) hF dX2_mostTaken_4 ?_
  refine go_aald (pc := 5) hF 5 (nw 0) dX2_mostTaken_5 rfl (by omega) hx.2.1 (by omega) rfl ?_
  obtain ⟨fs9, hc9⟩ := (hall (nw 0) (Or.inl p0₉)).cell
  refine go_callVI (pc := 6) hF [] [] mv_X2_64 dX2_mostTaken_6 (show nw 0 < N by omega) hc9 (c_X4_mostOfAll E N σ (nw 0) _ (cB₉ t₉) (by omega) hfr (by omega) (by omega)) rfl rfl (Nat.le_of_ble_eq_true rfl) (by decide) ⟨Nat.zero_le _, Nat.zero_le _⟩ (fun y₉ s1₉ h1 => ?_)
  obtain ⟨e1₉, k1₉, k2₉, k3₉⟩ := h1
  subst e1₉
  have hy : topS (ex₉ u₉ kd pr t₉ (S0₉ r₉)) y₉ := by
    refine ⟨fun x₉ c h => k2₉ (en x₉) c ⟨x₉, h, rfl⟩, ?_⟩
    rcases k3₉ with h | ⟨R, x₉, h, -⟩
    · obtain ⟨x₉, c, h2⟩ := hne
      have h3 := k2₉ (en x₉) c ⟨x₉, h2, rfl⟩
      have h4 := hfr.sb (en x₉) c ⟨x₉, h2, rfl⟩
      exact ⟨x₉, by rw [show y₉ = c by omega]; exact h2⟩
    · exact ⟨x₉, h⟩
  have hyr : 0 ≤ y₉ ∧ y₉ ≤ cB₉ t₉ := by omega
  exact go_iretQ hF hr hlk hQ dX2_mostTaken_9 ⟨rfl, hy, hyr⟩
set_option maxHeartbeats 4000000 in
set_option maxRecDepth 100000 in
theorem c_X2_leastTaken (E : En) (N : Nat) (σ : Nat → va_E) (t₉ : Tr) (r₉ u₉ kd pr : Int) (hN₉ : 101 ≤ N) (hwf : wf t₉) (hu : 1 ≤ u₉ ∧ u₉ ≤ 3) (hkd : 0 ≤ kd ∧ kd ≤ 3) (hcB : cB₉ t₉ ≤ 1000000000) (hrw : vrow u₉ r₉) (hK₉ : expK E σ t₉ r₉ u₉ kd pr) : CI E M_X2_leastTaken 3 [vr E 56] N σ (fun y₉ σ' => σ' = σ ∧ botS (ex₉ u₉ kd pr t₉ (S0₉ r₉)) y₉ ∧ 0 ≤ y₉ ∧ y₉ ≤ cB₉ t₉) := by
  refine CT.of2 (own := RX2) (by decide) rfl (Nat.le_of_ble_eq_true rfl) ?_
  intro p e R s m args below meth c Q hF hr hlk hnm hz hR hQ
  obtain ⟨nw, un, hok, hx, hst, hfr, hall⟩ := hK₉
  have p0₉ := (hok.1 0 (by omega) (by omega)).1
  have r0_ := pool_rg p0₉
  have hne : ∃ x₉ c, ex₉ u₉ kd pr t₉ (S0₉ r₉) x₉ c := ex_ne t₉ hwf _ ⟨r₉, 0, rfl, rfl⟩
  refine go_aload_n (pc := 0) hF dX2_leastTaken_0 0 rfl ?_
  refine go_get (pc := 1) hF fl_X2_11 dX2_leastTaken_1 (by omega) hx.1 rfl ?_
  refine go_iconst (pc := 4) hF dX2_leastTaken_4 ?_
  refine go_aald (pc := 5) hF 5 (nw 0) dX2_leastTaken_5 rfl (by omega) hx.2.1 (by omega) rfl ?_
  obtain ⟨fs9, hc9⟩ := (hall (nw 0) (Or.inl p0₉)).cell
  refine go_callVI (pc := 6) hF [] [] mv_X2_68 dX2_leastTaken_6 (show nw 0 < N by omega) hc9 (c_X4_leastOfAll E N σ (nw 0) _ (cB₉ t₉) (by omega) hfr (by omega) (by obtain ⟨x₉, c, h⟩ := hne; exact ⟨en x₉, c, x₉, h, rfl⟩)) rfl rfl (Nat.le_of_ble_eq_true rfl) (by decide) ⟨Nat.zero_le _, Nat.zero_le _⟩ (fun y₉ s1₉ h1 => ?_)
  obtain ⟨e1₉, k2₉, R, x₉, k3₉, -⟩ := h1
  subst e1₉
  have hy : botS (ex₉ u₉ kd pr t₉ (S0₉ r₉)) y₉ := ⟨fun x₉ c h => k2₉ (en x₉) c ⟨x₉, h, rfl⟩, x₉, k3₉⟩
  have hyr := (hfr.sb (en x₉) y₉ ⟨x₉, k3₉, rfl⟩).2
  exact go_iretQ hF hr hlk hQ dX2_leastTaken_9 ⟨rfl, hy, hyr⟩
set_option maxHeartbeats 4000000 in
set_option maxRecDepth 100000 in
theorem c_X2_rowsAtEnd (E : En) (N : Nat) (σ : Nat → va_E) (t₉ : Tr) (r₉ u₉ kd pr : Int) (hN₉ : 101 ≤ N) (hwf : wf t₉) (hu : 1 ≤ u₉ ∧ u₉ ≤ 3) (hkd : 0 ≤ kd ∧ kd ≤ 3) (hcB : cB₉ t₉ ≤ 1000000000) (hrw : vrow u₉ r₉) (hK₉ : expK E σ t₉ r₉ u₉ kd pr) : CI E M_X2_rowsAtEnd 3 [vr E 56] N σ (fun y₉ σ' => σ' = σ ∧ cntS (ex₉ u₉ kd pr t₉ (S0₉ r₉)) y₉ ∧ 0 ≤ y₉ ∧ y₉ ≤ 512) := by
  refine CT.of2 (own := RX2) (by decide) rfl (Nat.le_of_ble_eq_true rfl) ?_
  intro p e R s m args below meth c Q hF hr hlk hnm hz hR hQ
  obtain ⟨nw, un, hok, hx, hst, hfr, hall⟩ := hK₉
  have p0₉ := (hok.1 0 (by omega) (by omega)).1
  have r0_ := pool_rg p0₉
  have hne : ∃ x₉ c, ex₉ u₉ kd pr t₉ (S0₉ r₉) x₉ c := ex_ne t₉ hwf _ ⟨r₉, 0, rfl, rfl⟩
  have hvv := vS_ex (pr := pr) hu hkd t₉ hwf (S0₉ r₉) (fun x₉ c h => by rw [h.1]; exact hrw)
  obtain ⟨ro, mo, le₉, sz₉, ⟨y0, y1, y2, y3⟩, hR, hB₉⟩ := hfr
  have hrows : ∀ q₉ : Int, ∃ x₉ : Int, (0 ≤ q₉ ∧ q₉ < sz₉) → (∃ c, ex₉ u₉ kd pr t₉ (S0₉ r₉) x₉ c) ∧ ro q₉ = en x₉ := fun q₉ => by
    by_cases hq : 0 ≤ q₉ ∧ q₉ < sz₉
    · obtain ⟨x₉, h, e⟩ := (hR.row hB₉ (q := q₉) hq).2.2.2.2.1
      exact ⟨x₉, fun _ => ⟨⟨_, h⟩, e⟩⟩
    · exact ⟨0, fun h => absurd h hq⟩
  have hcnt : cntS (ex₉ u₉ kd pr t₉ (S0₉ r₉)) sz₉ := by
    refine ⟨hR.1.1.1, fun q₉ => (hrows q₉).choose, fun q₉ h1 h2 => ((hrows q₉).choose_spec ⟨h1, h2⟩).1, fun q₉ q' h1 h2 h3 h4 e => ?_, fun x₉ c h => ?_⟩
    · refine hR.1.2.2.1 q₉ q' h1 h2 h3 h4 ?_
      rw [((hrows q₉).choose_spec ⟨h1, h2⟩).2, ((hrows q').choose_spec ⟨h3, h4⟩).2]
      exact congrArg en e
    · obtain ⟨q₉, h1, h2, -, -⟩ := hR.find hB₉ (r₉ := en x₉) (c := c) ⟨x₉, h, rfl⟩
      refine ⟨q₉, h1.1, h1.2, ?_⟩
      obtain ⟨⟨c', h3⟩, h4⟩ := (hrows q₉).choose_spec h1
      exact en_inj (hvv _ _ h3).1 (hvv _ _ h).1 (h4.symm.trans h2)
  refine go_aload_n (pc := 0) hF dX2_rowsAtEnd_0 0 rfl ?_
  refine go_get (pc := 1) hF fl_X2_11 dX2_rowsAtEnd_1 (by omega) hx.1 rfl ?_
  refine go_iconst (pc := 4) hF dX2_rowsAtEnd_4 ?_
  refine go_aald (pc := 5) hF 5 (nw 0) dX2_rowsAtEnd_5 rfl (by omega) hx.2.1 (by omega) rfl ?_
  refine go_get (pc := 6) hF fl_X2_71 dX2_rowsAtEnd_6 (by omega) y0 rfl ?_
  exact go_iretQ hF hr hlk hQ dX2_rowsAtEnd_9 ⟨rfl, hcnt, hR.1.1.1, by have := hR.1.1.2; omega⟩
set_option maxHeartbeats 4000000 in
set_option maxRecDepth 100000 in
theorem c_X2_forget (E : En) (N : Nat) (σ : Nat → va_E) (un : Nat) (kn₉ : Int) (hN₉ : 101 ≤ N) (hx : σ 56 = ob 2 [vr E 57, vr E 58, vr E un, vr E 63, vi kn₉]) : CV E M_X2_forget 1 [vr E 56] N σ (fun σ' => σ' 56 = ob 2 [vr E 57, vr E 58, vr E un, vr E 63, vi 0] ∧ ∀ q₉, q₉ ≠ 56 → σ' q₉ = σ q₉) := by
  refine CT.of2 (own := RX2) (by decide) rfl (Nat.le_of_ble_eq_true rfl) ?_
  intro p e R s m args below meth c Q hF hr hlk hnm hz hR hQ
  refine go_aload_n (pc := 0) hF dX2_forget_0 0 rfl ?_
  refine go_iconst (pc := 1) hF dX2_forget_1 ?_
  refine go_put (pc := 2) hF [vr E 57, vr E 58, vr E un, vr E 63, vi 0] fl_X2_32 dX2_forget_2 (by omega) hx rfl (by decide) rfl (Nat.le_of_ble_eq_true rfl) (fun s1₉ u_s1 f_s1 => ?_)
  exact go_vretQ hF hr hlk hQ dX2_forget_5 ⟨u_s1, (fun jj hjj => by rw [f_s1 jj (by omega)])⟩
set_option maxHeartbeats 4000000 in
set_option maxRecDepth 100000 in
theorem c_X3_forget (E : En) (N : Nat) (σ : Nat → va_E) (v₉ kn₉ : Int) (hN₉ : 101 ≤ N) (hx : σ 30 = ob 3 [vr E 31, vr E 32, vr E 33, vr E 34, vi v₉, vi kn₉]) : CV E M_X3_forget 1 [vr E 30] N σ (fun σ' => σ' 30 = ob 3 [vr E 31, vr E 32, vr E 33, vr E 34, vi v₉, vi 0] ∧ ∀ q₉, q₉ ≠ 30 → σ' q₉ = σ q₉) := by
  refine CT.of2 (own := RX3) (by decide) rfl (Nat.le_of_ble_eq_true rfl) ?_
  intro p e R s m args below meth c Q hF hr hlk hnm hz hR hQ
  refine go_aload_n (pc := 0) hF dX3_forget_0 0 rfl ?_
  refine go_iconst (pc := 1) hF dX3_forget_1 ?_
  refine go_put (pc := 2) hF [vr E 31, vr E 32, vr E 33, vr E 34, vi v₉, vi 0] fl_X3_31 dX3_forget_2 (by omega) hx rfl (by decide) rfl (Nat.le_of_ble_eq_true rfl) (fun s1₉ u_s1 f_s1 => ?_)
  exact go_vretQ hF hr hlk hQ dX3_forget_5 ⟨u_s1, (fun jj hjj => by rw [f_s1 jj (by omega)])⟩
