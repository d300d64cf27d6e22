/-! The reference₉: how many₉ ways, along₉ the signs. -/
def yW (E : En) (σ ρ : Nat → va_E) (sm₉ sf : Int → Int) : Prop := ρ 117 = al E 4 sm₉ ∧ ρ 118 = al E 4 sf ∧ ∀ q₉, ¬ (117 ≤ q₉ ∧ q₉ ≤ 118) → ρ q₉ = σ q₉
def okM (x₉ : Int) : Prop := 1 ≤ x₉ ∧ x₉ ≤ 1000000000
theorem mul_M {a₉ b₉ : Int} (ha₉ : 0 ≤ a₉ ∧ a₉ ≤ 1000000000) (hb₉ : 0 ≤ b₉ ∧ b₉ ≤ 1000000000) : 0 ≤ a₉ * b₉ ∧ a₉ * b₉ ≤ 1000000000000000000 := by
  refine ⟨Int.mul_nonneg ha₉.1 hb₉.1, ?_⟩
  have := Int.mul_le_mul ha₉.2 hb₉.2 hb₉.1 (by decide : (0 : Int) ≤ 1000000000)
  exact this
theorem min_M {x₉ s : Int} (hx : 1 ≤ x₉) (hs : 1 ≤ s) : min (x₉ * min s 1000000000) 1000000000 = min (x₉ * s) 1000000000 := by
  by_cases h : s ≤ 1000000000
  · rw [show min s 1000000000 = s by omega]
  · have h1 := Int.mul_le_mul_of_nonneg_right hx (show (0 : Int) ≤ 1000000000 by decide)
    have h2 := Int.mul_le_mul_of_nonneg_right hx (show (0 : Int) ≤ s by omega)
    rw [show min s 1000000000 = 1000000000 by omega]
    omega
set_option maxHeartbeats 4000000 in
theorem wy_walk {E : En} {σ : Nat → va_E} {sn eo bo : Int → Int} {len₉ : Int} (H₉ : (Nat → va_E) → Int → Int → Prop)
  (hskip : ∀ (oo dl : Int) (sm₉ sf : Int → Int) (ρ : Nat → va_E), yW E σ ρ sm₉ sf → 0 ≤ oo ∧ oo < len₉ → 0 ≤ dl ∧ dl ≤ 3 → (sn oo = 46 ∨ (97 ≤ sn oo ∧ sn oo ≤ 102)) → H₉ ρ (oo + 1) dl → H₉ ρ oo dl)
  (hopen : ∀ (oo dl : Int) (sm₉ sf : Int → Int) (ρ : Nat → va_E), yW E σ ρ sm₉ sf → 0 ≤ oo ∧ oo < len₉ → 0 ≤ dl ∧ dl ≤ 2 → (sn oo = 40 ∨ (49 ≤ sn oo ∧ sn oo ≤ 57)) → (∀ ρ', yW E σ ρ' (up sm₉ (dl + 1) 1) sf → H₉ ρ' (oo + 1) (dl + 1)) → H₉ ρ oo dl)
  (hbar : ∀ (oo dl : Int) (sm₉ sf : Int → Int) (ρ : Nat → va_E), yW E σ ρ sm₉ sf → 0 ≤ oo ∧ oo < len₉ → 0 ≤ dl ∧ dl ≤ 2 → sn oo = 124 → (∀ ρ', yW E σ ρ' (up sm₉ (dl + 1) 1) (up sf (dl + 1) (sm₉ (dl + 1))) → H₉ ρ' (oo + 1) (dl + 1)) → H₉ ρ oo (dl + 1))
  (hclose : ∀ (oo dl : Int) (sm₉ sf : Int → Int) (ρ : Nat → va_E), yW E σ ρ sm₉ sf → 0 ≤ oo ∧ oo < len₉ → 0 ≤ dl ∧ dl ≤ 2 → sn oo = 41 → okM (sm₉ dl) → okM (sm₉ (dl + 1)) → okM (sf (dl + 1)) → (∀ ρ', yW E σ ρ' (up sm₉ dl (min (sm₉ dl * min (sf (dl + 1) + sm₉ (dl + 1)) 1000000000) 1000000000)) sf → H₉ ρ' (oo + 1) dl) → H₉ ρ oo (dl + 1))
  (hback : ∀ (oo dl o1 : Int) (n₉ : Nat) (sm₉ sf : Int → Int) (ρ : Nat → va_E), yW E σ ρ sm₉ sf → 0 ≤ oo ∧ oo < len₉ → 0 ≤ dl ∧ dl ≤ 2 → sn oo = 93 → eo oo = o1 → 0 ≤ o1 ∧ o1 < len₉ → sn o1 = 48 + n₉ → 1 ≤ n₉ ∧ n₉ ≤ 9 → okM (sm₉ dl) → okM (sm₉ (dl + 1)) → (∀ ρ', yW E σ ρ' (up sm₉ dl (min (sm₉ dl * min (pws (sm₉ (dl + 1)) n₉).1 1000000000) 1000000000)) sf → H₉ ρ' (oo + 1) dl) → H₉ ρ oo (dl + 1)) :
  ∀ t₉, wf t₉ → ∀ (oo dl : Int) (sm₉ sf : Int → Int) (ρ : Nat → va_E), (0 ≤ oo ∧ oo + tLen t₉ ≤ len₉) → (0 ≤ dl ∧ dl + tDep t₉ ≤ 3) → MA₉ sn eo bo t₉ oo → okM (sm₉ dl) → yW E σ ρ sm₉ sf → (∀ sm' sf' ρ', yW E σ ρ' sm' sf' → sm' dl = wyB t₉ (sm₉ dl) → lowB₉ dl sm₉ sf sm' sf' → H₉ ρ' (oo + tLen t₉) dl) → H₉ ρ oo dl := by
  refine tInd ?_ ?_ ?_ ?_
  · intro oo dl sm₉ sf ρ _ _ _ _ hW hK₉
    have q₉ := hK₉ sm₉ sf ρ hW rfl (fun z₉ _ => ⟨fun _ => rfl, fun _ => rfl⟩)
    rw [show oo + ((tLen .nil : Nat) : Int) = oo from Int.add_zero oo] at q₉
    exact q₉
  · intro c r₉ hc₉ hr ih₉ oo dl sm₉ sf ρ ho hd₉ hM₉ hs hW hK₉
    have eL : tLen (.append (.nest c .nil) r₉) = 1 + tLen r₉ := rfl
    have eD : tDep (.append (.nest c .nil) r₉) = tDep r₉ := rfl
    rw [eL] at ho
    rw [eD] at hd₉
    obtain ⟨k1₉, hMr⟩ := hM₉
    unfold okc at hc₉
    refine hskip oo dl sm₉ sf ρ hW (by omega) (by omega) (by omega) ?_
    refine ih₉ (oo + 1) dl sm₉ sf ρ (by omega) (by omega) hMr hs hW (fun sm' sf' ρ' W' e' b' => ?_)
    have q₉ := hK₉ sm' sf' ρ' W' e' b'
    rw [eL, show oo + ((1 + tLen r₉ : Nat) : Int) = oo + 1 + tLen r₉ by omega] at q₉
    exact q₉
  · intro a₉ b₉ r₉ ha₉ hb₉ hr iha ihb ih₉ oo dl sm₉ sf ρ ho hd₉ hM₉ hs hW hK₉
    have eL : tLen (.append (.append a₉ b₉) r₉) = 3 + tLen a₉ + tLen b₉ + tLen r₉ := rfl
    have eD : tDep (.append (.append a₉ b₉) r₉) = max (1 + max (tDep a₉) (tDep b₉)) (tDep r₉) := rfl
    rw [eL] at ho
    rw [eD] at hd₉
    obtain ⟨⟨k1₉, -, -, k2₉, k3₉, -⟩, hMa, hMb, hMr⟩ := hM₉
    have wa := wyB_rg a₉ ha₉ 1 ⟨by decide, by decide⟩
    have wb := wyB_rg b₉ hb₉ 1 ⟨by decide, by decide⟩
    refine hopen oo dl sm₉ sf ρ hW (by omega) (by omega) (Or.inl k1₉) (fun ρ1 W1₉ => ?_)
    refine iha (oo + 1) (dl + 1) _ sf ρ1 (by omega) (by omega) hMa (by rw [up_self]; exact ⟨by decide, by decide⟩) W1₉ (fun sm2 sf2 ρ2 W2₉ e2₉ l2 => ?_)
    rw [up_self] at e2₉
    refine hbar (oo + 1 + tLen a₉) dl sm2 sf2 ρ2 W2₉ (by omega) (by omega) k2₉ (fun ρ3 W3 => ?_)
    rw [show oo + 1 + (tLen a₉ : Int) + 1 = oo + 2 + tLen a₉ by omega]
    refine ihb (oo + 2 + tLen a₉) (dl + 1) _ _ ρ3 (by omega) (by omega) hMb (by rw [up_self]; exact ⟨by decide, by decide⟩) W3 (fun sm4 sf4 ρ4 W4 e4₉ l4 => ?_)
    rw [up_self] at e4₉
    have f4₉ : sf4 (dl + 1) = wyB a₉ 1 := by rw [(l4 _ (by omega)).2 (by omega), up_self, e2₉]
    have g4 : sm4 dl = sm₉ dl := by rw [(l4 _ hd₉.1).1 (by omega), up_ne _ _ (by omega), (l2 _ hd₉.1).1 (by omega), up_ne _ _ (by omega)]
    refine hclose (oo + 2 + tLen a₉ + tLen b₉) dl sm4 sf4 ρ4 W4 (by omega) (by omega) k3₉ (by rw [g4]; exact hs) (by rw [e4₉]; exact wb) (by rw [f4₉]; exact wa) (fun ρ5 W5 => ?_)
    rw [show oo + 2 + (tLen a₉ : Int) + tLen b₉ + 1 = oo + 3 + tLen a₉ + tLen b₉ by omega]
    rw [f4₉, e4₉, g4, min_M hs.1 (by omega)] at W5
    have hm₉ : 1 ≤ sm₉ dl * (wyB a₉ 1 + wyB b₉ 1) := by have := Int.mul_le_mul_of_nonneg_right hs.1 (show (0 : Int) ≤ wyB a₉ 1 + wyB b₉ 1 by omega); omega
    refine ih₉ (oo + 3 + tLen a₉ + tLen b₉) dl _ sf4 ρ5 (by omega) (by omega) hMr (by rw [up_self]; exact ⟨by omega, by omega⟩) W5 (fun sm6 sf6 ρ6 W6 e6₉ l6 => ?_)
    rw [up_self] at e6₉
    have q₉ := hK₉ sm6 sf6 ρ6 W6 e6₉ (fun z₉ z0 => ⟨fun h => by rw [(l6 z₉ z0).1 h, up_ne _ _ (by omega), (l4 z₉ z0).1 (by omega), up_ne _ _ (by omega), (l2 z₉ z0).1 (by omega), up_ne _ _ (by omega)], fun h => by rw [(l6 z₉ z0).2 h, (l4 z₉ z0).2 (by omega), up_ne _ _ (by omega), (l2 z₉ z0).2 (by omega)]⟩)
    rw [eL, show oo + ((3 + tLen a₉ + tLen b₉ + tLen r₉ : Nat) : Int) = oo + 3 + tLen a₉ + tLen b₉ + tLen r₉ by omega] at q₉
    exact q₉
  · intro n₉ a₉ r₉ hn ha₉ hr iha ih₉ oo dl sm₉ sf ρ ho hd₉ hM₉ hs hW hK₉
    have eL : tLen (.append (.tag n₉ a₉) r₉) = 2 + tLen a₉ + tLen r₉ := rfl
    have eD : tDep (.append (.tag n₉ a₉) r₉) = max (1 + tDep a₉) (tDep r₉) := rfl
    rw [eL] at ho
    rw [eD] at hd₉
    obtain ⟨⟨k1₉, -, k2₉, k3₉⟩, hMa, hMr⟩ := hM₉
    have wa := wyB_rg a₉ ha₉ 1 ⟨by decide, by decide⟩
    have wp₉ := (pws_rg wa n₉).1
    refine hopen oo dl sm₉ sf ρ hW (by omega) (by omega) (Or.inr (by omega)) (fun ρ1 W1₉ => ?_)
    refine iha (oo + 1) (dl + 1) _ sf ρ1 (by omega) (by omega) hMa (by rw [up_self]; exact ⟨by decide, by decide⟩) W1₉ (fun sm2 sf2 ρ2 W2₉ e2₉ l2 => ?_)
    rw [up_self] at e2₉
    have g2 : sm2 dl = sm₉ dl := by rw [(l2 _ hd₉.1).1 (by omega), up_ne _ _ (by omega)]
    refine hback (oo + 1 + tLen a₉) dl oo n₉ sm2 sf2 ρ2 W2₉ (by omega) (by omega) k2₉ k3₉ (by omega) k1₉ hn (by rw [g2]; exact hs) (by rw [e2₉]; exact wa) (fun ρ3 W3 => ?_)
    rw [show oo + 1 + (tLen a₉ : Int) + 1 = oo + 2 + tLen a₉ by omega]
    rw [e2₉, g2, min_M hs.1 wp₉.1] at W3
    have hm₉ : 1 ≤ sm₉ dl * (pws (wyB a₉ 1) n₉).1 := by have := Int.mul_le_mul_of_nonneg_right hs.1 (show (0 : Int) ≤ (pws (wyB a₉ 1) n₉).1 by omega); omega
    refine ih₉ (oo + 2 + tLen a₉) dl _ sf2 ρ3 (by omega) (by omega) hMr (by rw [up_self]; exact ⟨by omega, by omega⟩) W3 (fun sm6 sf6 ρ6 W6 e6₉ l6 => ?_)
    rw [up_self] at e6₉
    have q₉ := hK₉ sm6 sf6 ρ6 W6 e6₉ (fun z₉ z0 => ⟨fun h => by rw [(l6 z₉ z0).1 h, up_ne _ _ (by omega), (l2 z₉ z0).1 (by omega), up_ne _ _ (by omega)], fun h => by rw [(l6 z₉ z0).2 h, (l2 z₉ z0).2 (by omega)]⟩)
    rw [eL, show oo + ((2 + tLen a₉ + tLen r₉ : Nat) : Int) = oo + 2 + tLen a₉ + tLen r₉ by omega] at q₉
    exact q₉
