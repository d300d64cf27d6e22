/-! The reference₉: the signs laid₉, their ends₉ and bars. -/
theorem MA_ext {sn eo bo sn' eo' bo' : Int → Int} : ∀ t₉, wf t₉ → ∀ o : Int, (∀ z₉ : Int, o ≤ z₉ → z₉ < o + tLen t₉ → sn' z₉ = sn z₉ ∧ eo' z₉ = eo z₉ ∧ bo' z₉ = bo z₉) → MA₉ sn eo bo t₉ o → MA₉ sn' eo' bo' t₉ o := by
  refine tInd (fun o _ h => h) (fun c r₉ _ _ ih₉ o h1 h => ?_) (fun a₉ b₉ r₉ _ _ _ iha ihb ih₉ o h1 h => ?_) (fun n₉ a₉ r₉ _ _ _ iha ih₉ o h1 h => ?_)
  · have eL : tLen (.append (.nest c .nil) r₉) = 1 + tLen r₉ := rfl
    rw [eL] at h1
    exact ⟨by rw [(h1 o (by omega) (by omega)).1]; exact h.1, ih₉ _ (fun z₉ z0 z1 => h1 z₉ (by omega) (by omega)) h.2⟩
  · have eL : tLen (.append (.append a₉ b₉) r₉) = 3 + tLen a₉ + tLen b₉ + tLen r₉ := rfl
    rw [eL] at h1
    obtain ⟨⟨k1₉, k2₉, k3₉, k4₉, k5₉, k6₉⟩, ha₉, hb₉, hr⟩ := h
    have g₉ := h1 o (by omega) (by omega)
    have g1 := h1 (o + 1 + tLen a₉) (by omega) (by omega)
    have g2 := h1 (o + 2 + tLen a₉ + tLen b₉) (by omega) (by omega)
    exact ⟨⟨by rw [g₉.1]; exact k1₉, by rw [g₉.2.2]; exact k2₉, by rw [g₉.2.1]; exact k3₉, by rw [g1.1]; exact k4₉, by rw [g2.1]; exact k5₉, by rw [g2.2.1]; exact k6₉⟩, iha _ (fun z₉ z0 z1 => h1 z₉ (by omega) (by omega)) ha₉, ihb _ (fun z₉ z0 z1 => h1 z₉ (by omega) (by omega)) hb₉, ih₉ _ (fun z₉ z0 z1 => h1 z₉ (by omega) (by omega)) hr⟩
  · have eL : tLen (.append (.tag n₉ a₉) r₉) = 2 + tLen a₉ + tLen r₉ := rfl
    rw [eL] at h1
    obtain ⟨⟨k1₉, k2₉, k3₉, k4₉⟩, ha₉, hr⟩ := h
    have g₉ := h1 o (by omega) (by omega)
    have g1 := h1 (o + 1 + tLen a₉) (by omega) (by omega)
    exact ⟨⟨by rw [g₉.1]; exact k1₉, by rw [g₉.2.1]; exact k2₉, by rw [g1.1]; exact k3₉, by rw [g1.2.1]; exact k4₉⟩, iha _ (fun z₉ z0 z1 => h1 z₉ (by omega) (by omega)) ha₉, ih₉ _ (fun z₉ z0 z1 => h1 z₉ (by omega) (by omega)) hr⟩
def dW (E : En) (σ ρ : Nat → va_E) (sn eo bo op₉ : Int → Int) : Prop := ρ 98 = ai E 80 sn ∧ ρ 99 = ai E 80 eo ∧ ρ 100 = ai E 80 bo ∧ ρ 103 = ai E 4 op₉ ∧ ∀ q₉, ¬ ((98 ≤ q₉ ∧ q₉ ≤ 100) ∨ q₉ = 103) → ρ q₉ = σ q₉
def out3 (oo n₉ : Int) (sn eo bo sn' eo' bo' : Int → Int) : Prop := ∀ z₉ : Int, (z₉ < oo ∨ oo + n₉ ≤ z₉) → sn' z₉ = sn z₉ ∧ eo' z₉ = eo z₉ ∧ bo' z₉ = bo z₉
set_option maxHeartbeats 4000000 in
theorem rd_walk {E : En} {σ : Nat → va_E} {rs : Int → Int} {len₉ : Int} (hlen : len₉ ≤ 80) (H₉ : (Nat → va_E) → Int → Int → Prop)
  (hsk : ∀ (oo dl : Int) (sn eo bo op₉ : Int → Int) (ρ : Nat → va_E), dW E σ ρ sn eo bo op₉ → 0 ≤ oo ∧ oo < len₉ → 0 ≤ dl ∧ dl ≤ 3 → (rs oo = 46 ∨ (97 ≤ rs oo ∧ rs oo ≤ 102)) → (∀ ρ', dW E σ ρ' (up sn oo (rs oo)) eo bo op₉ → H₉ ρ' (oo + 1) dl) → H₉ ρ oo dl)
  (hop : ∀ (oo dl : Int) (sn eo bo op₉ : Int → Int) (ρ : Nat → va_E), dW E σ ρ sn eo bo op₉ → 0 ≤ oo ∧ oo < len₉ → 0 ≤ dl ∧ dl ≤ 2 → (rs oo = 40 ∨ (49 ≤ rs oo ∧ rs oo ≤ 57)) → (∀ ρ', dW E σ ρ' (up sn oo (rs oo)) eo bo (up op₉ dl oo) → H₉ ρ' (oo + 1) (dl + 1)) → H₉ ρ oo dl)
  (hbar : ∀ (oo dl o0₉ : Int) (sn eo bo op₉ : Int → Int) (ρ : Nat → va_E), dW E σ ρ sn eo bo op₉ → 0 ≤ oo ∧ oo < len₉ → 0 ≤ dl ∧ dl ≤ 2 → rs oo = 124 → op₉ dl = o0₉ → 0 ≤ o0₉ ∧ o0₉ < oo → (∀ ρ', dW E σ ρ' (up sn oo (rs oo)) eo (up bo o0₉ oo) op₉ → H₉ ρ' (oo + 1) (dl + 1)) → H₉ ρ oo (dl + 1))
  (hcl : ∀ (oo dl o0₉ : Int) (sn eo bo op₉ : Int → Int) (ρ : Nat → va_E), dW E σ ρ sn eo bo op₉ → 0 ≤ oo ∧ oo < len₉ → 0 ≤ dl ∧ dl ≤ 2 → (rs oo = 41 ∨ rs oo = 93) → op₉ dl = o0₉ → 0 ≤ o0₉ ∧ o0₉ < oo → (∀ ρ', dW E σ ρ' (up sn oo (rs oo)) (up (up eo o0₉ oo) oo o0₉) bo op₉ → H₉ ρ' (oo + 1) dl) → H₉ ρ oo (dl + 1)) :
  ∀ t₉, wf t₉ → ∀ (oo dl : Int) (sn eo bo op₉ : Int → Int) (ρ : Nat → va_E), (0 ≤ oo ∧ oo + tLen t₉ ≤ len₉) → (0 ≤ dl ∧ dl + tDep t₉ ≤ 3) → SGT rs t₉ oo → dW E σ ρ sn eo bo op₉ → (∀ sn' eo' bo' op' ρ', dW E σ ρ' sn' eo' bo' op' → MA₉ sn' eo' bo' t₉ oo → out3 oo (tLen t₉) sn eo bo sn' eo' bo' → (∀ z₉ : Int, 0 ≤ z₉ → z₉ < dl → op' z₉ = op₉ z₉) → H₉ ρ' (oo + tLen t₉) dl) → H₉ ρ oo dl := by
  refine tInd ?_ ?_ ?_ ?_
  · intro oo dl sn eo bo op₉ ρ _ _ _ hW hK₉
    have q₉ := hK₉ sn eo bo op₉ ρ hW trivial (fun z₉ _ => ⟨rfl, rfl, rfl⟩) (fun z₉ _ _ => rfl)
    rw [show oo + ((tLen .nil : Nat) : Int) = oo from Int.add_zero oo] at q₉
    exact q₉
  · intro c r₉ hc₉ hr ih₉ oo dl sn eo bo op₉ ρ ho hd₉ hM₉ hW hK₉
    have eL : tLen (.append (.nest c .nil) r₉) = 1 + tLen r₉ := rfl
    have eD : tDep (.append (.nest c .nil) r₉) = tDep r₉ := rfl
    rw [eL] at ho
    rw [eD] at hd₉
    obtain ⟨k1₉, hMr⟩ := hM₉
    refine hsk oo dl sn eo bo op₉ ρ hW (by omega) (by omega) (by unfold okc at hc₉; omega) (fun ρ1 W1₉ => ?_)
    refine ih₉ (oo + 1) dl _ eo bo op₉ ρ1 (by omega) (by omega) hMr W1₉ (fun sn' eo' bo' op' ρ' W' M' o' l' => ?_)
    have q₉ := hK₉ sn' eo' bo' op' ρ' W' ⟨by rw [(o' oo (by omega)).1, up_self]; exact k1₉, M'⟩ (fun z₉ hz => by
      rw [eL] at hz
      have q₉ := o' z₉ (by omega)
      rw [up_ne _ _ (by omega)] at q₉
      exact q₉) l'
    rw [eL, show oo + ((1 + tLen r₉ : Nat) : Int) = oo + 1 + tLen r₉ by omega] at q₉
    exact q₉
  · intro a₉ b₉ r₉ ha₉ hb₉ hr iha ihb ih₉ oo dl sn eo bo op₉ ρ ho hd₉ hM₉ hW hK₉
    have eL : tLen (.append (.append a₉ b₉) r₉) = 3 + tLen a₉ + tLen b₉ + tLen r₉ := rfl
    have eD : tDep (.append (.append a₉ b₉) r₉) = max (1 + max (tDep a₉) (tDep b₉)) (tDep r₉) := rfl
    rw [eL] at ho
    rw [eD] at hd₉
    obtain ⟨⟨k1₉, k2₉, k3₉⟩, hMa, hMb, hMr⟩ := hM₉
    refine hop oo dl sn eo bo op₉ ρ hW (by omega) (by omega) (Or.inl k1₉) (fun ρ1 W1₉ => ?_)
    refine iha (oo + 1) (dl + 1) _ eo bo _ ρ1 (by omega) (by omega) hMa W1₉ (fun sn2 eo2 bo2 op2 ρ2 W2₉ M2₉ o2 l2 => ?_)
    refine hbar (oo + 1 + tLen a₉) dl oo sn2 eo2 bo2 op2 ρ2 W2₉ (by omega) (by omega) k2₉ (by rw [l2 dl hd₉.1 (by omega), up_self]) (by omega) (fun ρ3 W3 => ?_)
    rw [show oo + 1 + (tLen a₉ : Int) + 1 = oo + 2 + tLen a₉ by omega]
    refine ihb (oo + 2 + tLen a₉) (dl + 1) _ eo2 _ op2 ρ3 (by omega) (by omega) hMb W3 (fun sn4 eo4 bo4 op4 ρ4 W4 M4₉ o4₉ l4 => ?_)
    refine hcl (oo + 2 + tLen a₉ + tLen b₉) dl oo sn4 eo4 bo4 op4 ρ4 W4 (by omega) (by omega) (Or.inl k3₉) (by rw [l4 dl hd₉.1 (by omega), l2 dl hd₉.1 (by omega), up_self]) (by omega) (fun ρ5 W5 => ?_)
    rw [show oo + 2 + (tLen a₉ : Int) + tLen b₉ + 1 = oo + 3 + tLen a₉ + tLen b₉ by omega]
    refine ih₉ (oo + 3 + tLen a₉ + tLen b₉) dl _ _ bo4 op4 ρ5 (by omega) (by omega) hMr W5 (fun sn6 eo6 bo6 op6 ρ6 W6 M6₉ o6 l6 => ?_)
    have c4₉ : ∀ z₉ : Int, z₉ < oo + 2 + tLen a₉ + tLen b₉ → z₉ ≠ oo → sn6 z₉ = sn4 z₉ ∧ eo6 z₉ = eo4 z₉ ∧ bo6 z₉ = bo4 z₉ := fun z₉ h1 h2 => by
      have q₉ := o6 z₉ (by omega)
      rw [up_ne _ _ (by omega), up_ne _ _ (by omega), up_ne _ _ (by omega)] at q₉
      exact q₉
    have c2₉ : ∀ z₉ : Int, z₉ < oo + 1 + tLen a₉ → z₉ ≠ oo → sn6 z₉ = sn2 z₉ ∧ eo6 z₉ = eo2 z₉ ∧ bo6 z₉ = bo2 z₉ := fun z₉ h1 h2 => by
      have q₉ := o4₉ z₉ (by omega)
      rw [up_ne _ _ (by omega), up_ne _ _ (by omega)] at q₉
      have q2₉ := c4₉ z₉ (by omega) h2
      rw [q₉.1, q₉.2.1, q₉.2.2] at q2₉
      exact q2₉
    have g6 := o6 oo (by omega)
    rw [up_ne _ _ (by omega), up_ne _ _ (by omega), up_self] at g6
    have g4 := o4₉ oo (by omega)
    rw [up_ne _ _ (by omega), up_self] at g4
    have g2 := o2 oo (by omega)
    rw [up_self] at g2
    have b4 := o4₉ (oo + 1 + tLen a₉) (by omega)
    rw [up_self] at b4
    have b6 := c4₉ (oo + 1 + tLen a₉) (by omega) (by omega)
    have e6₉ := o6 (oo + 2 + tLen a₉ + tLen b₉) (by omega)
    rw [up_self, up_self] at e6₉
    have q₉ := hK₉ sn6 eo6 bo6 op6 ρ6 W6 ⟨⟨by rw [g6.1, g4.1, g2.1]; exact k1₉, by rw [g6.2.2, g4.2.2], g6.2.1, by rw [b6.1, b4.1]; exact k2₉, by rw [e6₉.1]; exact k3₉, e6₉.2.1⟩, MA_ext a₉ ha₉ _ (fun z₉ z0 z1 => c2₉ z₉ (by omega) (by omega)) M2₉, MA_ext b₉ hb₉ _ (fun z₉ z0 z1 => c4₉ z₉ (by omega) (by omega)) M4₉, M6₉⟩ (fun z₉ hz => by
      rw [eL] at hz
      have q6₉ := o6 z₉ (by omega)
      rw [up_ne _ _ (by omega), up_ne _ _ (by omega), up_ne _ _ (by omega)] at q6₉
      have q4₉ := o4₉ z₉ (by omega)
      rw [up_ne _ _ (by omega), up_ne _ _ (by omega)] at q4₉
      have q2₉ := o2 z₉ (by omega)
      rw [up_ne _ _ (by omega)] at q2₉
      exact ⟨by rw [q6₉.1, q4₉.1, q2₉.1], by rw [q6₉.2.1, q4₉.2.1, q2₉.2.1], by rw [q6₉.2.2, q4₉.2.2, q2₉.2.2]⟩) (fun z₉ z0 z1 => by rw [l6 z₉ z0 z1, l4 z₉ z0 (by omega), l2 z₉ z0 (by omega), up_ne _ _ (by omega)])
    rw [eL, show oo + ((3 + tLen a₉ + tLen b₉ + tLen r₉ : Nat) : Int) = oo + 3 + tLen a₉ + tLen b₉ + tLen r₉ by omega] at q₉
    exact q₉
  · intro n₉ a₉ r₉ hn ha₉ hr iha ih₉ oo dl sn eo bo op₉ ρ ho hd₉ hM₉ hW hK₉
    have eL : tLen (.append (.tag n₉ a₉) r₉) = 2 + tLen a₉ + tLen r₉ := rfl
    have eD : tDep (.append (.tag n₉ a₉) r₉) = max (1 + tDep a₉) (tDep r₉) := rfl
    rw [eL] at ho
    rw [eD] at hd₉
    obtain ⟨⟨k1₉, k2₉⟩, hMa, hMr⟩ := hM₉
    refine hop oo dl sn eo bo op₉ ρ hW (by omega) (by omega) (Or.inr (by omega)) (fun ρ1 W1₉ => ?_)
    refine iha (oo + 1) (dl + 1) _ eo bo _ ρ1 (by omega) (by omega) hMa W1₉ (fun sn2 eo2 bo2 op2 ρ2 W2₉ M2₉ o2 l2 => ?_)
    refine hcl (oo + 1 + tLen a₉) dl oo sn2 eo2 bo2 op2 ρ2 W2₉ (by omega) (by omega) (Or.inr k2₉) (by rw [l2 dl hd₉.1 (by omega), up_self]) (by omega) (fun ρ5 W5 => ?_)
    rw [show oo + 1 + (tLen a₉ : Int) + 1 = oo + 2 + tLen a₉ by omega]
    refine ih₉ (oo + 2 + tLen a₉) dl _ _ bo2 op2 ρ5 (by omega) (by omega) hMr W5 (fun sn6 eo6 bo6 op6 ρ6 W6 M6₉ o6 l6 => ?_)
    have c2₉ : ∀ z₉ : Int, z₉ < oo + 1 + tLen a₉ → z₉ ≠ oo → sn6 z₉ = sn2 z₉ ∧ eo6 z₉ = eo2 z₉ ∧ bo6 z₉ = bo2 z₉ := fun z₉ h1 h2 => by
      have q₉ := o6 z₉ (by omega)
      rw [up_ne _ _ (by omega), up_ne _ _ (by omega), up_ne _ _ (by omega)] at q₉
      exact q₉
    have g6 := o6 oo (by omega)
    rw [up_ne _ _ (by omega), up_ne _ _ (by omega), up_self] at g6
    have g2 := o2 oo (by omega)
    rw [up_self] at g2
    have e6₉ := o6 (oo + 1 + tLen a₉) (by omega)
    rw [up_self, up_self] at e6₉
    have q₉ := hK₉ sn6 eo6 bo6 op6 ρ6 W6 ⟨⟨by rw [g6.1, g2.1]; exact k1₉, g6.2.1, by rw [e6₉.1]; exact k2₉, e6₉.2.1⟩, MA_ext a₉ ha₉ _ (fun z₉ z0 z1 => c2₉ z₉ (by omega) (by omega)) M2₉, M6₉⟩ (fun z₉ hz => by
      rw [eL] at hz
      have q6₉ := o6 z₉ (by omega)
      rw [up_ne _ _ (by omega), up_ne _ _ (by omega), up_ne _ _ (by omega)] at q6₉
      have q2₉ := o2 z₉ (by omega)
      rw [up_ne _ _ (by omega)] at q2₉
      exact ⟨by rw [q6₉.1, q2₉.1], by rw [q6₉.2.1, q2₉.2.1], by rw [q6₉.2.2, q2₉.2.2]⟩) (fun z₉ z0 z1 => by rw [l6 z₉ z0 z1, l2 z₉ z0 (by omega), up_ne _ _ (by omega)])
    rw [eL, show oo + ((2 + tLen a₉ + tLen r₉ : Nat) : Int) = oo + 2 + tLen a₉ + tLen r₉ by omega] at q₉
    exact q₉
theorem SGT_sg {sn : Int → Int} : ∀ t₉, wf t₉ → ∀ o : Int, SGT sn t₉ o → ∀ p : Int, o ≤ p → p < o + tLen t₉ → 40 ≤ sn p ∧ sn p ≤ 124 := by
  refine tInd (fun o _ p h1 h2 => ?_) (fun c r₉ hc₉ _ ih₉ o h p h1 h2 => ?_) (fun a₉ b₉ r₉ _ _ _ iha ihb ih₉ o h p h1 h2 => ?_) (fun n₉ a₉ r₉ hn _ _ iha ih₉ o h p h1 h2 => ?_)
  · have h2 : p < o + ((0 : Nat) : Int) := h2
    omega
  · have eL : tLen (.append (.nest c .nil) r₉) = 1 + tLen r₉ := rfl
    rw [eL] at h2
    by_cases e : p = o
    · rw [e, h.1]; unfold okc at hc₉; omega
    · exact ih₉ _ h.2 p (by omega) (by omega)
  · have eL : tLen (.append (.append a₉ b₉) r₉) = 3 + tLen a₉ + tLen b₉ + tLen r₉ := rfl
    rw [eL] at h2
    obtain ⟨⟨k1₉, k2₉, k3₉⟩, ha₉, hb₉, hr⟩ := h
    obtain e | e | e | e | e | e : p = o ∨ p = o + 1 + tLen a₉ ∨ p = o + 2 + tLen a₉ + tLen b₉ ∨ (o + 1 ≤ p ∧ p < o + 1 + tLen a₉) ∨ (o + 2 + tLen a₉ ≤ p ∧ p < o + 2 + tLen a₉ + tLen b₉) ∨ o + 3 + tLen a₉ + tLen b₉ ≤ p := by omega
    · rw [e, k1₉]; omega
    · rw [e, k2₉]; omega
    · rw [e, k3₉]; omega
    · exact iha _ ha₉ p e.1 e.2
    · exact ihb _ hb₉ p e.1 e.2
    · exact ih₉ _ hr p e (by omega)
  · have eL : tLen (.append (.tag n₉ a₉) r₉) = 2 + tLen a₉ + tLen r₉ := rfl
    rw [eL] at h2
    obtain ⟨⟨k1₉, k2₉⟩, ha₉, hr⟩ := h
    obtain e | e | e | e : p = o ∨ p = o + 1 + tLen a₉ ∨ (o + 1 ≤ p ∧ p < o + 1 + tLen a₉) ∨ o + 2 + tLen a₉ ≤ p := by omega
    · rw [e, k1₉]; omega
    · rw [e, k2₉]; omega
    · exact iha _ ha₉ p e.1 e.2
    · exact ih₉ _ hr p e (by omega)
