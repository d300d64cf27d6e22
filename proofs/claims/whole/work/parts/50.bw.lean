/-! The reference₉: bounds along₉ the signs. -/
theorem kN_i1 {sn : Int → Int} {oo : Int} (h0 : 0 ≤ oo) (hl : 97 ≤ sn oo ∧ sn oo ≤ 102) : kN₉ sn (oo + 1).toNat = kN₉ sn oo.toNat + 1 := by
  rw [show (oo + 1).toNat = oo.toNat + 1 by omega]
  exact kN_yes (by rw [show (oo.toNat : Int) = oo by omega]; exact hl)
theorem kN_i0 {sn : Int → Int} {oo : Int} (h0 : 0 ≤ oo) (hl : ¬ (97 ≤ sn oo ∧ sn oo ≤ 102)) : kN₉ sn (oo + 1).toNat = kN₉ sn oo.toNat := by
  rw [show (oo + 1).toNat = oo.toNat + 1 by omega]
  exact kN_no (by rw [show (oo.toNat : Int) = oo by omega]; exact hl)
theorem kN_it {sn eo bo : Int → Int} {t₉ : Tr} {oo : Int} (h0 : 0 ≤ oo) (hw : wf t₉) (hM₉ : MA₉ sn eo bo t₉ oo) : kN₉ sn (oo + tLen t₉).toNat = kN₉ sn oo.toNat + tLks t₉ := by
  unfold kN₉
  rw [show (oo + (tLen t₉ : Int)).toNat = oo.toNat + tLen t₉ by omega, fs_add, show (0 : Int) + (oo.toNat : Int) = oo by omega, cnt_tree 0 (Or.inl rfl) t₉ hw oo _ hM₉]; rfl
def bW (E : En) (σ ρ : Nat → va_E) (sm₉ sf : Int → Int) : Prop := ρ 110 = ai E 4 sm₉ ∧ ρ 111 = ai E 4 sf ∧ ∀ q₉, ¬ (110 ≤ q₉ ∧ q₉ ≤ 111) → ρ q₉ = σ q₉
def lowB₉ (dl : Int) (sm₉ sf sm' sf' : Int → Int) : Prop := ∀ z₉ : Int, 0 ≤ z₉ → (z₉ < dl → sm' z₉ = sm₉ z₉) ∧ (z₉ ≤ dl → sf' z₉ = sf z₉)
set_option maxHeartbeats 4000000 in
theorem bo_walk {E : En} {σ : Nat → va_E} {sn eo bo : Int → Int} {len₉ : Int} (hlen : len₉ ≤ 80) (B₉ : Tr → Int → Int) (cst : Int → Int) (mx₉ lpn : Int → Int → Int)
  (b0 : ∀ k₉, B₉ .nil k₉ = 0) (b1 : ∀ c r₉ k₉, B₉ (.append (.nest c .nil) r₉) k₉ = (if c = 46 then 1 else cst k₉) + B₉ r₉ (k₉ + if c = 46 then 0 else 1)) (b2 : ∀ a₉ b₉ r₉ k₉, B₉ (.append (.append a₉ b₉) r₉) k₉ = mx₉ (B₉ a₉ k₉) (B₉ b₉ (k₉ + tLks a₉)) + B₉ r₉ (k₉ + tLks a₉ + tLks b₉)) (b3 : ∀ (n₉ : Nat) a₉ r₉ k₉, B₉ (.append (.tag n₉ a₉) r₉) k₉ = lpn n₉ (B₉ a₉ k₉) + B₉ r₉ (k₉ + tLks a₉))
  (hrg : ∀ t₉, wf t₉ → tDep t₉ ≤ 3 → tLen t₉ ≤ 80 → ∀ k₉, rg (B₉ t₉ k₉)) (H₉ : (Nat → va_E) → Int → Int → Prop)
  (hdot : ∀ (oo dl : Int) (sm₉ sf : Int → Int) (ρ : Nat → va_E), bW E σ ρ sm₉ sf → 0 ≤ oo ∧ oo < len₉ → 0 ≤ dl ∧ dl ≤ 3 → sn oo = 46 → (∀ ρ', bW E σ ρ' (up sm₉ dl (sm₉ dl + 1)) sf → H₉ ρ' (oo + 1) dl) → H₉ ρ oo dl)
  (hlook : ∀ (oo dl : Int) (sm₉ sf : Int → Int) (ρ : Nat → va_E), bW E σ ρ sm₉ sf → 0 ≤ oo ∧ oo < len₉ → 0 ≤ dl ∧ dl ≤ 3 → 97 ≤ sn oo ∧ sn oo ≤ 102 → (∀ ρ', bW E σ ρ' (up sm₉ dl (sm₉ dl + cst (kN₉ sn oo.toNat))) sf → H₉ ρ' (oo + 1) dl) → H₉ ρ oo dl)
  (hopen : ∀ (oo dl : Int) (sm₉ sf : Int → Int) (ρ : Nat → va_E), bW E σ ρ sm₉ sf → 0 ≤ oo ∧ oo < len₉ → 0 ≤ dl ∧ dl ≤ 2 → (sn oo = 40 ∨ (49 ≤ sn oo ∧ sn oo ≤ 57)) → (∀ ρ', bW E σ ρ' (up sm₉ (dl + 1) 0) sf → H₉ ρ' (oo + 1) (dl + 1)) → H₉ ρ oo dl)
  (hbar : ∀ (oo dl : Int) (sm₉ sf : Int → Int) (ρ : Nat → va_E), bW E σ ρ sm₉ sf → 0 ≤ oo ∧ oo < len₉ → 0 ≤ dl ∧ dl ≤ 2 → sn oo = 124 → (∀ ρ', bW E σ ρ' (up sm₉ (dl + 1) 0) (up sf (dl + 1) (sm₉ (dl + 1))) → H₉ ρ' (oo + 1) (dl + 1)) → H₉ ρ oo (dl + 1))
  (hclose : ∀ (oo dl : Int) (sm₉ sf : Int → Int) (ρ : Nat → va_E), bW E σ ρ sm₉ sf → 0 ≤ oo ∧ oo < len₉ → 0 ≤ dl ∧ dl ≤ 2 → sn oo = 41 → rg (sm₉ (dl + 1)) → rg (sf (dl + 1)) → (∀ ρ', bW E σ ρ' (up sm₉ dl (sm₉ dl + mx₉ (sf (dl + 1)) (sm₉ (dl + 1)))) sf → H₉ ρ' (oo + 1) dl) → H₉ ρ oo (dl + 1))
  (hback : ∀ (oo dl o1 : Int) (n₉ : Nat) (sm₉ sf : Int → Int) (ρ : Nat → va_E), bW E σ ρ sm₉ sf → 0 ≤ oo ∧ oo < len₉ → 0 ≤ dl ∧ dl ≤ 2 → sn oo = 93 → eo oo = o1 → 0 ≤ o1 ∧ o1 < len₉ → sn o1 = 48 + n₉ → (∀ ρ', bW E σ ρ' (up sm₉ dl (sm₉ dl + lpn n₉ (sm₉ (dl + 1)))) sf → H₉ ρ' (oo + 1) dl) → H₉ ρ oo (dl + 1)) :
  ∀ t₉, wf t₉ → ∀ (oo dl k₉ : Int) (sm₉ sf : Int → Int) (ρ : Nat → va_E), (0 ≤ oo ∧ oo + tLen t₉ ≤ len₉) → (0 ≤ dl ∧ dl + tDep t₉ ≤ 3) → kN₉ sn oo.toNat = k₉ → MA₉ sn eo bo t₉ oo → bW E σ ρ sm₉ sf → (∀ sm' sf' ρ', bW E σ ρ' sm' sf' → sm' dl = sm₉ dl + B₉ t₉ k₉ → lowB₉ dl sm₉ sf sm' sf' → H₉ ρ' (oo + tLen t₉) dl) → H₉ ρ oo dl := by
  refine tInd ?_ ?_ ?_ ?_
  · intro oo dl k₉ sm₉ sf ρ _ _ _ _ hW hK₉
    have q₉ := hK₉ sm₉ sf ρ hW (by rw [b0, Int.add_zero]) (fun z₉ _ => ⟨fun _ => rfl, fun _ => rfl⟩)
    rw [show oo + ((tLen .nil : Nat) : Int) = oo from Int.add_zero oo] at q₉
    exact q₉
  · intro c r₉ hc₉ hr ih₉ oo dl k₉ sm₉ sf ρ ho hd₉ hk hM₉ hW hK₉
    have eL : tLen (.append (.nest c .nil) r₉) = 1 + tLen r₉ := rfl
    have eD : tDep (.append (.nest c .nil) r₉) = tDep r₉ := rfl
    rw [eL] at ho
    rw [eD] at hd₉
    obtain ⟨k1₉, hMr⟩ := hM₉
    have fin₉ : ∀ (y₉ k' : Int) (ρ1 : Nat → va_E), kN₉ sn (oo + 1).toNat = k' → B₉ (.append (.nest c .nil) r₉) k₉ = y₉ + B₉ r₉ k' → bW E σ ρ1 (up sm₉ dl (sm₉ dl + y₉)) sf → H₉ ρ1 (oo + 1) dl := by
      intro y₉ k' ρ1 hk' hy W1₉
      refine ih₉ (oo + 1) dl k' _ sf ρ1 (by omega) (by omega) hk' hMr W1₉ (fun sm' sf' ρ' W' e' b' => ?_)
      have q₉ := hK₉ sm' sf' ρ' W' (by rw [e', up_self, hy]; omega) (fun z₉ z0 => ⟨fun h => by rw [(b' z₉ z0).1 h, up_ne _ _ (by omega)], (b' z₉ z0).2⟩)
      rw [eL, show oo + ((1 + tLen r₉ : Nat) : Int) = oo + 1 + tLen r₉ by omega] at q₉
      exact q₉
    by_cases e : c = 46
    · refine hdot oo dl sm₉ sf ρ hW (by omega) (by omega) (k1₉.trans e) (fun ρ1 W1₉ => ?_)
      exact fin₉ 1 k₉ ρ1 (by rw [kN_i0 ho.1 (by omega)]; exact hk) (by rw [b1, if_pos e, if_pos e, Int.add_zero]) W1₉
    · have hcc : 97 ≤ c ∧ c ≤ 102 := by unfold okc at hc₉; omega
      refine hlook oo dl sm₉ sf ρ hW (by omega) (by omega) (by omega) (fun ρ1 W1₉ => ?_)
      rw [hk] at W1₉
      exact fin₉ (cst k₉) (k₉ + 1) ρ1 (by rw [kN_i1 ho.1 (by omega), hk]) (by rw [b1, if_neg e, if_neg e]) W1₉
  · intro a₉ b₉ r₉ ha₉ hb₉ hr iha ihb ih₉ oo dl k₉ sm₉ sf ρ ho hd₉ hk hM₉ hW hK₉
    have eL : tLen (.append (.append a₉ b₉) r₉) = 3 + tLen a₉ + tLen b₉ + tLen r₉ := rfl
    have eD : tDep (.append (.append a₉ b₉) r₉) = max (1 + max (tDep a₉) (tDep b₉)) (tDep r₉) := rfl
    rw [eL] at ho
    rw [eD] at hd₉
    obtain ⟨⟨k1₉, -, -, k2₉, k3₉, -⟩, hMa, hMb, hMr⟩ := hM₉
    have n1₉ : kN₉ sn (oo + 1).toNat = k₉ := by rw [kN_i0 ho.1 (by omega)]; exact hk
    have n2₉ : kN₉ sn (oo + 1 + tLen a₉).toNat = k₉ + tLks a₉ := by rw [kN_it (by omega) ha₉ hMa, n1₉]
    have n3₉ : kN₉ sn (oo + 2 + tLen a₉).toNat = k₉ + tLks a₉ := by rw [show oo + 2 + (tLen a₉ : Int) = oo + 1 + tLen a₉ + 1 by omega, kN_i0 (by omega) (by omega)]; exact n2₉
    have n4₉ : kN₉ sn (oo + 2 + tLen a₉ + tLen b₉).toNat = k₉ + tLks a₉ + tLks b₉ := by rw [kN_it (by omega) hb₉ hMb, n3₉]
    have n5₉ : kN₉ sn (oo + 3 + tLen a₉ + tLen b₉).toNat = k₉ + tLks a₉ + tLks b₉ := by rw [show oo + 3 + (tLen a₉ : Int) + tLen b₉ = oo + 2 + tLen a₉ + tLen b₉ + 1 by omega, kN_i0 (by omega) (by omega)]; exact n4₉
    refine hopen oo dl sm₉ sf ρ hW (by omega) (by omega) (Or.inl k1₉) (fun ρ1 W1₉ => ?_)
    refine iha (oo + 1) (dl + 1) k₉ _ sf ρ1 (by omega) (by omega) n1₉ hMa W1₉ (fun sm2 sf2 ρ2 W2₉ e2₉ l2 => ?_)
    rw [up_self, Int.zero_add] at e2₉
    refine hbar (oo + 1 + tLen a₉) dl sm2 sf2 ρ2 W2₉ (by omega) (by omega) k2₉ (fun ρ3 W3 => ?_)
    rw [show oo + 1 + (tLen a₉ : Int) + 1 = oo + 2 + tLen a₉ by omega]
    refine ihb (oo + 2 + tLen a₉) (dl + 1) _ _ _ ρ3 (by omega) (by omega) n3₉ hMb W3 (fun sm4 sf4 ρ4 W4 e4₉ l4 => ?_)
    rw [up_self, Int.zero_add] at e4₉
    have f4₉ : sf4 (dl + 1) = B₉ a₉ k₉ := by rw [(l4 _ (by omega)).2 (by omega), up_self, e2₉]
    have g4 : sm4 dl = sm₉ dl := by rw [(l4 _ hd₉.1).1 (by omega), up_ne _ _ (by omega), (l2 _ hd₉.1).1 (by omega), up_ne _ _ (by omega)]
    refine hclose (oo + 2 + tLen a₉ + tLen b₉) dl sm4 sf4 ρ4 W4 (by omega) (by omega) k3₉ (by rw [e4₉]; exact hrg b₉ hb₉ (by omega) (by omega) _) (by rw [f4₉]; exact hrg a₉ ha₉ (by omega) (by omega) _) (fun ρ5 W5 => ?_)
    rw [show oo + 2 + (tLen a₉ : Int) + tLen b₉ + 1 = oo + 3 + tLen a₉ + tLen b₉ by omega]
    rw [f4₉, e4₉] at W5
    refine ih₉ (oo + 3 + tLen a₉ + tLen b₉) dl _ _ sf4 ρ5 (by omega) (by omega) n5₉ hMr W5 (fun sm6 sf6 ρ6 W6 e6₉ l6 => ?_)
    rw [up_self, g4] at e6₉
    have q₉ := hK₉ sm6 sf6 ρ6 W6 (by rw [e6₉, b2]; omega) (fun z₉ z0 => ⟨fun h => by rw [(l6 z₉ z0).1 h, up_ne _ _ (by omega), (l4 z₉ z0).1 (by omega), up_ne _ _ (by omega), (l2 z₉ z0).1 (by omega), up_ne _ _ (by omega)], fun h => by rw [(l6 z₉ z0).2 h, (l4 z₉ z0).2 (by omega), up_ne _ _ (by omega), (l2 z₉ z0).2 (by omega)]⟩)
    rw [eL, show oo + ((3 + tLen a₉ + tLen b₉ + tLen r₉ : Nat) : Int) = oo + 3 + tLen a₉ + tLen b₉ + tLen r₉ by omega] at q₉
    exact q₉
  · intro n₉ a₉ r₉ hn ha₉ hr iha ih₉ oo dl k₉ sm₉ sf ρ ho hd₉ hk hM₉ hW hK₉
    have eL : tLen (.append (.tag n₉ a₉) r₉) = 2 + tLen a₉ + tLen r₉ := rfl
    have eD : tDep (.append (.tag n₉ a₉) r₉) = max (1 + tDep a₉) (tDep r₉) := rfl
    rw [eL] at ho
    rw [eD] at hd₉
    obtain ⟨⟨k1₉, -, k2₉, k3₉⟩, hMa, hMr⟩ := hM₉
    have n1₉ : kN₉ sn (oo + 1).toNat = k₉ := by rw [kN_i0 ho.1 (by omega)]; exact hk
    have n2₉ : kN₉ sn (oo + 1 + tLen a₉).toNat = k₉ + tLks a₉ := by rw [kN_it (by omega) ha₉ hMa, n1₉]
    have n3₉ : kN₉ sn (oo + 2 + tLen a₉).toNat = k₉ + tLks a₉ := by rw [show oo + 2 + (tLen a₉ : Int) = oo + 1 + tLen a₉ + 1 by omega, kN_i0 (by omega) (by omega)]; exact n2₉
    refine hopen oo dl sm₉ sf ρ hW (by omega) (by omega) (Or.inr (by omega)) (fun ρ1 W1₉ => ?_)
    refine iha (oo + 1) (dl + 1) k₉ _ sf ρ1 (by omega) (by omega) n1₉ hMa W1₉ (fun sm2 sf2 ρ2 W2₉ e2₉ l2 => ?_)
    rw [up_self, Int.zero_add] at e2₉
    have g2 : sm2 dl = sm₉ dl := by rw [(l2 _ hd₉.1).1 (by omega), up_ne _ _ (by omega)]
    refine hback (oo + 1 + tLen a₉) dl oo n₉ sm2 sf2 ρ2 W2₉ (by omega) (by omega) k2₉ k3₉ (by omega) k1₉ (fun ρ3 W3 => ?_)
    rw [show oo + 1 + (tLen a₉ : Int) + 1 = oo + 2 + tLen a₉ by omega]
    rw [e2₉] at W3
    refine ih₉ (oo + 2 + tLen a₉) dl _ _ sf2 ρ3 (by omega) (by omega) n3₉ hMr W3 (fun sm6 sf6 ρ6 W6 e6₉ l6 => ?_)
    rw [up_self, g2] at e6₉
    have q₉ := hK₉ sm6 sf6 ρ6 W6 (by rw [e6₉, b3]; omega) (fun z₉ z0 => ⟨fun h => by rw [(l6 z₉ z0).1 h, up_ne _ _ (by omega), (l2 z₉ z0).1 (by omega), up_ne _ _ (by omega)], fun h => by rw [(l6 z₉ z0).2 h, (l2 z₉ z0).2 (by omega)]⟩)
    rw [eL, show oo + ((2 + tLen a₉ + tLen r₉ : Nat) : Int) = oo + 2 + tLen a₉ + tLen r₉ by omega] at q₉
    exact q₉
