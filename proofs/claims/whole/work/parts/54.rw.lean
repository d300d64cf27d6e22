/-! The reference₉: single runs along₉ the signs. -/
def rW (E : En) (σ : Nat → va_E) (un sz₉ tl rz ch₉ : Int) (ρ : Nat → va_E) (rt hi₉ mi ak : Int) (ro : Int → Int) : Prop := ρ 94 = mOb E un sz₉ tl rz hi₉ mi ak rt ch₉ ∧ ρ 116 = ai E 3 ro ∧ ∀ q₉, (q₉ ≠ 94 ∧ q₉ ≠ 116) → ρ q₉ = σ q₉
theorem MA_wrb {sn eo bo : Int → Int} : ∀ t₉, wf t₉ → ∀ o : Int, MA₉ sn eo bo t₉ o → 0 ≤ o → o + tLen t₉ ≤ 80 → MA₉ sn eo (fun z₉ => wr₉ (bo z₉)) t₉ o := by
  refine tInd (fun o _ _ _ => trivial) (fun c r₉ _ _ ih₉ o h h0 h1 => ?_) (fun a₉ b₉ r₉ _ _ _ iha ihb ih₉ o h h0 h1 => ?_) (fun n₉ a₉ r₉ _ _ _ iha ih₉ o h h0 h1 => ?_)
  · have eL : tLen (.append (.nest c .nil) r₉) = 1 + tLen r₉ := rfl
    rw [eL] at h1
    exact ⟨h.1, ih₉ _ h.2 (by omega) (by omega)⟩
  · have eL : tLen (.append (.append a₉ b₉) r₉) = 3 + tLen a₉ + tLen b₉ + tLen r₉ := rfl
    rw [eL] at h1
    obtain ⟨⟨k1₉, k2₉, k3₉⟩, ha₉, hb₉, hr⟩ := h
    exact ⟨⟨k1₉, by show wr₉ (bo o) = _; rw [k2₉]; exact wr_id (show rg _ from ⟨by omega, by omega⟩), k3₉⟩, iha _ ha₉ (by omega) (by omega), ihb _ hb₉ (by omega) (by omega), ih₉ _ hr (by omega) (by omega)⟩
  · have eL : tLen (.append (.tag n₉ a₉) r₉) = 2 + tLen a₉ + tLen r₉ := rfl
    rw [eL] at h1
    exact ⟨h.1, iha _ h.2.1 (by omega) (by omega), ih₉ _ h.2.2 (by omega) (by omega)⟩
theorem MA_par {sn eo bo : Int → Int} : ∀ t₉, wf t₉ → ∀ o : Int, MA₉ sn eo bo t₉ o → ∀ p : Int, o ≤ p → p < o + tLen t₉ → sn p = 40 → p < eo p ∧ eo p < o + tLen t₉ := by
  refine tInd (fun o _ p h1 h2 _ => ?_) (fun c r₉ hc₉ _ ih₉ o h p h1 h2 hp => ?_) (fun a₉ b₉ r₉ _ _ _ iha ihb ih₉ o h p h1 h2 hp => ?_) (fun n₉ a₉ r₉ hn _ _ iha ih₉ o h p h1 h2 hp => ?_)
  · have h2 : p < o + ((0 : Nat) : Int) := h2
    omega
  · have eL : tLen (.append (.nest c .nil) r₉) = 1 + tLen r₉ := rfl
    rw [eL] at h2 ⊢
    by_cases e : p = o
    · rw [e, h.1] at hp; unfold okc at hc₉; omega
    · have := ih₉ _ h.2 p (by omega) (by omega) hp
      omega
  · have eL : tLen (.append (.append a₉ b₉) r₉) = 3 + tLen a₉ + tLen b₉ + tLen r₉ := rfl
    rw [eL] at h2 ⊢
    obtain ⟨⟨k1₉, -, k4₉, k2₉, k3₉, -⟩, ha₉, hb₉, hr⟩ := h
    obtain e | e | e | e | e | e : p = o ∨ p = o + 1 + tLen a₉ ∨ p = o + 2 + tLen a₉ + tLen b₉ ∨ (o + 1 ≤ p ∧ p < o + 1 + tLen a₉) ∨ (o + 2 + tLen a₉ ≤ p ∧ p < o + 2 + tLen a₉ + tLen b₉) ∨ o + 3 + tLen a₉ + tLen b₉ ≤ p := by omega
    · rw [e, k4₉]; omega
    · rw [e, k2₉] at hp; omega
    · rw [e, k3₉] at hp; omega
    · have := iha _ ha₉ p e.1 e.2 hp; omega
    · have := ihb _ hb₉ p e.1 e.2 hp; omega
    · have := ih₉ _ hr p e (by omega) hp; omega
  · have eL : tLen (.append (.tag n₉ a₉) r₉) = 2 + tLen a₉ + tLen r₉ := rfl
    rw [eL] at h2 ⊢
    obtain ⟨⟨k1₉, k4₉, k2₉, -⟩, ha₉, hr⟩ := h
    obtain e | e | e | e : p = o ∨ p = o + 1 + tLen a₉ ∨ (o + 1 ≤ p ∧ p < o + 1 + tLen a₉) ∨ o + 2 + tLen a₉ ≤ p := by omega
    · rw [e, k1₉] at hp; omega
    · rw [e, k2₉] at hp; omega
    · have := iha _ ha₉ p e.1 e.2 hp; omega
    · have := ih₉ _ hr p e (by omega) hp; omega
set_option maxHeartbeats 4000000 in
theorem rn_walk {E : En} {σ : Nat → va_E} {sn eo bo : Int → Int} {len₉ un sz₉ tl rz ch₉ u₉ kd pr : Int} (hu : 1 ≤ u₉ ∧ u₉ ≤ 3) (hk : 0 ≤ kd ∧ kd ≤ 3) (H₉ : (Nat → va_E) → Int → Int → Int → Prop)
  (hdot : ∀ (oo dl rt ta hi₉ mi ak : Int) (ro : Int → Int) (ρ : Nat → va_E), rW E σ un sz₉ tl rz ch₉ ρ rt hi₉ mi ak ro → 0 ≤ oo ∧ oo < len₉ → 0 ≤ dl ∧ dl ≤ 3 → sn oo = 46 → H₉ ρ (oo + 1) dl (ta + 1) → H₉ ρ oo dl ta)
  (hmiss : ∀ (oo dl rt ta hi₉ mi ak : Int) (ro : Int → Int) (ρ : Nat → va_E), rW E σ un sz₉ tl rz ch₉ ρ rt hi₉ mi ak ro → 0 ≤ oo ∧ oo < len₉ → 0 ≤ dl ∧ dl ≤ 3 → 97 ≤ sn oo ∧ sn oo ≤ 102 → 0 ≤ rt ∧ rt < 343 → mPlace rt (sn oo - 97) = -1 → (∀ ρ', rW E σ un sz₉ tl rz ch₉ ρ' (mAfter rt (sn oo - 97) u₉ kd) hi₉ (mi + 1) ak ro → H₉ ρ' (oo + 1) dl (ta + pr)) → H₉ ρ oo dl ta)
  (hhit : ∀ (oo dl rt ta hi₉ mi ak : Int) (ro : Int → Int) (ρ : Nat → va_E), rW E σ un sz₉ tl rz ch₉ ρ rt hi₉ mi ak ro → 0 ≤ oo ∧ oo < len₉ → 0 ≤ dl ∧ dl ≤ 3 → 97 ≤ sn oo ∧ sn oo ≤ 102 → 0 ≤ rt ∧ rt < 343 → ¬ mPlace rt (sn oo - 97) = -1 → (∀ ρ', rW E σ un sz₉ tl rz ch₉ ρ' (mAfter rt (sn oo - 97) u₉ kd) (hi₉ + 1) mi ak ro → H₉ ρ' (oo + 1) dl (ta + 1)) → H₉ ρ oo dl ta)
  (hopen : ∀ (oo dl b1 rt ta hi₉ mi ak : Int) (ro : Int → Int) (ρ : Nat → va_E), rW E σ un sz₉ tl rz ch₉ ρ rt hi₉ mi ak ro → 0 ≤ oo ∧ oo < len₉ → 0 ≤ dl ∧ dl ≤ 3 → sn oo = 40 → bo oo = b1 → 0 ≤ ak ∧ ak < 1000000 → (bitOf ch₉ ak = 1 → ∀ ρ', rW E σ un sz₉ tl rz ch₉ ρ' rt hi₉ mi (ak + 1) ro → H₉ ρ' (b1 + 1) dl ta) → (¬ bitOf ch₉ ak = 1 → ∀ ρ', rW E σ un sz₉ tl rz ch₉ ρ' rt hi₉ mi (ak + 1) ro → H₉ ρ' (oo + 1) dl ta) → H₉ ρ oo dl ta)
  (hbar : ∀ (oo dl o0₉ e1₉ rt ta hi₉ mi ak : Int) (ro : Int → Int) (ρ : Nat → va_E), rW E σ un sz₉ tl rz ch₉ ρ rt hi₉ mi ak ro → 0 ≤ oo ∧ oo < len₉ → 0 ≤ dl ∧ dl ≤ 3 → sn oo = 124 → 0 ≤ o0₉ ∧ o0₉ < oo → sn o0₉ = 40 → bo o0₉ = oo → eo o0₉ = e1₉ → oo < e1₉ ∧ e1₉ < len₉ → (∀ q₉ : Int, o0₉ < q₉ → q₉ < oo → sn q₉ = 40 → q₉ < eo q₉ ∧ eo q₉ < oo) → H₉ ρ (e1₉ + 1) dl ta → H₉ ρ oo dl ta)
  (hclose : ∀ (oo dl rt ta hi₉ mi ak : Int) (ro : Int → Int) (ρ : Nat → va_E), rW E σ un sz₉ tl rz ch₉ ρ rt hi₉ mi ak ro → 0 ≤ oo ∧ oo < len₉ → 0 ≤ dl ∧ dl ≤ 3 → sn oo = 41 → H₉ ρ (oo + 1) dl ta → H₉ ρ oo dl ta)
  (hfig : ∀ (oo dl e1₉ rt ta hi₉ mi ak : Int) (ro : Int → Int) (ρ : Nat → va_E), rW E σ un sz₉ tl rz ch₉ ρ rt hi₉ mi ak ro → 0 ≤ oo ∧ oo < len₉ → 0 ≤ dl ∧ dl ≤ 2 → 49 ≤ sn oo ∧ sn oo ≤ 57 → eo oo = e1₉ → 0 ≤ ak ∧ ak < 1000000 → (bitOf ch₉ ak = 1 → ∀ ρ', rW E σ un sz₉ tl rz ch₉ ρ' rt hi₉ mi (ak + 1) (up ro dl 0) → H₉ ρ' (oo + 1) (dl + 1) ta) → (¬ bitOf ch₉ ak = 1 → ∀ ρ', rW E σ un sz₉ tl rz ch₉ ρ' rt hi₉ mi (ak + 1) (up ro dl 0) → H₉ ρ' (e1₉ + 1) dl ta) → H₉ ρ oo dl ta)
  (hback : ∀ (oo dl o1 rt ta hi₉ mi ak : Int) (n₉ : Nat) (ro : Int → Int) (ρ : Nat → va_E), rW E σ un sz₉ tl rz ch₉ ρ rt hi₉ mi ak ro → 0 ≤ oo ∧ oo < len₉ → 0 ≤ dl ∧ dl ≤ 2 → sn oo = 93 → eo oo = o1 → 0 ≤ o1 ∧ o1 < len₉ → sn o1 = 48 + n₉ → 1 ≤ n₉ ∧ n₉ ≤ 9 → 0 ≤ ro dl ∧ ro dl ≤ 9 → 0 ≤ ak ∧ ak < 1000000 → (ro dl + 1 < n₉ → bitOf ch₉ ak = 1 → ∀ ρ', rW E σ un sz₉ tl rz ch₉ ρ' rt hi₉ mi (ak + 1) (up ro dl (ro dl + 1)) → H₉ ρ' (o1 + 1) (dl + 1) ta) → (ro dl + 1 < n₉ → ¬ bitOf ch₉ ak = 1 → ∀ ρ', rW E σ un sz₉ tl rz ch₉ ρ' rt hi₉ mi (ak + 1) (up ro dl (ro dl + 1)) → H₉ ρ' (oo + 1) dl ta) → (n₉ ≤ ro dl + 1 → ∀ ρ', rW E σ un sz₉ tl rz ch₉ ρ' rt hi₉ mi ak (up ro dl (ro dl + 1)) → H₉ ρ' (oo + 1) dl ta) → H₉ ρ oo (dl + 1) ta) :
  ∀ t₉, wf t₉ → ∀ (oo dl : Int) (s : RS) (ro : Int → Int) (ρ : Nat → va_E), (0 ≤ oo ∧ oo + tLen t₉ ≤ len₉) → (0 ≤ dl ∧ dl + tDep t₉ ≤ 3) → MA₉ sn eo bo t₉ oo → vrow u₉ s.1 → (0 ≤ s.2.2.2.2 ∧ s.2.2.2.2 + tAsk t₉ < 900000) → rW E σ un sz₉ tl rz ch₉ ρ s.1 s.2.2.1 s.2.2.2.1 s.2.2.2.2 ro → (∀ ro' ρ', rW E σ un sz₉ tl rz ch₉ ρ' (rn u₉ kd pr ch₉ t₉ s).1 (rn u₉ kd pr ch₉ t₉ s).2.2.1 (rn u₉ kd pr ch₉ t₉ s).2.2.2.1 (rn u₉ kd pr ch₉ t₉ s).2.2.2.2 ro' → (∀ z₉ : Int, 0 ≤ z₉ → z₉ < dl → ro' z₉ = ro z₉) → H₉ ρ' (oo + tLen t₉) dl (rn u₉ kd pr ch₉ t₉ s).2.1) → H₉ ρ oo dl s.2.1 := by
  refine tInd ?_ ?_ ?_ ?_
  · intro oo dl s ro ρ _ _ _ _ _ hW hK₉
    have q₉ := hK₉ ro ρ hW (fun z₉ _ _ => rfl)
    rw [show oo + ((tLen .nil : Nat) : Int) = oo from Int.add_zero oo] at q₉
    exact q₉
  · intro c r₉ hc₉ hr ih₉ oo dl s ro ρ ho hd₉ hM₉ hv hak hW hK₉
    have eL : tLen (.append (.nest c .nil) r₉) = 1 + tLen r₉ := rfl
    have eD : tDep (.append (.nest c .nil) r₉) = tDep r₉ := rfl
    have eA₉ : tAsk (.append (.nest c .nil) r₉) = tAsk r₉ := rfl
    rw [eL] at ho
    rw [eD] at hd₉
    rw [eA₉] at hak
    obtain ⟨k1₉, hMr⟩ := hM₉
    have hrow := rLook_row (w₉ := u₉) (kd := kd) (pr := pr) (s := s) hc₉ hv hu hk
    have fin₉ : ∀ ρ1, rW E σ un sz₉ tl rz ch₉ ρ1 (rLook u₉ kd pr c s).1 (rLook u₉ kd pr c s).2.2.1 (rLook u₉ kd pr c s).2.2.2.1 (rLook u₉ kd pr c s).2.2.2.2 ro → (rLook u₉ kd pr c s).2.2.2.2 = s.2.2.2.2 → H₉ ρ1 (oo + 1) dl (rLook u₉ kd pr c s).2.1 := by
      intro ρ1 W1₉ e1₉
      refine ih₉ (oo + 1) dl (rLook u₉ kd pr c s) ro ρ1 (by omega) (by omega) hMr hrow (by omega) W1₉ (fun ro' ρ' W' l' => ?_)
      have q₉ := hK₉ ro' ρ' W' l'
      rw [eL, show oo + ((1 + tLen r₉ : Nat) : Int) = oo + 1 + tLen r₉ by omega] at q₉
      exact q₉
    by_cases e : c = 46
    · have er : rLook u₉ kd pr c s = (s.1, s.2.1 + 1, s.2.2.1, s.2.2.2.1, s.2.2.2.2) := by unfold rLook; rw [if_pos e]
      rw [er] at fin₉
      exact hdot oo dl s.1 s.2.1 s.2.2.1 s.2.2.2.1 s.2.2.2.2 ro ρ hW (by omega) (by omega) (k1₉.trans e) (fin₉ ρ hW rfl)
    · have hcc : 97 ≤ c ∧ c ≤ 102 := by unfold okc at hc₉; omega
      by_cases e2₉ : mPlace s.1 (c - 97) = -1
      · have er : rLook u₉ kd pr c s = (mAfter s.1 (c - 97) u₉ kd, s.2.1 + pr, s.2.2.1, s.2.2.2.1 + 1, s.2.2.2.2) := by unfold rLook; rw [if_neg e, if_pos e2₉]
        rw [er] at fin₉
        refine hmiss oo dl s.1 s.2.1 s.2.2.1 s.2.2.2.1 s.2.2.2.2 ro ρ hW (by omega) (by omega) (by omega) hv.1 (by rw [k1₉]; exact e2₉) (fun ρ1 W1₉ => ?_)
        rw [k1₉] at W1₉
        exact fin₉ ρ1 W1₉ rfl
      · have er : rLook u₉ kd pr c s = (mAfter s.1 (c - 97) u₉ kd, s.2.1 + 1, s.2.2.1 + 1, s.2.2.2.1, s.2.2.2.2) := by unfold rLook; rw [if_neg e, if_neg e2₉]
        rw [er] at fin₉
        refine hhit oo dl s.1 s.2.1 s.2.2.1 s.2.2.2.1 s.2.2.2.2 ro ρ hW (by omega) (by omega) (by omega) hv.1 (by rw [k1₉]; exact e2₉) (fun ρ1 W1₉ => ?_)
        rw [k1₉] at W1₉
        exact fin₉ ρ1 W1₉ rfl
  · intro a₉ b₉ r₉ ha₉ hb₉ hr iha ihb ih₉ oo dl s ro ρ ho hd₉ hM₉ hv hak hW hK₉
    have eL : tLen (.append (.append a₉ b₉) r₉) = 3 + tLen a₉ + tLen b₉ + tLen r₉ := rfl
    have eD : tDep (.append (.append a₉ b₉) r₉) = max (1 + max (tDep a₉) (tDep b₉)) (tDep r₉) := rfl
    have eA₉ : tAsk (.append (.append a₉ b₉) r₉) = 1 + tAsk a₉ + tAsk b₉ + tAsk r₉ := rfl
    rw [eL] at ho
    rw [eD] at hd₉
    rw [eA₉] at hak
    obtain ⟨⟨k1₉, k4₉, k5₉, k2₉, k3₉, -⟩, hMa, hMb, hMr⟩ := hM₉
    have fin₉ : ∀ (s1₉ : RS) (ro1 : Int → Int) (ρ1 : Nat → va_E), rn u₉ kd pr ch₉ (.append (.append a₉ b₉) r₉) s = rn u₉ kd pr ch₉ r₉ s1₉ → vrow u₉ s1₉.1 → (0 ≤ s1₉.2.2.2.2 ∧ s1₉.2.2.2.2 + tAsk r₉ < 900000) → (∀ z₉ : Int, 0 ≤ z₉ → z₉ < dl → ro1 z₉ = ro z₉) → rW E σ un sz₉ tl rz ch₉ ρ1 s1₉.1 s1₉.2.2.1 s1₉.2.2.2.1 s1₉.2.2.2.2 ro1 → H₉ ρ1 (oo + 3 + tLen a₉ + tLen b₉) dl s1₉.2.1 := by
      intro s1₉ ro1 ρ1 es hv1 ha1 l1 W1₉
      rw [es] at hK₉
      refine ih₉ (oo + 3 + tLen a₉ + tLen b₉) dl s1₉ ro1 ρ1 (by omega) (by omega) hMr hv1 ha1 W1₉ (fun ro' ρ' W' l' => ?_)
      have q₉ := hK₉ ro' ρ' W' (fun z₉ z0 z1 => (l' z₉ z0 z1).trans (l1 z₉ z0 z1))
      rw [eL, show oo + ((3 + tLen a₉ + tLen b₉ + tLen r₉ : Nat) : Int) = oo + 3 + tLen a₉ + tLen b₉ + tLen r₉ by omega] at q₉
      exact q₉
    refine hopen oo dl (oo + 1 + tLen a₉) s.1 s.2.1 s.2.2.1 s.2.2.2.1 s.2.2.2.2 ro ρ hW (by omega) (by omega) k1₉ k4₉ (by omega) (fun hb1 ρ1 W1₉ => ?_) (fun hb0 ρ1 W1₉ => ?_)
    · rw [show oo + 1 + (tLen a₉ : Int) + 1 = oo + 2 + tLen a₉ by omega]
      refine ihb (oo + 2 + tLen a₉) dl (rAsk s) ro ρ1 (by omega) (by omega) hMb hv (by show 0 ≤ s.2.2.2.2 + 1 ∧ s.2.2.2.2 + 1 + tAsk b₉ < 900000; omega) W1₉ (fun ro2 ρ2 W2₉ l2 => ?_)
      refine hclose (oo + 2 + tLen a₉ + tLen b₉) dl _ _ _ _ _ ro2 ρ2 W2₉ (by omega) (by omega) k3₉ ?_
      rw [show oo + 2 + (tLen a₉ : Int) + tLen b₉ + 1 = oo + 3 + tLen a₉ + tLen b₉ by omega]
      have qa := rn_ask (u₉ := u₉) (kd := kd) (pr := pr) (ch₉ := ch₉) b₉ hb₉ (rAsk s)
      have qb : (rAsk s).2.2.2.2 = s.2.2.2.2 + 1 := rfl
      refine fin₉ (rn u₉ kd pr ch₉ b₉ (rAsk s)) ro2 ρ2 ?_ (rn_row hu hk b₉ hb₉ (rAsk s) hv) (by omega) l2 W2₉
      show rn u₉ kd pr ch₉ r₉ (if bitOf ch₉ s.2.2.2.2 = 1 then rn u₉ kd pr ch₉ b₉ (rAsk s) else rn u₉ kd pr ch₉ a₉ (rAsk s)) = _
      rw [if_pos hb1]
    · refine iha (oo + 1) dl (rAsk s) ro ρ1 (by omega) (by omega) hMa hv (by show 0 ≤ s.2.2.2.2 + 1 ∧ s.2.2.2.2 + 1 + tAsk a₉ < 900000; omega) W1₉ (fun ro2 ρ2 W2₉ l2 => ?_)
      have hin : ∀ q₉ : Int, oo < q₉ → q₉ < oo + 1 + tLen a₉ → sn q₉ = 40 → q₉ < eo q₉ ∧ eo q₉ < oo + 1 + tLen a₉ := fun q₉ q0 q1₉ qs => MA_par a₉ ha₉ _ hMa q₉ (by omega) q1₉ qs
      refine hbar (oo + 1 + tLen a₉) dl oo (oo + 2 + tLen a₉ + tLen b₉) _ _ _ _ _ ro2 ρ2 W2₉ (by omega) (by omega) k2₉ (by omega) k1₉ k4₉ k5₉ (by omega) hin ?_
      rw [show oo + 2 + (tLen a₉ : Int) + tLen b₉ + 1 = oo + 3 + tLen a₉ + tLen b₉ by omega]
      have qa := rn_ask (u₉ := u₉) (kd := kd) (pr := pr) (ch₉ := ch₉) a₉ ha₉ (rAsk s)
      have qb : (rAsk s).2.2.2.2 = s.2.2.2.2 + 1 := rfl
      refine fin₉ (rn u₉ kd pr ch₉ a₉ (rAsk s)) ro2 ρ2 ?_ (rn_row hu hk a₉ ha₉ (rAsk s) hv) (by omega) l2 W2₉
      show rn u₉ kd pr ch₉ r₉ (if bitOf ch₉ s.2.2.2.2 = 1 then rn u₉ kd pr ch₉ b₉ (rAsk s) else rn u₉ kd pr ch₉ a₉ (rAsk s)) = _
      rw [if_neg hb0]
  · intro n₉ a₉ r₉ hn ha₉ hr iha ih₉ oo dl s ro ρ ho hd₉ hM₉ hv hak hW hK₉
    have eL : tLen (.append (.tag n₉ a₉) r₉) = 2 + tLen a₉ + tLen r₉ := rfl
    have eD : tDep (.append (.tag n₉ a₉) r₉) = max (1 + tDep a₉) (tDep r₉) := rfl
    have eA₉ : tAsk (.append (.tag n₉ a₉) r₉) = n₉ * (1 + tAsk a₉) + tAsk r₉ := rfl
    rw [eL] at ho
    rw [eD] at hd₉
    rw [eA₉] at hak
    obtain ⟨⟨k1₉, k4₉, k2₉, k3₉⟩, hMa, hMr⟩ := hM₉
    have fin₉ : ∀ (s1₉ : RS) (ro1 : Int → Int) (ρ1 : Nat → va_E), rLoop ch₉ (rn u₉ kd pr ch₉ a₉) n₉ s = s1₉ → vrow u₉ s1₉.1 → (0 ≤ s1₉.2.2.2.2 ∧ s1₉.2.2.2.2 + tAsk r₉ < 900000) → (∀ z₉ : Int, 0 ≤ z₉ → z₉ < dl → ro1 z₉ = ro z₉) → rW E σ un sz₉ tl rz ch₉ ρ1 s1₉.1 s1₉.2.2.1 s1₉.2.2.2.1 s1₉.2.2.2.2 ro1 → H₉ ρ1 (oo + 2 + tLen a₉) dl s1₉.2.1 := by
      intro s1₉ ro1 ρ1 es hv1 ha1 l1 W1₉
      have es2 : rn u₉ kd pr ch₉ (.append (.tag n₉ a₉) r₉) s = rn u₉ kd pr ch₉ r₉ s1₉ := by
        show rn u₉ kd pr ch₉ r₉ (rLoop ch₉ (rn u₉ kd pr ch₉ a₉) n₉ s) = _
        rw [es]
      rw [es2] at hK₉
      refine ih₉ (oo + 2 + tLen a₉) dl s1₉ ro1 ρ1 (by omega) (by omega) hMr hv1 ha1 W1₉ (fun ro' ρ' W' l' => ?_)
      have q₉ := hK₉ ro' ρ' W' (fun z₉ z0 z1 => (l' z₉ z0 z1).trans (l1 z₉ z0 z1))
      rw [eL, show oo + ((2 + tLen a₉ + tLen r₉ : Nat) : Int) = oo + 2 + tLen a₉ + tLen r₉ by omega] at q₉
      exact q₉
    have lp : ∀ (m kk : Nat) (s1₉ : RS) (ro1 : Int → Int) (ρ1 : Nat → va_E), kk = m * (1 + tAsk a₉) → rLoop ch₉ (rn u₉ kd pr ch₉ a₉) n₉ s = rLoop ch₉ (rn u₉ kd pr ch₉ a₉) m s1₉ → 0 ≤ ro1 dl ∧ ro1 dl + 1 + m = n₉ → vrow u₉ s1₉.1 → (0 ≤ s1₉.2.2.2.2 ∧ s1₉.2.2.2.2 + kk + tAsk r₉ < 900000) → (∀ z₉ : Int, 0 ≤ z₉ → z₉ < dl → ro1 z₉ = ro z₉) → rW E σ un sz₉ tl rz ch₉ ρ1 s1₉.1 s1₉.2.2.1 s1₉.2.2.2.1 s1₉.2.2.2.2 ro1 → H₉ ρ1 (oo + 1 + tLen a₉) (dl + 1) s1₉.2.1 := by
      intro m
      induction m with
      | zero =>
        intro kk s1₉ ro1 ρ1 hkk es hro hv1 ha1 l1 W1₉
        refine hback (oo + 1 + tLen a₉) dl oo s1₉.1 s1₉.2.1 s1₉.2.2.1 s1₉.2.2.2.1 s1₉.2.2.2.2 n₉ ro1 ρ1 W1₉ (by omega) (by omega) k2₉ k3₉ (by omega) k1₉ hn (by omega) (by omega) (fun h => absurd h (by omega)) (fun h => absurd h (by omega)) (fun _ ρ2 W2₉ => ?_)
        rw [show oo + 1 + (tLen a₉ : Int) + 1 = oo + 2 + tLen a₉ by omega]
        exact fin₉ s1₉ _ ρ2 es hv1 (by omega) (fun z₉ z0 z1 => by rw [up_ne _ _ (by omega)]; exact l1 z₉ z0 z1) W2₉
      | succ m im =>
        intro kk s1₉ ro1 ρ1 hkk es hro hv1 ha1 l1 W1₉
        obtain ⟨k9, hk9⟩ : ∃ k9, k9 = m * (1 + tAsk a₉) := ⟨_, rfl⟩
        have hk8 : kk = k9 + (1 + tAsk a₉) := by rw [hkk, hk9, Nat.succ_mul]
        have es3 : rLoop ch₉ (rn u₉ kd pr ch₉ a₉) (m + 1) s1₉ = if bitOf ch₉ s1₉.2.2.2.2 = 1 then rLoop ch₉ (rn u₉ kd pr ch₉ a₉) m (rn u₉ kd pr ch₉ a₉ (rAsk s1₉)) else rAsk s1₉ := rfl
        refine hback (oo + 1 + tLen a₉) dl oo s1₉.1 s1₉.2.1 s1₉.2.2.1 s1₉.2.2.2.1 s1₉.2.2.2.2 n₉ ro1 ρ1 W1₉ (by omega) (by omega) k2₉ k3₉ (by omega) k1₉ hn (by omega) (by omega) (fun _ hb1 ρ2 W2₉ => ?_) (fun _ hb0 ρ2 W2₉ => ?_) (fun h => absurd h (by omega))
        · refine iha (oo + 1) (dl + 1) (rAsk s1₉) _ ρ2 (by omega) (by omega) hMa hv1 (by show 0 ≤ s1₉.2.2.2.2 + 1 ∧ s1₉.2.2.2.2 + 1 + tAsk a₉ < 900000; omega) W2₉ (fun ro3 ρ3 W3 l3 => ?_)
          have qa := rn_ask (u₉ := u₉) (kd := kd) (pr := pr) (ch₉ := ch₉) a₉ ha₉ (rAsk s1₉)
          have qb : (rAsk s1₉).2.2.2.2 = s1₉.2.2.2.2 + 1 := rfl
          have q3₉ : ro3 dl = ro1 dl + 1 := by rw [l3 dl hd₉.1 (by omega), up_self]
          rw [es3, if_pos hb1] at es
          exact im k9 (rn u₉ kd pr ch₉ a₉ (rAsk s1₉)) ro3 ρ3 hk9 es (by omega) (rn_row hu hk a₉ ha₉ (rAsk s1₉) hv1) (by omega) (fun z₉ z0 z1 => by rw [l3 z₉ z0 (by omega), up_ne _ _ (by omega)]; exact l1 z₉ z0 z1) W3
        · rw [es3, if_neg hb0] at es
          rw [show oo + 1 + (tLen a₉ : Int) + 1 = oo + 2 + tLen a₉ by omega]
          exact fin₉ (rAsk s1₉) _ ρ2 es hv1 (by show 0 ≤ s1₉.2.2.2.2 + 1 ∧ s1₉.2.2.2.2 + 1 + tAsk r₉ < 900000; omega) (fun z₉ z0 z1 => by rw [up_ne _ _ (by omega)]; exact l1 z₉ z0 z1) W2₉
    obtain ⟨n', rfl⟩ : ∃ n', n₉ = n' + 1 := ⟨n₉ - 1, by omega⟩
    obtain ⟨k9, hk9⟩ : ∃ k9, k9 = n' * (1 + tAsk a₉) := ⟨_, rfl⟩
    rw [Nat.succ_mul, ← hk9] at hak
    have es3 : rLoop ch₉ (rn u₉ kd pr ch₉ a₉) (n' + 1) s = if bitOf ch₉ s.2.2.2.2 = 1 then rLoop ch₉ (rn u₉ kd pr ch₉ a₉) n' (rn u₉ kd pr ch₉ a₉ (rAsk s)) else rAsk s := rfl
    refine hfig oo dl (oo + 1 + tLen a₉) s.1 s.2.1 s.2.2.1 s.2.2.2.1 s.2.2.2.2 ro ρ hW (by omega) (by omega) (by omega) k4₉ (by omega) (fun hb1 ρ1 W1₉ => ?_) (fun hb0 ρ1 W1₉ => ?_)
    · refine iha (oo + 1) (dl + 1) (rAsk s) _ ρ1 (by omega) (by omega) hMa hv (by show 0 ≤ s.2.2.2.2 + 1 ∧ s.2.2.2.2 + 1 + tAsk a₉ < 900000; omega) W1₉ (fun ro3 ρ3 W3 l3 => ?_)
      have qa := rn_ask (u₉ := u₉) (kd := kd) (pr := pr) (ch₉ := ch₉) a₉ ha₉ (rAsk s)
      have qb : (rAsk s).2.2.2.2 = s.2.2.2.2 + 1 := rfl
      have q3₉ : ro3 dl = 0 := by rw [l3 dl hd₉.1 (by omega), up_self]
      rw [if_pos hb1] at es3
      exact lp n' k9 (rn u₉ kd pr ch₉ a₉ (rAsk s)) ro3 ρ3 hk9 es3 (by omega) (rn_row hu hk a₉ ha₉ (rAsk s) hv) (by omega) (fun z₉ z0 z1 => by rw [l3 z₉ z0 (by omega), up_ne _ _ (by omega)]) W3
    · rw [if_neg hb0] at es3
      rw [show oo + 1 + (tLen a₉ : Int) + 1 = oo + 2 + tLen a₉ by omega]
      exact fin₉ (rAsk s) _ ρ1 es3 hv (by show 0 ≤ s.2.2.2.2 + 1 ∧ s.2.2.2.2 + 1 + tAsk r₉ < 900000; omega) (fun z₉ z0 z1 => by rw [up_ne _ _ (by omega)]) W1₉
