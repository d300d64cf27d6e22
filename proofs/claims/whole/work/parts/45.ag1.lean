/-! The reference₉: the ages. -/
def agOK (ag : Int → Int) (A₉ : AG₉) : Prop := ∀ z₉ : Int, 0 ≤ z₉ → z₉ < 6 → ag z₉ = A₉.1 z₉ ∧ ag (6 + z₉) = A₉.2 z₉
def lvOK (g₉ : Int → Int) (dl : Int) (A₉ : AG₉) : Prop := ∀ z₉ : Int, 0 ≤ z₉ → z₉ < 6 → g₉ (12 * dl + z₉) = A₉.1 z₉ ∧ g₉ (12 * dl + (6 + z₉)) = A₉.2 z₉
def rgV (v₉ : Int) (A₉ : AG₉) : Prop := ∀ z₉ : Int, 0 ≤ z₉ → z₉ < 6 → (0 ≤ A₉.1 z₉ ∧ A₉.1 z₉ ≤ v₉) ∧ 0 ≤ A₉.2 z₉ ∧ A₉.2 z₉ ≤ v₉
theorem rgV.toA {v₉ : Int} {A₉ : AG₉} (h : rgV v₉ A₉) (hv : v₉ ≤ 3) : rgA A₉ := fun z₉ z0 z1 => by have := h z₉ z0 z1; omega
theorem rgV_look {A₉ : AG₉} {v₉ c : Int} (h : rgV v₉ A₉) (hv : 1 ≤ v₉) (hc₉ : okc c) : rgV v₉ (aLook v₉ c A₉) := by
  intro z₉ z0 z1
  unfold aLook
  by_cases e : c = 46
  · rw [if_pos e]; exact h z₉ z0 z1
  · rw [if_neg e]
    have hx := h (c - 97) (by unfold okc at hc₉; omega) (by unfold okc at hc₉; omega)
    have hz := h z₉ z0 z1
    show (0 ≤ lkMu A₉.1 (c - 97) z₉ ∧ lkMu A₉.1 (c - 97) z₉ ≤ v₉) ∧ 0 ≤ lkMa A₉.2 (c - 97) v₉ z₉ ∧ lkMa A₉.2 (c - 97) v₉ z₉ ≤ v₉
    unfold lkMu lkMa
    constructor
    · repeat' split
      all_goals omega
    · repeat' split
      all_goals omega
theorem rgV_join {A₉ B₉ : AG₉} {v₉ : Int} (h : rgV v₉ A₉) (h' : rgV v₉ B₉) : rgV v₉ (aJoin A₉ B₉) := by
  intro z₉ z0 z1
  have a₉ := h z₉ z0 z1
  have b₉ := h' z₉ z0 z1
  show (0 ≤ jnMu A₉.1 B₉.1 z₉ ∧ jnMu A₉.1 B₉.1 z₉ ≤ v₉) ∧ 0 ≤ jnMa A₉.2 B₉.2 z₉ ∧ jnMa A₉.2 B₉.2 z₉ ≤ v₉
  unfold jnMu jnMa
  constructor
  · split <;> omega
  · split <;> omega
theorem rgV_fix {v₉ : Int} {f₉ : AG₉ → AG₉} (hf : ∀ A₉, rgV v₉ A₉ → rgV v₉ (f₉ A₉)) : ∀ (n₉ : Nat) (A₉ : AG₉), rgV v₉ A₉ → rgV v₉ (aFix f₉ n₉ A₉)
  | 0, _, h => h
  | n₉ + 1, A₉, h => by
    show rgV v₉ (@ite AG₉ (aSame A₉ (f₉ A₉)) (Classical.propDecidable _) A₉ (aFix f₉ n₉ (aJoin A₉ (f₉ A₉))))
    split
    · exact h
    · exact rgV_fix hf n₉ _ (rgV_join h (hf A₉ h))
theorem rgV_fa {v₉ : Int} (hv : 1 ≤ v₉) : ∀ t₉, wf t₉ → ∀ A₉, rgV v₉ A₉ → rgV v₉ (fa v₉ t₉ A₉) := by
  refine tInd (fun A₉ h => h) (fun c r₉ hc₉ _ ih₉ A₉ h => ?_) (fun a₉ b₉ r₉ _ _ _ iha ihb ih₉ A₉ h => ?_) (fun n₉ a₉ r₉ _ _ _ iha ih₉ A₉ h => ?_)
  · exact ih₉ _ (rgV_look h hv hc₉)
  · exact ih₉ _ (rgV_join (iha A₉ h) (ihb A₉ h))
  · exact ih₉ _ (rgV_fix iha 37 A₉ h)
theorem rgV_A0 {v₉ : Int} (h : 1 ≤ v₉) : rgV v₉ (A0 v₉) := fun z₉ _ _ => ⟨⟨by show 0 ≤ v₉; omega, by show v₉ ≤ v₉; omega⟩, by show 0 ≤ v₉; omega, by show v₉ ≤ v₉; omega⟩
/-- where the looks₉ stand -/
def lpos : Tr → Int → List Int
  | .append (.nest c .nil) r₉, o => (if c = 46 then [] else [o]) ++ lpos r₉ (o + 1)
  | .append (.append a₉ b₉) r₉, o => lpos a₉ (o + 1) ++ lpos b₉ (o + 2 + tLen a₉) ++ lpos r₉ (o + 3 + tLen a₉ + tLen b₉)
  | .append (.tag _ a₉) r₉, o => lpos a₉ (o + 1) ++ lpos r₉ (o + 2 + tLen a₉)
  | _, _ => []
theorem lpos_in : ∀ t₉, wf t₉ → ∀ o p, p ∈ lpos t₉ o → o ≤ p ∧ p < o + tLen t₉ := by
  refine tInd (fun o p h => absurd h List.not_mem_nil) (fun c r₉ _ _ ih₉ o p h => ?_) (fun a₉ b₉ r₉ _ _ _ iha ihb ih₉ o p h => ?_) (fun n₉ a₉ r₉ _ _ _ iha ih₉ o p h => ?_)
  · have eL : tLen (.append (.nest c .nil) r₉) = 1 + tLen r₉ := rfl
    rw [eL]
    rcases List.mem_append.mp (show p ∈ (if c = 46 then [] else [o]) ++ lpos r₉ (o + 1) from h) with h | h
    · by_cases e : c = 46
      · rw [if_pos e] at h; exact absurd h List.not_mem_nil
      · rw [if_neg e] at h
        have := List.mem_singleton.mp h
        omega
    · have := ih₉ _ p h; omega
  · have eL : tLen (.append (.append a₉ b₉) r₉) = 3 + tLen a₉ + tLen b₉ + tLen r₉ := rfl
    rw [eL]
    rcases List.mem_append.mp (show p ∈ lpos a₉ (o + 1) ++ lpos b₉ (o + 2 + tLen a₉) ++ lpos r₉ (o + 3 + tLen a₉ + tLen b₉) from h) with h | h
    · rcases List.mem_append.mp h with h | h
      · have := iha _ p h; omega
      · have := ihb _ p h; omega
    · have := ih₉ _ p h; omega
  · have eL : tLen (.append (.tag n₉ a₉) r₉) = 2 + tLen a₉ + tLen r₉ := rfl
    rw [eL]
    rcases List.mem_append.mp (show p ∈ lpos a₉ (o + 1) ++ lpos r₉ (o + 2 + tLen a₉) from h) with h | h
    · have := iha _ p h; omega
    · have := ih₉ _ p h; omega
theorem lpos_map {t₉ : Tr} {o : Int} {ma my ma' my' : Int → Int} (hw : wf t₉) (h : ∀ z₉ : Int, o ≤ z₉ → z₉ < o + tLen t₉ → ma' z₉ = ma z₉ ∧ my' z₉ = my z₉) : (lpos t₉ o).map (fun p => (ma' p, my' p)) = (lpos t₉ o).map (fun p => (ma p, my p)) := by
  refine List.map_congr_left (fun p hp => ?_)
  have := lpos_in t₉ hw o p hp
  rw [(h p this.1 this.2).1, (h p this.1 this.2).2]
theorem map_step {F₉ ag g₉ : Int → Int} {j₉ : Nat} {n₉ v₉ : Int} (h : ∀ z₉ : Int, 0 ≤ z₉ → z₉ < n₉ → g₉ z₉ = if z₉ < j₉ then F₉ z₉ else ag z₉) (e : v₉ = F₉ j₉) : ∀ z₉ : Int, 0 ≤ z₉ → z₉ < n₉ → up g₉ j₉ v₉ z₉ = if z₉ < ((j₉ + 1 : Nat) : Int) then F₉ z₉ else ag z₉ := by
  intro z₉ z0 z1
  by_cases e2₉ : z₉ = j₉
  · subst e2₉; rw [up_self, if_pos (by omega), e]
  · rw [up_ne _ _ e2₉, h z₉ z0 z1]
    by_cases e3₉ : z₉ < j₉
    · rw [if_pos e3₉, if_pos (by omega)]
    · rw [if_neg e3₉, if_neg (by omega)]
/-- the two₉ halves of₉ the ages, one₉ place₉ on₉ -/
def lk1 (ag : Int → Int) (x₉ : Int) : Int → Int := fun z₉ => if ag z₉ < ag x₉ then ag z₉ + 1 else ag z₉
def lk2 (ag : Int → Int) (x₉ v₉ : Int) : Int → Int := fun z₉ => if ag (6 + z₉) ≤ ag (6 + x₉) ∧ ag (6 + z₉) < v₉ then ag (6 + z₉) + 1 else ag (6 + z₉)
def lkI (ag g₉ : Int → Int) (x₉ v₉ j₉ : Int) : Prop := ∀ z₉ : Int, 0 ≤ z₉ → z₉ < 6 → g₉ z₉ = (if z₉ < j₉ ∧ z₉ ≠ x₉ then lk1 ag x₉ z₉ else ag z₉) ∧ g₉ (6 + z₉) = if z₉ < j₉ ∧ z₉ ≠ x₉ then lk2 ag x₉ v₉ z₉ else ag (6 + z₉)
theorem lkI_skip {ag g₉ : Int → Int} {x₉ v₉ : Int} {j₉ : Nat} (h : lkI ag g₉ x₉ v₉ j₉) (e : (j₉ : Int) = x₉) : lkI ag g₉ x₉ v₉ ((j₉ + 1 : Nat) : Int) := by
  intro z₉ z0 z1
  have h := h z₉ z0 z1
  by_cases e2₉ : z₉ < j₉ ∧ z₉ ≠ x₉
  · rw [if_pos e2₉, if_pos e2₉] at h
    rw [if_pos (by omega), if_pos (by omega)]; exact h
  · rw [if_neg e2₉, if_neg e2₉] at h
    rw [if_neg (by omega), if_neg (by omega)]; exact h
theorem lkI_step {ag g₉ : Int → Int} {x₉ v₉ a₉ b₉ : Int} {j₉ : Nat} (h : lkI ag g₉ x₉ v₉ j₉) (hj : (j₉ : Int) < 6) (e : (j₉ : Int) ≠ x₉) (e1₉ : g₉ j₉ + a₉ = lk1 ag x₉ j₉) (e2₉ : g₉ (6 + j₉) + b₉ = lk2 ag x₉ v₉ j₉) : lkI ag (up (up g₉ j₉ (g₉ j₉ + a₉)) (6 + j₉) (g₉ (6 + j₉) + b₉)) x₉ v₉ ((j₉ + 1 : Nat) : Int) := by
  intro z₉ z0 z1
  have h := h z₉ z0 z1
  by_cases ez : z₉ = j₉
  · subst ez
    rw [up_ne _ _ (by omega), up_self, up_self, if_pos (by omega), if_pos (by omega)]
    exact ⟨e1₉, e2₉⟩
  · rw [up_ne _ _ (by omega), up_ne _ _ ez, up_ne _ _ (by omega), up_ne _ _ (by omega)]
    by_cases e2₉ : z₉ < j₉ ∧ z₉ ≠ x₉
    · rw [if_pos e2₉, if_pos e2₉] at h
      rw [if_pos (by omega), if_pos (by omega)]; exact h
    · rw [if_neg e2₉, if_neg e2₉] at h
      rw [if_neg (by omega), if_neg (by omega)]; exact h
theorem lkI_end {ag g₉ : Int → Int} {v₉ c : Int} {A₉ : AG₉} (h : lkI ag g₉ (c - 97) v₉ ((6 : Nat) : Int)) (ha₉ : agOK ag A₉) (hr : rgV v₉ A₉) (hc₉ : 97 ≤ c ∧ c ≤ 102) : agOK (up (up g₉ (c - 97) 0) (6 + (c - 97)) 0) (aLook v₉ c A₉) := by
  intro z₉ z0 z1
  have h := h z₉ z0 z1
  have a₉ := ha₉ z₉ z0 z1
  have ax := ha₉ (c - 97) (by omega) (by omega)
  have rz := hr z₉ z0 z1
  unfold aLook
  rw [if_neg (by omega)]
  show _ = lkMu A₉.1 (c - 97) z₉ ∧ _ = lkMa A₉.2 (c - 97) v₉ z₉
  unfold lkMu lkMa
  by_cases e : z₉ = c - 97
  · subst e
    rw [up_ne _ _ (by omega), up_self, up_self, if_pos rfl, if_pos rfl]
    exact ⟨rfl, rfl⟩
  · rw [if_pos (by omega), if_pos (by omega)] at h
    rw [up_ne _ _ (by omega), up_ne _ _ e, up_ne _ _ (by omega), up_ne _ _ (by omega), h.1, h.2, if_neg e, if_neg e]
    unfold lk1 lk2
    rw [a₉.1, a₉.2, ax.1, ax.2]
    refine ⟨rfl, ?_⟩
    repeat' split
    all_goals omega
/-- two₉ ages together, of₉ one₉ place₉ -/
def tgF (ag f₉ : Int → Int) : Int → Int := fun z₉ => if (z₉ < 6 ↔ f₉ z₉ < ag z₉) then ag z₉ else f₉ z₉
theorem tg_join {ag g₉ : Int → Int} {dl : Int} {A₉ B₉ : AG₉} (ha₉ : agOK ag B₉) (hg : lvOK g₉ dl A₉) : agOK (tgF ag (fun z₉ => g₉ (12 * dl + z₉))) (aJoin A₉ B₉) := by
  intro z₉ z0 z1
  have a₉ := ha₉ z₉ z0 z1
  have b₉ := hg z₉ z0 z1
  show (if (z₉ < 6 ↔ g₉ (12 * dl + z₉) < ag z₉) then ag z₉ else g₉ (12 * dl + z₉)) = jnMu A₉.1 B₉.1 z₉ ∧ (if (6 + z₉ < 6 ↔ g₉ (12 * dl + (6 + z₉)) < ag (6 + z₉)) then ag (6 + z₉) else g₉ (12 * dl + (6 + z₉))) = jnMa A₉.2 B₉.2 z₉
  unfold jnMu jnMa
  rw [a₉.1, a₉.2, b₉.1, b₉.2]
  constructor
  · by_cases e : A₉.1 z₉ < B₉.1 z₉
    · rw [if_pos (by omega), if_pos e]
    · rw [if_neg (by omega), if_neg e]
  · by_cases e : A₉.2 z₉ < B₉.2 z₉
    · rw [if_neg (by omega), if_neg (by omega)]
    · rw [if_pos (by omega)]
      split <;> omega
theorem tg_same {ag g₉ : Int → Int} {dl : Int} {A₉ B₉ : AG₉} (ha₉ : agOK ag B₉) (hg : lvOK g₉ dl A₉) : (∀ z₉ : Int, 0 ≤ z₉ → z₉ < 12 → tgF ag (fun z₉ => g₉ (12 * dl + z₉)) z₉ = g₉ (12 * dl + z₉)) ↔ aSame A₉ B₉ := by
  have hj := tg_join ha₉ hg
  constructor
  · intro h z₉ z0 z1
    have b₉ := hg z₉ z0 z1
    have q₉ := hj z₉ z0 z1
    rw [h z₉ z0 (by omega), h (6 + z₉) (by omega) (by omega), b₉.1, b₉.2] at q₉
    have q1₉ : A₉.1 z₉ = jnMu A₉.1 B₉.1 z₉ := q₉.1
    have q2₉ : A₉.2 z₉ = jnMa A₉.2 B₉.2 z₉ := q₉.2
    unfold jnMu at q1₉
    unfold jnMa at q2₉
    constructor
    · split at q1₉ <;> omega
    · split at q2₉ <;> omega
  · intro h z₉ z0 z1
    by_cases e : z₉ < 6
    · have q₉ := hj z₉ z0 e
      have s := h z₉ z0 e
      rw [q₉.1, (hg z₉ z0 e).1]
      show jnMu A₉.1 B₉.1 z₉ = A₉.1 z₉
      unfold jnMu
      split <;> omega
    · have q₉ := hj (z₉ - 6) (by omega) (by omega)
      have s := h (z₉ - 6) (by omega) (by omega)
      have g2 := hg (z₉ - 6) (by omega) (by omega)
      rw [show 6 + (z₉ - 6) = z₉ by omega] at q₉ g2
      rw [q₉.2, g2.2]
      show jnMa A₉.2 B₉.2 (z₉ - 6) = A₉.2 (z₉ - 6)
      unfold jnMa
      split <;> omega
theorem agOK.ext {ag ag' : Int → Int} {A₉ : AG₉} (h : agOK ag A₉) (he : ∀ z₉ : Int, 0 ≤ z₉ → z₉ < 12 → ag' z₉ = ag z₉) : agOK ag' A₉ := fun z₉ z0 z1 => by rw [he z₉ (by omega) (by omega), he (6 + z₉) (by omega) (by omega)]; exact h z₉ z0 z1
theorem agOK.rg {ag : Int → Int} {A₉ : AG₉} {v₉ : Int} (h : agOK ag A₉) (hr : rgV v₉ A₉) : ∀ z₉ : Int, 0 ≤ z₉ → z₉ < 12 → 0 ≤ ag z₉ ∧ ag z₉ ≤ v₉ := fun z₉ z0 z1 => by
  by_cases e : z₉ < 6
  · have a₉ := h z₉ z0 e
    have b₉ := hr z₉ z0 e
    omega
  · have a₉ := h (z₉ - 6) (by omega) (by omega)
    have b₉ := hr (z₉ - 6) (by omega) (by omega)
    rw [show 6 + (z₉ - 6) = z₉ by omega] at a₉
    omega
theorem lvOK.rg {g₉ : Int → Int} {dl v₉ : Int} {A₉ : AG₉} (h : lvOK g₉ dl A₉) (hr : rgV v₉ A₉) : ∀ z₉ : Int, 0 ≤ z₉ → z₉ < 12 → 0 ≤ g₉ (12 * dl + z₉) ∧ g₉ (12 * dl + z₉) ≤ v₉ := agOK.rg (ag := fun z₉ => g₉ (12 * dl + z₉)) h hr

set_option maxHeartbeats 4000000 in
set_option maxRecDepth 100000 in
theorem c_X11_looksAt (E : En) (N : Nat) (σ : Nat → va_E) {un sz₉ tl rz hi₉ mi ak rt cn : Int} {nw sn ag ma my : Int → Int} {A₉ : AG₉} (hN₉ : 120 ≤ N) (z101 : σ 94 = mOb E un sz₉ tl rz hi₉ mi ak rt cn) (z102 : σ 95 = ai E 7 nw) (z105 : σ 98 = ai E 80 sn) (z112 : σ 105 = ai E 12 ag) (z115 : σ 108 = ai E 80 ma) (z116 : σ 109 = ai E 80 my) (pp : Int) (hp : 0 ≤ pp ∧ pp < 80) (hc₉ : 97 ≤ sn pp ∧ sn pp ≤ 102) (hv : 1 ≤ nw 4 ∧ nw 4 ≤ 3) (hag : agOK ag A₉) (hrv : rgV (nw 4) A₉) : CV E M_X11_looksAt 1 [vr E 94, vi pp] N σ (fun σ' => ∃ ag', σ' 105 = ai E 12 ag' ∧ agOK ag' (aLook (nw 4) (sn pp) A₉) ∧ σ' 108 = ai E 80 (up ma pp (A₉.1 (sn pp - 97))) ∧ σ' 109 = ai E 80 (up my pp (A₉.2 (sn pp - 97))) ∧ ∀ q₉, (q₉ ≠ 105 ∧ q₉ ≠ 108 ∧ q₉ ≠ 109) → σ' q₉ = σ q₉) := by
  refine CT.of2 (own := RX11) (by decide) rfl (Nat.le_of_ble_eq_true rfl) ?_
  intro p e R s m args below meth c Q hF hr hlk hnm hz hR hQ
  have hrg := hag.rg hrv
  have ax := hag (sn pp - 97) (by omega) (by omega)
  have rx₉ := hrg (sn pp - 97) (by omega) (by omega)
  have ry := hrg (6 + (sn pp - 97)) (by omega) (by omega)
  refine go_aload_n (pc := 0) hF dX11_looksAt_0 0 rfl ?_
  refine go_get (pc := 1) hF fl_X11_19 dX11_looksAt_1 (by omega) z101 rfl ?_
  refine go_iload_n (pc := 4) hF dX11_looksAt_4 1 rfl ?_
  refine go_iald (pc := 5) hF dX11_looksAt_5 (by omega) z105 (by omega)  ?_
  refine go_bipush (pc := 6) hF dX11_looksAt_6 (by decide) ?_
  refine go_isub (pc := 8) hF dX11_looksAt_8 ?_
  refine go_istore_n (pc := 9) hF [(2, vi ((sn pp) - 97)), (0, vr E 94), (1, vi pp)] dX11_looksAt_9 rfl (by decide) ?_
  refine go_aload_n (pc := 10) hF dX11_looksAt_10 1 rfl ?_
  refine go_get (pc := 11) hF fl_X11_41 dX11_looksAt_11 (by omega) z101 rfl ?_
  refine go_iload_n (pc := 14) hF dX11_looksAt_14 0 rfl ?_
  refine go_iald (pc := 15) hF dX11_looksAt_15 (by omega) z112 (by omega)  ?_
  refine go_istore_n (pc := 16) hF [(3, vi (ag ((sn pp) - 97))), (2, vi ((sn pp) - 97)), (0, vr E 94), (1, vi pp)] dX11_looksAt_16 rfl (by decide) ?_
  refine go_aload_n (pc := 17) hF dX11_looksAt_17 2 rfl ?_
  refine go_get (pc := 18) hF fl_X11_41 dX11_looksAt_18 (by omega) z101 rfl ?_
  refine go_bipush (pc := 21) hF dX11_looksAt_21 (by decide) ?_
  refine go_iload_n (pc := 23) hF dX11_looksAt_23 1 rfl ?_
  refine go_iadd (pc := 24) hF dX11_looksAt_24 ?_
  refine go_iald (pc := 25) hF dX11_looksAt_25 (by omega) z112 (by omega)  ?_
  refine go_istore (pc := 26) hF [(4, vi (ag (6 + ((sn pp) - 97)))), (3, vi (ag ((sn pp) - 97))), (2, vi ((sn pp) - 97)), (0, vr E 94), (1, vi pp)] dX11_looksAt_26 rfl (by decide) ?_
  refine go_aload_n (pc := 28) hF dX11_looksAt_28 3 rfl ?_
  refine go_get (pc := 29) hF fl_X11_7 dX11_looksAt_29 (by omega) z101 rfl ?_
  refine go_iconst (pc := 32) hF dX11_looksAt_32 ?_
  refine go_iald (pc := 33) hF dX11_looksAt_33 (by omega) z102 (by omega)  ?_
  refine go_istore (pc := 34) hF [(5, vi (nw 4)), (4, vi (ag (6 + ((sn pp) - 97)))), (3, vi (ag ((sn pp) - 97))), (2, vi ((sn pp) - 97)), (0, vr E 94), (1, vi pp)] dX11_looksAt_34 rfl (by decide) ?_
  refine go_aload_n (pc := 36) hF dX11_looksAt_36 4 rfl ?_
  refine go_get (pc := 37) hF fl_X11_50 dX11_looksAt_37 (by omega) z101 rfl ?_
  refine go_iload_n (pc := 40) hF dX11_looksAt_40 5 rfl ?_
  refine go_iload_n (pc := 41) hF dX11_looksAt_41 2 rfl ?_
  refine go_iast (pc := 42) hF dX11_looksAt_42 (by omega) z115 (by omega) (fun s1₉ u_s1 f_s1 => ?_)
  have x_s1 := (f_s1 94 (by omega)).trans z101
  have nw_s1 := (f_s1 95 (by omega)).trans z102
  have sn_s1 := (f_s1 98 (by omega)).trans z105
  have ag_s1 := (f_s1 105 (by omega)).trans z112
  have my_s1 := (f_s1 109 (by omega)).trans z116
  refine go_aload_n (pc := 43) hF dX11_looksAt_43 4 rfl ?_
  refine go_get (pc := 44) hF fl_X11_53 dX11_looksAt_44 (by omega) x_s1 rfl ?_
  refine go_iload_n (pc := 47) hF dX11_looksAt_47 5 rfl ?_
  refine go_iload (pc := 48) hF dX11_looksAt_48 1 rfl ?_
  refine go_iast (pc := 50) hF dX11_looksAt_50 (by omega) my_s1 (by omega) (fun s2₉ u_s2 f_s2 => ?_)
  have x_s2 := (f_s2 94 (by omega)).trans x_s1
  have nw_s2 := (f_s2 95 (by omega)).trans nw_s1
  have sn_s2 := (f_s2 98 (by omega)).trans sn_s1
  have ag_s2 := (f_s2 105 (by omega)).trans ag_s1
  have ma_s2 := (f_s2 108 (by omega)).trans u_s1
  refine go_iconst (pc := 51) hF dX11_looksAt_51 ?_
  refine go_istore (pc := 52) hF [(6, vi 0), (5, vi (nw 4)), (4, vi (ag (6 + ((sn pp) - 97)))), (3, vi (ag ((sn pp) - 97))), (2, vi ((sn pp) - 97)), (0, vr E 94), (1, vi pp)] dX11_looksAt_52 rfl (by decide) ?_
  have loop₉ : ∀ (n₉ : Nat) (j₉ : Nat) (g₉ : Int → Int) (τ : Nat → va_E), j₉ + n₉ = 8 → (j₉ : Int) ≤ 6 → lkI ag g₉ (sn pp - 97) (nw 4) (j₉ : Int) → τ 105 = ai E 12 g₉ → (∀ jj : Nat, jj ≠ 105 → τ jj = s2₉ jj) → Go E p e R s m args below meth c Q 8 (0, 0) N τ [(6, vi (j₉ : Int)), (5, vi (nw 4)), (4, vi (ag (6 + (sn pp - 97)))), (3, vi (ag (sn pp - 97))), (2, vi (sn pp - 97)), (0, vr E 94), (1, vi pp)] [] 54 := by
    intro n₉
    induction n₉ with
    | zero => intro j₉ g₉ τ hfu hj hg c_ag_loop fr_loop; exfalso; omega
    | succ n₉ ih₉ =>
      intro j₉ g₉ τ hfu hj hg c_ag_loop fr_loop
      have x_loop := (fr_loop 94 (by omega)).trans x_s2
      have nw_loop := (fr_loop 95 (by omega)).trans nw_s2
      have sn_loop := (fr_loop 98 (by omega)).trans sn_s2
      have ma_loop := (fr_loop 108 (by omega)).trans ma_s2
      have my_loop := (fr_loop 109 (by omega)).trans u_s2
      refine go_iload (pc := 54) hF dX11_looksAt_54 0 rfl ?_
      refine go_bipush (pc := 56) hF dX11_looksAt_56 (by decide) ?_
      refine go_icmp_ge (pc := 58) hF 159 dX11_looksAt_58 (by decide) (by omega) ⟨by decide, by decide⟩ (fun bq58 => ?_) (fun bq58 => ?_)
      · refine go_aload_n (pc := 159) hF dX11_looksAt_159 5 rfl ?_
        refine go_get (pc := 160) hF fl_X11_41 dX11_looksAt_160 (by omega) x_loop rfl ?_
        refine go_iload_n (pc := 163) hF dX11_looksAt_163 4 rfl ?_
        refine go_iconst (pc := 164) hF dX11_looksAt_164 ?_
        refine go_iast (pc := 165) hF dX11_looksAt_165 (by omega) c_ag_loop (by omega) (fun s3₉ u_s3 f_s3 => ?_)
        have x_s3 := (f_s3 94 (by omega)).trans x_loop
        have nw_s3 := (f_s3 95 (by omega)).trans nw_loop
        have sn_s3 := (f_s3 98 (by omega)).trans sn_loop
        have ma_s3 := (f_s3 108 (by omega)).trans ma_loop
        have my_s3 := (f_s3 109 (by omega)).trans my_loop
        refine go_aload_n (pc := 166) hF dX11_looksAt_166 5 rfl ?_
        refine go_get (pc := 167) hF fl_X11_41 dX11_looksAt_167 (by omega) x_s3 rfl ?_
        refine go_bipush (pc := 170) hF dX11_looksAt_170 (by decide) ?_
        refine go_iload_n (pc := 172) hF dX11_looksAt_172 4 rfl ?_
        refine go_iadd (pc := 173) hF dX11_looksAt_173 ?_
        refine go_iconst (pc := 174) hF dX11_looksAt_174 ?_
        refine go_iast (pc := 175) hF dX11_looksAt_175 (by omega) u_s3 (by omega) (fun s4₉ u_s4 f_s4 => ?_)
        have x_s4 := (f_s4 94 (by omega)).trans x_s3
        have nw_s4 := (f_s4 95 (by omega)).trans nw_s3
        have sn_s4 := (f_s4 98 (by omega)).trans sn_s3
        have ma_s4 := (f_s4 108 (by omega)).trans ma_s3
        have my_s4 := (f_s4 109 (by omega)).trans my_s3
        have ej : j₉ = 6 := by omega
        subst ej
        exact go_vretQ hF hr hlk hQ dX11_looksAt_176 ⟨_, u_s4, lkI_end hg hag hrv hc₉, by rw [← ax.1]; exact ma_s4, by rw [← ax.2]; exact my_s4, (fun jj hjj => by rw [f_s4 jj (by omega), f_s3 jj (by omega), fr_loop jj (by omega), f_s2 jj (by omega), f_s1 jj (by omega)])⟩
      · refine go_iload (pc := 61) hF dX11_looksAt_61 0 rfl ?_
        refine go_iload_n (pc := 63) hF dX11_looksAt_63 4 rfl ?_
        refine go_icmp_eq (pc := 64) hF 153 dX11_looksAt_64 (by decide) (by omega) (by omega) (fun bq64 => ?_) (fun bq64 => ?_)
        · refine go_iinc (pc := 153) hF [(6, vi ((j₉ : Int) + 1)), (5, vi (nw 4)), (4, vi (ag (6 + (sn pp - 97)))), (3, vi (ag (sn pp - 97))), (2, vi (sn pp - 97)), (0, vr E 94), (1, vi pp)] dX11_looksAt_153 0 rfl rfl (by decide) ?_
          refine go_goto (pc := 156) hF 54 dX11_looksAt_156 (by decide) ?_
          exact ih₉ (j₉ + 1) _ τ (by omega) (by omega) (lkI_skip hg (by omega)) c_ag_loop (fun jj hjj => by rw [fr_loop jj (by omega)])
        · have gj : g₉ (j₉ : Int) = ag j₉ ∧ g₉ (6 + (j₉ : Int)) = ag (6 + j₉) := by have q₉ := hg j₉ (by omega) (by omega); rw [if_neg (by omega), if_neg (by omega)] at q₉; exact q₉
          have rj := hrg j₉ (by omega) (by omega)
          have rk := hrg (6 + j₉) (by omega) (by omega)
          refine go_aload_n (pc := 67) hF dX11_looksAt_67 5 rfl ?_
          refine go_get (pc := 68) hF fl_X11_41 dX11_looksAt_68 (by omega) x_loop rfl ?_
          refine go_iload (pc := 71) hF dX11_looksAt_71 0 rfl ?_
          refine go_dup2 (pc := 73) hF dX11_looksAt_73 rfl rfl ?_
          refine go_iald (pc := 74) hF dX11_looksAt_74 (by omega) c_ag_loop (by omega)  ?_
          refine go_aload_n (pc := 75) hF dX11_looksAt_75 5 rfl ?_
          refine go_get (pc := 76) hF fl_X11_41 dX11_looksAt_76 (by omega) x_loop rfl ?_
          refine go_iload (pc := 79) hF dX11_looksAt_79 0 rfl ?_
          refine go_iald (pc := 81) hF dX11_looksAt_81 (by omega) c_ag_loop (by omega)  ?_
          refine go_iload_n (pc := 82) hF dX11_looksAt_82 3 rfl ?_
          refine go_icmp_ge (pc := 83) hF 90 dX11_looksAt_83 (by decide) (by omega) (by omega) (fun bq83 => ?_) (fun bq83 => ?_)
          · refine go_iconst (pc := 90) hF dX11_looksAt_90 ?_
            refine go_iadd (pc := 91) hF dX11_looksAt_91 ?_
            refine go_iast (pc := 92) hF dX11_looksAt_92 (by omega) c_ag_loop (by omega) (fun s5 u_s5 f_s5 => ?_)
            have x_s5 := (f_s5 94 (by omega)).trans x_loop
            have nw_s5 := (f_s5 95 (by omega)).trans nw_loop
            have sn_s5 := (f_s5 98 (by omega)).trans sn_loop
            have ma_s5 := (f_s5 108 (by omega)).trans ma_loop
            have my_s5 := (f_s5 109 (by omega)).trans my_loop
            refine go_aload_n (pc := 93) hF dX11_looksAt_93 5 rfl ?_
            refine go_get (pc := 94) hF fl_X11_41 dX11_looksAt_94 (by omega) x_s5 rfl ?_
            refine go_bipush (pc := 97) hF dX11_looksAt_97 (by decide) ?_
            refine go_iload (pc := 99) hF dX11_looksAt_99 0 rfl ?_
            refine go_iadd (pc := 101) hF dX11_looksAt_101 ?_
            refine go_iald (pc := 102) hF dX11_looksAt_102 (by omega) u_s5 (by omega)  ?_
            rw [up_ne _ _ (by omega)]
            refine go_iload (pc := 103) hF dX11_looksAt_103 2 rfl ?_
            refine go_icmp_gt (pc := 105) hF 127 dX11_looksAt_105 (by decide) (by omega) (by omega) (fun bq105 => ?_) (fun bq105 => ?_)
            · refine go_iconst (pc := 127) hF dX11_looksAt_127 ?_
              refine go_istore (pc := 128) hF [(7, vi 0), (6, vi (j₉ : Int)), (5, vi (nw 4)), (4, vi (ag (6 + (sn pp - 97)))), (3, vi (ag (sn pp - 97))), (2, vi (sn pp - 97)), (0, vr E 94), (1, vi pp)] dX11_looksAt_128 rfl (by decide) ?_
              refine go_aload_n (pc := 130) hF dX11_looksAt_130 6 rfl ?_
              refine go_get (pc := 131) hF fl_X11_41 dX11_looksAt_131 (by omega) x_s5 rfl ?_
              refine go_bipush (pc := 134) hF dX11_looksAt_134 (by decide) ?_
              refine go_iload (pc := 136) hF dX11_looksAt_136 1 rfl ?_
              refine go_iadd (pc := 138) hF dX11_looksAt_138 ?_
              refine go_dup2 (pc := 139) hF dX11_looksAt_139 rfl rfl ?_
              refine go_iald (pc := 140) hF dX11_looksAt_140 (by omega) u_s5 (by omega)  ?_
              rw [up_ne _ _ (by omega)]
              refine go_iload (pc := 141) hF dX11_looksAt_141 0 rfl ?_
              refine go_if_eq (pc := 143) hF 150 dX11_looksAt_143 (by decide) ⟨by decide, by decide⟩ (fun bq143 => ?_) (fun bq143 => ?_)
              · refine go_iconst (pc := 150) hF dX11_looksAt_150 ?_
                refine go_iadd (pc := 151) hF dX11_looksAt_151 ?_
                refine go_iast (pc := 152) hF dX11_looksAt_152 (by omega) u_s5 (by omega) (fun s6₉ u_s6 f_s6 => ?_)
                have x_s6 := (f_s6 94 (by omega)).trans x_s5
                have nw_s6 := (f_s6 95 (by omega)).trans nw_s5
                have sn_s6 := (f_s6 98 (by omega)).trans sn_s5
                have ma_s6 := (f_s6 108 (by omega)).trans ma_s5
                have my_s6 := (f_s6 109 (by omega)).trans my_s5
                refine go_iinc (pc := 153) hF [(6, vi ((j₉ : Int) + 1)), (7, vi 0), (5, vi (nw 4)), (4, vi (ag (6 + (sn pp - 97)))), (3, vi (ag (sn pp - 97))), (2, vi (sn pp - 97)), (0, vr E 94), (1, vi pp)] dX11_looksAt_153 1 rfl rfl (by decide) ?_
                refine go_goto (pc := 156) hF 54 dX11_looksAt_156 (by decide) ?_
                refine go_lv [(6, vi ((j₉ : Int) + 1)), (5, vi (nw 4)), (4, vi (ag (6 + (sn pp - 97)))), (3, vi (ag (sn pp - 97))), (2, vi (sn pp - 97)), (0, vr E 94), (1, vi pp)] [0, 2, 3, 4, 5, 6, 7] rfl ?_
                exact ih₉ (j₉ + 1) _ s6₉ (by omega) (by omega) (lkI_step hg (by omega) (by omega) (by rw [gj.1]; rw [Int.add_zero]; exact (if_neg (by omega)).symm) (by rw [gj.2]; rw [Int.add_zero]; exact (if_neg (by omega)).symm)) u_s6 (fun jj hjj => by rw [f_s6 jj (by omega), f_s5 jj (by omega), fr_loop jj (by omega)])
              · exact absurd bq143 (by decide)
            · refine go_aload_n (pc := 108) hF dX11_looksAt_108 5 rfl ?_
              refine go_get (pc := 109) hF fl_X11_41 dX11_looksAt_109 (by omega) x_s5 rfl ?_
              refine go_bipush (pc := 112) hF dX11_looksAt_112 (by decide) ?_
              refine go_iload (pc := 114) hF dX11_looksAt_114 0 rfl ?_
              refine go_iadd (pc := 116) hF dX11_looksAt_116 ?_
              refine go_iald (pc := 117) hF dX11_looksAt_117 (by omega) u_s5 (by omega)  ?_
              rw [up_ne _ _ (by omega)]
              refine go_iload (pc := 118) hF dX11_looksAt_118 1 rfl ?_
              refine go_icmp_ge (pc := 120) hF 127 dX11_looksAt_120 (by decide) (by omega) (by omega) (fun bq120 => ?_) (fun bq120 => ?_)
              · refine go_iconst (pc := 127) hF dX11_looksAt_127 ?_
                refine go_istore (pc := 128) hF [(7, vi 0), (6, vi (j₉ : Int)), (5, vi (nw 4)), (4, vi (ag (6 + (sn pp - 97)))), (3, vi (ag (sn pp - 97))), (2, vi (sn pp - 97)), (0, vr E 94), (1, vi pp)] dX11_looksAt_128 rfl (by decide) ?_
                refine go_aload_n (pc := 130) hF dX11_looksAt_130 6 rfl ?_
                refine go_get (pc := 131) hF fl_X11_41 dX11_looksAt_131 (by omega) x_s5 rfl ?_
                refine go_bipush (pc := 134) hF dX11_looksAt_134 (by decide) ?_
                refine go_iload (pc := 136) hF dX11_looksAt_136 1 rfl ?_
                refine go_iadd (pc := 138) hF dX11_looksAt_138 ?_
                refine go_dup2 (pc := 139) hF dX11_looksAt_139 rfl rfl ?_
                refine go_iald (pc := 140) hF dX11_looksAt_140 (by omega) u_s5 (by omega)  ?_
                rw [up_ne _ _ (by omega)]
                refine go_iload (pc := 141) hF dX11_looksAt_141 0 rfl ?_
                refine go_if_eq (pc := 143) hF 150 dX11_looksAt_143 (by decide) ⟨by decide, by decide⟩ (fun bq143 => ?_) (fun bq143 => ?_)
                · refine go_iconst (pc := 150) hF dX11_looksAt_150 ?_
                  refine go_iadd (pc := 151) hF dX11_looksAt_151 ?_
                  refine go_iast (pc := 152) hF dX11_looksAt_152 (by omega) u_s5 (by omega) (fun s7 u_s7 f_s7 => ?_)
                  have x_s7 := (f_s7 94 (by omega)).trans x_s5
                  have nw_s7 := (f_s7 95 (by omega)).trans nw_s5
                  have sn_s7 := (f_s7 98 (by omega)).trans sn_s5
                  have ma_s7 := (f_s7 108 (by omega)).trans ma_s5
                  have my_s7 := (f_s7 109 (by omega)).trans my_s5
                  refine go_iinc (pc := 153) hF [(6, vi ((j₉ : Int) + 1)), (7, vi 0), (5, vi (nw 4)), (4, vi (ag (6 + (sn pp - 97)))), (3, vi (ag (sn pp - 97))), (2, vi (sn pp - 97)), (0, vr E 94), (1, vi pp)] dX11_looksAt_153 1 rfl rfl (by decide) ?_
                  refine go_goto (pc := 156) hF 54 dX11_looksAt_156 (by decide) ?_
                  refine go_lv [(6, vi ((j₉ : Int) + 1)), (5, vi (nw 4)), (4, vi (ag (6 + (sn pp - 97)))), (3, vi (ag (sn pp - 97))), (2, vi (sn pp - 97)), (0, vr E 94), (1, vi pp)] [0, 2, 3, 4, 5, 6, 7] rfl ?_
                  exact ih₉ (j₉ + 1) _ s7 (by omega) (by omega) (lkI_step hg (by omega) (by omega) (by rw [gj.1]; rw [Int.add_zero]; exact (if_neg (by omega)).symm) (by rw [gj.2]; rw [Int.add_zero]; exact (if_neg (by omega)).symm)) u_s7 (fun jj hjj => by rw [f_s7 jj (by omega), f_s5 jj (by omega), fr_loop jj (by omega)])
                · exact absurd bq143 (by decide)
              · refine go_iconst (pc := 123) hF dX11_looksAt_123 ?_
                refine go_goto (pc := 124) hF 128 dX11_looksAt_124 (by decide) ?_
                refine go_istore (pc := 128) hF [(7, vi 1), (6, vi (j₉ : Int)), (5, vi (nw 4)), (4, vi (ag (6 + (sn pp - 97)))), (3, vi (ag (sn pp - 97))), (2, vi (sn pp - 97)), (0, vr E 94), (1, vi pp)] dX11_looksAt_128 rfl (by decide) ?_
                refine go_aload_n (pc := 130) hF dX11_looksAt_130 6 rfl ?_
                refine go_get (pc := 131) hF fl_X11_41 dX11_looksAt_131 (by omega) x_s5 rfl ?_
                refine go_bipush (pc := 134) hF dX11_looksAt_134 (by decide) ?_
                refine go_iload (pc := 136) hF dX11_looksAt_136 1 rfl ?_
                refine go_iadd (pc := 138) hF dX11_looksAt_138 ?_
                refine go_dup2 (pc := 139) hF dX11_looksAt_139 rfl rfl ?_
                refine go_iald (pc := 140) hF dX11_looksAt_140 (by omega) u_s5 (by omega)  ?_
                rw [up_ne _ _ (by omega)]
                refine go_iload (pc := 141) hF dX11_looksAt_141 0 rfl ?_
                refine go_if_eq (pc := 143) hF 150 dX11_looksAt_143 (by decide) ⟨by decide, by decide⟩ (fun bq143 => ?_) (fun bq143 => ?_)
                · exact absurd bq143 (by decide)
                · refine go_iconst (pc := 146) hF dX11_looksAt_146 ?_
                  refine go_goto (pc := 147) hF 151 dX11_looksAt_147 (by decide) ?_
                  refine go_iadd (pc := 151) hF dX11_looksAt_151 ?_
                  refine go_iast (pc := 152) hF dX11_looksAt_152 (by omega) u_s5 (by omega) (fun s8 u_s8 f_s8 => ?_)
                  have x_s8 := (f_s8 94 (by omega)).trans x_s5
                  have nw_s8 := (f_s8 95 (by omega)).trans nw_s5
                  have sn_s8 := (f_s8 98 (by omega)).trans sn_s5
                  have ma_s8 := (f_s8 108 (by omega)).trans ma_s5
                  have my_s8 := (f_s8 109 (by omega)).trans my_s5
                  refine go_iinc (pc := 153) hF [(6, vi ((j₉ : Int) + 1)), (7, vi 1), (5, vi (nw 4)), (4, vi (ag (6 + (sn pp - 97)))), (3, vi (ag (sn pp - 97))), (2, vi (sn pp - 97)), (0, vr E 94), (1, vi pp)] dX11_looksAt_153 1 rfl rfl (by decide) ?_
                  refine go_goto (pc := 156) hF 54 dX11_looksAt_156 (by decide) ?_
                  refine go_lv [(6, vi ((j₉ : Int) + 1)), (5, vi (nw 4)), (4, vi (ag (6 + (sn pp - 97)))), (3, vi (ag (sn pp - 97))), (2, vi (sn pp - 97)), (0, vr E 94), (1, vi pp)] [0, 2, 3, 4, 5, 6, 7] rfl ?_
                  exact ih₉ (j₉ + 1) _ s8 (by omega) (by omega) (lkI_step hg (by omega) (by omega) (by rw [gj.1]; rw [Int.add_zero]; exact (if_neg (by omega)).symm) (by rw [gj.2]; exact (if_pos (by omega)).symm)) u_s8 (fun jj hjj => by rw [f_s8 jj (by omega), f_s5 jj (by omega), fr_loop jj (by omega)])
          · refine go_iconst (pc := 86) hF dX11_looksAt_86 ?_
            refine go_goto (pc := 87) hF 91 dX11_looksAt_87 (by decide) ?_
            refine go_iadd (pc := 91) hF dX11_looksAt_91 ?_
            refine go_iast (pc := 92) hF dX11_looksAt_92 (by omega) c_ag_loop (by omega) (fun s9 u_s9 f_s9 => ?_)
            have x_s9 := (f_s9 94 (by omega)).trans x_loop
            have nw_s9 := (f_s9 95 (by omega)).trans nw_loop
            have sn_s9 := (f_s9 98 (by omega)).trans sn_loop
            have ma_s9 := (f_s9 108 (by omega)).trans ma_loop
            have my_s9 := (f_s9 109 (by omega)).trans my_loop
            refine go_aload_n (pc := 93) hF dX11_looksAt_93 5 rfl ?_
            refine go_get (pc := 94) hF fl_X11_41 dX11_looksAt_94 (by omega) x_s9 rfl ?_
            refine go_bipush (pc := 97) hF dX11_looksAt_97 (by decide) ?_
            refine go_iload (pc := 99) hF dX11_looksAt_99 0 rfl ?_
            refine go_iadd (pc := 101) hF dX11_looksAt_101 ?_
            refine go_iald (pc := 102) hF dX11_looksAt_102 (by omega) u_s9 (by omega)  ?_
            rw [up_ne _ _ (by omega)]
            refine go_iload (pc := 103) hF dX11_looksAt_103 2 rfl ?_
            refine go_icmp_gt (pc := 105) hF 127 dX11_looksAt_105 (by decide) (by omega) (by omega) (fun bq105 => ?_) (fun bq105 => ?_)
            · refine go_iconst (pc := 127) hF dX11_looksAt_127 ?_
              refine go_istore (pc := 128) hF [(7, vi 0), (6, vi (j₉ : Int)), (5, vi (nw 4)), (4, vi (ag (6 + (sn pp - 97)))), (3, vi (ag (sn pp - 97))), (2, vi (sn pp - 97)), (0, vr E 94), (1, vi pp)] dX11_looksAt_128 rfl (by decide) ?_
              refine go_aload_n (pc := 130) hF dX11_looksAt_130 6 rfl ?_
              refine go_get (pc := 131) hF fl_X11_41 dX11_looksAt_131 (by omega) x_s9 rfl ?_
              refine go_bipush (pc := 134) hF dX11_looksAt_134 (by decide) ?_
              refine go_iload (pc := 136) hF dX11_looksAt_136 1 rfl ?_
              refine go_iadd (pc := 138) hF dX11_looksAt_138 ?_
              refine go_dup2 (pc := 139) hF dX11_looksAt_139 rfl rfl ?_
              refine go_iald (pc := 140) hF dX11_looksAt_140 (by omega) u_s9 (by omega)  ?_
              rw [up_ne _ _ (by omega)]
              refine go_iload (pc := 141) hF dX11_looksAt_141 0 rfl ?_
              refine go_if_eq (pc := 143) hF 150 dX11_looksAt_143 (by decide) ⟨by decide, by decide⟩ (fun bq143 => ?_) (fun bq143 => ?_)
              · refine go_iconst (pc := 150) hF dX11_looksAt_150 ?_
                refine go_iadd (pc := 151) hF dX11_looksAt_151 ?_
                refine go_iast (pc := 152) hF dX11_looksAt_152 (by omega) u_s9 (by omega) (fun s10 u_s10 f_s10 => ?_)
                have x_s10 := (f_s10 94 (by omega)).trans x_s9
                have nw_s10 := (f_s10 95 (by omega)).trans nw_s9
                have sn_s10 := (f_s10 98 (by omega)).trans sn_s9
                have ma_s10 := (f_s10 108 (by omega)).trans ma_s9
                have my_s10 := (f_s10 109 (by omega)).trans my_s9
                refine go_iinc (pc := 153) hF [(6, vi ((j₉ : Int) + 1)), (7, vi 0), (5, vi (nw 4)), (4, vi (ag (6 + (sn pp - 97)))), (3, vi (ag (sn pp - 97))), (2, vi (sn pp - 97)), (0, vr E 94), (1, vi pp)] dX11_looksAt_153 1 rfl rfl (by decide) ?_
                refine go_goto (pc := 156) hF 54 dX11_looksAt_156 (by decide) ?_
                refine go_lv [(6, vi ((j₉ : Int) + 1)), (5, vi (nw 4)), (4, vi (ag (6 + (sn pp - 97)))), (3, vi (ag (sn pp - 97))), (2, vi (sn pp - 97)), (0, vr E 94), (1, vi pp)] [0, 2, 3, 4, 5, 6, 7] rfl ?_
                exact ih₉ (j₉ + 1) _ s10 (by omega) (by omega) (lkI_step hg (by omega) (by omega) (by rw [gj.1]; exact (if_pos (by omega)).symm) (by rw [gj.2]; rw [Int.add_zero]; exact (if_neg (by omega)).symm)) u_s10 (fun jj hjj => by rw [f_s10 jj (by omega), f_s9 jj (by omega), fr_loop jj (by omega)])
              · exact absurd bq143 (by decide)
            · refine go_aload_n (pc := 108) hF dX11_looksAt_108 5 rfl ?_
              refine go_get (pc := 109) hF fl_X11_41 dX11_looksAt_109 (by omega) x_s9 rfl ?_
              refine go_bipush (pc := 112) hF dX11_looksAt_112 (by decide) ?_
              refine go_iload (pc := 114) hF dX11_looksAt_114 0 rfl ?_
              refine go_iadd (pc := 116) hF dX11_looksAt_116 ?_
              refine go_iald (pc := 117) hF dX11_looksAt_117 (by omega) u_s9 (by omega)  ?_
              rw [up_ne _ _ (by omega)]
              refine go_iload (pc := 118) hF dX11_looksAt_118 1 rfl ?_
              refine go_icmp_ge (pc := 120) hF 127 dX11_looksAt_120 (by decide) (by omega) (by omega) (fun bq120 => ?_) (fun bq120 => ?_)
              · refine go_iconst (pc := 127) hF dX11_looksAt_127 ?_
                refine go_istore (pc := 128) hF [(7, vi 0), (6, vi (j₉ : Int)), (5, vi (nw 4)), (4, vi (ag (6 + (sn pp - 97)))), (3, vi (ag (sn pp - 97))), (2, vi (sn pp - 97)), (0, vr E 94), (1, vi pp)] dX11_looksAt_128 rfl (by decide) ?_
                refine go_aload_n (pc := 130) hF dX11_looksAt_130 6 rfl ?_
                refine go_get (pc := 131) hF fl_X11_41 dX11_looksAt_131 (by omega) x_s9 rfl ?_
                refine go_bipush (pc := 134) hF dX11_looksAt_134 (by decide) ?_
                refine go_iload (pc := 136) hF dX11_looksAt_136 1 rfl ?_
                refine go_iadd (pc := 138) hF dX11_looksAt_138 ?_
                refine go_dup2 (pc := 139) hF dX11_looksAt_139 rfl rfl ?_
                refine go_iald (pc := 140) hF dX11_looksAt_140 (by omega) u_s9 (by omega)  ?_
                rw [up_ne _ _ (by omega)]
                refine go_iload (pc := 141) hF dX11_looksAt_141 0 rfl ?_
                refine go_if_eq (pc := 143) hF 150 dX11_looksAt_143 (by decide) ⟨by decide, by decide⟩ (fun bq143 => ?_) (fun bq143 => ?_)
                · refine go_iconst (pc := 150) hF dX11_looksAt_150 ?_
                  refine go_iadd (pc := 151) hF dX11_looksAt_151 ?_
                  refine go_iast (pc := 152) hF dX11_looksAt_152 (by omega) u_s9 (by omega) (fun s11 u_s11 f_s11 => ?_)
                  have x_s11 := (f_s11 94 (by omega)).trans x_s9
                  have nw_s11 := (f_s11 95 (by omega)).trans nw_s9
                  have sn_s11 := (f_s11 98 (by omega)).trans sn_s9
                  have ma_s11 := (f_s11 108 (by omega)).trans ma_s9
                  have my_s11 := (f_s11 109 (by omega)).trans my_s9
                  refine go_iinc (pc := 153) hF [(6, vi ((j₉ : Int) + 1)), (7, vi 0), (5, vi (nw 4)), (4, vi (ag (6 + (sn pp - 97)))), (3, vi (ag (sn pp - 97))), (2, vi (sn pp - 97)), (0, vr E 94), (1, vi pp)] dX11_looksAt_153 1 rfl rfl (by decide) ?_
                  refine go_goto (pc := 156) hF 54 dX11_looksAt_156 (by decide) ?_
                  refine go_lv [(6, vi ((j₉ : Int) + 1)), (5, vi (nw 4)), (4, vi (ag (6 + (sn pp - 97)))), (3, vi (ag (sn pp - 97))), (2, vi (sn pp - 97)), (0, vr E 94), (1, vi pp)] [0, 2, 3, 4, 5, 6, 7] rfl ?_
                  exact ih₉ (j₉ + 1) _ s11 (by omega) (by omega) (lkI_step hg (by omega) (by omega) (by rw [gj.1]; exact (if_pos (by omega)).symm) (by rw [gj.2]; rw [Int.add_zero]; exact (if_neg (by omega)).symm)) u_s11 (fun jj hjj => by rw [f_s11 jj (by omega), f_s9 jj (by omega), fr_loop jj (by omega)])
                · exact absurd bq143 (by decide)
              · refine go_iconst (pc := 123) hF dX11_looksAt_123 ?_
                refine go_goto (pc := 124) hF 128 dX11_looksAt_124 (by decide) ?_
                refine go_istore (pc := 128) hF [(7, vi 1), (6, vi (j₉ : Int)), (5, vi (nw 4)), (4, vi (ag (6 + (sn pp - 97)))), (3, vi (ag (sn pp - 97))), (2, vi (sn pp - 97)), (0, vr E 94), (1, vi pp)] dX11_looksAt_128 rfl (by decide) ?_
                refine go_aload_n (pc := 130) hF dX11_looksAt_130 6 rfl ?_
                refine go_get (pc := 131) hF fl_X11_41 dX11_looksAt_131 (by omega) x_s9 rfl ?_
                refine go_bipush (pc := 134) hF dX11_looksAt_134 (by decide) ?_
                refine go_iload (pc := 136) hF dX11_looksAt_136 1 rfl ?_
                refine go_iadd (pc := 138) hF dX11_looksAt_138 ?_
                refine go_dup2 (pc := 139) hF dX11_looksAt_139 rfl rfl ?_
                refine go_iald (pc := 140) hF dX11_looksAt_140 (by omega) u_s9 (by omega)  ?_
                rw [up_ne _ _ (by omega)]
                refine go_iload (pc := 141) hF dX11_looksAt_141 0 rfl ?_
                refine go_if_eq (pc := 143) hF 150 dX11_looksAt_143 (by decide) ⟨by decide, by decide⟩ (fun bq143 => ?_) (fun bq143 => ?_)
                · exact absurd bq143 (by decide)
                · refine go_iconst (pc := 146) hF dX11_looksAt_146 ?_
                  refine go_goto (pc := 147) hF 151 dX11_looksAt_147 (by decide) ?_
                  refine go_iadd (pc := 151) hF dX11_looksAt_151 ?_
                  refine go_iast (pc := 152) hF dX11_looksAt_152 (by omega) u_s9 (by omega) (fun s12 u_s12 f_s12 => ?_)
                  have x_s12 := (f_s12 94 (by omega)).trans x_s9
                  have nw_s12 := (f_s12 95 (by omega)).trans nw_s9
                  have sn_s12 := (f_s12 98 (by omega)).trans sn_s9
                  have ma_s12 := (f_s12 108 (by omega)).trans ma_s9
                  have my_s12 := (f_s12 109 (by omega)).trans my_s9
                  refine go_iinc (pc := 153) hF [(6, vi ((j₉ : Int) + 1)), (7, vi 1), (5, vi (nw 4)), (4, vi (ag (6 + (sn pp - 97)))), (3, vi (ag (sn pp - 97))), (2, vi (sn pp - 97)), (0, vr E 94), (1, vi pp)] dX11_looksAt_153 1 rfl rfl (by decide) ?_
                  refine go_goto (pc := 156) hF 54 dX11_looksAt_156 (by decide) ?_
                  refine go_lv [(6, vi ((j₉ : Int) + 1)), (5, vi (nw 4)), (4, vi (ag (6 + (sn pp - 97)))), (3, vi (ag (sn pp - 97))), (2, vi (sn pp - 97)), (0, vr E 94), (1, vi pp)] [0, 2, 3, 4, 5, 6, 7] rfl ?_
                  exact ih₉ (j₉ + 1) _ s12 (by omega) (by omega) (lkI_step hg (by omega) (by omega) (by rw [gj.1]; exact (if_pos (by omega)).symm) (by rw [gj.2]; exact (if_pos (by omega)).symm)) u_s12 (fun jj hjj => by rw [f_s12 jj (by omega), f_s9 jj (by omega), fr_loop jj (by omega)])
  exact loop₉ 8 0 ag s2₉ rfl (by omega) (fun z₉ z0 z1 => by rw [if_neg (by omega), if_neg (by omega)]; exact ⟨rfl, rfl⟩) ag_s2 (fun _ _ => rfl)
set_option maxHeartbeats 4000000 in
set_option maxRecDepth 100000 in
theorem c_X11_saves_113 (E : En) (N : Nat) (σ : Nat → va_E) {un sz₉ tl rz hi₉ mi ak rt cn : Int} {ag g₉ : Int → Int} (hN₉ : 120 ≤ N) (z101 : σ 94 = mOb E un sz₉ tl rz hi₉ mi ak rt cn) (z112 : σ 105 = ai E 12 ag) (z113 : σ 106 = ai E 48 g₉) (dl : Int) (hdl : 0 ≤ dl ∧ dl ≤ 3) : CV E M_X11_saves 1 [vr E 94, vr E 106, vi dl] N σ (fun σ' => ∃ g', σ' 106 = ai E 48 g' ∧ (∀ z₉ : Int, 0 ≤ z₉ → z₉ < 12 → g' (12 * dl + z₉) = ag z₉) ∧ (∀ z₉ : Int, 0 ≤ z₉ → z₉ < 48 → (z₉ < 12 * dl ∨ 12 * dl + 12 ≤ z₉) → g' z₉ = g₉ z₉) ∧ ∀ q₉, q₉ ≠ 106 → σ' q₉ = σ q₉) := by
  refine CT.of2 (own := RX11) (by decide) rfl (Nat.le_of_ble_eq_true rfl) ?_
  intro p e R s m args below meth c Q hF hr hlk hnm hz hR hQ
  refine go_iconst (pc := 0) hF dX11_saves_0 ?_
  refine go_istore_n (pc := 1) hF [(3, vi 0), (0, vr E 94), (1, vr E 106), (2, vi dl)] dX11_saves_1 rfl (by decide) ?_
  have loop₉ : ∀ (n₉ : Nat) (j₉ : Nat) (h2 : Int → Int) (τ : Nat → va_E), j₉ + n₉ = 14 → (j₉ : Int) ≤ 12 → (∀ z₉ : Int, 0 ≤ z₉ → z₉ < 48 → h2 z₉ = if 12 * dl ≤ z₉ ∧ z₉ < 12 * dl + (j₉ : Int) then ag (z₉ - 12 * dl) else g₉ z₉) → τ 106 = ai E 48 h2 → (∀ jj : Nat, jj ≠ 106 → τ jj = σ jj) → Go E p e R s m args below meth c Q 4 (0, 0) N τ [(3, vi (j₉ : Int)), (0, vr E 94), (1, vr E 106), (2, vi dl)] [] 2 := by
    intro n₉
    induction n₉ with
    | zero => intro j₉ h2 τ hfu hj hg c_g_loop fr_loop; exfalso; omega
    | succ n₉ ih₉ =>
      intro j₉ h2 τ hfu hj hg c_g_loop fr_loop
      have x_loop := (fr_loop 94 (by omega)).trans z101
      have ag_loop := (fr_loop 105 (by omega)).trans z112
      refine go_iload_n (pc := 2) hF dX11_saves_2 0 rfl ?_
      refine go_bipush (pc := 3) hF dX11_saves_3 (by decide) ?_
      refine go_icmp_ge (pc := 5) hF 28 dX11_saves_5 (by decide) (by omega) ⟨by decide, by decide⟩ (fun bq5 => ?_) (fun bq5 => ?_)
      · have ej : j₉ = 12 := by omega
        subst ej
        exact go_vretQ hF hr hlk hQ dX11_saves_28 ⟨_, c_g_loop, fun z₉ z0 z1 => by rw [hg _ (by omega) (by omega), if_pos (by omega), show 12 * dl + z₉ - 12 * dl = z₉ by omega], fun z₉ z0 z1 z2 => by rw [hg z₉ z0 z1, if_neg (by omega)], (fun jj hjj => by rw [fr_loop jj (by omega)])⟩
      · refine go_aload_n (pc := 8) hF dX11_saves_8 2 rfl ?_
        refine go_bipush (pc := 9) hF dX11_saves_9 (by decide) ?_
        refine go_iload_n (pc := 11) hF dX11_saves_11 3 rfl ?_
        refine go_imul (pc := 12) hF dX11_saves_12 ?_
        refine go_iload_n (pc := 13) hF dX11_saves_13 0 rfl ?_
        refine go_iadd (pc := 14) hF dX11_saves_14 ?_
        refine go_aload_n (pc := 15) hF dX11_saves_15 1 rfl ?_
        refine go_get (pc := 16) hF fl_X11_41 dX11_saves_16 (by omega) x_loop rfl ?_
        refine go_iload_n (pc := 19) hF dX11_saves_19 0 rfl ?_
        refine go_iald (pc := 20) hF dX11_saves_20 (by omega) ag_loop (by omega)  ?_
        refine go_iast (pc := 21) hF dX11_saves_21 (by omega) c_g_loop (by omega) (fun s1₉ u_s1 f_s1 => ?_)
        have x_s1 := (f_s1 94 (by omega)).trans x_loop
        have ag_s1 := (f_s1 105 (by omega)).trans ag_loop
        refine go_iinc (pc := 22) hF [(3, vi ((j₉ : Int) + 1)), (0, vr E 94), (1, vr E 106), (2, vi dl)] dX11_saves_22 0 rfl rfl (by decide) ?_
        refine go_goto (pc := 25) hF 2 dX11_saves_25 (by decide) ?_
        exact ih₉ (j₉ + 1) _ s1₉ (by omega) (by omega) (copy_step hg) u_s1 (fun jj hjj => by rw [f_s1 jj (by omega), fr_loop jj (by omega)])
  exact loop₉ 14 0 g₉ σ rfl (by omega) (fun z₉ z0 z1 => by rw [if_neg (by omega)]) z113 (fun _ _ => rfl)
set_option maxHeartbeats 4000000 in
set_option maxRecDepth 100000 in
theorem c_X11_saves_114 (E : En) (N : Nat) (σ : Nat → va_E) {un sz₉ tl rz hi₉ mi ak rt cn : Int} {ag g₉ : Int → Int} (hN₉ : 120 ≤ N) (z101 : σ 94 = mOb E un sz₉ tl rz hi₉ mi ak rt cn) (z112 : σ 105 = ai E 12 ag) (z114 : σ 107 = ai E 48 g₉) (dl : Int) (hdl : 0 ≤ dl ∧ dl ≤ 3) : CV E M_X11_saves 1 [vr E 94, vr E 107, vi dl] N σ (fun σ' => ∃ g', σ' 107 = ai E 48 g' ∧ (∀ z₉ : Int, 0 ≤ z₉ → z₉ < 12 → g' (12 * dl + z₉) = ag z₉) ∧ (∀ z₉ : Int, 0 ≤ z₉ → z₉ < 48 → (z₉ < 12 * dl ∨ 12 * dl + 12 ≤ z₉) → g' z₉ = g₉ z₉) ∧ ∀ q₉, q₉ ≠ 107 → σ' q₉ = σ q₉) := by
  refine CT.of2 (own := RX11) (by decide) rfl (Nat.le_of_ble_eq_true rfl) ?_
  intro p e R s m args below meth c Q hF hr hlk hnm hz hR hQ
  refine go_iconst (pc := 0) hF dX11_saves_0 ?_
  refine go_istore_n (pc := 1) hF [(3, vi 0), (0, vr E 94), (1, vr E 107), (2, vi dl)] dX11_saves_1 rfl (by decide) ?_
  have loop₉ : ∀ (n₉ : Nat) (j₉ : Nat) (h2 : Int → Int) (τ : Nat → va_E), j₉ + n₉ = 14 → (j₉ : Int) ≤ 12 → (∀ z₉ : Int, 0 ≤ z₉ → z₉ < 48 → h2 z₉ = if 12 * dl ≤ z₉ ∧ z₉ < 12 * dl + (j₉ : Int) then ag (z₉ - 12 * dl) else g₉ z₉) → τ 107 = ai E 48 h2 → (∀ jj : Nat, jj ≠ 107 → τ jj = σ jj) → Go E p e R s m args below meth c Q 4 (0, 0) N τ [(3, vi (j₉ : Int)), (0, vr E 94), (1, vr E 107), (2, vi dl)] [] 2 := by
    intro n₉
    induction n₉ with
    | zero => intro j₉ h2 τ hfu hj hg c_g_loop fr_loop; exfalso; omega
    | succ n₉ ih₉ =>
      intro j₉ h2 τ hfu hj hg c_g_loop fr_loop
      have x_loop := (fr_loop 94 (by omega)).trans z101
      have ag_loop := (fr_loop 105 (by omega)).trans z112
      refine go_iload_n (pc := 2) hF dX11_saves_2 0 rfl ?_
      refine go_bipush (pc := 3) hF dX11_saves_3 (by decide) ?_
      refine go_icmp_ge (pc := 5) hF 28 dX11_saves_5 (by decide) (by omega) ⟨by decide, by decide⟩ (fun bq5 => ?_) (fun bq5 => ?_)
      · have ej : j₉ = 12 := by omega
        subst ej
        exact go_vretQ hF hr hlk hQ dX11_saves_28 ⟨_, c_g_loop, fun z₉ z0 z1 => by rw [hg _ (by omega) (by omega), if_pos (by omega), show 12 * dl + z₉ - 12 * dl = z₉ by omega], fun z₉ z0 z1 z2 => by rw [hg z₉ z0 z1, if_neg (by omega)], (fun jj hjj => by rw [fr_loop jj (by omega)])⟩
      · refine go_aload_n (pc := 8) hF dX11_saves_8 2 rfl ?_
        refine go_bipush (pc := 9) hF dX11_saves_9 (by decide) ?_
        refine go_iload_n (pc := 11) hF dX11_saves_11 3 rfl ?_
        refine go_imul (pc := 12) hF dX11_saves_12 ?_
        refine go_iload_n (pc := 13) hF dX11_saves_13 0 rfl ?_
        refine go_iadd (pc := 14) hF dX11_saves_14 ?_
        refine go_aload_n (pc := 15) hF dX11_saves_15 1 rfl ?_
        refine go_get (pc := 16) hF fl_X11_41 dX11_saves_16 (by omega) x_loop rfl ?_
        refine go_iload_n (pc := 19) hF dX11_saves_19 0 rfl ?_
        refine go_iald (pc := 20) hF dX11_saves_20 (by omega) ag_loop (by omega)  ?_
        refine go_iast (pc := 21) hF dX11_saves_21 (by omega) c_g_loop (by omega) (fun s1₉ u_s1 f_s1 => ?_)
        have x_s1 := (f_s1 94 (by omega)).trans x_loop
        have ag_s1 := (f_s1 105 (by omega)).trans ag_loop
        refine go_iinc (pc := 22) hF [(3, vi ((j₉ : Int) + 1)), (0, vr E 94), (1, vr E 107), (2, vi dl)] dX11_saves_22 0 rfl rfl (by decide) ?_
        refine go_goto (pc := 25) hF 2 dX11_saves_25 (by decide) ?_
        exact ih₉ (j₉ + 1) _ s1₉ (by omega) (by omega) (copy_step hg) u_s1 (fun jj hjj => by rw [f_s1 jj (by omega), fr_loop jj (by omega)])
  exact loop₉ 14 0 g₉ σ rfl (by omega) (fun z₉ z0 z1 => by rw [if_neg (by omega)]) z114 (fun _ _ => rfl)
set_option maxHeartbeats 4000000 in
set_option maxRecDepth 100000 in
theorem c_X11_brings (E : En) (N : Nat) (σ : Nat → va_E) {un sz₉ tl rz hi₉ mi ak rt cn : Int} {ag g₉ : Int → Int} (hN₉ : 120 ≤ N) (z101 : σ 94 = mOb E un sz₉ tl rz hi₉ mi ak rt cn) (z112 : σ 105 = ai E 12 ag) (z113 : σ 106 = ai E 48 g₉) (dl : Int) (hdl : 0 ≤ dl ∧ dl ≤ 3) : CV E M_X11_brings 1 [vr E 94, vr E 106, vi dl] N σ (fun σ' => ∃ g', σ' 105 = ai E 12 g' ∧ (∀ z₉ : Int, 0 ≤ z₉ → z₉ < 12 → g' z₉ = g₉ (12 * dl + z₉)) ∧ ∀ q₉, q₉ ≠ 105 → σ' q₉ = σ q₉) := by
  refine CT.of2 (own := RX11) (by decide) rfl (Nat.le_of_ble_eq_true rfl) ?_
  intro p e R s m args below meth c Q hF hr hlk hnm hz hR hQ
  refine go_iconst (pc := 0) hF dX11_brings_0 ?_
  refine go_istore_n (pc := 1) hF [(3, vi 0), (0, vr E 94), (1, vr E 106), (2, vi dl)] dX11_brings_1 rfl (by decide) ?_
  have loop₉ : ∀ (n₉ : Nat) (j₉ : Nat) (h2 : Int → Int) (τ : Nat → va_E), j₉ + n₉ = 14 → (j₉ : Int) ≤ 12 → (∀ z₉ : Int, 0 ≤ z₉ → z₉ < 12 → h2 z₉ = if z₉ < (j₉ : Int) then (fun z₉ : Int => g₉ (12 * dl + z₉)) z₉ else ag z₉) → τ 105 = ai E 12 h2 → (∀ jj : Nat, jj ≠ 105 → τ jj = σ jj) → Go E p e R s m args below meth c Q 4 (0, 0) N τ [(3, vi (j₉ : Int)), (0, vr E 94), (1, vr E 106), (2, vi dl)] [] 2 := by
    intro n₉
    induction n₉ with
    | zero => intro j₉ h2 τ hfu hj hg c_ag_loop fr_loop; exfalso; omega
    | succ n₉ ih₉ =>
      intro j₉ h2 τ hfu hj hg c_ag_loop fr_loop
      have x_loop := (fr_loop 94 (by omega)).trans z101
      have g_loop := (fr_loop 106 (by omega)).trans z113
      refine go_iload_n (pc := 2) hF dX11_brings_2 0 rfl ?_
      refine go_bipush (pc := 3) hF dX11_brings_3 (by decide) ?_
      refine go_icmp_ge (pc := 5) hF 28 dX11_brings_5 (by decide) (by omega) ⟨by decide, by decide⟩ (fun bq5 => ?_) (fun bq5 => ?_)
      · have ej : j₉ = 12 := by omega
        subst ej
        exact go_vretQ hF hr hlk hQ dX11_brings_28 ⟨_, c_ag_loop, fun z₉ z0 z1 => by rw [hg z₉ z0 z1, if_pos (by omega)], (fun jj hjj => by rw [fr_loop jj (by omega)])⟩
      · refine go_aload_n (pc := 8) hF dX11_brings_8 1 rfl ?_
        refine go_get (pc := 9) hF fl_X11_41 dX11_brings_9 (by omega) x_loop rfl ?_
        refine go_iload_n (pc := 12) hF dX11_brings_12 0 rfl ?_
        refine go_aload_n (pc := 13) hF dX11_brings_13 2 rfl ?_
        refine go_bipush (pc := 14) hF dX11_brings_14 (by decide) ?_
        refine go_iload_n (pc := 16) hF dX11_brings_16 3 rfl ?_
        refine go_imul (pc := 17) hF dX11_brings_17 ?_
        refine go_iload_n (pc := 18) hF dX11_brings_18 0 rfl ?_
        refine go_iadd (pc := 19) hF dX11_brings_19 ?_
        refine go_iald (pc := 20) hF dX11_brings_20 (by omega) g_loop (by omega)  ?_
        refine go_iast (pc := 21) hF dX11_brings_21 (by omega) c_ag_loop (by omega) (fun s1₉ u_s1 f_s1 => ?_)
        have x_s1 := (f_s1 94 (by omega)).trans x_loop
        have g_s1 := (f_s1 106 (by omega)).trans g_loop
        refine go_iinc (pc := 22) hF [(3, vi ((j₉ : Int) + 1)), (0, vr E 94), (1, vr E 106), (2, vi dl)] dX11_brings_22 0 rfl rfl (by decide) ?_
        refine go_goto (pc := 25) hF 2 dX11_brings_25 (by decide) ?_
        exact ih₉ (j₉ + 1) _ s1₉ (by omega) (by omega) (map_step hg rfl) u_s1 (fun jj hjj => by rw [f_s1 jj (by omega), fr_loop jj (by omega)])
  exact loop₉ 14 0 ag σ rfl (by omega) (fun z₉ z0 z1 => by rw [if_neg (by omega)]) z112 (fun _ _ => rfl)
