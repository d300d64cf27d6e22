/-! Explorer: explore. -/
theorem en_okR {w₉ r₉ : Int} (h : vrow w₉ r₉) : okR (en r₉) := by
  rw [okR_iff]
  unfold vrow at h
  have a1₉ : en r₉ % 8 = r₉ % 7 := by unfold en; omega
  have a2 : en r₉ / 8 % 8 = r₉ / 7 % 7 := by unfold en; omega
  have a3 : en r₉ / 64 = r₉ / 49 := by unfold en; omega
  rw [a1₉, a2, a3]
  omega
theorem cB_rg : ∀ t₉, wf t₉ → cB₉ t₉ ≤ 99 * (10 ^ tDep t₉ * tLen t₉) := by
  refine tInd (by simp [cB₉, tLen]) (fun c r₉ hc₉ _ h1 => ?_) (fun a₉ b₉ r₉ _ _ _ h1 h2 h3 => ?_) (fun n₉ a₉ r₉ hn _ _ h1 h2 => ?_)
  · have h2 : 10 ^ tDep r₉ * (1 + tLen r₉) = 10 ^ tDep r₉ + 10 ^ tDep r₉ * tLen r₉ := by rw [Nat.mul_add, Nat.mul_one]
    have h3 : 0 < 10 ^ tDep r₉ := Nat.pow_pos (by decide)
    simp only [cB₉, tLen, tDep]
    rw [h2]
    omega
  · simp only [cB₉, tLen, tDep]
    generalize hd₉ : max (1 + max (tDep a₉) (tDep b₉)) (tDep r₉) = d₉
    have k1₉ := tenB (d₉ := tDep a₉) (d' := d₉) (by omega) (tLen a₉)
    have k2₉ := tenB (d₉ := tDep b₉) (d' := d₉) (by omega) (tLen b₉)
    have k3₉ := tenB (d₉ := tDep r₉) (d' := d₉) (by omega) (tLen r₉)
    have h4 : 10 ^ d₉ * (3 + tLen a₉ + tLen b₉ + tLen r₉) = 10 ^ d₉ * 3 + 10 ^ d₉ * tLen a₉ + 10 ^ d₉ * tLen b₉ + 10 ^ d₉ * tLen r₉ := by rw [Nat.mul_add, Nat.mul_add, Nat.mul_add]
    rw [h4]
    omega
  · simp only [cB₉, tLen, tDep]
    generalize hd₉ : max (1 + tDep a₉) (tDep r₉) = d₉
    have k1₉ := tenB (d₉ := 1 + tDep a₉) (d' := d₉) (by omega) (tLen a₉)
    have k3₉ := tenB (d₉ := tDep r₉) (d' := d₉) (by omega) (tLen r₉)
    have h4 : 10 ^ d₉ * (2 + tLen a₉ + tLen r₉) = 10 ^ d₉ * 2 + 10 ^ d₉ * tLen a₉ + 10 ^ d₉ * tLen r₉ := by rw [Nat.mul_add, Nat.mul_add]
    have h5 : 10 ^ (1 + tDep a₉) * tLen a₉ = 10 * (10 ^ tDep a₉ * tLen a₉) := by rw [Nat.pow_add, Nat.pow_one, Nat.mul_assoc]
    have h7 : n₉ * cB₉ a₉ ≤ 9 * cB₉ a₉ := Nat.mul_le_mul_right _ (by omega)
    rw [h4]
    rw [h5] at k1₉
    omega
theorem cB_max {t₉ : Tr} (hw : wf t₉) (hd₉ : tDep t₉ ≤ 3) (hl : tLen t₉ ≤ 80) : cB₉ t₉ ≤ 7920000 := by
  have h1 := cB_rg t₉ hw
  have h2 := ten3 hd₉ hl
  omega
theorem tAsk_rg : ∀ t₉, wf t₉ → tAsk t₉ ≤ 9 * (10 ^ tDep t₉ * tLen t₉) := by
  refine tInd (by simp [tAsk, tLen]) (fun c r₉ hc₉ _ h1 => ?_) (fun a₉ b₉ r₉ _ _ _ h1 h2 h3 => ?_) (fun n₉ a₉ r₉ hn _ _ h1 h2 => ?_)
  · have h2 : 10 ^ tDep r₉ * (1 + tLen r₉) = 10 ^ tDep r₉ + 10 ^ tDep r₉ * tLen r₉ := by rw [Nat.mul_add, Nat.mul_one]
    have h3 : 0 < 10 ^ tDep r₉ := Nat.pow_pos (by decide)
    simp only [tAsk, tLen, tDep]
    rw [h2]
    omega
  · simp only [tAsk, tLen, tDep]
    generalize hd₉ : max (1 + max (tDep a₉) (tDep b₉)) (tDep r₉) = d₉
    have k1₉ := tenB (d₉ := tDep a₉) (d' := d₉) (by omega) (tLen a₉)
    have k2₉ := tenB (d₉ := tDep b₉) (d' := d₉) (by omega) (tLen b₉)
    have k3₉ := tenB (d₉ := tDep r₉) (d' := d₉) (by omega) (tLen r₉)
    have k4₉ : 0 < 10 ^ d₉ := Nat.pow_pos (by decide)
    have h4 : 10 ^ d₉ * (3 + tLen a₉ + tLen b₉ + tLen r₉) = 10 ^ d₉ * 3 + 10 ^ d₉ * tLen a₉ + 10 ^ d₉ * tLen b₉ + 10 ^ d₉ * tLen r₉ := by rw [Nat.mul_add, Nat.mul_add, Nat.mul_add]
    rw [h4]
    omega
  · simp only [tAsk, tLen, tDep]
    generalize hd₉ : max (1 + tDep a₉) (tDep r₉) = d₉
    have k1₉ := tenB (d₉ := 1 + tDep a₉) (d' := d₉) (by omega) (tLen a₉)
    have k3₉ := tenB (d₉ := tDep r₉) (d' := d₉) (by omega) (tLen r₉)
    have k4₉ : 0 < 10 ^ d₉ := Nat.pow_pos (by decide)
    have h4 : 10 ^ d₉ * (2 + tLen a₉ + tLen r₉) = 10 ^ d₉ * 2 + 10 ^ d₉ * tLen a₉ + 10 ^ d₉ * tLen r₉ := by rw [Nat.mul_add, Nat.mul_add]
    have h5 : 10 ^ (1 + tDep a₉) * tLen a₉ = 10 * (10 ^ tDep a₉ * tLen a₉) := by rw [Nat.pow_add, Nat.pow_one, Nat.mul_assoc]
    have h7 : n₉ * (1 + tAsk a₉) ≤ 9 * (1 + tAsk a₉) := Nat.mul_le_mul_right _ (by omega)
    rw [h4]
    rw [h5] at k1₉
    omega
theorem tAsk_max {t₉ : Tr} (hw : wf t₉) (hd₉ : tDep t₉ ≤ 3) (hl : tLen t₉ ≤ 80) : tAsk t₉ ≤ 720000 := by
  have h1 := tAsk_rg t₉ hw
  have h2 := ten3 hd₉ hl
  omega
/-- whatever is₉ kept₉, the fronts stand -/
theorem expS.any {E : En} {σ : Nat → va_E} {t₉ : Tr} (h : expS E σ t₉) : ∃ (nw : Int → Nat) (un : Nat) (a₉ b₉ c d₉ kn₉ : Int), okN nw un ∧ isEx E σ nw un kn₉ ∧ σ 63 = ob 1 [vi a₉, vi b₉, vi c, vi d₉] ∧ allF E σ := by
  rcases h with ⟨nw, un, a₉, b₉, c, d₉, h1, h2, h3, h4⟩ | ⟨r₉, u₉, kd, pr, -, -, -, -, nw, un, h1, h2, h3, -, h5⟩
  · exact ⟨nw, un, a₉, b₉, c, d₉, 0, h1, h2, h3, h4⟩
  · exact ⟨nw, un, _, _, _, _, 1, h1, h2, h3, h5⟩
theorem img_S0 (r₉ : Int) (R c : Int) : adj (fun _ _ => False) (en r₉) 0 0 R c ↔ img (S0₉ r₉) R c := by
  unfold adj img S0₉
  constructor
  · rintro (h | ⟨rfl, h⟩)
    · exact h.elim
    · exact ⟨r₉, ⟨rfl, h.elim id id⟩, rfl⟩
  · rintro ⟨x₉, ⟨rfl, rfl⟩, rfl⟩
    exact Or.inr ⟨rfl, Or.inl rfl⟩

set_option maxHeartbeats 4000000 in
set_option maxRecDepth 100000 in
theorem c_X2_explore (E : En) (N : Nat) (σ : Nat → va_E) (h : Nat) (sg vl mt₉ lw ll la : Int → Int) (sz₉ lk₉ chs lps dp ln : Int) (t₉ : Tr) (r₉ u₉ kd pr : Int) (hN₉ : 101 ≤ N) (hh3 : h < 3) (hp : isP E σ 23 sg vl mt₉ lw ll la sz₉ lk₉ chs lps dp ln) (ho : okP sg vl mt₉ lw ll la sz₉ lk₉ chs lps dp ln) (hwf : wf t₉) (hdp : tDep t₉ ≤ 3) (hpa0 : PA₉ sg vl mt₉ lw ll la t₉ 0 0 (-1)) (htl : (tLen t₉ : Int) = sz₉) (htk : (tLks t₉ : Int) = lk₉) (hrw : vrow u₉ r₉) (hu : 1 ≤ u₉ ∧ u₉ ≤ 3) (hkd : 0 ≤ kd ∧ kd ≤ 3) (hpr : 2 ≤ pr ∧ pr ≤ 99) (hch : σ h = ob 1 [vi (en r₉), vi u₉, vi kd, vi pr]) (hes : expS E σ t₉) : CV E M_X2_explore 14 [vr E 56, vr E 23, vr E h] N σ (fun σ' => expK E σ' t₉ r₉ u₉ kd pr ∧ ∀ q₉, (q₉ < 56 ∨ 91 < q₉) → σ' q₉ = σ q₉) := by
  refine CT.of2 (own := RX2) (by decide) rfl (Nat.le_of_ble_eq_true rfl) ?_
  intro p e R s m args below meth c Q hF hr hlk hnm hz hR hQ
  have hsz := ho.1
  have hcB : cB₉ t₉ ≤ 1000000000 := Nat.le_trans (cB_max hwf hdp (by omega)) (by decide)
  have eg := en_rg hrw.1
  have way₉ : ∀ (nw : Int → Nat) (un : Nat) (a1₉ a2 a3 a4 kn₉ : Int), okN nw un → isEx E σ nw un kn₉ → σ 63 = ob 1 [vi a1₉, vi a2, vi a3, vi a4] → allF E σ → Go E p e R s m args below meth c Q 3 (0, 0) N σ [(0, vr E 56), (1, vr E 23), (2, vr E h)] [] 19 := by
    intro nw un a1₉ a2 a3 a4 kn₉ hok hx hst hall
    have p0₉ := (hok.1 0 (by omega) (by omega)).1
    have r0_ := pool_rg p0₉
    have r66 := pool_66 p0₉
    refine go_aload_n (pc := 19) hF dX2_explore_19 0 rfl ?_
    refine go_get (pc := 20) hF fl_X2_28 dX2_explore_20 (by omega) hx.1 rfl ?_
    refine go_aload_n (pc := 23) hF dX2_explore_23 2 rfl ?_
    refine go_callVV (pc := 24) hF [vr E h] [] mv_X2_40 dX2_explore_24 (by omega) hst (c_X1_setAs E N σ 63 h a1₉ a2 a3 a4 (en r₉) u₉ kd pr (by omega) (by omega) (by omega) hst hch) rfl rfl (Nat.le_of_ble_eq_true rfl) (by decide) ⟨Nat.zero_le _, Nat.zero_le _⟩ (fun s1₉ h_s1 => ?_)
    obtain ⟨u0_s1, f_s1⟩ := h_s1
    have t_s1 := hp.keep (fun jj h1 h2 => f_s1 jj (by omega))
    have h_s1 := (f_s1 h (by omega)).trans hch
    have ex_s1 := (f_s1 56 (by omega)).trans hx.1
    have xn_s1 := (f_s1 57 (by omega)).trans hx.2.1
    have xa_s1 := (f_s1 58 (by omega)).trans hx.2.2
    have al1 : allF E s1₉ := hall.keep (fun q₉ h1 h2 h3 => f_s1 q₉ (by omega))
    refine go_aload_n (pc := 27) hF dX2_explore_27 0 rfl ?_
    refine go_get (pc := 28) hF fl_X2_11 dX2_explore_28 (by omega) ex_s1 rfl ?_
    refine go_iconst (pc := 31) hF dX2_explore_31 ?_
    refine go_aald (pc := 32) hF 5 (nw 0) dX2_explore_32 rfl (by omega) xn_s1 (by omega) rfl ?_
    obtain ⟨S9, B9, hf9, hB9⟩ := al1 (nw 0) (Or.inl p0₉)
    obtain ⟨fs9, hc9⟩ := (al1 (nw 0) (Or.inl p0₉)).cell
    refine go_callVV (pc := 33) hF [] [] mv_X2_44 dX2_explore_33 (show nw 0 < N by omega) hc9 (c_X4_wipe E N s1₉ (nw 0) S9 B9 (by omega) hf9 (by omega)) rfl rfl (Nat.le_of_ble_eq_true rfl) (by decide) ⟨Nat.zero_le _, Nat.zero_le _⟩ (fun s2₉ h_s2 => ?_)
    obtain ⟨fw, f_s2⟩ := h_s2
    have al2 : allF E s2₉ := al1.step (Or.inl p0₉) fw (by omega) f_s2
    have t_s2 := t_s1.keep (fun jj h1 h2 => f_s2 jj (by omega))
    have h_s2 := (f_s2 h (by omega)).trans h_s1
    have st_s2 := (f_s2 63 (by omega)).trans u0_s1
    have ex_s2 := (f_s2 56 (by omega)).trans ex_s1
    have xn_s2 := (f_s2 57 (by omega)).trans xn_s1
    have xa_s2 := (f_s2 58 (by omega)).trans xa_s1
    refine go_aload_n (pc := 36) hF dX2_explore_36 0 rfl ?_
    refine go_get (pc := 37) hF fl_X2_11 dX2_explore_37 (by omega) ex_s2 rfl ?_
    refine go_iconst (pc := 40) hF dX2_explore_40 ?_
    refine go_aald (pc := 41) hF 5 (nw 0) dX2_explore_41 rfl (by omega) xn_s2 (by omega) rfl ?_
    refine go_aload_n (pc := 42) hF dX2_explore_42 0 rfl ?_
    refine go_get (pc := 43) hF fl_X2_28 dX2_explore_43 (by omega) ex_s2 rfl ?_
    refine go_get (pc := 46) hF fl_X2_47 dX2_explore_46 (by omega) st_s2 rfl ?_
    refine go_iconst (pc := 49) hF dX2_explore_49 ?_
    refine go_iconst (pc := 50) hF dX2_explore_50 ?_
    obtain ⟨fs8, hc8⟩ := (al2 (nw 0) (Or.inl p0₉)).cell
    refine go_callVV (pc := 51) hF [vi (en r₉), vi 0, vi 0] [] mv_X2_51 dX2_explore_51 (show nw 0 < N by omega) hc8 (c_X4_put E N s2₉ (nw 0) _ 0 (en r₉) 0 0 (by omega) fw (by omega) (en_rg hrw.1) (en_okR hrw) (by omega)) rfl rfl (Nat.le_of_ble_eq_true rfl) (by decide) ⟨Nat.zero_le _, Nat.zero_le _⟩ (fun s3₉ h_s3 => ?_)
    obtain ⟨fp0, f_s3⟩ := h_s3
    have fp₉ := fp0.iff (img_S0 r₉)
    have al3 : allF E s3₉ := al2.step (Or.inl p0₉) fp₉ (by omega) f_s3
    have t_s3 := t_s2.keep (fun jj h1 h2 => f_s3 jj (by omega))
    have h_s3 := (f_s3 h (by omega)).trans h_s2
    have st_s3 := (f_s3 63 (by omega)).trans st_s2
    have ex_s3 := (f_s3 56 (by omega)).trans ex_s2
    have xn_s3 := (f_s3 57 (by omega)).trans xn_s2
    have xa_s3 := (f_s3 58 (by omega)).trans xa_s2
    refine go_aload_n (pc := 54) hF dX2_explore_54 0 rfl ?_
    refine go_aload_n (pc := 55) hF dX2_explore_55 1 rfl ?_
    refine go_iconst (pc := 56) hF dX2_explore_56 ?_
    refine go_aload_n (pc := 57) hF dX2_explore_57 1 rfl ?_
    refine go_get (pc := 58) hF fl_X2_55 dX2_explore_58 (by omega) t_s3.1 rfl ?_
    refine go_iconst (pc := 61) hF dX2_explore_61 ?_
    have cr := exp_row E N 3 t₉ s3₉ sg vl mt₉ lw ll la sz₉ lk₉ chs lps dp ln 0 0 (-1) 0 nw un kn₉ (en r₉) u₉ kd pr 0 (S0₉ r₉) hN₉ t_s3 ho hwf hdp hpa0 (by omega) (by omega) (by omega) hu hkd hpr (by omega) hok ⟨ex_s3, xn_s3, xa_s3⟩ st_s3 (fun x₉ c h => by rw [h.1]; exact hrw) fp₉ al3
    rw [show (0 : Int) + (tLen t₉ : Int) = sz₉ by omega] at cr
    refine go_callVV (pc := 62) hF [vr E 23, vi 0, vi sz₉, vi 0] [] mv_X2_60 dX2_explore_62 (by omega) ex_s3 cr rfl rfl (Nat.le_of_ble_eq_true rfl) (by decide) ⟨Nat.zero_le _, Nat.zero_le _⟩ (fun s4₉ h_s4 => ?_)
    obtain ⟨nw2, un2, ok2, -, ⟨x0₉, x1₉, x2₉⟩, fr2, al4, f_s4, -, -⟩ := h_s4
    have t_s4 := t_s3.keep (fun jj h1 h2 => f_s4 jj (by omega))
    have h_s4 := (f_s4 h (by omega)).trans h_s3
    have st_s4 := (f_s4 63 (by omega)).trans st_s3
    refine go_aload_n (pc := 65) hF dX2_explore_65 0 rfl ?_
    refine go_iconst (pc := 66) hF dX2_explore_66 ?_
    refine go_put (pc := 67) hF [vr E 57, vr E 58, vr E un2, vr E 63, vi 1] fl_X2_32 dX2_explore_67 (by omega) x0₉ rfl (by decide) rfl (Nat.le_of_ble_eq_true rfl) (fun s5 u_s5 f_s5 => ?_)
    have t_s5 := t_s4.keep (fun jj h1 h2 => f_s5 jj (by omega))
    have h_s5 := (f_s5 h (show h ≠ 56 by omega)).trans h_s4
    have st_s5 := (f_s5 63 (show 63 ≠ 56 by omega)).trans st_s4
    have xn_s5 := (f_s5 57 (show 57 ≠ 56 by omega)).trans x1₉
    have xa_s5 := (f_s5 58 (show 58 ≠ 56 by omega)).trans x2₉
    have q0 := pool_rg (ok2.1 0 (by omega) (by omega)).1
    rw [Int.zero_add] at fr2
    refine go_vretQ hF hr hlk hQ dX2_explore_70 ⟨⟨nw2, un2, ok2, ⟨u_s5, xn_s5, xa_s5⟩, st_s5, fr2.keep (fun j₉ h1 h2 => f_s5 j₉ (show j₉ ≠ 56 from fun e => by rw [e] at h1; exact absurd h1 (show ¬ nw2 0 ≤ 56 by omega))), al4.keep (fun j₉ h1 h2 h3 => f_s5 j₉ (by omega))⟩, (fun jj hjj => by rw [f_s5 jj (by omega), f_s4 jj (by omega), f_s3 jj (by omega), f_s2 jj (by omega), f_s1 jj (by omega)])⟩
  rcases hes with ⟨nw, un, a1₉, a2, a3, a4, hok, hx, hst, hall⟩ | ⟨r2, u2₉, kd2, pr2, hrw2, hu2, hk2, hp2, nw, un, hok, hx, hst, hfr, hall⟩
  · skip
    refine go_aload_n (pc := 0) hF dX2_explore_0 0 rfl ?_
    refine go_get (pc := 1) hF fl_X2_32 dX2_explore_1 (by omega) hx.1 rfl ?_
    refine go_if_eq (pc := 4) hF 19 dX2_explore_4 (by decide) ⟨by decide, by decide⟩ (fun bq4 => ?_) (fun bq4 => ?_)
    · exact way₉ nw un a1₉ a2 a3 a4 0 hok hx hst hall
    · exact absurd bq4 (by decide)
  · have eg1 := en_rg hrw2.1
    refine go_aload_n (pc := 0) hF dX2_explore_0 0 rfl ?_
    refine go_get (pc := 1) hF fl_X2_32 dX2_explore_1 (by omega) hx.1 rfl ?_
    refine go_if_eq (pc := 4) hF 19 dX2_explore_4 (by decide) ⟨by decide, by decide⟩ (fun bq4 => ?_) (fun bq4 => ?_)
    · exact absurd bq4 (by decide)
    · refine go_aload_n (pc := 7) hF dX2_explore_7 0 rfl ?_
      refine go_get (pc := 8) hF fl_X2_28 dX2_explore_8 (by omega) hx.1 rfl ?_
      refine go_aload_n (pc := 11) hF dX2_explore_11 2 rfl ?_
      refine go_callVP (pc := 12) hF [vr E h] [] mv_X2_36 dX2_explore_12 (by omega) hst (c_X1_isAs E N σ 63 h (en r2) u2₉ kd2 pr2 (en r₉) u₉ kd pr (by first | omega | exact eg1) (by omega) (by omega) (by omega) (by omega) (by omega) (by omega) (by omega) (by omega) (by omega) hst hch) rfl rfl (Nat.le_of_ble_eq_true rfl) (by decide) ⟨Nat.zero_le _, Nat.zero_le _⟩ ?_
      refine go_if_eq (pc := 15) hF 19 dX2_explore_15 (by decide) (bI_rg _) (fun bq15 => ?_) (fun bq15 => ?_)
      · exact way₉ nw un (en r2) u2₉ kd2 pr2 1 hok hx hst hall
      · have e1₉ := (Decidable.not_not.mp (fun z₉ => bq15 ((bI_0 _).mpr z₉)))
        obtain ⟨e0₉, rfl, rfl, rfl⟩ := e1₉
        have e2₉ := en_inj hrw2.1 hrw.1 e0₉
        subst e2₉
        exact go_vretQ hF hr hlk hQ dX2_explore_18 ⟨⟨nw, un, hok, hx, hst, hfr, hall⟩, fun _ _ => rfl⟩
