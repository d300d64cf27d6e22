/-! Front: one₉ onto₉ another; behind₉ a₉ look₉. -/
theorem frI.iff {E : En} {σ : Nat → va_E} {i₉ : Nat} {S₉ S' : Int → Int → Prop} {B₉ : Int} (h : frI E σ i₉ S₉ B₉) (hs : ∀ r₉ c, S₉ r₉ c ↔ S' r₉ c) : frI E σ i₉ S' B₉ := by
  obtain ⟨ro, mo, le₉, sz₉, h1, h2, h3⟩ := h
  exact ⟨ro, mo, le₉, sz₉, h1, h2.same (fun r₉ c h => (hs r₉ c).mp h) (fun r₉ c h => ⟨c, c, (hs r₉ c).mpr h, (hs r₉ c).mpr h, Int.le_refl c, Int.le_refl c⟩), fun r₉ c h => h3 r₉ c ((hs r₉ c).mpr h)⟩
theorem frI.ext {E : En} {σ : Nat → va_E} {i₉ : Nat} {S₉ S' : Int → Int → Prop} {B₉ : Int} (h : frI E σ i₉ S₉ B₉) (h1 : ∀ r₉ c, S₉ r₉ c → S' r₉ c) (h2 : ∀ r₉ c, S' r₉ c → ∃ a₉ b₉, S₉ r₉ a₉ ∧ S₉ r₉ b₉ ∧ a₉ ≤ c ∧ c ≤ b₉) : frI E σ i₉ S' B₉ := by
  obtain ⟨ro, mo, le₉, sz₉, k1₉, k2₉, k3₉⟩ := h
  refine ⟨ro, mo, le₉, sz₉, k1₉, k2₉.same h1 h2, fun r₉ c hc₉ => ?_⟩
  obtain ⟨a₉, b₉, ha₉, hb₉, h3, h4⟩ := h2 r₉ c hc₉
  have h5 := k3₉ r₉ a₉ ha₉
  have h6 := k3₉ r₉ b₉ hb₉
  exact ⟨h5.1, by omega⟩
theorem frI.wide {E : En} {σ : Nat → va_E} {i₉ : Nat} {S₉ : Int → Int → Prop} {B₉ B' : Int} (h : frI E σ i₉ S₉ B₉) (hb₉ : B₉ ≤ B') : frI E σ i₉ S₉ B' := by
  obtain ⟨ro, mo, le₉, sz₉, k1₉, k2₉, k3₉⟩ := h
  exact ⟨ro, mo, le₉, sz₉, k1₉, k2₉, fun r₉ c hc₉ => by have := k3₉ r₉ c hc₉; omega⟩
/-- the most and the least₉ of₉ T's row₉ are there₉ -/
theorem FR.find {ro mo le₉ : Int → Int} {sz₉ B₉ : Int} {T : Int → Int → Prop} (h : FR ro mo le₉ sz₉ T) (hb₉ : Sb T B₉) {r₉ c : Int} (hc₉ : T r₉ c) : ∃ q₉ : Int, (0 ≤ q₉ ∧ q₉ < sz₉) ∧ ro q₉ = r₉ ∧ le₉ r₉ ≤ c ∧ c ≤ mo r₉ := by
  have h1 := hb₉ r₉ c hc₉
  by_cases hm₉ : mo r₉ = -1
  · exact absurd hc₉ ((h.2 r₉ h1.1.1 h1.1.2).1 hm₉ c)
  · obtain ⟨q₉, k1₉, k2₉, k3₉⟩ := h.1.2.2.2 r₉ h1.1.1 h1.1.2 hm₉
    have := ((h.2 r₉ h1.1.1 h1.1.2).2 hm₉).2.2 c hc₉
    exact ⟨q₉, ⟨k1₉, k2₉⟩, k3₉, this.1, this.2⟩
set_option maxHeartbeats 4000000 in
set_option maxRecDepth 100000 in
theorem c_X4_putAll (E : En) (N : Nat) (σ : Nat → va_E) (i₉ j₉ : Nat) (S₉ T : Int → Int → Prop) (B₉ : Int) (hi₉ : i₉ + 3 < N) (hj : j₉ + 3 < N) (hij : i₉ + 3 < j₉ ∨ j₉ + 3 < i₉) (hfr : frI E σ i₉ S₉ B₉) (hto : frI E σ j₉ T B₉) (hBB : B₉ < 2000000000) : CV E M_X4_putAll 3 [vr E i₉, vr E j₉] N σ (fun σ' => frI E σ' i₉ (fun r₉ c => S₉ r₉ c ∨ T r₉ c) B₉ ∧ ∀ q₉, (q₉ < i₉ ∨ i₉ + 3 < q₉) → σ' q₉ = σ q₉) := by
  refine CT.of2 (own := RX4) (by decide) rfl (Nat.le_of_ble_eq_true rfl) ?_
  intro p e R s m args below meth c Q hF hr hlk hnm hz hR hQ
  obtain ⟨ro, mo, le₉, sz₉, ⟨y0, y1, y2, y3⟩, hT₉, hTB⟩ := hto
  have hsz := hT₉.1.1
  refine go_iconst (pc := 0) hF dX4_putAll_0 ?_
  refine go_istore_n (pc := 1) hF [(2, vi 0), (0, vr E i₉), (1, vr E j₉)] dX4_putAll_1 rfl (by decide) ?_
  have loop₉ : ∀ (n₉ : Nat) (q₉ : Int) (τ : Nat → va_E), sz₉ - q₉ < n₉ → 0 ≤ q₉ ∧ q₉ ≤ sz₉ → frI E τ i₉ (fun r₉ c => S₉ r₉ c ∨ ∃ q2₉ : Int, (0 ≤ q2₉ ∧ q2₉ < q₉) ∧ r₉ = ro q2₉ ∧ (c = mo r₉ ∨ c = le₉ r₉)) B₉ → (∀ jj : Nat, (jj < i₉ ∨ i₉ + 3 < jj) → τ jj = σ jj) → Go E p e R s m args below meth c Q 4 (0, 0) N τ [(2, vi q₉), (0, vr E i₉), (1, vr E j₉)] [] 2 := by
    intro n₉
    induction n₉ with
    | zero => intro q₉ τ hfu hq hfq fr_loop; exfalso; omega
    | succ n₉ ih₉ =>
      intro q₉ τ hfu hq hfq fr_loop
      have o_loop := (fr_loop j₉ (by omega)).trans y0
      have or_loop := (fr_loop (j₉ + 1) (by omega)).trans y1
      have om_loop := (fr_loop (j₉ + 2) (by omega)).trans y2
      have ol_loop := (fr_loop (j₉ + 3) (by omega)).trans y3
      refine go_iload_n (pc := 2) hF dX4_putAll_2 0 rfl ?_
      refine go_aload_n (pc := 3) hF dX4_putAll_3 2 rfl ?_
      refine go_get (pc := 4) hF fl_X4_23 dX4_putAll_4 (by omega) o_loop rfl ?_
      refine go_icmp_ge (pc := 7) hF 39 dX4_putAll_7 (by decide) (by omega) (by omega) (fun bq7 => ?_) (fun bq7 => ?_)
      · have hq9 : q₉ = sz₉ := by omega
        subst hq9
        refine go_vretQ hF hr hlk hQ dX4_putAll_39 ⟨hfq.ext (fun r₉ c h => ?_) (fun r₉ c h => ?_), (fun jj hjj => by rw [fr_loop jj (by omega)])⟩
        · rcases h with h | ⟨q2₉, h1, rfl, rfl | rfl⟩
          · exact Or.inl h
          · exact Or.inr (hT₉.row hTB (q := q2₉) h1).2.2.2.2.1
          · exact Or.inr (hT₉.row hTB (q := q2₉) h1).2.2.2.2.2
        · rcases h with h | h
          · exact ⟨c, c, Or.inl h, Or.inl h, Int.le_refl c, Int.le_refl c⟩
          · obtain ⟨q2₉, h1, h2, h3, h4⟩ := hT₉.find hTB h
            exact ⟨le₉ r₉, mo r₉, Or.inr ⟨q2₉, h1, h2.symm, Or.inr rfl⟩, Or.inr ⟨q2₉, h1, h2.symm, Or.inl rfl⟩, h3, h4⟩
      · have zr := hT₉.row hTB (q := q₉) (by omega)
        refine go_aload_n (pc := 10) hF dX4_putAll_10 2 rfl ?_
        refine go_iload_n (pc := 11) hF dX4_putAll_11 0 rfl ?_
        refine go_callVP (pc := 12) hF [vi q₉] [] mv_X4_33 dX4_putAll_12 (by omega) o_loop (c_X4_rowAt E N τ j₉ (by omega) ⟨o_loop, or_loop, om_loop, ol_loop⟩ q₉ (by omega) zr.1) rfl rfl (Nat.le_of_ble_eq_true rfl) (by decide) ⟨Nat.zero_le _, Nat.zero_le _⟩ ?_
        refine go_istore_n (pc := 15) hF [(3, vi (ro q₉)), (2, vi q₉), (0, vr E i₉), (1, vr E j₉)] dX4_putAll_15 rfl (by decide) ?_
        refine go_aload_n (pc := 16) hF dX4_putAll_16 2 rfl ?_
        refine go_iload_n (pc := 17) hF dX4_putAll_17 0 rfl ?_
        refine go_aload_n (pc := 18) hF dX4_putAll_18 3 rfl ?_
        refine go_get (pc := 19) hF fl_X4_17 dX4_putAll_19 (by omega) o_loop rfl ?_
        refine go_iload_n (pc := 22) hF dX4_putAll_22 0 rfl ?_
        refine go_iald (pc := 23) hF dX4_putAll_23 (by omega) om_loop (by omega)  ?_
        refine go_aload_n (pc := 24) hF dX4_putAll_24 3 rfl ?_
        refine go_get (pc := 25) hF fl_X4_20 dX4_putAll_25 (by omega) o_loop rfl ?_
        refine go_iload_n (pc := 28) hF dX4_putAll_28 0 rfl ?_
        refine go_iald (pc := 29) hF dX4_putAll_29 (by omega) ol_loop (by omega)  ?_
        obtain ⟨xa_s1, xb_s1, xc_s1, xd_s1, ⟨x0_s1, -⟩, -⟩ := id hfq
        refine go_callVV (pc := 30) hF [vi (ro q₉), vi (mo (ro q₉)), vi (le₉ (ro q₉))] [] mv_X4_46 dX4_putAll_30 (show i₉ < N by omega) x0_s1 (c_X4_put E N τ i₉ _ B₉ (ro q₉) (mo (ro q₉)) (le₉ (ro q₉)) (by omega) hfq (by omega) (by omega) (hT₉.okr (q := q₉) (by omega)) (by omega)) rfl rfl (Nat.le_of_ble_eq_true rfl) (by decide) ⟨Nat.zero_le _, Nat.zero_le _⟩ (fun s1₉ h_s1 => ?_)
        obtain ⟨hf_s1, f_s1⟩ := h_s1
        have o_s1 := (f_s1 j₉ (by omega)).trans o_loop
        have or_s1 := (f_s1 (j₉ + 1) (by omega)).trans or_loop
        have om_s1 := (f_s1 (j₉ + 2) (by omega)).trans om_loop
        have ol_s1 := (f_s1 (j₉ + 3) (by omega)).trans ol_loop
        refine go_iinc (pc := 33) hF [(2, vi (q₉ + 1)), (3, vi (ro q₉)), (0, vr E i₉), (1, vr E j₉)] dX4_putAll_33 1 rfl rfl (by decide) ?_
        refine go_goto (pc := 36) hF 2 dX4_putAll_36 (by decide) ?_
        refine go_lv [(2, vi (q₉ + 1)), (0, vr E i₉), (1, vr E j₉)] [0, 2, 3] rfl ?_
        exact ih₉ (q₉ + 1) s1₉ (by omega) (by omega) (hf_s1.iff (fun r₉ c => by
            constructor
            · rintro ((h | ⟨q2₉, h1, h2⟩) | ⟨rfl, h⟩)
              · exact Or.inl h
              · exact Or.inr ⟨q2₉, by omega, h2⟩
              · exact Or.inr ⟨q₉, by omega, rfl, h⟩
            · rintro (h | ⟨q2₉, h1, h2, h3⟩)
              · exact Or.inl (Or.inl h)
              · by_cases h4 : q2₉ = q₉
                · subst h4; subst h2; exact Or.inr ⟨rfl, h3⟩
                · exact Or.inl (Or.inr ⟨q2₉, by omega, h2, h3⟩)))  (fun jj hjj => by rw [f_s1 jj (by omega), fr_loop jj (by omega)])
  exact loop₉ (sz₉.toNat + 1) 0 σ (by omega) (by omega) (hfr.iff (fun r₉ c => ⟨Or.inl, fun h => h.elim id (fun ⟨q2₉, h1, h2⟩ => absurd h1 (by omega))⟩))  (fun _ _ => rfl)
set_option maxHeartbeats 4000000 in
set_option maxRecDepth 100000 in
theorem c_X4_setAs (E : En) (N : Nat) (σ : Nat → va_E) (i₉ j₉ : Nat) (S₉ T : Int → Int → Prop) (B₉ : Int) (hi₉ : i₉ + 3 < N) (hj : j₉ + 3 < N) (hij : i₉ + 3 < j₉ ∨ j₉ + 3 < i₉) (hfr : frI E σ i₉ S₉ B₉) (hto : frI E σ j₉ T B₉) (hBB : B₉ < 2000000000) (hB0 : 0 ≤ B₉) : CV E M_X4_setAs 4 [vr E i₉, vr E j₉] N σ (fun σ' => frI E σ' i₉ T B₉ ∧ ∀ q₉, (q₉ < i₉ ∨ i₉ + 3 < q₉) → σ' q₉ = σ q₉) := by
  refine CT.of2 (own := RX4) (by decide) rfl (Nat.le_of_ble_eq_true rfl) ?_
  intro p e R s m args below meth c Q hF hr hlk hnm hz hR hQ
  refine go_aload_n (pc := 0) hF dX4_setAs_0 0 rfl ?_
  obtain ⟨xa_s1, xb_s1, xc_s1, xd_s1, ⟨x0_s1, -⟩, -⟩ := id hfr
  refine go_callVV (pc := 1) hF [] [] mv_X4_50 dX4_setAs_1 (show i₉ < N by omega) x0_s1 (c_X4_wipe E N σ i₉ S₉ B₉ (by omega) hfr hBB) rfl rfl (Nat.le_of_ble_eq_true rfl) (by decide) ⟨Nat.zero_le _, Nat.zero_le _⟩ (fun s1₉ h_s1 => ?_)
  obtain ⟨hf_s1, f_s1⟩ := h_s1
  have hto_s1 : frI E s1₉ j₉ T B₉ := hto.keep (fun jj h1 h2 => f_s1 jj (by omega))
  refine go_aload_n (pc := 4) hF dX4_setAs_4 0 rfl ?_
  refine go_aload_n (pc := 5) hF dX4_setAs_5 1 rfl ?_
  obtain ⟨xa_s2, xb_s2, xc_s2, xd_s2, ⟨x0_s2, -⟩, -⟩ := id hf_s1
  refine go_callVV (pc := 6) hF [vr E j₉] [] mv_X4_53 dX4_setAs_6 (show i₉ < N by omega) x0_s2 (c_X4_putAll E N s1₉ i₉ j₉ _ T B₉ (by omega) (by omega) hij (hf_s1.wide (by omega)) hto_s1 hBB) rfl rfl (Nat.le_of_ble_eq_true rfl) (by decide) ⟨Nat.zero_le _, Nat.zero_le _⟩ (fun s2₉ h_s2 => ?_)
  obtain ⟨hf_s2, f_s2⟩ := h_s2
  exact go_vretQ hF hr hlk hQ dX4_setAs_9 ⟨hf_s2.iff (fun r₉ c => ⟨fun h => h.elim False.elim id, Or.inr⟩), (fun jj hjj => by rw [f_s2 jj (by omega), f_s1 jj (by omega)])⟩
set_option maxHeartbeats 4000000 in
set_option maxRecDepth 100000 in
theorem c_X4_setAfterLook (E : En) (N : Nat) (σ : Nat → va_E) (i₉ j₉ g₉ : Nat) (S₉ T : Int → Int → Prop) (B0 B₉ x₉ r0 u₉ kd pr : Int) (hi₉ : i₉ + 3 < N) (hj : j₉ + 3 < N) (hg0 : g₉ < N) (hij : i₉ + 3 < j₉ ∨ j₉ + 3 < i₉) (hig : g₉ < i₉ ∨ i₉ + 3 < g₉) (hg : σ g₉ = ob 1 [vi r0, vi u₉, vi kd, vi pr]) (hx : 0 ≤ x₉ ∧ x₉ ≤ 5) (hu : 1 ≤ u₉ ∧ u₉ ≤ 3) (hkd : 0 ≤ kd ∧ kd ≤ 3) (hpr : 2 ≤ pr ∧ pr ≤ 99) (hB0 : B0 < 2000000000) (hfr : frI E σ i₉ S₉ B0) (hto : frI E σ j₉ T B₉) (hBB : 0 ≤ B₉ ∧ B₉ < 1900000000) : CV E M_X4_setAfterLook 3 [vr E i₉, vr E j₉, vi x₉, vr E g₉] N σ (fun σ' => frI E σ' i₉ (fun r₉ c => ∃ a₉ b₉, T a₉ b₉ ∧ r₉ = cAfter a₉ x₉ u₉ kd ∧ c = b₉ + cCost a₉ x₉ pr) (B₉ + 99) ∧ ∀ q₉, (q₉ < i₉ ∨ i₉ + 3 < q₉) → σ' q₉ = σ q₉) := by
  refine CT.of2 (own := RX4) (by decide) rfl (Nat.le_of_ble_eq_true rfl) ?_
  intro p e R s m args below meth c Q hF hr hlk hnm hz hR hQ
  obtain ⟨ro, mo, le₉, sz₉, ⟨y0, y1, y2, y3⟩, hT₉, hTB⟩ := hto
  have hsz := hT₉.1.1
  refine go_aload_n (pc := 0) hF dX4_setAfterLook_0 0 rfl ?_
  obtain ⟨xa_s1, xb_s1, xc_s1, xd_s1, ⟨x0_s1, -⟩, -⟩ := id hfr
  refine go_callVV (pc := 1) hF [] [] mv_X4_50 dX4_setAfterLook_1 (show i₉ < N by omega) x0_s1 (c_X4_wipe E N σ i₉ S₉ B0 (by omega) hfr hB0) rfl rfl (Nat.le_of_ble_eq_true rfl) (by decide) ⟨Nat.zero_le _, Nat.zero_le _⟩ (fun s1₉ h_s1 => ?_)
  obtain ⟨hf_s1, f_s1⟩ := h_s1
  have o_s1 := (f_s1 j₉ (by omega)).trans y0
  have or_s1 := (f_s1 (j₉ + 1) (by omega)).trans y1
  have om_s1 := (f_s1 (j₉ + 2) (by omega)).trans y2
  have ol_s1 := (f_s1 (j₉ + 3) (by omega)).trans y3
  have g_s1 := (f_s1 g₉ (by omega)).trans hg
  refine go_iconst (pc := 4) hF dX4_setAfterLook_4 ?_
  refine go_istore (pc := 5) hF [(4, vi 0), (0, vr E i₉), (1, vr E j₉), (2, vi x₉), (3, vr E g₉)] dX4_setAfterLook_5 rfl (by decide) ?_
  have loop₉ : ∀ (n₉ : Nat) (q₉ : Int) (τ : Nat → va_E), sz₉ - q₉ < n₉ → 0 ≤ q₉ ∧ q₉ ≤ sz₉ → frI E τ i₉ (fun r₉ c => ∃ q2₉ : Int, (0 ≤ q2₉ ∧ q2₉ < q₉) ∧ r₉ = cAfter (ro q2₉) x₉ u₉ kd ∧ (c = mo (ro q2₉) + cCost (ro q2₉) x₉ pr ∨ c = le₉ (ro q2₉) + cCost (ro q2₉) x₉ pr)) (B₉ + 99) → (∀ jj : Nat, (jj < i₉ ∨ i₉ + 3 < jj) → τ jj = s1₉ jj) → Go E p e R s m args below meth c Q 7 (0, 0) N τ [(4, vi q₉), (0, vr E i₉), (1, vr E j₉), (2, vi x₉), (3, vr E g₉)] [] 7 := by
    intro n₉
    induction n₉ with
    | zero => intro q₉ τ hfu hq hfq fr_loop; exfalso; omega
    | succ n₉ ih₉ =>
      intro q₉ τ hfu hq hfq fr_loop
      have o_loop := (fr_loop j₉ (by omega)).trans o_s1
      have or_loop := (fr_loop (j₉ + 1) (by omega)).trans or_s1
      have om_loop := (fr_loop (j₉ + 2) (by omega)).trans om_s1
      have ol_loop := (fr_loop (j₉ + 3) (by omega)).trans ol_s1
      have g_loop := (fr_loop g₉ (by omega)).trans g_s1
      refine go_iload (pc := 7) hF dX4_setAfterLook_7 0 rfl ?_
      refine go_aload_n (pc := 9) hF dX4_setAfterLook_9 2 rfl ?_
      refine go_get (pc := 10) hF fl_X4_23 dX4_setAfterLook_10 (by omega) o_loop rfl ?_
      refine go_icmp_ge (pc := 13) hF 122 dX4_setAfterLook_13 (by decide) (by omega) (by omega) (fun bq13 => ?_) (fun bq13 => ?_)
      · have hq9 : q₉ = sz₉ := by omega
        subst hq9
        refine go_vretQ hF hr hlk hQ dX4_setAfterLook_122 ⟨hfq.ext (fun r₉ c h => ?_) (fun r₉ c h => ?_), (fun jj hjj => by rw [fr_loop jj (by omega), f_s1 jj (by omega)])⟩
        · obtain ⟨q2₉, h1, h2, h3 | h3⟩ := h
          · exact ⟨_, _, (hT₉.row hTB (q := q2₉) h1).2.2.2.2.1, h2, h3⟩
          · exact ⟨_, _, (hT₉.row hTB (q := q2₉) h1).2.2.2.2.2, h2, h3⟩
        · obtain ⟨a₉, b₉, h1, h2, h3⟩ := h
          obtain ⟨q2₉, k1₉, k2₉, k3₉, k4₉⟩ := hT₉.find hTB h1
          subst k2₉
          exact ⟨_, _, ⟨q2₉, k1₉, h2, Or.inr rfl⟩, ⟨q2₉, k1₉, h2, Or.inl rfl⟩, by omega, by omega⟩
      · have zr := hT₉.row hTB (q := q₉) (by omega)
        have zp := cPlace_rg (ro q₉) x₉
        refine go_aload_n (pc := 16) hF dX4_setAfterLook_16 2 rfl ?_
        refine go_iload (pc := 17) hF dX4_setAfterLook_17 0 rfl ?_
        refine go_callVP (pc := 19) hF [vi q₉] [] mv_X4_33 dX4_setAfterLook_19 (by omega) o_loop (c_X4_rowAt E N τ j₉ (by omega) ⟨o_loop, or_loop, om_loop, ol_loop⟩ q₉ (by omega) zr.1) rfl rfl (Nat.le_of_ble_eq_true rfl) (by decide) ⟨Nat.zero_le _, Nat.zero_le _⟩ ?_
        refine go_istore (pc := 22) hF [(5, vi (ro q₉)), (4, vi q₉), (0, vr E i₉), (1, vr E j₉), (2, vi x₉), (3, vr E g₉)] dX4_setAfterLook_22 rfl (by decide) ?_
        refine go_iload (pc := 24) hF dX4_setAfterLook_24 0 rfl ?_
        refine go_iload_n (pc := 26) hF dX4_setAfterLook_26 4 rfl ?_
        refine go_callSP (pc := 27) hF [vi (ro q₉), vi x₉] [] ms_X4_57 dX4_setAfterLook_27 (c_X8_placeOf E N τ (ro q₉) x₉ (by omega) (by omega)) rfl rfl (Nat.le_of_ble_eq_true rfl) (by decide) ⟨Nat.zero_le _, Nat.zero_le _⟩ ?_
        refine go_istore (pc := 30) hF [(6, vi (cPlace (ro q₉) x₉)), (5, vi (ro q₉)), (4, vi q₉), (0, vr E i₉), (1, vr E j₉), (2, vi x₉), (3, vr E g₉)] dX4_setAfterLook_30 rfl (by decide) ?_
        refine go_iload (pc := 32) hF dX4_setAfterLook_32 0 rfl ?_
        refine go_iconst (pc := 34) hF dX4_setAfterLook_34 ?_
        refine go_icmp_ne (pc := 35) hF 79 dX4_setAfterLook_35 (by decide) (by omega) ⟨by decide, by decide⟩ (fun bq35 => ?_) (fun bq35 => ?_)
        · have za : 0 ≤ cHit (ro q₉) (cPlace (ro q₉) x₉) u₉ kd ∧ cHit (ro q₉) (cPlace (ro q₉) x₉) u₉ kd < 512 := by have h := cAfter_rg (kd := kd) zr.1 hx hu; unfold cAfter at h; rw [if_neg (by omega)] at h; exact h
          have zo : okR (cHit (ro q₉) (cPlace (ro q₉) x₉) u₉ kd) := by have h := okR_after (kd := kd) (hT₉.okr (q := q₉) (by omega)) zr.1 hx hu hkd; unfold cAfter at h; rw [if_neg (by omega)] at h; exact h
          refine go_aload_n (pc := 79) hF dX4_setAfterLook_79 3 rfl ?_
          refine go_iload (pc := 80) hF dX4_setAfterLook_80 1 rfl ?_
          refine go_iload (pc := 82) hF dX4_setAfterLook_82 0 rfl ?_
          refine go_aload_n (pc := 84) hF dX4_setAfterLook_84 6 rfl ?_
          refine go_get (pc := 85) hF fl_X4_60 dX4_setAfterLook_85 (by omega) g_loop rfl ?_
          refine go_aload_n (pc := 88) hF dX4_setAfterLook_88 6 rfl ?_
          refine go_get (pc := 89) hF fl_X4_72 dX4_setAfterLook_89 (by omega) g_loop rfl ?_
          refine go_callSP (pc := 92) hF [vi (ro q₉), vi (cPlace (ro q₉) x₉), vi u₉, vi kd] [vr E i₉] ms_X4_75 dX4_setAfterLook_92 (c_X8_afterHit E N τ (ro q₉) (cPlace (ro q₉) x₉) u₉ kd (by omega) (by omega) (by omega) (by omega)) rfl rfl (Nat.le_of_ble_eq_true rfl) (by decide) ⟨Nat.zero_le _, Nat.zero_le _⟩ ?_
          refine go_aload_n (pc := 95) hF dX4_setAfterLook_95 4 rfl ?_
          refine go_get (pc := 96) hF fl_X4_17 dX4_setAfterLook_96 (by omega) o_loop rfl ?_
          refine go_iload (pc := 99) hF dX4_setAfterLook_99 1 rfl ?_
          refine go_iald (pc := 101) hF dX4_setAfterLook_101 (by omega) om_loop (by omega)  ?_
          refine go_iconst (pc := 102) hF dX4_setAfterLook_102 ?_
          refine go_iadd (pc := 103) hF dX4_setAfterLook_103 ?_
          refine go_aload_n (pc := 104) hF dX4_setAfterLook_104 4 rfl ?_
          refine go_get (pc := 105) hF fl_X4_20 dX4_setAfterLook_105 (by omega) o_loop rfl ?_
          refine go_iload (pc := 108) hF dX4_setAfterLook_108 1 rfl ?_
          refine go_iald (pc := 110) hF dX4_setAfterLook_110 (by omega) ol_loop (by omega)  ?_
          refine go_iconst (pc := 111) hF dX4_setAfterLook_111 ?_
          refine go_iadd (pc := 112) hF dX4_setAfterLook_112 ?_
          obtain ⟨xa_s2, xb_s2, xc_s2, xd_s2, ⟨x0_s2, -⟩, -⟩ := id hfq
          refine go_callVV (pc := 113) hF [vi (cHit (ro q₉) (cPlace (ro q₉) x₉) u₉ kd), vi ((mo (ro q₉)) + 1), vi ((le₉ (ro q₉)) + 1)] [] mv_X4_46 dX4_setAfterLook_113 (show i₉ < N by omega) x0_s2 (c_X4_put E N τ i₉ _ (B₉ + 99) (cHit (ro q₉) (cPlace (ro q₉) x₉) u₉ kd) ((mo (ro q₉)) + 1) ((le₉ (ro q₉)) + 1) (by omega) hfq (by omega) (by omega) zo (by omega)) rfl rfl (Nat.le_of_ble_eq_true rfl) (by decide) ⟨Nat.zero_le _, Nat.zero_le _⟩ (fun s2₉ h_s2 => ?_)
          obtain ⟨hf_s2, f_s2⟩ := h_s2
          have o_s2 := (f_s2 j₉ (by omega)).trans o_loop
          have or_s2 := (f_s2 (j₉ + 1) (by omega)).trans or_loop
          have om_s2 := (f_s2 (j₉ + 2) (by omega)).trans om_loop
          have ol_s2 := (f_s2 (j₉ + 3) (by omega)).trans ol_loop
          have g_s2 := (f_s2 g₉ (by omega)).trans g_loop
          refine go_iinc (pc := 116) hF [(4, vi (q₉ + 1)), (6, vi (cPlace (ro q₉) x₉)), (5, vi (ro q₉)), (0, vr E i₉), (1, vr E j₉), (2, vi x₉), (3, vr E g₉)] dX4_setAfterLook_116 2 rfl rfl (by decide) ?_
          refine go_goto (pc := 119) hF 7 dX4_setAfterLook_119 (by decide) ?_
          refine go_lv [(4, vi (q₉ + 1)), (0, vr E i₉), (1, vr E j₉), (2, vi x₉), (3, vr E g₉)] [0, 3, 4, 5, 6] rfl ?_
          exact ih₉ (q₉ + 1) s2₉ (by omega) (by omega) (hf_s2.iff (fun r₉ c => by
            have ea : cAfter (ro q₉) x₉ u₉ kd = cHit (ro q₉) (cPlace (ro q₉) x₉) u₉ kd := by unfold cAfter; rw [if_neg (by omega)]
            have ec2 : cCost (ro q₉) x₉ pr = 1 := by unfold cCost; rw [if_neg (by omega)]
            constructor
            · rintro (⟨q2₉, h1, h2⟩ | ⟨h2, h⟩)
              · exact ⟨q2₉, by omega, h2⟩
              · exact ⟨q₉, by omega, by rw [ea]; exact h2, by rw [ec2]; exact h⟩
            · rintro ⟨q2₉, h1, h2, h3⟩
              by_cases h4 : q2₉ = q₉
              · subst h4; rw [ea] at h2; rw [ec2] at h3; exact Or.inr ⟨h2, h3⟩
              · exact Or.inl ⟨q2₉, by omega, h2, h3⟩))  (fun jj hjj => by rw [f_s2 jj (by omega), fr_loop jj (by omega)])
        · have za : 0 ≤ cMiss (ro q₉) x₉ u₉ ∧ cMiss (ro q₉) x₉ u₉ < 512 := by unfold cMiss p8; repeat (first | omega | split)
          have zo : okR (cMiss (ro q₉) x₉ u₉) := by have h := okR_after (kd := kd) (hT₉.okr (q := q₉) (by omega)) zr.1 hx hu hkd; unfold cAfter at h; rw [if_pos (by omega)] at h; exact h
          refine go_aload_n (pc := 38) hF dX4_setAfterLook_38 3 rfl ?_
          refine go_iload (pc := 39) hF dX4_setAfterLook_39 1 rfl ?_
          refine go_iload_n (pc := 41) hF dX4_setAfterLook_41 5 rfl ?_
          refine go_aload_n (pc := 42) hF dX4_setAfterLook_42 6 rfl ?_
          refine go_get (pc := 43) hF fl_X4_60 dX4_setAfterLook_43 (by omega) g_loop rfl ?_
          refine go_callSP (pc := 46) hF [vi (ro q₉), vi x₉, vi u₉] [vr E i₉] ms_X4_65 dX4_setAfterLook_46 (c_X8_afterMiss E N τ (ro q₉) x₉ u₉ (by omega) (by omega) (by omega)) rfl rfl (Nat.le_of_ble_eq_true rfl) (by decide) ⟨Nat.zero_le _, Nat.zero_le _⟩ ?_
          refine go_aload_n (pc := 49) hF dX4_setAfterLook_49 4 rfl ?_
          refine go_get (pc := 50) hF fl_X4_17 dX4_setAfterLook_50 (by omega) o_loop rfl ?_
          refine go_iload (pc := 53) hF dX4_setAfterLook_53 1 rfl ?_
          refine go_iald (pc := 55) hF dX4_setAfterLook_55 (by omega) om_loop (by omega)  ?_
          refine go_aload_n (pc := 56) hF dX4_setAfterLook_56 6 rfl ?_
          refine go_get (pc := 57) hF fl_X4_69 dX4_setAfterLook_57 (by omega) g_loop rfl ?_
          refine go_iadd (pc := 60) hF dX4_setAfterLook_60 ?_
          refine go_aload_n (pc := 61) hF dX4_setAfterLook_61 4 rfl ?_
          refine go_get (pc := 62) hF fl_X4_20 dX4_setAfterLook_62 (by omega) o_loop rfl ?_
          refine go_iload (pc := 65) hF dX4_setAfterLook_65 1 rfl ?_
          refine go_iald (pc := 67) hF dX4_setAfterLook_67 (by omega) ol_loop (by omega)  ?_
          refine go_aload_n (pc := 68) hF dX4_setAfterLook_68 6 rfl ?_
          refine go_get (pc := 69) hF fl_X4_69 dX4_setAfterLook_69 (by omega) g_loop rfl ?_
          refine go_iadd (pc := 72) hF dX4_setAfterLook_72 ?_
          obtain ⟨xa_s3, xb_s3, xc_s3, xd_s3, ⟨x0_s3, -⟩, -⟩ := id hfq
          refine go_callVV (pc := 73) hF [vi (cMiss (ro q₉) x₉ u₉), vi ((mo (ro q₉)) + pr), vi ((le₉ (ro q₉)) + pr)] [] mv_X4_46 dX4_setAfterLook_73 (show i₉ < N by omega) x0_s3 (c_X4_put E N τ i₉ _ (B₉ + 99) (cMiss (ro q₉) x₉ u₉) ((mo (ro q₉)) + pr) ((le₉ (ro q₉)) + pr) (by omega) hfq (by omega) (by omega) zo (by omega)) rfl rfl (Nat.le_of_ble_eq_true rfl) (by decide) ⟨Nat.zero_le _, Nat.zero_le _⟩ (fun s3₉ h_s3 => ?_)
          obtain ⟨hf_s3, f_s3⟩ := h_s3
          have o_s3 := (f_s3 j₉ (by omega)).trans o_loop
          have or_s3 := (f_s3 (j₉ + 1) (by omega)).trans or_loop
          have om_s3 := (f_s3 (j₉ + 2) (by omega)).trans om_loop
          have ol_s3 := (f_s3 (j₉ + 3) (by omega)).trans ol_loop
          have g_s3 := (f_s3 g₉ (by omega)).trans g_loop
          refine go_goto (pc := 76) hF 116 dX4_setAfterLook_76 (by decide) ?_
          refine go_iinc (pc := 116) hF [(4, vi (q₉ + 1)), (6, vi (cPlace (ro q₉) x₉)), (5, vi (ro q₉)), (0, vr E i₉), (1, vr E j₉), (2, vi x₉), (3, vr E g₉)] dX4_setAfterLook_116 2 rfl rfl (by decide) ?_
          refine go_goto (pc := 119) hF 7 dX4_setAfterLook_119 (by decide) ?_
          refine go_lv [(4, vi (q₉ + 1)), (0, vr E i₉), (1, vr E j₉), (2, vi x₉), (3, vr E g₉)] [0, 3, 4, 5, 6] rfl ?_
          exact ih₉ (q₉ + 1) s3₉ (by omega) (by omega) (hf_s3.iff (fun r₉ c => by
            have ea : cAfter (ro q₉) x₉ u₉ kd = cMiss (ro q₉) x₉ u₉ := by unfold cAfter; rw [if_pos (by omega)]
            have ec2 : cCost (ro q₉) x₉ pr = pr := by unfold cCost; rw [if_pos (by omega)]
            constructor
            · rintro (⟨q2₉, h1, h2⟩ | ⟨h2, h⟩)
              · exact ⟨q2₉, by omega, h2⟩
              · exact ⟨q₉, by omega, by rw [ea]; exact h2, by rw [ec2]; exact h⟩
            · rintro ⟨q2₉, h1, h2, h3⟩
              by_cases h4 : q2₉ = q₉
              · subst h4; rw [ea] at h2; rw [ec2] at h3; exact Or.inr ⟨h2, h3⟩
              · exact Or.inl ⟨q2₉, by omega, h2, h3⟩))  (fun jj hjj => by rw [f_s3 jj (by omega), fr_loop jj (by omega)])
  exact loop₉ (sz₉.toNat + 1) 0 s1₉ (by omega) (by omega) ((hf_s1.wide (by omega)).iff (fun r₉ c => ⟨False.elim, fun ⟨q2₉, h1, h2⟩ => absurd h1 (by omega)⟩))  (fun _ _ => rfl)
