/-! Front, the rest₉. -/
set_option maxHeartbeats 4000000 in
set_option maxRecDepth 100000 in
theorem c_X4_wipe (E : En) (N : Nat) (σ : Nat → va_E) (i₉ : Nat) (S₉ : Int → Int → Prop) (B₉ : Int) (hi₉ : i₉ + 3 < N) (hfr : frI E σ i₉ S₉ B₉) (hBB : B₉ < 2000000000) : CV E M_X4_wipe 2 [vr E i₉] N σ (fun σ' => frI E σ' i₉ (fun _ _ => False) 0 ∧ ∀ q₉, (q₉ < i₉ ∨ i₉ + 3 < q₉) → σ' q₉ = σ q₉) := by
  refine CT.of2 (own := RX4) (by decide) rfl (Nat.le_of_ble_eq_true rfl) ?_
  intro p e R s m args below meth c Q hF hr hlk hnm hz hR hQ
  obtain ⟨ro, mo, le₉, sz₉, ⟨y0, y1, y2, y3⟩, hR, hB₉⟩ := hfr
  have hsz := hR.1.1
  refine go_iconst (pc := 0) hF dX4_wipe_0 ?_
  refine go_istore_n (pc := 1) hF [(1, vi 0), (0, vr E i₉)] dX4_wipe_1 rfl (by decide) ?_
  have loop₉ : ∀ (n₉ : Nat) (q₉ : Int) (gm₉ : Int → Int) (τ : Nat → va_E), sz₉ - q₉ < n₉ → 0 ≤ q₉ ∧ q₉ ≤ sz₉ → (∀ z₉ : Int, 0 ≤ z₉ → z₉ < 512 → gm₉ z₉ = mo z₉ ∨ gm₉ z₉ = -1) → (∀ q2₉ : Int, 0 ≤ q2₉ → q2₉ < q₉ → gm₉ (ro q2₉) = -1) → τ (i₉ + 2) = ai E 512 gm₉ → (∀ jj : Nat, (jj ≠ i₉ + 2) → τ jj = σ jj) → Go E p e R s m args below meth c Q 2 (0, 0) N τ [(1, vi q₉), (0, vr E i₉)] [] 2 := by
    intro n₉
    induction n₉ with
    | zero => intro q₉ gm₉ τ hfu hq hg1 hg2 c_tm_loop fr_loop; exfalso; omega
    | succ n₉ ih₉ =>
      intro q₉ gm₉ τ hfu hq hg1 hg2 c_tm_loop fr_loop
      have t_loop := (fr_loop i₉ (by omega)).trans y0
      have tr_loop := (fr_loop (i₉ + 1) (by omega)).trans y1
      have tl_loop := (fr_loop (i₉ + 3) (by omega)).trans y3
      refine go_iload_n (pc := 2) hF dX4_wipe_2 0 rfl ?_
      refine go_aload_n (pc := 3) hF dX4_wipe_3 1 rfl ?_
      refine go_get (pc := 4) hF fl_X4_23 dX4_wipe_4 (by omega) t_loop rfl ?_
      refine go_icmp_ge (pc := 7) hF 34 dX4_wipe_7 (by decide) (by omega) (by omega) (fun bq7 => ?_) (fun bq7 => ?_)
      · refine go_aload_n (pc := 34) hF dX4_wipe_34 1 rfl ?_
        refine go_iconst (pc := 35) hF dX4_wipe_35 ?_
        refine go_put (pc := 36) hF [vr E (i₉ + 1), vr E (i₉ + 2), vr E (i₉ + 3), vi 0] fl_X4_23 dX4_wipe_36 (by omega) t_loop rfl rfl rfl (Nat.le_of_ble_eq_true rfl) (fun s1₉ u_s1 f_s1 => ?_)
        have tr_s1 := (f_s1 (i₉ + 1) (show i₉ + 1 ≠ i₉ by omega)).trans tr_loop
        have tm_s1 := (f_s1 (i₉ + 2) (show i₉ + 2 ≠ i₉ by omega)).trans c_tm_loop
        have tl_s1 := (f_s1 (i₉ + 3) (show i₉ + 3 ≠ i₉ by omega)).trans tl_loop
        refine go_ai (i₉ + 2) 512 (fun _ => -1) (by omega) tm_s1 (fun z₉ h1 h2 => ?_) (fun τ1 v1₉ g1 => ?_)
        · by_cases hm₉ : mo z₉ = -1
          · rcases hg1 z₉ h1 (by omega) with h3 | h3 <;> omega
          · obtain ⟨q2₉, k1₉, k2₉, k3₉⟩ := hR.1.2.2.2 z₉ h1 (by omega) hm₉
            have := hg2 q2₉ k1₉ (by omega); rw [k3₉] at this; exact this
        exact go_vretQ hF hr hlk hQ dX4_wipe_39 ⟨⟨ro, fun _ => -1, le₉, 0, ⟨(g1 i₉ (by omega)).trans u_s1, (g1 _ (by omega)).trans tr_s1, v1₉, (g1 _ (by omega)).trans tl_s1⟩, ⟨⟨⟨by omega, by omega⟩, fun q₉ h1 h2 => absurd h1 (by omega), fun q₉ q2₉ h1 h2 => absurd h1 (by omega), fun r₉ h1 h2 h3 => absurd rfl h3⟩, fun r₉ h1 h2 => ⟨fun _ c hc₉ => hc₉, fun h => absurd rfl h⟩⟩, fun r₉ c h => h.elim⟩, fun j₉ hj => by rw [g1 j₉ (by omega), f_s1 j₉ (by omega), fr_loop j₉ (by omega)]⟩
      · refine go_iload_n (pc := 10) hF dX4_wipe_10 0 rfl ?_
        refine go_sipush (pc := 11) hF dX4_wipe_11 (by decide) ?_
        refine go_icmp_ge (pc := 14) hF 34 dX4_wipe_14 (by decide) (by omega) ⟨by decide, by decide⟩ (fun bq14 => ?_) (fun bq14 => ?_)
        · exact absurd bq14 (by omega)
        · have zr := hR.row hB₉ (q := q₉) (by omega)
          refine go_aload_n (pc := 17) hF dX4_wipe_17 1 rfl ?_
          refine go_get (pc := 18) hF fl_X4_17 dX4_wipe_18 (by omega) t_loop rfl ?_
          refine go_aload_n (pc := 21) hF dX4_wipe_21 1 rfl ?_
          refine go_iload_n (pc := 22) hF dX4_wipe_22 0 rfl ?_
          refine go_callVP (pc := 23) hF [vi q₉] [vr E (i₉ + 2)] mv_X4_33 dX4_wipe_23 (by omega) t_loop (c_X4_rowAt E N τ i₉ (by omega) ⟨t_loop, tr_loop, c_tm_loop, tl_loop⟩ q₉ (by omega) zr.1) rfl rfl (Nat.le_of_ble_eq_true rfl) (by decide) ⟨Nat.zero_le _, Nat.zero_le _⟩ ?_
          refine go_iconst (pc := 26) hF dX4_wipe_26 ?_
          refine go_iast (pc := 27) hF dX4_wipe_27 (by omega) c_tm_loop (by omega) (fun s2₉ u_s2 f_s2 => ?_)
          have t_s2 := (f_s2 i₉ (show i₉ ≠ i₉ + 2 by omega)).trans t_loop
          have tr_s2 := (f_s2 (i₉ + 1) (show i₉ + 1 ≠ i₉ + 2 by omega)).trans tr_loop
          have tl_s2 := (f_s2 (i₉ + 3) (show i₉ + 3 ≠ i₉ + 2 by omega)).trans tl_loop
          refine go_iinc (pc := 28) hF [(1, vi (q₉ + 1)), (0, vr E i₉)] dX4_wipe_28 0 rfl rfl (by decide) ?_
          refine go_goto (pc := 31) hF 2 dX4_wipe_31 (by decide) ?_
          exact ih₉ _ _ s2₉ (by omega) (by omega) (fun z₉ h1 h2 => by by_cases h3 : z₉ = ro q₉; (subst h3; exact Or.inr (up_self _ _ _)); (rw [up_ne _ _ h3]; exact hg1 z₉ h1 h2)) (fun q2₉ h1 h2 => by by_cases h3 : ro q2₉ = ro q₉; (rw [h3]; exact up_self _ _ _); (rw [up_ne _ _ h3]; exact hg2 q2₉ h1 (by by_cases h4 : q2₉ = q₉; (subst h4; exact absurd rfl h3); omega))) u_s2 (fun jj hjj => by rw [f_s2 jj (by omega), fr_loop jj (by omega)])
  exact loop₉ (sz₉.toNat + 1) 0 mo σ (by omega) (by omega) (fun z₉ _ _ => Or.inl rfl) (fun q2₉ h1 h2 => absurd h1 (by omega)) y2 (fun _ _ => rfl)
set_option maxHeartbeats 4000000 in
set_option maxRecDepth 100000 in
theorem c_X4_work (E : En) (N : Nat) (σ : Nat → va_E) (i₉ : Nat) (S₉ : Int → Int → Prop) (B₉ : Int) (hi₉ : i₉ + 3 < N) (hfr : frI E σ i₉ S₉ B₉) (hBB : B₉ < 2000000000) : CV E M_X4_work 2 [vr E i₉] N σ (fun σ' => frI E σ' i₉ (fun r₉ c => S₉ r₉ (c - 1)) (B₉ + 1) ∧ ∀ q₉, (q₉ < i₉ ∨ i₉ + 3 < q₉) → σ' q₉ = σ q₉) := by
  refine CT.of2 (own := RX4) (by decide) rfl (Nat.le_of_ble_eq_true rfl) ?_
  intro p e R s m args below meth c Q hF hr hlk hnm hz hR hQ
  obtain ⟨ro, mo, le₉, sz₉, ⟨y0, y1, y2, y3⟩, hR, hB₉⟩ := hfr
  have hsz := hR.1.1
  refine go_iconst (pc := 0) hF dX4_work_0 ?_
  refine go_istore_n (pc := 1) hF [(1, vi 0), (0, vr E i₉)] dX4_work_1 rfl (by decide) ?_
  have loop₉ : ∀ (n₉ : Nat) (q₉ : Int) (gm₉ : Int → Int) (gl : Int → Int) (τ : Nat → va_E), sz₉ - q₉ < n₉ → 0 ≤ q₉ ∧ q₉ ≤ sz₉ → (∀ q2₉ : Int, 0 ≤ q2₉ → q2₉ < q₉ → gm₉ (ro q2₉) = mo (ro q2₉) + 1 ∧ gl (ro q2₉) = le₉ (ro q2₉) + 1) → (∀ r₉ : Int, 0 ≤ r₉ → r₉ < 512 → (∀ q2₉ : Int, 0 ≤ q2₉ → q2₉ < q₉ → ro q2₉ ≠ r₉) → gm₉ r₉ = mo r₉ ∧ gl r₉ = le₉ r₉) → τ (i₉ + 2) = ai E 512 gm₉ → τ (i₉ + 3) = ai E 512 gl → (∀ jj : Nat, (jj ≠ i₉ + 2 ∧ jj ≠ i₉ + 3) → τ jj = σ jj) → Go E p e R s m args below meth c Q 3 (0, 0) N τ [(1, vi q₉), (0, vr E i₉)] [] 2 := by
    intro n₉
    induction n₉ with
    | zero => intro q₉ gm₉ gl τ hfu hq hg1 hg2 c_tm_loop c_tl_loop fr_loop; exfalso; omega
    | succ n₉ ih₉ =>
      intro q₉ gm₉ gl τ hfu hq hg1 hg2 c_tm_loop c_tl_loop fr_loop
      have t_loop := (fr_loop i₉ (by omega)).trans y0
      have tr_loop := (fr_loop (i₉ + 1) (by omega)).trans y1
      refine go_iload_n (pc := 2) hF dX4_work_2 0 rfl ?_
      refine go_aload_n (pc := 3) hF dX4_work_3 1 rfl ?_
      refine go_get (pc := 4) hF fl_X4_23 dX4_work_4 (by omega) t_loop rfl ?_
      refine go_icmp_ge (pc := 7) hF 42 dX4_work_7 (by decide) (by omega) (by omega) (fun bq7 => ?_) (fun bq7 => ?_)
      · have hq9 : q₉ = sz₉ := by omega
        subst hq9
        refine go_vretQ hF hr hlk hQ dX4_work_42 ⟨⟨ro, gm₉, gl, q₉, ⟨t_loop, tr_loop, c_tm_loop, c_tl_loop⟩, ?_, ?_⟩, (fun jj hjj => by rw [fr_loop jj (by omega)])⟩
        · refine ⟨⟨hsz, fun q2₉ h1 h2 => ⟨(hR.row hB₉ (q := q2₉) ⟨h1, h2⟩).1, ?_, hR.okr ⟨h1, h2⟩⟩, hR.1.2.2.1, fun r₉ h1 h2 h3 => ?_⟩, fun r₉ h1 h2 => ⟨fun hm₉ c hc₉ => ?_, fun hm₉ => ?_⟩⟩
          · have := hR.row hB₉ (q := q2₉) ⟨h1, h2⟩; have := (hg1 q2₉ h1 h2).1; omega
          · by_cases hm₉ : mo r₉ = -1
            · exact absurd ((hg2 r₉ h1 h2 (fun q2₉ k1₉ k2₉ k3₉ => (hR.1.2.1 q2₉ k1₉ k2₉).2.1 (by rw [k3₉]; exact hm₉))).1.trans hm₉) h3
            · exact hR.1.2.2.2 r₉ h1 h2 hm₉
          · by_cases hm2 : mo r₉ = -1
            · exact (hR.2 r₉ h1 h2).1 hm2 _ hc₉
            · obtain ⟨q2₉, k1₉, k2₉, k3₉⟩ := hR.1.2.2.2 r₉ h1 h2 hm2
              have h5 := hR.row hB₉ (q := q2₉) ⟨k1₉, k2₉⟩; have h6 := (hg1 q2₉ k1₉ k2₉).1; rw [k3₉] at h5 h6; omega
          · have hm2 : mo r₉ ≠ -1 := fun hm2 => hm₉ ((hg2 r₉ h1 h2 (fun q2₉ k1₉ k2₉ k3₉ => (hR.1.2.1 q2₉ k1₉ k2₉).2.1 (by rw [k3₉]; exact hm2))).1.trans hm2)
            obtain ⟨q2₉, k1₉, k2₉, k3₉⟩ := hR.1.2.2.2 r₉ h1 h2 hm2
            have h6 := hg1 q2₉ k1₉ k2₉; rw [k3₉] at h6
            obtain ⟨j1, j2₉, j3₉⟩ := (hR.2 r₉ h1 h2).2 hm2
            refine ⟨by show S₉ r₉ (gm₉ r₉ - 1); rw [h6.1, Int.add_sub_cancel]; exact j1, by show S₉ r₉ (gl r₉ - 1); rw [h6.2, Int.add_sub_cancel]; exact j2₉, fun c hc₉ => ?_⟩
            have := j3₉ _ hc₉; omega
        · intro r₉ c h; have := hB₉ _ _ h; omega
      · have zr := hR.row hB₉ (q := q₉) (by omega)
        refine go_aload_n (pc := 10) hF dX4_work_10 1 rfl ?_
        refine go_iload_n (pc := 11) hF dX4_work_11 0 rfl ?_
        refine go_callVP (pc := 12) hF [vi q₉] [] mv_X4_33 dX4_work_12 (by omega) t_loop (c_X4_rowAt E N τ i₉ (by omega) ⟨t_loop, tr_loop, c_tm_loop, c_tl_loop⟩ q₉ (by omega) zr.1) rfl rfl (Nat.le_of_ble_eq_true rfl) (by decide) ⟨Nat.zero_le _, Nat.zero_le _⟩ ?_
        refine go_istore_n (pc := 15) hF [(2, vi (ro q₉)), (1, vi q₉), (0, vr E i₉)] dX4_work_15 rfl (by decide) ?_
        refine go_aload_n (pc := 16) hF dX4_work_16 2 rfl ?_
        refine go_get (pc := 17) hF fl_X4_17 dX4_work_17 (by omega) t_loop rfl ?_
        refine go_iload_n (pc := 20) hF dX4_work_20 0 rfl ?_
        refine go_dup2 (pc := 21) hF dX4_work_21 rfl rfl ?_
        refine go_iald (pc := 22) hF dX4_work_22 (by omega) c_tm_loop (by omega)  ?_
        refine go_iconst (pc := 23) hF dX4_work_23 ?_
        refine go_iadd (pc := 24) hF dX4_work_24 ?_
        refine go_iast (pc := 25) hF dX4_work_25 (by omega) c_tm_loop (by omega) (fun s1₉ u_s1 f_s1 => ?_)
        have t_s1 := (f_s1 i₉ (show i₉ ≠ i₉ + 2 by omega)).trans t_loop
        have tr_s1 := (f_s1 (i₉ + 1) (show i₉ + 1 ≠ i₉ + 2 by omega)).trans tr_loop
        have tl_s1 := (f_s1 (i₉ + 3) (show i₉ + 3 ≠ i₉ + 2 by omega)).trans c_tl_loop
        refine go_aload_n (pc := 26) hF dX4_work_26 2 rfl ?_
        refine go_get (pc := 27) hF fl_X4_20 dX4_work_27 (by omega) t_s1 rfl ?_
        refine go_iload_n (pc := 30) hF dX4_work_30 0 rfl ?_
        refine go_dup2 (pc := 31) hF dX4_work_31 rfl rfl ?_
        refine go_iald (pc := 32) hF dX4_work_32 (by omega) tl_s1 (by omega)  ?_
        refine go_iconst (pc := 33) hF dX4_work_33 ?_
        refine go_iadd (pc := 34) hF dX4_work_34 ?_
        refine go_iast (pc := 35) hF dX4_work_35 (by omega) tl_s1 (by omega) (fun s2₉ u_s2 f_s2 => ?_)
        have t_s2 := (f_s2 i₉ (show i₉ ≠ i₉ + 3 by omega)).trans t_s1
        have tr_s2 := (f_s2 (i₉ + 1) (show i₉ + 1 ≠ i₉ + 3 by omega)).trans tr_s1
        have tm_s2 := (f_s2 (i₉ + 2) (show i₉ + 2 ≠ i₉ + 3 by omega)).trans u_s1
        refine go_iinc (pc := 36) hF [(1, vi (q₉ + 1)), (2, vi (ro q₉)), (0, vr E i₉)] dX4_work_36 1 rfl rfl (by decide) ?_
        refine go_goto (pc := 39) hF 2 dX4_work_39 (by decide) ?_
        refine go_lv [(1, vi (q₉ + 1)), (0, vr E i₉)] [0, 2] rfl ?_
        exact ih₉ _ _ _ s2₉ (by omega) (by omega) (fun q2₉ h1 h2 => by by_cases h3 : ro q2₉ = ro q₉; (rw [h3, up_self, up_self]; have h4 := hR.1.2.2.1 q2₉ q₉ h1 (by omega) (by omega) (by omega) h3; have h5 := hg2 (ro q₉) zr.1.1 zr.1.2 (fun q3₉ k1₉ k2₉ k3₉ => absurd (hR.1.2.2.1 q3₉ q₉ k1₉ (by omega) (by omega) (by omega) k3₉) (by omega)); omega); (rw [up_ne _ _ h3, up_ne _ _ h3]; exact hg1 q2₉ h1 (by by_cases h4 : q2₉ = q₉; (subst h4; exact absurd rfl h3); omega))) (fun r₉ h1 h2 h3 => by rw [up_ne _ _ (fun e => h3 q₉ (by omega) (by omega) e.symm), up_ne _ _ (fun e => h3 q₉ (by omega) (by omega) e.symm)]; exact hg2 r₉ h1 h2 (fun q2₉ k1₉ k2₉ => h3 q2₉ k1₉ (by omega))) tm_s2 u_s2 (fun jj hjj => by rw [f_s2 jj (by omega), f_s1 jj (by omega), fr_loop jj (by omega)])
  exact loop₉ (sz₉.toNat + 1) 0 mo le₉ σ (by omega) (by omega) (fun q2₉ h1 h2 => absurd h1 (by omega)) (fun r₉ _ _ _ => ⟨rfl, rfl⟩) y2 y3 (fun _ _ => rfl)
set_option maxHeartbeats 4000000 in
set_option maxRecDepth 100000 in
theorem c_X4_mostOfAll (E : En) (N : Nat) (σ : Nat → va_E) (i₉ : Nat) (S₉ : Int → Int → Prop) (B₉ : Int) (hi₉ : i₉ + 3 < N) (hfr : frI E σ i₉ S₉ B₉) (hBB : B₉ < 2000000000) (hB0 : 0 ≤ B₉) : CI E M_X4_mostOfAll 2 [vr E i₉] N σ (fun y₉ σ' => σ' = σ ∧ (0 ≤ y₉ ∧ y₉ ≤ B₉ ∨ y₉ = 0) ∧ (∀ r₉ c, S₉ r₉ c → c ≤ y₉) ∧ (y₉ = 0 ∨ ∃ r₉, S₉ r₉ y₉)) := by
  refine CT.of2 (own := RX4) (by decide) rfl (Nat.le_of_ble_eq_true rfl) ?_
  intro p e R s m args below meth c Q hF hr hlk hnm hz hR hQ
  obtain ⟨ro, mo, le₉, sz₉, ⟨y0, y1, y2, y3⟩, hR, hB₉⟩ := hfr
  have hsz := hR.1.1
  refine go_iconst (pc := 0) hF dX4_mostOfAll_0 ?_
  refine go_istore_n (pc := 1) hF [(1, vi 0), (0, vr E i₉)] dX4_mostOfAll_1 rfl (by decide) ?_
  refine go_iconst (pc := 2) hF dX4_mostOfAll_2 ?_
  refine go_istore_n (pc := 3) hF [(2, vi 0), (1, vi 0), (0, vr E i₉)] dX4_mostOfAll_3 rfl (by decide) ?_
  have loop₉ : ∀ (n₉ : Nat) (q₉ : Int) (y₉ : Int), sz₉ - q₉ < n₉ → 0 ≤ q₉ ∧ q₉ ≤ sz₉ → (0 ≤ y₉ ∧ y₉ ≤ B₉ ∨ y₉ = 0) ∧ (y₉ = 0 ∨ ∃ r₉, S₉ r₉ y₉) → (∀ q2₉ : Int, 0 ≤ q2₉ → q2₉ < q₉ → mo (ro q2₉) ≤ y₉) → Go E p e R s m args below meth c Q 3 (0, 0) N σ [(2, vi q₉), (1, vi y₉), (0, vr E i₉)] [] 4 := by
    intro n₉
    induction n₉ with
    | zero => intro q₉ y₉ hfu hq hy hg; exfalso; omega
    | succ n₉ ih₉ =>
      intro q₉ y₉ hfu hq hy hg
      refine go_iload_n (pc := 4) hF dX4_mostOfAll_4 0 rfl ?_
      refine go_aload_n (pc := 5) hF dX4_mostOfAll_5 2 rfl ?_
      refine go_get (pc := 6) hF fl_X4_23 dX4_mostOfAll_6 (by omega) y0 rfl ?_
      refine go_icmp_ge (pc := 9) hF 33 dX4_mostOfAll_9 (by decide) (by omega) (by omega) (fun bq9 => ?_) (fun bq9 => ?_)
      · refine go_iload_n (pc := 33) hF dX4_mostOfAll_33 1 rfl ?_
        have hq9 : q₉ = sz₉ := by omega
        subst hq9
        refine go_iretQ hF hr hlk hQ dX4_mostOfAll_34 ⟨rfl, hy.1, fun r₉ c h => ?_, hy.2⟩
        have h1 := hB₉ r₉ c h
        by_cases hm₉ : mo r₉ = -1
        · exact absurd h ((hR.2 r₉ h1.1.1 h1.1.2).1 hm₉ c)
        · obtain ⟨q2₉, k1₉, k2₉, k3₉⟩ := hR.1.2.2.2 r₉ h1.1.1 h1.1.2 hm₉
          have := hg q2₉ k1₉ k2₉; rw [k3₉] at this; have := (((hR.2 r₉ h1.1.1 h1.1.2).2 hm₉).2.2 c h).2; omega
      · have zr := hR.row hB₉ (q := q₉) (by omega)
        refine go_iload_n (pc := 12) hF dX4_mostOfAll_12 1 rfl ?_
        refine go_aload_n (pc := 13) hF dX4_mostOfAll_13 2 rfl ?_
        refine go_get (pc := 14) hF fl_X4_17 dX4_mostOfAll_14 (by omega) y0 rfl ?_
        refine go_aload_n (pc := 17) hF dX4_mostOfAll_17 2 rfl ?_
        refine go_iload_n (pc := 18) hF dX4_mostOfAll_18 0 rfl ?_
        refine go_callVP (pc := 19) hF [vi q₉] [vr E (i₉ + 2), vi y₉] mv_X4_33 dX4_mostOfAll_19 (by omega) y0 (c_X4_rowAt E N σ i₉ (by omega) ⟨y0, y1, y2, y3⟩ q₉ (by omega) zr.1) rfl rfl (Nat.le_of_ble_eq_true rfl) (by decide) ⟨Nat.zero_le _, Nat.zero_le _⟩ ?_
        refine go_iald (pc := 22) hF dX4_mostOfAll_22 (by omega) y2 (by omega)  ?_
        refine go_mmax (pc := 23) hF ms_X4_37 dX4_mostOfAll_23 (by omega) (by omega) (Nat.le_of_ble_eq_true rfl) (by decide) ⟨Nat.zero_le _, Nat.zero_le _⟩ ?_
        refine go_istore_n (pc := 26) hF [(1, vi (max y₉ (mo (ro q₉)))), (2, vi q₉), (0, vr E i₉)] dX4_mostOfAll_26 rfl (by decide) ?_
        refine go_iinc (pc := 27) hF [(2, vi (q₉ + 1)), (1, vi (max y₉ (mo (ro q₉)))), (0, vr E i₉)] dX4_mostOfAll_27 1 rfl rfl (by decide) ?_
        refine go_goto (pc := 30) hF 4 dX4_mostOfAll_30 (by decide) ?_
        exact ih₉ _ _ (by omega) (by omega) ⟨by omega, by rcases Int.le_total y₉ (mo (ro q₉)) with h | h; (rw [Int.max_eq_right h]; exact Or.inr ⟨_, zr.2.2.2.2.1⟩); (rw [Int.max_eq_left h]; exact hy.2)⟩ (fun q2₉ h1 h2 => by by_cases h4 : q2₉ = q₉; (subst h4; omega); (have := hg q2₉ h1 (by omega); omega))
  exact loop₉ (sz₉.toNat + 1) 0 0 (by omega) (by omega) ⟨Or.inr rfl, Or.inl rfl⟩ (fun q2₉ h1 h2 => absurd h1 (by omega)) 
set_option maxHeartbeats 4000000 in
set_option maxRecDepth 100000 in
theorem c_X4_leastOfAll (E : En) (N : Nat) (σ : Nat → va_E) (i₉ : Nat) (S₉ : Int → Int → Prop) (B₉ : Int) (hi₉ : i₉ + 3 < N) (hfr : frI E σ i₉ S₉ B₉) (hBB : B₉ < 2000000000) (hne : ∃ r₉ c, S₉ r₉ c) : CI E M_X4_leastOfAll 2 [vr E i₉] N σ (fun y₉ σ' => σ' = σ ∧ (∀ r₉ c, S₉ r₉ c → y₉ ≤ c) ∧ ∃ r₉, S₉ r₉ y₉) := by
  refine CT.of2 (own := RX4) (by decide) rfl (Nat.le_of_ble_eq_true rfl) ?_
  intro p e R s m args below meth c Q hF hr hlk hnm hz hR hQ
  obtain ⟨ro, mo, le₉, sz₉, ⟨y0, y1, y2, y3⟩, hR, hB₉⟩ := hfr
  have hsz := hR.1.1
  have h1sz : 1 ≤ sz₉ := by
    obtain ⟨r₉, c, h⟩ := hne
    have h1 := hB₉ r₉ c h
    by_cases hm₉ : mo r₉ = -1
    · exact absurd h ((hR.2 r₉ h1.1.1 h1.1.2).1 hm₉ c)
    · obtain ⟨q2₉, k1₉, k2₉, k3₉⟩ := hR.1.2.2.2 r₉ h1.1.1 h1.1.2 hm₉
      omega
  refine go_aload_n (pc := 0) hF dX4_leastOfAll_0 0 rfl ?_
  refine go_get (pc := 1) hF fl_X4_23 dX4_leastOfAll_1 (by omega) y0 rfl ?_
  refine go_if_ne (pc := 4) hF 11 dX4_leastOfAll_4 (by decide) (by omega) (fun bq4 => ?_) (fun bq4 => ?_)
  · have z0 := hR.row hB₉ (q := 0) (by omega)
    refine go_aload_n (pc := 11) hF dX4_leastOfAll_11 0 rfl ?_
    refine go_get (pc := 12) hF fl_X4_20 dX4_leastOfAll_12 (by omega) y0 rfl ?_
    refine go_aload_n (pc := 15) hF dX4_leastOfAll_15 0 rfl ?_
    refine go_iconst (pc := 16) hF dX4_leastOfAll_16 ?_
    refine go_callVP (pc := 17) hF [vi 0] [vr E (i₉ + 3)] mv_X4_33 dX4_leastOfAll_17 (by omega) y0 (c_X4_rowAt E N σ i₉ (by omega) ⟨y0, y1, y2, y3⟩ 0 (by omega) (by first | exact zr.1 | exact z0.1)) rfl rfl (Nat.le_of_ble_eq_true rfl) (by decide) ⟨Nat.zero_le _, Nat.zero_le _⟩ ?_
    refine go_iald (pc := 20) hF dX4_leastOfAll_20 (by omega) y3 (by omega)  ?_
    refine go_istore_n (pc := 21) hF [(1, vi (le₉ (ro 0))), (0, vr E i₉)] dX4_leastOfAll_21 rfl (by decide) ?_
    refine go_iconst (pc := 22) hF dX4_leastOfAll_22 ?_
    refine go_istore_n (pc := 23) hF [(2, vi 1), (1, vi (le₉ (ro 0))), (0, vr E i₉)] dX4_leastOfAll_23 rfl (by decide) ?_
    have loop₉ : ∀ (n₉ : Nat) (q₉ : Int) (y₉ : Int), sz₉ - q₉ < n₉ → 1 ≤ q₉ ∧ q₉ ≤ sz₉ → (0 ≤ y₉ ∧ y₉ ≤ B₉) ∧ (∃ r₉, S₉ r₉ y₉) → (∀ q2₉ : Int, 0 ≤ q2₉ → q2₉ < q₉ → y₉ ≤ le₉ (ro q2₉)) → Go E p e R s m args below meth c Q 3 (0, 0) N σ [(2, vi q₉), (1, vi y₉), (0, vr E i₉)] [] 24 := by
      intro n₉
      induction n₉ with
      | zero => intro q₉ y₉ hfu hq hy hg; exfalso; omega
      | succ n₉ ih₉ =>
        intro q₉ y₉ hfu hq hy hg
        refine go_iload_n (pc := 24) hF dX4_leastOfAll_24 0 rfl ?_
        refine go_aload_n (pc := 25) hF dX4_leastOfAll_25 2 rfl ?_
        refine go_get (pc := 26) hF fl_X4_23 dX4_leastOfAll_26 (by omega) y0 rfl ?_
        refine go_icmp_ge (pc := 29) hF 53 dX4_leastOfAll_29 (by decide) (by omega) (by omega) (fun bq29 => ?_) (fun bq29 => ?_)
        · refine go_iload_n (pc := 53) hF dX4_leastOfAll_53 1 rfl ?_
          refine go_iretQ hF hr hlk hQ dX4_leastOfAll_54 ⟨rfl, fun r₉ c h => ?_, hy.2⟩
          have h1 := hB₉ r₉ c h
          by_cases hm₉ : mo r₉ = -1
          · exact absurd h ((hR.2 r₉ h1.1.1 h1.1.2).1 hm₉ c)
          · obtain ⟨q2₉, k1₉, k2₉, k3₉⟩ := hR.1.2.2.2 r₉ h1.1.1 h1.1.2 hm₉
            have := hg q2₉ k1₉ (by omega); rw [k3₉] at this; have := (((hR.2 r₉ h1.1.1 h1.1.2).2 hm₉).2.2 c h).1; omega
        · have zr := hR.row hB₉ (q := q₉) (by omega)
          refine go_iload_n (pc := 32) hF dX4_leastOfAll_32 1 rfl ?_
          refine go_aload_n (pc := 33) hF dX4_leastOfAll_33 2 rfl ?_
          refine go_get (pc := 34) hF fl_X4_20 dX4_leastOfAll_34 (by omega) y0 rfl ?_
          refine go_aload_n (pc := 37) hF dX4_leastOfAll_37 2 rfl ?_
          refine go_iload_n (pc := 38) hF dX4_leastOfAll_38 0 rfl ?_
          refine go_callVP (pc := 39) hF [vi q₉] [vr E (i₉ + 3), vi y₉] mv_X4_33 dX4_leastOfAll_39 (by omega) y0 (c_X4_rowAt E N σ i₉ (by omega) ⟨y0, y1, y2, y3⟩ q₉ (by omega) (by first | exact zr.1 | exact z0.1)) rfl rfl (Nat.le_of_ble_eq_true rfl) (by decide) ⟨Nat.zero_le _, Nat.zero_le _⟩ ?_
          refine go_iald (pc := 42) hF dX4_leastOfAll_42 (by omega) y3 (by omega)  ?_
          refine go_mmin (pc := 43) hF ms_X4_43 dX4_leastOfAll_43 (by omega) (by omega) (Nat.le_of_ble_eq_true rfl) (by decide) ⟨Nat.zero_le _, Nat.zero_le _⟩ ?_
          refine go_istore_n (pc := 46) hF [(1, vi (min y₉ (le₉ (ro q₉)))), (2, vi q₉), (0, vr E i₉)] dX4_leastOfAll_46 rfl (by decide) ?_
          refine go_iinc (pc := 47) hF [(2, vi (q₉ + 1)), (1, vi (min y₉ (le₉ (ro q₉)))), (0, vr E i₉)] dX4_leastOfAll_47 1 rfl rfl (by decide) ?_
          refine go_goto (pc := 50) hF 24 dX4_leastOfAll_50 (by decide) ?_
          exact ih₉ _ _ (by omega) (by omega) ⟨by omega, by rcases Int.le_total y₉ (le₉ (ro q₉)) with h | h; (rw [Int.min_eq_left h]; exact hy.2); (rw [Int.min_eq_right h]; exact ⟨_, zr.2.2.2.2.2⟩)⟩ (fun q2₉ h1 h2 => by by_cases h4 : q2₉ = q₉; (subst h4; omega); (have := hg q2₉ h1 (by omega); omega))
    exact loop₉ (sz₉.toNat + 1) 1 _ (by omega) (by omega) ⟨by omega, ⟨_, z0.2.2.2.2.2⟩⟩ (fun q2₉ h1 h2 => by rw [show q2₉ = 0 by omega]; omega) 
  · exact absurd bq4 (by omega)
