/-! Runner: rows₉; a₉ run₉. -/
set_option maxHeartbeats 4000000 in
set_option maxRecDepth 100000 in
theorem run_step (E : En) (N D₉ : Nat) (IH₉ : ∀ D9, D₉ = D9 + 1 → RunRow E N D9) : RunRow E N D₉ := by
  intro t₉ σ g₉ h sg vl mt₉ lw ll la sz₉ lk₉ chs lps dp ln o k₉ lp dl ch₉ ta hi₉ mi sk r₉ u₉ kd pr hN₉ hgN hhN hgh hg23 hh23 hp ho hwf hdp hpa0 ho1 hk1 hdl hch hsk hrw hu hkd hg hh
  refine CT.of2 (own := RX9) (by decide) rfl (Nat.le_of_ble_eq_true rfl) ?_
  intro p e R s m args below meth c Q hF hr hlk hnm hz hR hQ
  refine go_iload_n (pc := 0) hF dX9_runRow_0 3 rfl ?_
  refine go_istore (pc := 1) hF [(6, vi o), (0, vr E g₉), (1, vr E 23), (2, vr E h), (3, vi o), (4, vi (o + (tLen t₉ : Int))), (5, vi dl)] dX9_runRow_1 rfl (by decide) ?_
  have hsz := ho.1
  have hok := ho.2.2.2.2.2.2.1
  have hlk24 := ho.2.1
  have loop₉ : ∀ tt, wf tt → ∀ (oo kk : Int) (X₉ : RS) (τ : Nat → va_E), tDep tt ≤ D₉ → (tDep tt : Int) + dl ≤ 3 → PA₉ sg vl mt₉ lw ll la tt oo kk lp → 0 ≤ oo ∧ oo + tLen tt = o + tLen t₉ → 0 ≤ kk ∧ kk + tLks tt ≤ lk₉ → 0 ≤ X₉.2.2.2.2 ∧ X₉.2.2.2.2 + tAsk tt ≤ 2000000000 → vrow u₉ X₉.1 → rn u₉ kd pr ch₉ tt X₉ = rn u₉ kd pr ch₉ t₉ (r₉, ta, hi₉, mi, sk) → τ g₉ = ob 8 [vi ch₉, vi X₉.2.1, vi X₉.2.2.1, vi X₉.2.2.2.1, vi X₉.2.2.2.2] → τ h = ob 1 [vi (en X₉.1), vi u₉, vi kd, vi pr] → (∀ jj : Nat, (jj ≠ g₉ ∧ jj ≠ h) → τ jj = σ jj) → Go E p e R s m args below meth c Q 8 (0, 0) N τ [(6, vi oo), (0, vr E g₉), (1, vr E 23), (2, vr E h), (3, vi o), (4, vi (o + (tLen t₉ : Int))), (5, vi dl)] [] 3 := by
    refine tInd ?_ ?_ ?_ ?_
    · intro oo kk X₉ τ hd1 hd2 hpa hoo hkk hsk2 hXr hX c_g_loop c_h_loop fr_loop
      have hpl := hp.keep (fun jj h1 h2 => fr_loop jj (by omega))
      refine go_iload (pc := 3) hF dX9_runRow_3 0 rfl ?_
      have e9₉ : tLen Std.Format.nil = 0 := rfl
      refine go_iload (pc := 5) hF dX9_runRow_5 5 rfl ?_
      refine go_icmp_ge (pc := 7) hF 111 dX9_runRow_7 (by decide) (by omega) (by omega) (fun bq7 => ?_) (fun bq7 => ?_)
      · have eX : X₉ = rn u₉ kd pr ch₉ t₉ (r₉, ta, hi₉, mi, sk) := hX
        exact go_vretQ hF hr hlk hQ dX9_runRow_111 ⟨by rw [← eX]; exact c_g_loop, by rw [← eX]; exact c_h_loop, (fun jj hjj => by rw [fr_loop jj (by omega)])⟩
      · exact absurd bq7 (by omega)
    · intro cx rt hcx hwr ih₉
      have e8 : tLen (Std.Format.append (Std.Format.nest cx Std.Format.nil) rt) = 1 + tLen rt := rfl
      have e7₉ : tAsk (Std.Format.append (Std.Format.nest cx Std.Format.nil) rt) = tAsk rt := rfl
      have e6₉ : tDep (Std.Format.append (Std.Format.nest cx Std.Format.nil) rt) = tDep rt := rfl
      have e5₉ : tLks (Std.Format.append (Std.Format.nest cx Std.Format.nil) rt) = (if cx = 46 then 0 else 1) + tLks rt := rfl
      by_cases hc46 : cx = 46
      · intro oo kk X₉ τ hd1 hd2 hpa hoo hkk hsk2 hXr hX c_g_loop c_h_loop fr_loop
        obtain ⟨pa1, par_⟩ := hpa
        rw [if_pos hc46] at pa1
        have hl : rLook u₉ kd pr cx X₉ = (X₉.1, X₉.2.1 + 1, X₉.2.2.1, X₉.2.2.2.1, X₉.2.2.2.2) := by unfold rLook; rw [if_pos hc46]
        have hpl := hp.keep (fun jj h1 h2 => fr_loop jj (by omega))
        refine go_iload (pc := 3) hF dX9_runRow_3 0 rfl ?_
        refine go_iload (pc := 5) hF dX9_runRow_5 5 rfl ?_
        refine go_icmp_ge (pc := 7) hF 111 dX9_runRow_7 (by decide) (by omega) (by omega) (fun bq7 => ?_) (fun bq7 => ?_)
        · exact absurd bq7 (by omega)
        · refine go_iload (pc := 10) hF dX9_runRow_10 6 rfl ?_
          refine go_iconst (pc := 12) hF dX9_runRow_12 ?_
          refine go_icmp_gt (pc := 13) hF 111 dX9_runRow_13 (by decide) (by omega) ⟨by decide, by decide⟩ (fun bq13 => ?_) (fun bq13 => ?_)
          · exact absurd bq13 (by omega)
          · refine go_aload_n (pc := 16) hF dX9_runRow_16 2 rfl ?_
            refine go_iload (pc := 17) hF dX9_runRow_17 0 rfl ?_
            have cm_k1 : CP E M_X6_signAt 2 [vr E 23, vi oo] N τ (1) := by
              have h := c_X6_signAt E N τ 23 oo (by omega) (by omega) hpl ho
              rw [show gSign sg sz₉ oo = 1 from by unfold gSign; rw [if_pos (by omega)]; exact pa1] at h
              exact h
            refine go_callVP (pc := 19) hF [vi oo] [] mv_X9_36 dX9_runRow_19 (by omega) hpl.1 cm_k1 rfl rfl (Nat.le_of_ble_eq_true rfl) (by omega) ⟨Nat.zero_le _, Nat.zero_le _⟩ ?_
            refine go_istore (pc := 22) hF [(7, vi 1), (6, vi oo), (0, vr E g₉), (1, vr E 23), (2, vr E h), (3, vi o), (4, vi (o + (tLen t₉ : Int))), (5, vi dl)] dX9_runRow_22 rfl (by decide) ?_
            refine go_iload (pc := 24) hF dX9_runRow_24 0 rfl ?_
            refine go_if_ne (pc := 26) hF 47 dX9_runRow_26 (by decide) ⟨by decide, by decide⟩ (fun bq26 => ?_) (fun bq26 => ?_)
            · refine go_iload (pc := 47) hF dX9_runRow_47 0 rfl ?_
              refine go_iconst (pc := 49) hF dX9_runRow_49 ?_
              refine go_icmp_ne (pc := 50) hF 66 dX9_runRow_50 (by decide) ⟨by decide, by decide⟩ ⟨by decide, by decide⟩ (fun bq50 => ?_) (fun bq50 => ?_)
              · exact absurd bq50 (by decide)
              · refine go_aload_n (pc := 53) hF dX9_runRow_53 2 rfl ?_
                refine go_dup (pc := 54) hF dX9_runRow_54 rfl ?_
                refine go_get (pc := 55) hF fl_X9_15 dX9_runRow_55 (by omega) c_g_loop rfl ?_
                refine go_iconst (pc := 58) hF dX9_runRow_58 ?_
                refine go_iadd (pc := 59) hF dX9_runRow_59 ?_
                refine go_put (pc := 60) hF [vi ch₉, vi (X₉.2.1 + 1), vi X₉.2.2.1, vi X₉.2.2.2.1, vi X₉.2.2.2.2] fl_X9_15 dX9_runRow_60 (by omega) c_g_loop rfl rfl rfl (Nat.le_of_ble_eq_true rfl) (fun s2₉ u_s2 f_s2 => ?_)
                have t_s2 := hpl.keep (fun jj h1 h2 => f_s2 jj (by omega))
                have h_s2 := (f_s2 h (show h ≠ g₉ by omega)).trans c_h_loop
                refine go_goto (pc := 63) hF 105 dX9_runRow_63 (by decide) ?_
                refine go_iinc (pc := 105) hF [(6, vi (oo + 1)), (7, vi 1), (0, vr E g₉), (1, vr E 23), (2, vr E h), (3, vi o), (4, vi (o + (tLen t₉ : Int))), (5, vi dl)] dX9_runRow_105 1 rfl rfl (by decide) ?_
                refine go_goto (pc := 108) hF 3 dX9_runRow_108 (by decide) ?_
                refine go_lv [(6, vi (oo + 1)), (0, vr E g₉), (1, vr E 23), (2, vr E h), (3, vi o), (4, vi (o + (tLen t₉ : Int))), (5, vi dl)] [0, 2, 3, 4, 5, 6, 7] rfl ?_
                exact ih₉ (oo + 1) kk (rLook u₉ kd pr cx X₉) s2₉ (by omega) (by omega) (by rw [if_pos hc46, Int.add_zero] at par_; exact par_) (by omega) (by rw [if_pos hc46] at e5₉; omega) (by rw [show (rLook u₉ kd pr cx X₉).2.2.2.2 = X₉.2.2.2.2 by rw [hl]]; omega) (rLook_row hcx hXr hu hkd) hX (by rw [hl]; exact u_s2) (by rw [hl]; exact h_s2) (fun jj hjj => by rw [f_s2 jj (by omega), fr_loop jj (by omega)])
            · exact absurd bq26 (by decide)
      · intro oo kk X₉ τ hd1 hd2 hpa hoo hkk hsk2 hXr hX c_g_loop c_h_loop fr_loop
        obtain ⟨pa1, par_⟩ := hpa
        rw [if_neg hc46] at pa1
        rw [if_neg hc46] at e5₉
        have hc9 : 97 ≤ cx ∧ cx ≤ 102 := by unfold okc at hcx; omega
        have hpl := hp.keep (fun jj h1 h2 => fr_loop jj (by omega))
        refine go_iload (pc := 3) hF dX9_runRow_3 0 rfl ?_
        refine go_iload (pc := 5) hF dX9_runRow_5 5 rfl ?_
        refine go_icmp_ge (pc := 7) hF 111 dX9_runRow_7 (by decide) (by omega) (by omega) (fun bq7 => ?_) (fun bq7 => ?_)
        · exact absurd bq7 (by omega)
        · refine go_iload (pc := 10) hF dX9_runRow_10 6 rfl ?_
          refine go_iconst (pc := 12) hF dX9_runRow_12 ?_
          refine go_icmp_gt (pc := 13) hF 111 dX9_runRow_13 (by decide) (by omega) ⟨by decide, by decide⟩ (fun bq13 => ?_) (fun bq13 => ?_)
          · exact absurd bq13 (by omega)
          · refine go_aload_n (pc := 16) hF dX9_runRow_16 2 rfl ?_
            refine go_iload (pc := 17) hF dX9_runRow_17 0 rfl ?_
            have cm_k3 : CP E M_X6_signAt 2 [vr E 23, vi oo] N τ (0) := by
              have h := c_X6_signAt E N τ 23 oo (by omega) (by omega) hpl ho
              rw [show gSign sg sz₉ oo = 0 from by unfold gSign; rw [if_pos (by omega)]; exact pa1.1] at h
              exact h
            refine go_callVP (pc := 19) hF [vi oo] [] mv_X9_36 dX9_runRow_19 (by omega) hpl.1 cm_k3 rfl rfl (Nat.le_of_ble_eq_true rfl) (by omega) ⟨Nat.zero_le _, Nat.zero_le _⟩ ?_
            refine go_istore (pc := 22) hF [(7, vi 0), (6, vi oo), (0, vr E g₉), (1, vr E 23), (2, vr E h), (3, vi o), (4, vi (o + (tLen t₉ : Int))), (5, vi dl)] dX9_runRow_22 rfl (by decide) ?_
            refine go_iload (pc := 24) hF dX9_runRow_24 0 rfl ?_
            refine go_if_ne (pc := 26) hF 47 dX9_runRow_26 (by decide) ⟨by decide, by decide⟩ (fun bq26 => ?_) (fun bq26 => ?_)
            · exact absurd bq26 (by decide)
            · refine go_aload_n (pc := 29) hF dX9_runRow_29 2 rfl ?_
              refine go_aload_n (pc := 30) hF dX9_runRow_30 4 rfl ?_
              refine go_aload_n (pc := 31) hF dX9_runRow_31 3 rfl ?_
              refine go_aload_n (pc := 32) hF dX9_runRow_32 3 rfl ?_
              refine go_iload (pc := 33) hF dX9_runRow_33 1 rfl ?_
              have cm_k4 : CP E M_X6_valueAt 2 [vr E 23, vi oo] N τ (kk) := by
                have h := c_X6_valueAt E N τ 23 oo (by omega) (by omega) hpl ho
                rw [show gVal vl sz₉ oo = kk from by unfold gVal; rw [if_pos (by omega)]; exact pa1.2.1] at h
                exact h
              refine go_callVP (pc := 35) hF [vi oo] [vr E 23, vr E h, vr E g₉] mv_X9_40 dX9_runRow_35 (by omega) hpl.1 cm_k4 rfl rfl (Nat.le_of_ble_eq_true rfl) (by omega) ⟨Nat.zero_le _, Nat.zero_le _⟩ ?_
              have cm_k5 : CP E M_X6_lineOfLook 2 [vr E 23, vi kk] N τ (cx - 97) := by
                have h := c_X6_lineOfLook E N τ 23 kk (by omega) (by omega) hpl ho
                rw [show gLine ll lk₉ kk = cx - 97 from by unfold gLine; rw [if_pos (by omega)]; exact pa1.2.2.1] at h
                exact h
              refine go_callVP (pc := 38) hF [vi kk] [vr E h, vr E g₉] mv_X9_43 dX9_runRow_38 (by omega) hpl.1 cm_k5 rfl rfl (Nat.le_of_ble_eq_true rfl) (by omega) ⟨Nat.zero_le _, Nat.zero_le _⟩ ?_
              refine go_callVV (pc := 41) hF [vr E h, vi (cx - 97)] [] mv_X9_46 dX9_runRow_41 (by omega) c_g_loop (c_X9_runLook E N τ g₉ h ch₉ X₉.2.1 X₉.2.2.1 X₉.2.2.2.1 X₉.2.2.2.2 (en X₉.1) u₉ kd pr (cx - 97) (by omega) (by omega) hgh (en_rg hXr.1) hu hkd (by omega) c_g_loop c_h_loop) rfl rfl (Nat.le_of_ble_eq_true rfl) (by omega) ⟨Nat.zero_le _, Nat.zero_le _⟩ (fun s6₉ h_s6 => ?_)
              obtain ⟨u0_s6, u1_s6, f_s6⟩ := h_s6
              have t_s6 := hpl.keep (fun jj h1 h2 => f_s6 jj (by omega))
              refine go_goto (pc := 44) hF 105 dX9_runRow_44 (by decide) ?_
              refine go_iinc (pc := 105) hF [(6, vi (oo + 1)), (7, vi 0), (0, vr E g₉), (1, vr E 23), (2, vr E h), (3, vi o), (4, vi (o + (tLen t₉ : Int))), (5, vi dl)] dX9_runRow_105 1 rfl rfl (by decide) ?_
              refine go_goto (pc := 108) hF 3 dX9_runRow_108 (by decide) ?_
              refine go_lv [(6, vi (oo + 1)), (0, vr E g₉), (1, vr E 23), (2, vr E h), (3, vi o), (4, vi (o + (tLen t₉ : Int))), (5, vi dl)] [0, 2, 3, 4, 5, 6, 7] rfl ?_
              have hx5 : 0 ≤ cx - 97 ∧ cx - 97 ≤ 5 := by unfold okc at hcx; omega
              obtain ⟨k1₉, k2₉, k3₉⟩ := row_ok (x₉ := cx - 97) hXr hx5 hu hkd
              have hl5 : (rLook u₉ kd pr cx X₉).2.2.2.2 = X₉.2.2.2.2 := by unfold rLook; rw [if_neg hc46]; split <;> rfl
              refine ih₉ (oo + 1) (kk + 1) (rLook u₉ kd pr cx X₉) s6₉ (by omega) (by omega) (by rw [if_neg hc46] at par_; exact par_) (by omega) (by omega) (by rw [hl5]; omega) (rLook_row hcx hXr hu hkd) hX ?_ ?_ (fun jj hjj => by rw [f_s6 jj (by omega), fr_loop jj (by omega)])
              · rw [u0_s6]; unfold rLook cCost; rw [if_neg hc46, k1₉]; by_cases hm₉ : mPlace X₉.1 (cx - 97) = -1
                · simp only [hm₉, if_true]
                · simp only [hm₉, if_false]
              · rw [u1_s6, k2₉]; unfold rLook; rw [if_neg hc46]; split <;> rfl
    · intro ta_ tb_ rt hwa hwb hwr _ _ ih₉
      have e8 : tLen (Std.Format.append (Std.Format.append ta_ tb_) rt) = 3 + tLen ta_ + tLen tb_ + tLen rt := rfl
      have e7₉ : tAsk (Std.Format.append (Std.Format.append ta_ tb_) rt) = 1 + tAsk ta_ + tAsk tb_ + tAsk rt := rfl
      have e6₉ : tDep (Std.Format.append (Std.Format.append ta_ tb_) rt) = max (1 + max (tDep ta_) (tDep tb_)) (tDep rt) := rfl
      have e5₉ : tLks (Std.Format.append (Std.Format.append ta_ tb_) rt) = tLks ta_ + tLks tb_ + tLks rt := rfl
      by_cases hD0 : D₉ = 0
      · intro oo kk X₉ τ hd1 hd2 hpa hoo hkk hsk2 hXr hX c_g_loop c_h_loop fr_loop; exact absurd hd1 (by omega)
      · intro oo kk X₉ τ hd1 hd2 hpa hoo hkk hsk2 hXr hX c_g_loop c_h_loop fr_loop
        obtain ⟨D9, rfl⟩ : ∃ D9, D₉ = D9 + 1 := ⟨D₉ - 1, by omega⟩
        obtain ⟨pa1, paa, pab, par_⟩ := hpa
        have hpl := hp.keep (fun jj h1 h2 => fr_loop jj (by omega))
        refine go_iload (pc := 3) hF dX9_runRow_3 0 rfl ?_
        refine go_iload (pc := 5) hF dX9_runRow_5 5 rfl ?_
        refine go_icmp_ge (pc := 7) hF 111 dX9_runRow_7 (by decide) (by omega) (by omega) (fun bq7 => ?_) (fun bq7 => ?_)
        · exact absurd bq7 (by omega)
        · refine go_iload (pc := 10) hF dX9_runRow_10 6 rfl ?_
          refine go_iconst (pc := 12) hF dX9_runRow_12 ?_
          refine go_icmp_gt (pc := 13) hF 111 dX9_runRow_13 (by decide) (by omega) ⟨by decide, by decide⟩ (fun bq13 => ?_) (fun bq13 => ?_)
          · exact absurd bq13 (by omega)
          · refine go_aload_n (pc := 16) hF dX9_runRow_16 2 rfl ?_
            refine go_iload (pc := 17) hF dX9_runRow_17 0 rfl ?_
            have cm_k7 : CP E M_X6_signAt 2 [vr E 23, vi oo] N τ (2) := by
              have h := c_X6_signAt E N τ 23 oo (by omega) (by omega) hpl ho
              rw [show gSign sg sz₉ oo = 2 from by unfold gSign; rw [if_pos (by omega)]; exact pa1.1] at h
              exact h
            refine go_callVP (pc := 19) hF [vi oo] [] mv_X9_36 dX9_runRow_19 (by omega) hpl.1 cm_k7 rfl rfl (Nat.le_of_ble_eq_true rfl) (by omega) ⟨Nat.zero_le _, Nat.zero_le _⟩ ?_
            refine go_istore (pc := 22) hF [(7, vi 2), (6, vi oo), (0, vr E g₉), (1, vr E 23), (2, vr E h), (3, vi o), (4, vi (o + (tLen t₉ : Int))), (5, vi dl)] dX9_runRow_22 rfl (by decide) ?_
            refine go_iload (pc := 24) hF dX9_runRow_24 0 rfl ?_
            refine go_if_ne (pc := 26) hF 47 dX9_runRow_26 (by decide) ⟨by decide, by decide⟩ (fun bq26 => ?_) (fun bq26 => ?_)
            · refine go_iload (pc := 47) hF dX9_runRow_47 0 rfl ?_
              refine go_iconst (pc := 49) hF dX9_runRow_49 ?_
              refine go_icmp_ne (pc := 50) hF 66 dX9_runRow_50 (by decide) ⟨by decide, by decide⟩ ⟨by decide, by decide⟩ (fun bq50 => ?_) (fun bq50 => ?_)
              · refine go_iload (pc := 66) hF dX9_runRow_66 0 rfl ?_
                refine go_iconst (pc := 68) hF dX9_runRow_68 ?_
                refine go_icmp_ne (pc := 69) hF 87 dX9_runRow_69 (by decide) ⟨by decide, by decide⟩ ⟨by decide, by decide⟩ (fun bq69 => ?_) (fun bq69 => ?_)
                · exact absurd bq69 (by decide)
                · refine go_aload_n (pc := 72) hF dX9_runRow_72 2 rfl ?_
                  refine go_aload_n (pc := 73) hF dX9_runRow_73 3 rfl ?_
                  refine go_aload_n (pc := 74) hF dX9_runRow_74 4 rfl ?_
                  refine go_iload (pc := 75) hF dX9_runRow_75 1 rfl ?_
                  refine go_iload (pc := 77) hF dX9_runRow_77 7 rfl ?_
                  refine go_callVI (pc := 79) hF [vr E 23, vr E h, vi oo, vi dl] [] mv_X9_50 dX9_runRow_79 (by omega) c_g_loop (c_X9_runChoice E N D9 (IH₉ D9 rfl) τ g₉ h sg vl mt₉ lw ll la sz₉ lk₉ chs lps dp ln oo kk lp dl ch₉ X₉.2.1 X₉.2.2.1 X₉.2.2.2.1 X₉.2.2.2.2 X₉.1 u₉ kd pr hN₉ hgN hhN hgh hg23 hh23 hpl ho ta_ tb_ hwa hwb (by omega) pa1 paa pab (by omega) (by omega) (by omega) hch (by omega) hXr hu hkd c_g_loop c_h_loop) rfl rfl (Nat.le_of_ble_eq_true rfl) (by omega) ⟨Nat.zero_le _, Nat.zero_le _⟩ (fun r_s8 s8 h_s8 => ?_)
                  obtain ⟨e_s8, ug_s8, uh_s8, f_s8⟩ := h_s8
                  subst e_s8
                  have t_s8 := hpl.keep (fun jj h1 h2 => f_s8 jj (by omega))
                  refine go_istore (pc := 82) hF [(6, vi (oo + 2 + (tLen ta_ : Int) + (tLen tb_ : Int))), (7, vi 2), (0, vr E g₉), (1, vr E 23), (2, vr E h), (3, vi o), (4, vi (o + (tLen t₉ : Int))), (5, vi dl)] dX9_runRow_82 rfl (by decide) ?_
                  refine go_goto (pc := 84) hF 105 dX9_runRow_84 (by decide) ?_
                  refine go_iinc (pc := 105) hF [(6, vi ((oo + 2 + (tLen ta_ : Int) + (tLen tb_ : Int)) + 1)), (7, vi 2), (0, vr E g₉), (1, vr E 23), (2, vr E h), (3, vi o), (4, vi (o + (tLen t₉ : Int))), (5, vi dl)] dX9_runRow_105 0 rfl rfl (by decide) ?_
                  refine go_goto (pc := 108) hF 3 dX9_runRow_108 (by decide) ?_
                  refine go_lv [(6, vi ((oo + 2 + (tLen ta_ : Int) + (tLen tb_ : Int)) + 1)), (0, vr E g₉), (1, vr E 23), (2, vr E h), (3, vi o), (4, vi (o + (tLen t₉ : Int))), (5, vi dl)] [0, 2, 3, 4, 5, 6, 7] rfl ?_
                  have ha1 := rn_ask (u₉ := u₉) (kd := kd) (pr := pr) (ch₉ := ch₉) ta_ hwa (rAsk X₉)
                  have ha2 := rn_ask (u₉ := u₉) (kd := kd) (pr := pr) (ch₉ := ch₉) tb_ hwb (rAsk X₉)
                  have ha3 : (rAsk X₉).2.2.2.2 = X₉.2.2.2.2 + 1 := rfl
                  exact ih₉ _ (kk + tLks ta_ + tLks tb_) (if bitOf ch₉ X₉.2.2.2.2 = 1 then rn u₉ kd pr ch₉ tb_ (rAsk X₉) else rn u₉ kd pr ch₉ ta_ (rAsk X₉)) s8 (by omega) (by omega) (by rw [show oo + 2 + (tLen ta_ : Int) + (tLen tb_ : Int) + 1 = oo + 3 + (tLen ta_ : Int) + (tLen tb_ : Int) by omega]; exact par_) (by omega) (by omega) (by split <;> omega) (by split; exact rn_row hu hkd tb_ hwb _ hXr; exact rn_row hu hkd ta_ hwa _ hXr) hX ug_s8 uh_s8 (fun jj hjj => by rw [f_s8 jj (by omega), fr_loop jj (by omega)])
              · exact absurd bq50 (by decide)
            · exact absurd bq26 (by decide)
    · intro nn ta_ rt hnn₉ hwa hwr _ ih₉
      have e8 : tLen (Std.Format.append (Std.Format.tag nn ta_) rt) = 2 + tLen ta_ + tLen rt := rfl
      have e7₉ : tAsk (Std.Format.append (Std.Format.tag nn ta_) rt) = nn * (1 + tAsk ta_) + tAsk rt := rfl
      have e6₉ : tDep (Std.Format.append (Std.Format.tag nn ta_) rt) = max (1 + tDep ta_) (tDep rt) := rfl
      have e5₉ : tLks (Std.Format.append (Std.Format.tag nn ta_) rt) = tLks ta_ + tLks rt := rfl
      by_cases hD0 : D₉ = 0
      · intro oo kk X₉ τ hd1 hd2 hpa hoo hkk hsk2 hXr hX c_g_loop c_h_loop fr_loop; exact absurd hd1 (by omega)
      · intro oo kk X₉ τ hd1 hd2 hpa hoo hkk hsk2 hXr hX c_g_loop c_h_loop fr_loop
        obtain ⟨D9, rfl⟩ : ∃ D9, D₉ = D9 + 1 := ⟨D₉ - 1, by omega⟩
        obtain ⟨pa1, paa, par_⟩ := hpa
        have hpl := hp.keep (fun jj h1 h2 => fr_loop jj (by omega))
        refine go_iload (pc := 3) hF dX9_runRow_3 0 rfl ?_
        refine go_iload (pc := 5) hF dX9_runRow_5 5 rfl ?_
        refine go_icmp_ge (pc := 7) hF 111 dX9_runRow_7 (by decide) (by omega) (by omega) (fun bq7 => ?_) (fun bq7 => ?_)
        · exact absurd bq7 (by omega)
        · refine go_iload (pc := 10) hF dX9_runRow_10 6 rfl ?_
          refine go_iconst (pc := 12) hF dX9_runRow_12 ?_
          refine go_icmp_gt (pc := 13) hF 111 dX9_runRow_13 (by decide) (by omega) ⟨by decide, by decide⟩ (fun bq13 => ?_) (fun bq13 => ?_)
          · exact absurd bq13 (by omega)
          · refine go_aload_n (pc := 16) hF dX9_runRow_16 2 rfl ?_
            refine go_iload (pc := 17) hF dX9_runRow_17 0 rfl ?_
            have cm_k9 : CP E M_X6_signAt 2 [vr E 23, vi oo] N τ (5) := by
              have h := c_X6_signAt E N τ 23 oo (by omega) (by omega) hpl ho
              rw [show gSign sg sz₉ oo = 5 from by unfold gSign; rw [if_pos (by omega)]; exact pa1.1] at h
              exact h
            refine go_callVP (pc := 19) hF [vi oo] [] mv_X9_36 dX9_runRow_19 (by omega) hpl.1 cm_k9 rfl rfl (Nat.le_of_ble_eq_true rfl) (by omega) ⟨Nat.zero_le _, Nat.zero_le _⟩ ?_
            refine go_istore (pc := 22) hF [(7, vi 5), (6, vi oo), (0, vr E g₉), (1, vr E 23), (2, vr E h), (3, vi o), (4, vi (o + (tLen t₉ : Int))), (5, vi dl)] dX9_runRow_22 rfl (by decide) ?_
            refine go_iload (pc := 24) hF dX9_runRow_24 0 rfl ?_
            refine go_if_ne (pc := 26) hF 47 dX9_runRow_26 (by decide) ⟨by decide, by decide⟩ (fun bq26 => ?_) (fun bq26 => ?_)
            · refine go_iload (pc := 47) hF dX9_runRow_47 0 rfl ?_
              refine go_iconst (pc := 49) hF dX9_runRow_49 ?_
              refine go_icmp_ne (pc := 50) hF 66 dX9_runRow_50 (by decide) ⟨by decide, by decide⟩ ⟨by decide, by decide⟩ (fun bq50 => ?_) (fun bq50 => ?_)
              · refine go_iload (pc := 66) hF dX9_runRow_66 0 rfl ?_
                refine go_iconst (pc := 68) hF dX9_runRow_68 ?_
                refine go_icmp_ne (pc := 69) hF 87 dX9_runRow_69 (by decide) ⟨by decide, by decide⟩ ⟨by decide, by decide⟩ (fun bq69 => ?_) (fun bq69 => ?_)
                · refine go_iload (pc := 87) hF dX9_runRow_87 0 rfl ?_
                  refine go_iconst (pc := 89) hF dX9_runRow_89 ?_
                  refine go_icmp_ne (pc := 90) hF 105 dX9_runRow_90 (by decide) ⟨by decide, by decide⟩ ⟨by decide, by decide⟩ (fun bq90 => ?_) (fun bq90 => ?_)
                  · exact absurd bq90 (by decide)
                  · refine go_aload_n (pc := 93) hF dX9_runRow_93 2 rfl ?_
                    refine go_aload_n (pc := 94) hF dX9_runRow_94 3 rfl ?_
                    refine go_aload_n (pc := 95) hF dX9_runRow_95 4 rfl ?_
                    refine go_iload (pc := 96) hF dX9_runRow_96 1 rfl ?_
                    refine go_iload (pc := 98) hF dX9_runRow_98 7 rfl ?_
                    refine go_callVI (pc := 100) hF [vr E 23, vr E h, vi oo, vi dl] [] mv_X9_54 dX9_runRow_100 (by omega) c_g_loop (c_X9_runLoop E N D9 (IH₉ D9 rfl) τ g₉ h sg vl mt₉ lw ll la sz₉ lk₉ chs lps dp ln oo kk lp dl ch₉ X₉.2.1 X₉.2.2.1 X₉.2.2.2.1 X₉.2.2.2.2 X₉.1 u₉ kd pr hN₉ hgN hhN hgh hg23 hh23 hpl ho nn ta_ hnn₉ hwa (by omega) pa1 paa (by omega) (by omega) (by omega) hch (by omega) hXr hu hkd c_g_loop c_h_loop) rfl rfl (Nat.le_of_ble_eq_true rfl) (by omega) ⟨Nat.zero_le _, Nat.zero_le _⟩ (fun r_s10 s10 h_s10 => ?_)
                    obtain ⟨e_s10, ug_s10, uh_s10, f_s10⟩ := h_s10
                    subst e_s10
                    have t_s10 := hpl.keep (fun jj h1 h2 => f_s10 jj (by omega))
                    refine go_istore (pc := 103) hF [(6, vi (oo + 1 + (tLen ta_ : Int))), (7, vi 5), (0, vr E g₉), (1, vr E 23), (2, vr E h), (3, vi o), (4, vi (o + (tLen t₉ : Int))), (5, vi dl)] dX9_runRow_103 rfl (by decide) ?_
                    refine go_iinc (pc := 105) hF [(6, vi ((oo + 1 + (tLen ta_ : Int)) + 1)), (7, vi 5), (0, vr E g₉), (1, vr E 23), (2, vr E h), (3, vi o), (4, vi (o + (tLen t₉ : Int))), (5, vi dl)] dX9_runRow_105 0 rfl rfl (by decide) ?_
                    refine go_goto (pc := 108) hF 3 dX9_runRow_108 (by decide) ?_
                    refine go_lv [(6, vi ((oo + 1 + (tLen ta_ : Int)) + 1)), (0, vr E g₉), (1, vr E 23), (2, vr E h), (3, vi o), (4, vi (o + (tLen t₉ : Int))), (5, vi dl)] [0, 2, 3, 4, 5, 6, 7] rfl ?_
                    have ha1 := rLoop_ask (ch₉ := ch₉) (m := tAsk ta_) (by omega) (rn_ask (u₉ := u₉) (kd := kd) (pr := pr) (ch₉ := ch₉) ta_ hwa) nn X₉
                    have e : ((nn * (1 + tAsk ta_) : Nat) : Int) = nn * (1 + (tAsk ta_ : Int)) := by simp
                    exact ih₉ _ (kk + tLks ta_) (rLoop ch₉ (rn u₉ kd pr ch₉ ta_) nn X₉) s10 (by omega) (by omega) (by rw [show oo + 1 + (tLen ta_ : Int) + 1 = oo + 2 + (tLen ta_ : Int) by omega]; exact par_) (by omega) (by omega) (by omega) (rLoop_row (rn_row hu hkd ta_ hwa) nn X₉ hXr) hX ug_s10 uh_s10 (fun jj hjj => by rw [f_s10 jj (by omega), fr_loop jj (by omega)])
                · exact absurd bq69 (by decide)
              · exact absurd bq50 (by decide)
            · exact absurd bq26 (by decide)
  refine go_lv [(6, vi o), (0, vr E g₉), (1, vr E 23), (2, vr E h), (3, vi o), (4, vi (o + (tLen t₉ : Int))), (5, vi dl)] [0, 1, 2, 3, 4, 5, 6] rfl ?_
  exact loop₉ t₉ hwf o k₉ (r₉, ta, hi₉, mi, sk) σ hdp (by omega) hpa0 ⟨ho1.1, rfl⟩ hk1 hsk hrw rfl hg hh (fun _ _ => rfl)
theorem run_row (E : En) (N : Nat) : ∀ D₉, RunRow E N D₉
  | 0 => run_step E N 0 (fun D₉ h => absurd h (by omega))
  | D₉ + 1 => run_step E N (D₉ + 1) (fun D9 h => by cases h; exact run_row E N D₉)
set_option maxHeartbeats 4000000 in
set_option maxRecDepth 100000 in
theorem c_X9_run (E : En) (N : Nat) (σ : Nat → va_E) (g₉ h : Nat) (sg vl mt₉ lw ll la : Int → Int) (sz₉ lk₉ chs lps dp ln chosen c1₉ c2₉ c3₉ c4₉ c5₉ r₉ u₉ kd pr : Int) (t₉ : Tr) (hN₉ : 101 ≤ N) (hgN : g₉ < N) (hhN : h < N) (hgh : g₉ ≠ h) (hg23 : g₉ < 23 ∨ 29 < g₉) (hh23 : h < 23 ∨ 29 < h) (hp : isP E σ 23 sg vl mt₉ lw ll la sz₉ lk₉ chs lps dp ln) (ho : okP sg vl mt₉ lw ll la sz₉ lk₉ chs lps dp ln) (hwf : wf t₉) (hdp : tDep t₉ ≤ 3) (hpa0 : PA₉ sg vl mt₉ lw ll la t₉ 0 0 (-1)) (htl : (tLen t₉ : Int) = sz₉) (htk : (tLks t₉ : Int) ≤ lk₉) (hask : tAsk t₉ ≤ 2000000000) (hch : 0 ≤ chosen ∧ chosen < 1048576) (hrw : vrow u₉ r₉) (hu : 1 ≤ u₉ ∧ u₉ ≤ 3) (hkd : 0 ≤ kd ∧ kd ≤ 3) (hg : σ g₉ = ob 8 [vi c1₉, vi c2₉, vi c3₉, vi c4₉, vi c5₉]) (hh : σ h = ob 1 [vi (en r₉), vi u₉, vi kd, vi pr]) : CI E M_X9_run 13 [vr E g₉, vr E 23, vr E h, vi chosen] N σ (fun y₉ σ' => y₉ = (rn u₉ kd pr chosen t₉ (r₉, 0, 0, 0, 0)).2.1 ∧ σ' g₉ = ob 8 [vi chosen, vi (rn u₉ kd pr chosen t₉ (r₉, 0, 0, 0, 0)).2.1, vi (rn u₉ kd pr chosen t₉ (r₉, 0, 0, 0, 0)).2.2.1, vi (rn u₉ kd pr chosen t₉ (r₉, 0, 0, 0, 0)).2.2.2.1, vi (rn u₉ kd pr chosen t₉ (r₉, 0, 0, 0, 0)).2.2.2.2] ∧ σ' h = ob 1 [vi (en (rn u₉ kd pr chosen t₉ (r₉, 0, 0, 0, 0)).1), vi u₉, vi kd, vi pr] ∧ ∀ q₉, (q₉ ≠ g₉ ∧ q₉ ≠ h) → σ' q₉ = σ q₉) := by
  refine CT.of2 (own := RX9) (by decide) rfl (Nat.le_of_ble_eq_true rfl) ?_
  intro p e R s m args below meth c Q hF hr hlk hnm hz hR hQ
  refine go_aload_n (pc := 0) hF dX9_run_0 0 rfl ?_
  refine go_iload_n (pc := 1) hF dX9_run_1 3 rfl ?_
  refine go_put (pc := 2) hF [vi chosen, vi c2₉, vi c3₉, vi c4₉, vi c5₉] fl_X9_9 dX9_run_2 (by omega) hg rfl rfl rfl (Nat.le_of_ble_eq_true rfl) (fun s1₉ u_s1 f_s1 => ?_)
  have t_s1 := hp.keep (fun jj h1 h2 => f_s1 jj (by omega))
  have h_s1 := (f_s1 h (show h ≠ g₉ by omega)).trans hh
  refine go_aload_n (pc := 5) hF dX9_run_5 0 rfl ?_
  refine go_iconst (pc := 6) hF dX9_run_6 ?_
  refine go_put (pc := 7) hF [vi chosen, vi 0, vi c3₉, vi c4₉, vi c5₉] fl_X9_15 dX9_run_7 (by omega) u_s1 rfl rfl rfl (Nat.le_of_ble_eq_true rfl) (fun s2₉ u_s2 f_s2 => ?_)
  have t_s2 := t_s1.keep (fun jj h1 h2 => f_s2 jj (by omega))
  have h_s2 := (f_s2 h (show h ≠ g₉ by omega)).trans h_s1
  refine go_aload_n (pc := 10) hF dX9_run_10 0 rfl ?_
  refine go_iconst (pc := 11) hF dX9_run_11 ?_
  refine go_put (pc := 12) hF [vi chosen, vi 0, vi 0, vi c4₉, vi c5₉] fl_X9_18 dX9_run_12 (by omega) u_s2 rfl rfl rfl (Nat.le_of_ble_eq_true rfl) (fun s3₉ u_s3 f_s3 => ?_)
  have t_s3 := t_s2.keep (fun jj h1 h2 => f_s3 jj (by omega))
  have h_s3 := (f_s3 h (show h ≠ g₉ by omega)).trans h_s2
  refine go_aload_n (pc := 15) hF dX9_run_15 0 rfl ?_
  refine go_iconst (pc := 16) hF dX9_run_16 ?_
  refine go_put (pc := 17) hF [vi chosen, vi 0, vi 0, vi 0, vi c5₉] fl_X9_21 dX9_run_17 (by omega) u_s3 rfl rfl rfl (Nat.le_of_ble_eq_true rfl) (fun s4₉ u_s4 f_s4 => ?_)
  have t_s4 := t_s3.keep (fun jj h1 h2 => f_s4 jj (by omega))
  have h_s4 := (f_s4 h (show h ≠ g₉ by omega)).trans h_s3
  refine go_aload_n (pc := 20) hF dX9_run_20 0 rfl ?_
  refine go_iconst (pc := 21) hF dX9_run_21 ?_
  refine go_put (pc := 22) hF [vi chosen, vi 0, vi 0, vi 0, vi 0] fl_X9_24 dX9_run_22 (by omega) u_s4 rfl rfl rfl (Nat.le_of_ble_eq_true rfl) (fun s5 u_s5 f_s5 => ?_)
  have t_s5 := t_s4.keep (fun jj h1 h2 => f_s5 jj (by omega))
  have h_s5 := (f_s5 h (show h ≠ g₉ by omega)).trans h_s4
  refine go_aload_n (pc := 25) hF dX9_run_25 0 rfl ?_
  refine go_aload_n (pc := 26) hF dX9_run_26 1 rfl ?_
  refine go_aload_n (pc := 27) hF dX9_run_27 2 rfl ?_
  refine go_iconst (pc := 28) hF dX9_run_28 ?_
  refine go_aload_n (pc := 29) hF dX9_run_29 1 rfl ?_
  refine go_get (pc := 30) hF fl_X9_27 dX9_run_30 (by omega) t_s5.1 rfl ?_
  refine go_iconst (pc := 33) hF dX9_run_33 ?_
  have cr_s6 := run_row E N 3 t₉ s5 g₉ h sg vl mt₉ lw ll la sz₉ lk₉ chs lps dp ln 0 0 (-1) 0 chosen 0 0 0 0 r₉ u₉ kd pr hN₉ hgN hhN hgh hg23 hh23 t_s5 ho hwf hdp hpa0 (by omega) (by omega) (by omega) hch (by omega) hrw hu hkd u_s5 h_s5
  rw [show (0 : Int) + (tLen t₉ : Int) = sz₉ by omega] at cr_s6
  refine go_callVV (pc := 34) hF [vr E 23, vr E h, vi 0, vi sz₉, vi 0] [] mv_X9_32 dX9_run_34 (by omega) u_s5 cr_s6 rfl rfl (Nat.le_of_ble_eq_true rfl) (by decide) ⟨Nat.zero_le _, Nat.zero_le _⟩ (fun s6₉ h_s6 => ?_)
  obtain ⟨ug_s6, uh_s6, f_s6⟩ := h_s6
  refine go_aload_n (pc := 37) hF dX9_run_37 0 rfl ?_
  refine go_get (pc := 38) hF fl_X9_15 dX9_run_38 (by omega) ug_s6 rfl ?_
  exact go_iretQ hF hr hlk hQ dX9_run_41 ⟨rfl, ug_s6, uh_s6, (fun jj hjj => by rw [f_s6 jj (by omega), f_s5 jj (by omega), f_s4 jj (by omega), f_s3 jj (by omega), f_s2 jj (by omega), f_s1 jj (by omega)])⟩
