/-! Following: rows₉. -/
set_option maxHeartbeats 4000000 in
set_option maxRecDepth 100000 in
theorem fol_step (E : En) (N D₉ : Nat) (IH₉ : ∀ D9, D₉ = D9 + 1 → FolRow E N D9) : FolRow E N D₉ := by
  intro t₉ σ sg vl mt₉ lw ll la mm my mu₉ ma sz₉ lk₉ chs lps dp ln o k₉ lp v₉ kn₉ dl hN₉ hp ho hwf hdp hpa0 ho1 hk1 hdl hv hf hA hrA hsc
  refine CT.of2 (own := RX3) (by decide) rfl (Nat.le_of_ble_eq_true rfl) ?_
  intro p e R s m args below meth c Q hF hr hlk hnm hz hR hQ
  refine go_iload (pc := 0) hF dX3_followRow_0 4 rfl ?_
  refine go_iconst (pc := 2) hF dX3_followRow_2 ?_
  refine go_iconst (pc := 3) hF dX3_followRow_3 ?_
  refine go_callNP (pc := 4) hF [vi (dl : Int), vi 0, vi 3] [] mn_X3_96 dX3_followRow_4 (c_X10_isWithin E N σ (dl : Int) 0 3 (by omega) ⟨by decide, by decide⟩ ⟨by decide, by decide⟩) rfl rfl (Nat.le_of_ble_eq_true rfl) (by omega) ⟨Nat.zero_le _, Nat.zero_le _⟩ ?_
  refine go_if_ne (pc := 7) hF 11 dX3_followRow_7 (by decide) (bI_rg _) (fun bq7 => ?_) (fun bq7 => ?_)
  · refine go_iload_n (pc := 11) hF dX3_followRow_11 2 rfl ?_
    refine go_istore (pc := 12) hF [(5, vi o), (0, vr E 30), (1, vr E 23), (2, vi o), (3, vi (o + (tLen t₉ : Int))), (4, vi (dl : Int))] dX3_followRow_12 rfl (by decide) ?_
    have hsz := ho.1
    have loop₉ : ∀ tt, wf tt → ∀ (oo kk : Int) (X₉ : AG₉) (M1₉ M2₉ : Int → Int) (τ : Nat → va_E), tDep tt ≤ D₉ → tDep tt + dl ≤ 3 → PA₉ sg vl mt₉ lw ll la tt oo kk lp → (0 ≤ oo ∧ oo + tLen tt = o + tLen t₉) → (0 ≤ kk ∧ kk + tLks tt ≤ lk₉) → rgA X₉ → fa v₉ tt X₉ = fa v₉ t₉ (mu₉, ma) → recU M1₉ kk (rec1 v₉ tt X₉) = recU mm k₉ (rec1 v₉ t₉ (mu₉, ma)) → recU M2₉ kk (rec2 v₉ tt X₉) = recU my k₉ (rec2 v₉ t₉ (mu₉, ma)) → isFo E τ v₉ kn₉ M1₉ M2₉ → isA E τ (35 + 3 * dl) X₉.1 X₉.2 → scr E τ dl → (∀ jj : Nat, (jj ≠ 31 ∧ jj ≠ 32 ∧ (jj < 35 + 3 * dl ∨ (46 < jj ∧ jj < 47 + 3 * dl) ∨ 55 < jj)) → τ jj = σ jj) → Go E p e R s m args below meth c Q 8 (0, 0) N τ [(5, vi oo), (0, vr E 30), (1, vr E 23), (2, vi o), (3, vi (o + (tLen t₉ : Int))), (4, vi (dl : Int))] [] 14 := by
      refine tInd ?_ ?_ ?_ ?_
      · intro oo kk X₉ M1₉ M2₉ τ hd1 hd2 hpa hoo hkk hrX hX hM1 hM2 hfo hAX hsc2 fr_loop
        have eq_nil : tLen Std.Format.nil = 0 := rfl
        have hpl := hp.keep (fun jj h1 h2 => fr_loop jj (by omega))
        refine go_iload (pc := 14) hF dX3_followRow_14 0 rfl ?_
        refine go_iload_n (pc := 16) hF dX3_followRow_16 4 rfl ?_
        refine go_icmp_ge (pc := 17) hF 106 dX3_followRow_17 (by decide) (by omega) (by omega) (fun bq17 => ?_) (fun bq17 => ?_)
        · exact go_vretQ hF hr hlk hQ dX3_followRow_106 ⟨by rw [← hM1, ← hM2]; exact hfo, by rw [← hX]; exact hAX, hsc2, (fun jj hjj => by rw [fr_loop jj (by omega)])⟩
        · exact absurd bq17 (by omega)
      · intro cx rt hcx hwr ih₉
        have eq_tLen : tLen (Std.Format.append (Std.Format.nest cx Std.Format.nil) rt) = 1 + tLen rt := rfl
        have eq_tDep : tDep (Std.Format.append (Std.Format.nest cx Std.Format.nil) rt) = tDep rt := rfl
        have eq_tLks : tLks (Std.Format.append (Std.Format.nest cx Std.Format.nil) rt) = (if cx = 46 then 0 else 1) + tLks rt := rfl
        by_cases hc46 : cx = 46
        · intro oo kk X₉ M1₉ M2₉ τ hd1 hd2 hpa hoo hkk hrX hX hM1 hM2 hfo hAX hsc2 fr_loop
          obtain ⟨pa1, par_⟩ := hpa
          rw [if_pos hc46] at pa1 eq_tLks
          have hlw : aLook v₉ cx X₉ = X₉ := by unfold aLook; rw [if_pos hc46]
          have hpl := hp.keep (fun jj h1 h2 => fr_loop jj (by omega))
          refine go_iload (pc := 14) hF dX3_followRow_14 0 rfl ?_
          refine go_iload_n (pc := 16) hF dX3_followRow_16 4 rfl ?_
          refine go_icmp_ge (pc := 17) hF 106 dX3_followRow_17 (by decide) (by omega) (by omega) (fun bq17 => ?_) (fun bq17 => ?_)
          · exact absurd bq17 (by omega)
          · refine go_aload_n (pc := 20) hF dX3_followRow_20 2 rfl ?_
            refine go_iload (pc := 21) hF dX3_followRow_21 0 rfl ?_
            have cm_k1 : CP E M_X6_signAt 2 [vr E 23, vi oo] N τ (1) := by
              have h := c_X6_signAt E N τ 23 oo (by omega) (by omega) hpl ho
              rw [show gSign sg sz₉ oo = 1 from by unfold gSign; rw [if_pos (by omega)]; exact pa1] at h
              exact h
            refine go_callVP (pc := 23) hF [vi oo] [] mv_X3_78 dX3_followRow_23 (by omega) hpl.1 cm_k1 rfl rfl (Nat.le_of_ble_eq_true rfl) (by omega) ⟨Nat.zero_le _, Nat.zero_le _⟩ ?_
            refine go_istore (pc := 26) hF [(6, vi 1), (5, vi oo), (0, vr E 30), (1, vr E 23), (2, vi o), (3, vi (o + (tLen t₉ : Int))), (4, vi (dl : Int))] dX3_followRow_26 rfl (by decide) ?_
            refine go_iload (pc := 28) hF dX3_followRow_28 0 rfl ?_
            refine go_if_ne (pc := 30) hF 63 dX3_followRow_30 (by decide) ⟨by decide, by decide⟩ (fun bq30 => ?_) (fun bq30 => ?_)
            · refine go_iload (pc := 63) hF dX3_followRow_63 0 rfl ?_
              refine go_iconst (pc := 65) hF dX3_followRow_65 ?_
              refine go_icmp_ne (pc := 66) hF 83 dX3_followRow_66 (by decide) ⟨by decide, by decide⟩ ⟨by decide, by decide⟩ (fun bq66 => ?_) (fun bq66 => ?_)
              · refine go_iload (pc := 83) hF dX3_followRow_83 0 rfl ?_
                refine go_iconst (pc := 85) hF dX3_followRow_85 ?_
                refine go_icmp_ne (pc := 86) hF 100 dX3_followRow_86 (by decide) ⟨by decide, by decide⟩ ⟨by decide, by decide⟩ (fun bq86 => ?_) (fun bq86 => ?_)
                · refine go_iinc (pc := 100) hF [(5, vi (oo + 1)), (6, vi 1), (0, vr E 30), (1, vr E 23), (2, vi o), (3, vi (o + (tLen t₉ : Int))), (4, vi (dl : Int))] dX3_followRow_100 1 rfl rfl (by decide) ?_
                  refine go_goto (pc := 103) hF 14 dX3_followRow_103 (by decide) ?_
                  refine go_lv [(5, vi (oo + 1)), (0, vr E 30), (1, vr E 23), (2, vi o), (3, vi (o + (tLen t₉ : Int))), (4, vi (dl : Int))] [0, 2, 3, 4, 5, 6] rfl ?_
                  exact ih₉ (oo + 1) kk X₉ M1₉ M2₉ τ (by omega) (by omega) (by rw [if_pos hc46, Int.add_zero] at par_; exact par_) (by omega) (by omega) hrX (by rw [← hX, fa, hlw]) (by rw [← hM1, rec1, rec1, fRec, if_pos hc46, hlw]; rfl) (by rw [← hM2, rec2, rec2, fRec, if_pos hc46, hlw]; rfl) hfo hAX hsc2 (fun jj hjj => by rw [fr_loop jj (by omega)])
                · exact absurd bq86 (by decide)
              · exact absurd bq66 (by decide)
            · exact absurd bq30 (by decide)
        · intro oo kk X₉ M1₉ M2₉ τ hd1 hd2 hpa hoo hkk hrX hX hM1 hM2 hfo hAX hsc2 fr_loop
          obtain ⟨pa1, par_⟩ := hpa
          rw [if_neg hc46] at pa1 eq_tLks
          have hc9 : 97 ≤ cx ∧ cx ≤ 102 := by unfold okc at hcx; omega
          have hlw : aLook v₉ cx X₉ = (lkMu X₉.1 (cx - 97), lkMa X₉.2 (cx - 97) v₉) := by unfold aLook; rw [if_neg hc46]
          have hlk24 := ho.2.1
          have hpl := hp.keep (fun jj h1 h2 => fr_loop jj (by omega))
          refine go_iload (pc := 14) hF dX3_followRow_14 0 rfl ?_
          refine go_iload_n (pc := 16) hF dX3_followRow_16 4 rfl ?_
          refine go_icmp_ge (pc := 17) hF 106 dX3_followRow_17 (by decide) (by omega) (by omega) (fun bq17 => ?_) (fun bq17 => ?_)
          · exact absurd bq17 (by omega)
          · refine go_aload_n (pc := 20) hF dX3_followRow_20 2 rfl ?_
            refine go_iload (pc := 21) hF dX3_followRow_21 0 rfl ?_
            have cm_k2 : CP E M_X6_signAt 2 [vr E 23, vi oo] N τ (0) := by
              have h := c_X6_signAt E N τ 23 oo (by omega) (by omega) hpl ho
              rw [show gSign sg sz₉ oo = 0 from by unfold gSign; rw [if_pos (by omega)]; exact pa1.1] at h
              exact h
            refine go_callVP (pc := 23) hF [vi oo] [] mv_X3_78 dX3_followRow_23 (by omega) hpl.1 cm_k2 rfl rfl (Nat.le_of_ble_eq_true rfl) (by omega) ⟨Nat.zero_le _, Nat.zero_le _⟩ ?_
            refine go_istore (pc := 26) hF [(6, vi 0), (5, vi oo), (0, vr E 30), (1, vr E 23), (2, vi o), (3, vi (o + (tLen t₉ : Int))), (4, vi (dl : Int))] dX3_followRow_26 rfl (by decide) ?_
            refine go_iload (pc := 28) hF dX3_followRow_28 0 rfl ?_
            refine go_if_ne (pc := 30) hF 63 dX3_followRow_30 (by decide) ⟨by decide, by decide⟩ (fun bq30 => ?_) (fun bq30 => ?_)
            · exact absurd bq30 (by decide)
            · refine go_aload_n (pc := 33) hF dX3_followRow_33 3 rfl ?_
              refine go_iload (pc := 34) hF dX3_followRow_34 1 rfl ?_
              have cm_k3 : CP E M_X6_valueAt 2 [vr E 23, vi oo] N τ (kk) := by
                have h := c_X6_valueAt E N τ 23 oo (by omega) (by omega) hpl ho
                rw [show gVal vl sz₉ oo = kk from by unfold gVal; rw [if_pos (by omega)]; exact pa1.2.1] at h
                exact h
              refine go_callVP (pc := 36) hF [vi oo] [] mv_X3_84 dX3_followRow_36 (by omega) hpl.1 cm_k3 rfl rfl (Nat.le_of_ble_eq_true rfl) (by omega) ⟨Nat.zero_le _, Nat.zero_le _⟩ ?_
              refine go_istore (pc := 39) hF [(7, vi kk), (6, vi 0), (5, vi oo), (0, vr E 30), (1, vr E 23), (2, vi o), (3, vi (o + (tLen t₉ : Int))), (4, vi (dl : Int))] dX3_followRow_39 rfl (by decide) ?_
              refine go_aload_n (pc := 41) hF dX3_followRow_41 3 rfl ?_
              refine go_iload (pc := 42) hF dX3_followRow_42 0 rfl ?_
              refine go_aload_n (pc := 44) hF dX3_followRow_44 4 rfl ?_
              refine go_iload (pc := 45) hF dX3_followRow_45 0 rfl ?_
              have cm_k4 : CP E M_X6_lineOfLook 2 [vr E 23, vi kk] N τ (cx - 97) := by
                have h := c_X6_lineOfLook E N τ 23 kk (by omega) (by omega) hpl ho
                rw [show gLine ll lk₉ kk = cx - 97 from by unfold gLine; rw [if_pos (by omega)]; exact pa1.2.2.1] at h
                exact h
              refine go_callVP (pc := 47) hF [vi kk] [vi kk, vr E 30] mv_X3_100 dX3_followRow_47 (by omega) hpl.1 cm_k4 rfl rfl (Nat.le_of_ble_eq_true rfl) (by omega) ⟨Nat.zero_le _, Nat.zero_le _⟩ ?_
              refine go_aload_n (pc := 50) hF dX3_followRow_50 3 rfl ?_
              refine go_get (pc := 51) hF fl_X3_20 dX3_followRow_51 (by omega) hfo.1 rfl ?_
              refine go_iload (pc := 54) hF dX3_followRow_54 7 rfl ?_
              refine go_aald (pc := 56) hF 3 (35 + 3 * dl) dX3_followRow_56 rfl (by omega) hfo.2.2.2.1 (by omega) (by show (35 : Int) + 3 * (dl : Int) = ((35 + 3 * dl : Nat) : Int); omega) ?_
              refine go_callVV (pc := 57) hF [vi kk, vi (cx - 97), vr E (35 + 3 * dl)] [] mv_X3_103 dX3_followRow_57 (by omega) hfo.1 (c_X3_followLook E N τ (35 + 3 * dl) M1₉ M2₉ X₉.1 X₉.2 kk (cx - 97) v₉ kn₉ hN₉ (by omega) (by omega) (by omega) hv hfo hAX hrX) rfl rfl (Nat.le_of_ble_eq_true rfl) (by omega) ⟨Nat.zero_le _, Nat.zero_le _⟩ (fun s5 h_s5 => ?_)
              obtain ⟨uf_s5, uA_s5, f_s5⟩ := h_s5
              have t_s5 := hpl.keep (fun jj h1 h2 => f_s5 jj (by omega))
              refine go_goto (pc := 60) hF 100 dX3_followRow_60 (by decide) ?_
              refine go_iinc (pc := 100) hF [(5, vi (oo + 1)), (7, vi kk), (6, vi 0), (0, vr E 30), (1, vr E 23), (2, vi o), (3, vi (o + (tLen t₉ : Int))), (4, vi (dl : Int))] dX3_followRow_100 2 rfl rfl (by decide) ?_
              refine go_goto (pc := 103) hF 14 dX3_followRow_103 (by decide) ?_
              refine go_lv [(5, vi (oo + 1)), (0, vr E 30), (1, vr E 23), (2, vi o), (3, vi (o + (tLen t₉ : Int))), (4, vi (dl : Int))] [0, 3, 4, 5, 6, 7] rfl ?_
              exact ih₉ (oo + 1) (kk + 1) (lkMu X₉.1 (cx - 97), lkMa X₉.2 (cx - 97) v₉) _ _ s5 (by omega) (by omega) (by rw [if_neg hc46] at par_; exact par_) (by omega) (by omega) (by rw [← hlw]; exact rgA_look hrX hv hcx) (by rw [← hX, fa, hlw]) (by rw [← hM1, rec1, rec1, fRec, if_neg hc46, hlw]; rfl) (by rw [← hM2, rec2, rec2, fRec, if_neg hc46, hlw]; rfl) uf_s5 uA_s5 (hsc2.keep (fun jj h3 h4 => by rw [f_s5 jj (by omega)])) (fun jj hjj => by rw [f_s5 jj (by omega), fr_loop jj (by omega)])
      · intro ta_ tb_ rt hwa hwb hwr _ _ ih₉
        have eq_tLen : tLen (Std.Format.append (Std.Format.append ta_ tb_) rt) = 3 + tLen ta_ + tLen tb_ + tLen rt := rfl
        have eq_tDep : tDep (Std.Format.append (Std.Format.append ta_ tb_) rt) = max (1 + max (tDep ta_) (tDep tb_)) (tDep rt) := rfl
        have eq_tLks : tLks (Std.Format.append (Std.Format.append ta_ tb_) rt) = tLks ta_ + tLks tb_ + tLks rt := rfl
        by_cases hD0 : D₉ = 0
        · intro oo kk X₉ M1₉ M2₉ τ hd1 hd2 hpa hoo hkk hrX hX hM1 hM2 hfo hAX hsc2 fr_loop; exact absurd hd1 (by omega)
        · intro oo kk X₉ M1₉ M2₉ τ hd1 hd2 hpa hoo hkk hrX hX hM1 hM2 hfo hAX hsc2 fr_loop
          obtain ⟨D9, rfl⟩ : ∃ D9, D₉ = D9 + 1 := ⟨D₉ - 1, by omega⟩
          obtain ⟨pa1, paa, pab, par_⟩ := hpa
          have hpl := hp.keep (fun jj h1 h2 => fr_loop jj (by omega))
          refine go_iload (pc := 14) hF dX3_followRow_14 0 rfl ?_
          refine go_iload_n (pc := 16) hF dX3_followRow_16 4 rfl ?_
          refine go_icmp_ge (pc := 17) hF 106 dX3_followRow_17 (by decide) (by omega) (by omega) (fun bq17 => ?_) (fun bq17 => ?_)
          · exact absurd bq17 (by omega)
          · refine go_aload_n (pc := 20) hF dX3_followRow_20 2 rfl ?_
            refine go_iload (pc := 21) hF dX3_followRow_21 0 rfl ?_
            have cm_k6 : CP E M_X6_signAt 2 [vr E 23, vi oo] N τ (2) := by
              have h := c_X6_signAt E N τ 23 oo (by omega) (by omega) hpl ho
              rw [show gSign sg sz₉ oo = 2 from by unfold gSign; rw [if_pos (by omega)]; exact pa1.1] at h
              exact h
            refine go_callVP (pc := 23) hF [vi oo] [] mv_X3_78 dX3_followRow_23 (by omega) hpl.1 cm_k6 rfl rfl (Nat.le_of_ble_eq_true rfl) (by omega) ⟨Nat.zero_le _, Nat.zero_le _⟩ ?_
            refine go_istore (pc := 26) hF [(6, vi 2), (5, vi oo), (0, vr E 30), (1, vr E 23), (2, vi o), (3, vi (o + (tLen t₉ : Int))), (4, vi (dl : Int))] dX3_followRow_26 rfl (by decide) ?_
            refine go_iload (pc := 28) hF dX3_followRow_28 0 rfl ?_
            refine go_if_ne (pc := 30) hF 63 dX3_followRow_30 (by decide) ⟨by decide, by decide⟩ (fun bq30 => ?_) (fun bq30 => ?_)
            · refine go_iload (pc := 63) hF dX3_followRow_63 0 rfl ?_
              refine go_iconst (pc := 65) hF dX3_followRow_65 ?_
              refine go_icmp_ne (pc := 66) hF 83 dX3_followRow_66 (by decide) ⟨by decide, by decide⟩ ⟨by decide, by decide⟩ (fun bq66 => ?_) (fun bq66 => ?_)
              · exact absurd bq66 (by decide)
              · refine go_aload_n (pc := 69) hF dX3_followRow_69 2 rfl ?_
                refine go_aload_n (pc := 70) hF dX3_followRow_70 3 rfl ?_
                refine go_iload (pc := 71) hF dX3_followRow_71 1 rfl ?_
                refine go_iload (pc := 73) hF dX3_followRow_73 6 rfl ?_
                refine go_callVI (pc := 75) hF [vr E 23, vi oo, vi (dl : Int)] [] mv_X3_107 dX3_followRow_75 (by omega) hfo.1 (c_X3_followChoice E N D9 (IH₉ D9 rfl) τ sg vl mt₉ lw ll la M1₉ M2₉ X₉.1 X₉.2 sz₉ lk₉ chs lps dp ln oo kk lp v₉ kn₉ dl hN₉ hpl ho hv hfo hAX hrX hsc2 ta_ tb_ hwa hwb (by omega) pa1 paa pab (by omega) (by omega) (by omega)) rfl rfl (Nat.le_of_ble_eq_true rfl) (by omega) ⟨Nat.zero_le _, Nat.zero_le _⟩ (fun r_s7 s7 h_s7 => ?_)
                obtain ⟨e_s7, uf_s7, uA_s7, us_s7, f_s7⟩ := h_s7
                subst e_s7
                have t_s7 := hpl.keep (fun jj h1 h2 => f_s7 jj (by omega))
                refine go_istore (pc := 78) hF [(5, vi (oo + 2 + (tLen ta_ : Int) + (tLen tb_ : Int))), (6, vi 2), (0, vr E 30), (1, vr E 23), (2, vi o), (3, vi (o + (tLen t₉ : Int))), (4, vi (dl : Int))] dX3_followRow_78 rfl (by decide) ?_
                refine go_goto (pc := 80) hF 100 dX3_followRow_80 (by decide) ?_
                refine go_iinc (pc := 100) hF [(5, vi ((oo + 2 + (tLen ta_ : Int) + (tLen tb_ : Int)) + 1)), (6, vi 2), (0, vr E 30), (1, vr E 23), (2, vi o), (3, vi (o + (tLen t₉ : Int))), (4, vi (dl : Int))] dX3_followRow_100 0 rfl rfl (by decide) ?_
                refine go_goto (pc := 103) hF 14 dX3_followRow_103 (by decide) ?_
                refine go_lv [(5, vi ((oo + 2 + (tLen ta_ : Int) + (tLen tb_ : Int)) + 1)), (0, vr E 30), (1, vr E 23), (2, vi o), (3, vi (o + (tLen t₉ : Int))), (4, vi (dl : Int))] [0, 2, 3, 4, 5, 6] rfl ?_
                exact ih₉ _ (kk + tLks ta_ + tLks tb_) (aJoin (fa v₉ ta_ X₉) (fa v₉ tb_ X₉)) _ _ s7 (by omega) (by omega) (by rw [show oo + 2 + (tLen ta_ : Int) + (tLen tb_ : Int) + 1 = oo + 3 + (tLen ta_ : Int) + (tLen tb_ : Int) by omega]; exact par_) (by omega) (by omega) (rgA_join (rgA_fa hv ta_ hwa X₉ hrX) (rgA_fa hv tb_ hwb X₉ hrX)) (by rw [← hX, fa]) (by rw [← hM1]; simp only [rec1, fRec, List.map_append]; rw [recU_app, recU_app]; simp only [List.length_append, List.length_map, fRec_len ta_ hwa, fRec_len tb_ hwb]; congr 1; omega) (by rw [← hM2]; simp only [rec2, fRec, List.map_append]; rw [recU_app, recU_app]; simp only [List.length_append, List.length_map, fRec_len ta_ hwa, fRec_len tb_ hwb]; congr 1; omega) uf_s7 uA_s7 us_s7 (fun jj hjj => by rw [f_s7 jj (by omega), fr_loop jj (by omega)])
            · exact absurd bq30 (by decide)
      · intro nn ta_ rt hnn₉ hwa hwr _ ih₉
        have eq_tLen : tLen (Std.Format.append (Std.Format.tag nn ta_) rt) = 2 + tLen ta_ + tLen rt := rfl
        have eq_tDep : tDep (Std.Format.append (Std.Format.tag nn ta_) rt) = max (1 + tDep ta_) (tDep rt) := rfl
        have eq_tLks : tLks (Std.Format.append (Std.Format.tag nn ta_) rt) = tLks ta_ + tLks rt := rfl
        by_cases hD0 : D₉ = 0
        · intro oo kk X₉ M1₉ M2₉ τ hd1 hd2 hpa hoo hkk hrX hX hM1 hM2 hfo hAX hsc2 fr_loop; exact absurd hd1 (by omega)
        · intro oo kk X₉ M1₉ M2₉ τ hd1 hd2 hpa hoo hkk hrX hX hM1 hM2 hfo hAX hsc2 fr_loop
          obtain ⟨D9, rfl⟩ : ∃ D9, D₉ = D9 + 1 := ⟨D₉ - 1, by omega⟩
          obtain ⟨pa1, paa, par_⟩ := hpa
          have hpl := hp.keep (fun jj h1 h2 => fr_loop jj (by omega))
          refine go_iload (pc := 14) hF dX3_followRow_14 0 rfl ?_
          refine go_iload_n (pc := 16) hF dX3_followRow_16 4 rfl ?_
          refine go_icmp_ge (pc := 17) hF 106 dX3_followRow_17 (by decide) (by omega) (by omega) (fun bq17 => ?_) (fun bq17 => ?_)
          · exact absurd bq17 (by omega)
          · refine go_aload_n (pc := 20) hF dX3_followRow_20 2 rfl ?_
            refine go_iload (pc := 21) hF dX3_followRow_21 0 rfl ?_
            have cm_k8 : CP E M_X6_signAt 2 [vr E 23, vi oo] N τ (5) := by
              have h := c_X6_signAt E N τ 23 oo (by omega) (by omega) hpl ho
              rw [show gSign sg sz₉ oo = 5 from by unfold gSign; rw [if_pos (by omega)]; exact pa1.1] at h
              exact h
            refine go_callVP (pc := 23) hF [vi oo] [] mv_X3_78 dX3_followRow_23 (by omega) hpl.1 cm_k8 rfl rfl (Nat.le_of_ble_eq_true rfl) (by omega) ⟨Nat.zero_le _, Nat.zero_le _⟩ ?_
            refine go_istore (pc := 26) hF [(6, vi 5), (5, vi oo), (0, vr E 30), (1, vr E 23), (2, vi o), (3, vi (o + (tLen t₉ : Int))), (4, vi (dl : Int))] dX3_followRow_26 rfl (by decide) ?_
            refine go_iload (pc := 28) hF dX3_followRow_28 0 rfl ?_
            refine go_if_ne (pc := 30) hF 63 dX3_followRow_30 (by decide) ⟨by decide, by decide⟩ (fun bq30 => ?_) (fun bq30 => ?_)
            · refine go_iload (pc := 63) hF dX3_followRow_63 0 rfl ?_
              refine go_iconst (pc := 65) hF dX3_followRow_65 ?_
              refine go_icmp_ne (pc := 66) hF 83 dX3_followRow_66 (by decide) ⟨by decide, by decide⟩ ⟨by decide, by decide⟩ (fun bq66 => ?_) (fun bq66 => ?_)
              · refine go_iload (pc := 83) hF dX3_followRow_83 0 rfl ?_
                refine go_iconst (pc := 85) hF dX3_followRow_85 ?_
                refine go_icmp_ne (pc := 86) hF 100 dX3_followRow_86 (by decide) ⟨by decide, by decide⟩ ⟨by decide, by decide⟩ (fun bq86 => ?_) (fun bq86 => ?_)
                · exact absurd bq86 (by decide)
                · refine go_aload_n (pc := 89) hF dX3_followRow_89 2 rfl ?_
                  refine go_aload_n (pc := 90) hF dX3_followRow_90 3 rfl ?_
                  refine go_iload (pc := 91) hF dX3_followRow_91 1 rfl ?_
                  refine go_iload (pc := 93) hF dX3_followRow_93 6 rfl ?_
                  refine go_callVI (pc := 95) hF [vr E 23, vi oo, vi (dl : Int)] [] mv_X3_111 dX3_followRow_95 (by omega) hfo.1 (c_X3_followLoop E N D9 (IH₉ D9 rfl) τ sg vl mt₉ lw ll la M1₉ M2₉ X₉.1 X₉.2 sz₉ lk₉ chs lps dp ln oo kk lp v₉ kn₉ dl hN₉ hpl ho hv hfo hAX hrX hsc2 nn ta_ hwa (by omega) pa1 paa (by omega) (by omega) (by omega)) rfl rfl (Nat.le_of_ble_eq_true rfl) (by omega) ⟨Nat.zero_le _, Nat.zero_le _⟩ (fun r_s9 s9 h_s9 => ?_)
                  obtain ⟨e_s9, uf_s9, uA_s9, us_s9, f_s9⟩ := h_s9
                  subst e_s9
                  have t_s9 := hpl.keep (fun jj h1 h2 => f_s9 jj (by omega))
                  refine go_istore (pc := 98) hF [(5, vi (oo + 1 + (tLen ta_ : Int))), (6, vi 5), (0, vr E 30), (1, vr E 23), (2, vi o), (3, vi (o + (tLen t₉ : Int))), (4, vi (dl : Int))] dX3_followRow_98 rfl (by decide) ?_
                  refine go_iinc (pc := 100) hF [(5, vi ((oo + 1 + (tLen ta_ : Int)) + 1)), (6, vi 5), (0, vr E 30), (1, vr E 23), (2, vi o), (3, vi (o + (tLen t₉ : Int))), (4, vi (dl : Int))] dX3_followRow_100 0 rfl rfl (by decide) ?_
                  refine go_goto (pc := 103) hF 14 dX3_followRow_103 (by decide) ?_
                  refine go_lv [(5, vi ((oo + 1 + (tLen ta_ : Int)) + 1)), (0, vr E 30), (1, vr E 23), (2, vi o), (3, vi (o + (tLen t₉ : Int))), (4, vi (dl : Int))] [0, 2, 3, 4, 5, 6] rfl ?_
                  exact ih₉ _ (kk + tLks ta_) (aFix (fa v₉ ta_) 37 X₉) _ _ s9 (by omega) (by omega) (by rw [show oo + 1 + (tLen ta_ : Int) + 1 = oo + 2 + (tLen ta_ : Int) by omega]; exact par_) (by omega) (by omega) (rgA_fix (rgA_fa hv ta_ hwa) 37 X₉ hrX) (by rw [← hX, fa]) (by rw [← hM1]; simp only [rec1, fRec, List.map_append]; rw [recU_app]; simp only [List.length_map, fRec_len ta_ hwa]) (by rw [← hM2]; simp only [rec2, fRec, List.map_append]; rw [recU_app]; simp only [List.length_map, fRec_len ta_ hwa]) uf_s9 uA_s9 us_s9 (fun jj hjj => by rw [f_s9 jj (by omega), fr_loop jj (by omega)])
              · exact absurd bq66 (by decide)
            · exact absurd bq30 (by decide)
    exact loop₉ t₉ hwf o k₉ (mu₉, ma) mm my σ hdp hdl hpa0 ⟨ho1.1, rfl⟩ hk1 hrA rfl rfl rfl hf hA hsc (fun _ _ => rfl)
  · exact absurd ((bI_0 _).mp bq7) (by omega)
theorem fol_row (E : En) (N : Nat) : ∀ D₉, FolRow E N D₉
  | 0 => fol_step E N 0 (fun D₉ h => absurd h (by omega))
  | D₉ + 1 => fol_step E N (D₉ + 1) (fun D9 h => by cases h; exact fol_row E N D₉)
