/-! Following: loops. -/
def phi (A₉ : AG₉) : Int := A₉.1 0 + A₉.1 1 + A₉.1 2 + A₉.1 3 + A₉.1 4 + A₉.1 5 + (3 - A₉.2 0) + (3 - A₉.2 1) + (3 - A₉.2 2) + (3 - A₉.2 3) + (3 - A₉.2 4) + (3 - A₉.2 5)
theorem phi_rg {A₉ : AG₉} (h : rgA A₉) : 0 ≤ phi A₉ ∧ phi A₉ ≤ 36 := by
  have h0 := h 0 (by omega) (by omega)
  have h1 := h 1 (by omega) (by omega)
  have h2 := h 2 (by omega) (by omega)
  have h3 := h 3 (by omega) (by omega)
  have h4 := h 4 (by omega) (by omega)
  have h5 := h 5 (by omega) (by omega)
  unfold phi
  omega
theorem phi_grow {A₉ B₉ : AG₉} (hn : ¬ aSame A₉ B₉) : phi A₉ + 1 ≤ phi (aJoin A₉ B₉) := by
  have e1₉ : ∀ z₉, A₉.1 z₉ ≤ (aJoin A₉ B₉).1 z₉ := fun z₉ => by simp only [aJoin, jnMu]; split <;> omega
  have e2₉ : ∀ z₉, (aJoin A₉ B₉).2 z₉ ≤ A₉.2 z₉ := fun z₉ => by simp only [aJoin, jnMa]; split <;> omega
  have e3₉ : ∀ z₉, B₉.1 z₉ ≤ (aJoin A₉ B₉).1 z₉ := fun z₉ => by simp only [aJoin, jnMu]; split <;> omega
  have e4₉ : ∀ z₉, (aJoin A₉ B₉).2 z₉ ≤ B₉.2 z₉ := fun z₉ => by simp only [aJoin, jnMa]; split <;> omega
  have a0₉ := e1₉ 0; have a1₉ := e1₉ 1; have a2 := e1₉ 2; have a3 := e1₉ 3; have a4 := e1₉ 4; have a5 := e1₉ 5
  have b0 := e2₉ 0; have b1 := e2₉ 1; have b2 := e2₉ 2; have b3 := e2₉ 3; have b4 := e2₉ 4; have b5 := e2₉ 5
  have c0₉ := e3₉ 0; have c1₉ := e3₉ 1; have c2₉ := e3₉ 2; have c3₉ := e3₉ 3; have c4₉ := e3₉ 4; have c5₉ := e3₉ 5
  have d0₉ := e4₉ 0; have d1₉ := e4₉ 1; have d2₉ := e4₉ 2; have d3₉ := e4₉ 3; have d4₉ := e4₉ 4; have d5₉ := e4₉ 5
  apply Classical.byContradiction
  intro hx
  apply hn
  intro z₉ h1 h2
  unfold phi at hx
  obtain rfl | rfl | rfl | rfl | rfl | rfl : z₉ = 0 ∨ z₉ = 1 ∨ z₉ = 2 ∨ z₉ = 3 ∨ z₉ = 4 ∨ z₉ = 5 := by omega
  all_goals omega
set_option maxHeartbeats 4000000 in
set_option maxRecDepth 100000 in
theorem c_X3_followLoop (E : En) (N D₉ : Nat) (IH₉ : FolRow E N D₉) (σ : Nat → va_E) (sg vl mt₉ lw ll la mm my mu₉ ma : Int → Int) (sz₉ lk₉ chs lps dp ln o k₉ lp v₉ kn₉ : Int) (dl : Nat) (hN₉ : 101 ≤ N) (hp : isP E σ 23 sg vl mt₉ lw ll la sz₉ lk₉ chs lps dp ln) (ho : okP sg vl mt₉ lw ll la sz₉ lk₉ chs lps dp ln) (hv : 1 ≤ v₉ ∧ v₉ ≤ 3) (hf : isFo E σ v₉ kn₉ mm my) (hA : isA E σ (35 + 3 * dl) mu₉ ma) (hrA : rgA (mu₉, ma)) (hsc : scr E σ dl) (nn : Nat) (ta_ : Tr) (hwa : wf ta_) (hda : tDep ta_ ≤ D₉) (pa0 : sg o = 5 ∧ vl o = nn ∧ mt₉ o = o + 1 + tLen ta_ ∧ lw o = tMsk ta_ 0) (paa : PA₉ sg vl mt₉ lw ll la ta_ (o + 1) k₉ o) (ho1 : 0 ≤ o ∧ o + 2 + tLen ta_ ≤ sz₉) (hk1 : 0 ≤ k₉ ∧ k₉ + tLks ta_ ≤ lk₉) (hdl : tDep ta_ + dl ≤ 2) : CI E M_X3_followLoop (7 + 2 * D₉) [vr E 30, vr E 23, vi o, vi dl] N σ (fun y₉ σ' => y₉ = o + 1 + (tLen ta_ : Int) ∧ isFo E σ' v₉ kn₉ (recU mm k₉ (rec1 v₉ ta_ (aFix (fa v₉ ta_) 37 (mu₉, ma)))) (recU my k₉ (rec2 v₉ ta_ (aFix (fa v₉ ta_) 37 (mu₉, ma)))) ∧ isA E σ' (35 + 3 * dl) (aFix (fa v₉ ta_) 37 (mu₉, ma)).1 (aFix (fa v₉ ta_) 37 (mu₉, ma)).2 ∧ scr E σ' dl ∧ ∀ q₉, (q₉ ≠ 31 ∧ q₉ ≠ 32 ∧ (q₉ < 35 + 3 * dl ∨ (46 < q₉ ∧ q₉ < 47 + 3 * dl) ∨ 55 < q₉)) → σ' q₉ = σ q₉) := by
  refine CT.of2 (own := RX3) (by decide) rfl (Nat.le_of_ble_eq_true rfl) ?_
  intro p e R s m args below meth c Q hF hr hlk hnm hz hR hQ
  have hsz := ho.1
  refine go_aload_n (pc := 0) hF dX3_followLoop_0 1 rfl ?_
  refine go_iload_n (pc := 1) hF dX3_followLoop_1 2 rfl ?_
  have cm_k1 : CP E M_X6_mateOf 2 [vr E 23, vi o] N σ (o + 1 + (tLen ta_ : Int)) := by
    have h := c_X6_mateOf E N σ 23 o (by omega) (by omega) hp ho
    rw [show gMate mt₉ sz₉ o = o + 1 + (tLen ta_ : Int) from by unfold gMate; rw [if_pos (by omega), pa0.2.2.1]; omega] at h
    exact h
  refine go_callVP (pc := 2) hF [vi o] [] mv_X3_81 dX3_followLoop_2 (by omega) hp.1 cm_k1 rfl rfl (Nat.le_of_ble_eq_true rfl) (by omega) ⟨Nat.zero_le _, Nat.zero_le _⟩ ?_
  refine go_istore (pc := 5) hF [(4, vi (o + 1 + (tLen ta_ : Int))), (0, vr E 30), (1, vr E 23), (2, vi o), (3, vi (dl : Int))] dX3_followLoop_5 rfl (by decide) ?_
  refine go_iload_n (pc := 7) hF dX3_followLoop_7 4 rfl ?_
  refine go_iconst (pc := 8) hF dX3_followLoop_8 ?_
  refine go_iconst (pc := 9) hF dX3_followLoop_9 ?_
  have cw₉ : CP E M_X10_isWithin 1 [vi dl, vi 0, vi 2] N σ 1 := by have h := c_X10_isWithin E N σ dl 0 2 (by omega) (by omega) (by omega); rw [bI_t (by omega)] at h; exact h
  refine go_callNP (pc := 10) hF [vi (dl : Int), vi 0, vi 2] [] mn_X3_96 dX3_followLoop_10 cw₉ rfl rfl (Nat.le_of_ble_eq_true rfl) (by omega) ⟨Nat.zero_le _, Nat.zero_le _⟩ ?_
  refine go_istore (pc := 13) hF [(5, vi 1), (4, vi (o + 1 + (tLen ta_ : Int))), (0, vr E 30), (1, vr E 23), (2, vi o), (3, vi (dl : Int))] dX3_followLoop_13 rfl (by decide) ?_
  refine go_iconst (pc := 15) hF dX3_followLoop_15 ?_
  refine go_istore (pc := 16) hF [(6, vi 0), (5, vi 1), (4, vi (o + 1 + (tLen ta_ : Int))), (0, vr E 30), (1, vr E 23), (2, vi o), (3, vi (dl : Int))] dX3_followLoop_16 rfl (by decide) ?_
  have loop₉ : ∀ (n₉ : Nat) (rnd₉ : Int) (chg : Int) (X₉ : AG₉) (M1₉ : Int → Int) (M2₉ : Int → Int) (τ : Nat → va_E), 38 - rnd₉ < n₉ → (0 ≤ rnd₉ ∧ rnd₉ ≤ 37) ∧ (0 ≤ chg ∧ chg ≤ 1) → ((chg = 1 ∧ aFix (fa v₉ ta_) (37 - rnd₉).toNat X₉ = (aFix (fa v₉ ta_) 37 (mu₉, ma)) ∧ rnd₉ ≤ phi X₉) ∨ (chg = 0 ∧ X₉ = (aFix (fa v₉ ta_) 37 (mu₉, ma)) ∧ M1₉ = recU mm k₉ (rec1 v₉ ta_ X₉) ∧ M2₉ = recU my k₉ (rec2 v₉ ta_ X₉))) → rgA X₉ → (∀ Z₉, recU M1₉ k₉ (rec1 v₉ ta_ Z₉) = recU mm k₉ (rec1 v₉ ta_ Z₉)) → (∀ Z₉, recU M2₉ k₉ (rec2 v₉ ta_ Z₉) = recU my k₉ (rec2 v₉ ta_ Z₉)) → isFo E τ v₉ kn₉ M1₉ M2₉ → isA E τ (35 + 3 * dl) X₉.1 X₉.2 → scr E τ dl → (∀ jj : Nat, (jj ≠ 31 ∧ jj ≠ 32 ∧ (jj < 35 + 3 * dl ∨ (46 < jj ∧ jj < 47 + 3 * dl) ∨ 55 < jj)) → τ jj = σ jj) → Go E p e R s m args below meth c Q 7 (0, 0) N τ [(6, vi rnd₉), (5, vi chg), (4, vi (o + 1 + (tLen ta_ : Int))), (0, vr E 30), (1, vr E 23), (2, vi o), (3, vi (dl : Int))] [] 18 := by
    intro n₉
    induction n₉ with
    | zero => intro rnd₉ chg X₉ M1₉ M2₉ τ hfu hrn hc₉ hrX hab1 hab2 hfo hAX hsc2 fr_loop; exfalso; omega
    | succ n₉ ih₉ =>
      intro rnd₉ chg X₉ M1₉ M2₉ τ hfu hrn hc₉ hrX hab1 hab2 hfo hAX hsc2 fr_loop
      have t_loop := hp.keep (fun jj h1 h2 => fr_loop jj (by omega))
      obtain ⟨nu1, na1, hN1⟩ := hsc2.1 (dl + 1) (by omega) (by omega)
      obtain ⟨nu2, na2, hH1⟩ := hsc2.2 dl (by omega) (by omega)
      have hsc1 := hsc2.deeper
      refine go_iload (pc := 18) hF dX3_followLoop_18 1 rfl ?_
      refine go_if_eq (pc := 20) hF 85 dX3_followLoop_20 (by decide) (by omega) (fun bq20 => ?_) (fun bq20 => ?_)
      · refine go_iload (pc := 85) hF dX3_followLoop_85 2 rfl ?_
        obtain ⟨-, eX, eM1, eM2⟩ := hc₉.resolve_left (fun z₉ => absurd z₉.1 (by omega))
        exact go_iretQ hF hr hlk hQ dX3_followLoop_87 ⟨rfl, by rw [← eX, ← eM1, ← eM2]; exact hfo, by rw [← eX]; exact hAX, hsc2, (fun jj hjj => by rw [fr_loop jj (by omega)])⟩
      · refine go_iload (pc := 23) hF dX3_followLoop_23 0 rfl ?_
        refine go_bipush (pc := 25) hF dX3_followLoop_25 (by decide) ?_
        refine go_icmp_ge (pc := 27) hF 85 dX3_followLoop_27 (by decide) (by omega) ⟨by decide, by decide⟩ (fun bq27 => ?_) (fun bq27 => ?_)
        · exact absurd (hc₉.resolve_right (fun z₉ => absurd z₉.1 (by omega))).2.2 (by have := (phi_rg hrX).2; omega)
        · refine go_aload_n (pc := 30) hF dX3_followLoop_30 3 rfl ?_
          refine go_get (pc := 31) hF fl_X3_20 dX3_followLoop_31 (by omega) hfo.1 rfl ?_
          refine go_iload_n (pc := 34) hF dX3_followLoop_34 6 rfl ?_
          refine go_iconst (pc := 35) hF dX3_followLoop_35 ?_
          refine go_iadd (pc := 36) hF dX3_followLoop_36 ?_
          refine go_aald (pc := 37) hF 3 (35 + 3 * (dl + 1)) dX3_followLoop_37 rfl (by omega) hfo.2.2.2.1 (by omega) (by show (35 : Int) + 3 * ((dl : Int) + 1) = ((35 + 3 * (dl + 1) : Nat) : Int); omega) ?_
          refine go_aload_n (pc := 38) hF dX3_followLoop_38 3 rfl ?_
          refine go_get (pc := 39) hF fl_X3_20 dX3_followLoop_39 (by omega) hfo.1 rfl ?_
          refine go_iload_n (pc := 42) hF dX3_followLoop_42 6 rfl ?_
          refine go_aald (pc := 43) hF 3 (35 + 3 * dl) dX3_followLoop_43 rfl (by omega) hfo.2.2.2.1 (by omega) (by show (35 : Int) + 3 * (dl : Int) = ((35 + 3 * dl : Nat) : Int); omega) ?_
          refine go_callVV (pc := 44) hF [vr E (35 + 3 * dl)] [] mv_X3_118 dX3_followLoop_44 (by omega) hN1.1 (c_X0_setAs E N τ (35 + 3 * (dl + 1)) (35 + 3 * dl) _ _ _ _ (by omega) (by omega) (by omega) hN1 hAX) rfl rfl (Nat.le_of_ble_eq_true rfl) (by omega) ⟨Nat.zero_le _, Nat.zero_le _⟩ (fun s2₉ h_s2 => ?_)
          obtain ⟨uA_s2, f_s2⟩ := h_s2
          have t_s2 := t_loop.keep (fun jj h1 h2 => f_s2 jj (by omega))
          have fo_s2 := hfo.keep (fun jj h1 h2 => f_s2 jj (by omega))
          have A0_s2 := hAX.keep (fun jj h1 h2 => f_s2 jj (by omega))
          have H0_s2 := hH1.keep (fun jj h1 h2 => f_s2 jj (by omega))
          refine go_aload_n (pc := 47) hF dX3_followLoop_47 3 rfl ?_
          refine go_aload_n (pc := 48) hF dX3_followLoop_48 4 rfl ?_
          refine go_iload_n (pc := 49) hF dX3_followLoop_49 5 rfl ?_
          refine go_iconst (pc := 50) hF dX3_followLoop_50 ?_
          refine go_iadd (pc := 51) hF dX3_followLoop_51 ?_
          refine go_iload (pc := 52) hF dX3_followLoop_52 2 rfl ?_
          refine go_iload_n (pc := 54) hF dX3_followLoop_54 6 rfl ?_
          refine go_iconst (pc := 55) hF dX3_followLoop_55 ?_
          refine go_iadd (pc := 56) hF dX3_followLoop_56 ?_
          have sc_s3 : scr E s2₉ (dl + 1) := hsc1.keep (fun jj h1 h2 => by rw [f_s2 jj (by omega)])
          have cr_s3 := IH₉ ta_ s2₉ sg vl mt₉ lw ll la M1₉ M2₉ X₉.1 X₉.2 sz₉ lk₉ chs lps dp ln (o + 1) k₉ o v₉ kn₉ (dl + 1) hN₉ t_s2 ho hwa (by omega) paa (by omega) (by omega) (by omega) hv fo_s2 uA_s2 hrX sc_s3
          rw [show (o + 1) + (tLen ta_ : Int) = o + 1 + (tLen ta_ : Int) by omega, show ((dl + 1 : Nat) : Int) = (dl : Int) + 1 by omega] at cr_s3
          refine go_callVV (pc := 57) hF [vr E 23, vi (o + 1), vi (o + 1 + (tLen ta_ : Int)), vi ((dl : Int) + 1)] [] mv_X3_45 dX3_followLoop_57 (by omega) fo_s2.1 cr_s3 rfl rfl (Nat.le_of_ble_eq_true rfl) (by omega) ⟨Nat.zero_le _, Nat.zero_le _⟩ (fun s3₉ h_s3 => ?_)
          obtain ⟨uf_s3, uA_s3, us_s3, f_s3⟩ := h_s3
          have t_s3 := t_s2.keep (fun jj h1 h2 => f_s3 jj (by omega))
          have A0_s3 := A0_s2.keep (fun jj h1 h2 => f_s3 jj (by omega))
          have H0_s3 := H0_s2.keep (fun jj h1 h2 => f_s3 jj (by omega))
          refine go_aload_n (pc := 60) hF dX3_followLoop_60 3 rfl ?_
          refine go_get (pc := 61) hF fl_X3_20 dX3_followLoop_61 (by omega) uf_s3.1 rfl ?_
          refine go_iload_n (pc := 64) hF dX3_followLoop_64 6 rfl ?_
          refine go_aald (pc := 65) hF 3 (35 + 3 * dl) dX3_followLoop_65 rfl (by omega) uf_s3.2.2.2.1 (by omega) (by show (35 : Int) + 3 * (dl : Int) = ((35 + 3 * dl : Nat) : Int); omega) ?_
          refine go_aload_n (pc := 66) hF dX3_followLoop_66 3 rfl ?_
          refine go_get (pc := 67) hF fl_X3_20 dX3_followLoop_67 (by omega) uf_s3.1 rfl ?_
          refine go_iload_n (pc := 70) hF dX3_followLoop_70 6 rfl ?_
          refine go_iconst (pc := 71) hF dX3_followLoop_71 ?_
          refine go_iadd (pc := 72) hF dX3_followLoop_72 ?_
          refine go_aald (pc := 73) hF 3 (35 + 3 * (dl + 1)) dX3_followLoop_73 rfl (by omega) uf_s3.2.2.2.1 (by omega) (by show (35 : Int) + 3 * ((dl : Int) + 1) = ((35 + 3 * (dl + 1) : Nat) : Int); omega) ?_
          refine go_callVI (pc := 74) hF [vr E (35 + 3 * (dl + 1))] [] mv_X3_122 dX3_followLoop_74 (by omega) A0_s3.1 (c_X0_joinWith E N s3₉ (35 + 3 * dl) (35 + 3 * (dl + 1)) X₉.1 X₉.2 (fa v₉ ta_ X₉).1 (fa v₉ ta_ X₉).2 (fun z₉ h1 h2 => (hrX z₉ h1 h2).1) (fun z₉ h1 h2 => (hrX z₉ h1 h2).2) (fun z₉ h1 h2 => ((rgA_fa hv ta_ hwa X₉ hrX) z₉ h1 h2).1) (fun z₉ h1 h2 => ((rgA_fa hv ta_ hwa X₉ hrX) z₉ h1 h2).2) (by omega) (by omega) (by omega) A0_s3 uA_s3) rfl rfl (Nat.le_of_ble_eq_true rfl) (by omega) ⟨Nat.zero_le _, Nat.zero_le _⟩ (fun r_s4 s4₉ h_s4 => ?_)
          obtain ⟨q0_s4, q1_s4, uA_s4, f_s4⟩ := h_s4
          have t_s4 := t_s3.keep (fun jj h1 h2 => f_s4 jj (by omega))
          have fo_s4 := uf_s3.keep (fun jj h1 h2 => f_s4 jj (by omega))
          have A1_s4 := uA_s3.keep (fun jj h1 h2 => f_s4 jj (by omega))
          have H0_s4 := H0_s3.keep (fun jj h1 h2 => f_s4 jj (by omega))
          have hsm : r_s4 = 0 ↔ aSame X₉ (fa v₉ ta_ X₉) := q1_s4
          have hcc := hc₉.resolve_right (fun z₉ => absurd z₉.1 (by omega))
          rcases q0_s4 with e0₉ | e0₉
          · have hsame := hsm.mp e0₉
            subst e0₉
            refine go_ai (35 + 3 * dl + 1) 6 X₉.1 (by omega) uA_s4.2.1 (fun z₉ h1 h2 => by have := hsame z₉ h1 (by omega); show (if X₉.1 z₉ < (fa v₉ ta_ X₉).1 z₉ then (fa v₉ ta_ X₉).1 z₉ else X₉.1 z₉) = X₉.1 z₉; rw [if_neg (by omega)]) (fun sy v1₉ g1 => ?_)
            refine go_ai (35 + 3 * dl + 2) 6 X₉.2 (by omega) ((g1 _ (by omega)).trans uA_s4.2.2) (fun z₉ h1 h2 => by have := hsame z₉ h1 (by omega); show (if (fa v₉ ta_ X₉).2 z₉ < X₉.2 z₉ then (fa v₉ ta_ X₉).2 z₉ else X₉.2 z₉) = X₉.2 z₉; rw [if_neg (by omega)]) (fun sx v2 g2 => ?_)
            have uA9 : isA E sx (35 + 3 * dl) X₉.1 X₉.2 := ⟨(g2 _ (by omega)).trans ((g1 _ (by omega)).trans uA_s4.1), (g2 _ (by omega)).trans v1₉, v2⟩
            have f9₉ : ∀ jj : Nat, (jj ≠ 35 + 3 * dl + 1 ∧ jj ≠ 35 + 3 * dl + 2) → sx jj = s4₉ jj := fun jj h => (g2 jj h.2).trans (g1 jj h.1)
            have t_x9 := t_s4.keep (fun jj h1 h2 => f9₉ jj (by omega))
            have fo_x9 := fo_s4.keep (fun jj h1 h2 => f9₉ jj (by omega))
            have A1_x9 := A1_s4.keep (fun jj h1 h2 => f9₉ jj (by omega))
            have H0_x9 := H0_s4.keep (fun jj h1 h2 => f9₉ jj (by omega))
            refine go_istore (pc := 77) hF [(5, vi 0), (6, vi rnd₉), (4, vi (o + 1 + (tLen ta_ : Int))), (0, vr E 30), (1, vr E 23), (2, vi o), (3, vi (dl : Int))] dX3_followLoop_77 rfl (by decide) ?_
            refine go_iinc (pc := 79) hF [(6, vi (rnd₉ + 1)), (5, vi 0), (4, vi (o + 1 + (tLen ta_ : Int))), (0, vr E 30), (1, vr E 23), (2, vi o), (3, vi (dl : Int))] dX3_followLoop_79 1 rfl rfl (by decide) ?_
            refine go_goto (pc := 82) hF 18 dX3_followLoop_82 (by decide) ?_
            exact ih₉ (rnd₉ + 1) 0 X₉ (recU M1₉ k₉ (rec1 v₉ ta_ X₉)) (recU M2₉ k₉ (rec2 v₉ ta_ X₉)) sx (by omega) (by omega) (Or.inr ⟨rfl, by rw [← hcc.2.1, show (37 - rnd₉).toNat = (36 - rnd₉).toNat + 1 by omega, aFix, if_pos hsame], hab1 X₉, hab2 X₉⟩) hrX (fun Z₉ => by rw [hab1 X₉, recU_twice _ _ _ _ (by rw [rec1_len hwa, rec1_len hwa])]) (fun Z₉ => by rw [hab2 X₉, recU_twice _ _ _ _ (by rw [rec2_len hwa, rec2_len hwa])]) fo_x9 uA9 ⟨fun d₉ h1 h2 => by by_cases hd1 : d₉ = dl + 1; (subst hd1; exact ⟨_, _, A1_x9⟩); exact (us_s3.1 d₉ (by omega) h2).keep (fun jj h3 h4 => by rw [f9₉ jj (by omega), f_s4 jj (by omega)]), fun d₉ h1 h2 => by by_cases hd1 : d₉ = dl; (subst hd1; exact ⟨_, _, H0_x9⟩); exact (us_s3.2 d₉ (by omega) h2).keep (fun jj h3 h4 => by rw [f9₉ jj (by omega), f_s4 jj (by omega)])⟩  (fun jj hjj => by rw [f9₉ jj (by omega), f_s4 jj (by omega), f_s3 jj (by omega), f_s2 jj (by omega), fr_loop jj (by omega)])
          · have hdiff : ¬ aSame X₉ (fa v₉ ta_ X₉) := fun z₉ => absurd (hsm.mpr z₉) (by omega)
            subst e0₉
            refine go_istore (pc := 77) hF [(5, vi 1), (6, vi rnd₉), (4, vi (o + 1 + (tLen ta_ : Int))), (0, vr E 30), (1, vr E 23), (2, vi o), (3, vi (dl : Int))] dX3_followLoop_77 rfl (by decide) ?_
            refine go_iinc (pc := 79) hF [(6, vi (rnd₉ + 1)), (5, vi 1), (4, vi (o + 1 + (tLen ta_ : Int))), (0, vr E 30), (1, vr E 23), (2, vi o), (3, vi (dl : Int))] dX3_followLoop_79 1 rfl rfl (by decide) ?_
            refine go_goto (pc := 82) hF 18 dX3_followLoop_82 (by decide) ?_
            exact ih₉ (rnd₉ + 1) 1 (aJoin X₉ (fa v₉ ta_ X₉)) (recU M1₉ k₉ (rec1 v₉ ta_ X₉)) (recU M2₉ k₉ (rec2 v₉ ta_ X₉)) s4₉ (by omega) (by omega) (Or.inl ⟨rfl, by rw [← hcc.2.1, show (37 - rnd₉).toNat = (36 - rnd₉).toNat + 1 by omega, aFix, if_neg hdiff, show (37 - (rnd₉ + 1)).toNat = (36 - rnd₉).toNat by omega], by have := phi_grow hdiff; omega⟩) (rgA_join hrX (rgA_fa hv ta_ hwa X₉ hrX)) (fun Z₉ => by rw [hab1 X₉, recU_twice _ _ _ _ (by rw [rec1_len hwa, rec1_len hwa])]) (fun Z₉ => by rw [hab2 X₉, recU_twice _ _ _ _ (by rw [rec2_len hwa, rec2_len hwa])]) fo_s4 uA_s4 ⟨fun d₉ h1 h2 => by by_cases hd1 : d₉ = dl + 1; (subst hd1; exact ⟨_, _, A1_s4⟩); exact (us_s3.1 d₉ (by omega) h2).keep (fun jj h3 h4 => by rw [f_s4 jj (by omega)]), fun d₉ h1 h2 => by by_cases hd1 : d₉ = dl; (subst hd1; exact ⟨_, _, H0_s4⟩); exact (us_s3.2 d₉ (by omega) h2).keep (fun jj h3 h4 => by rw [f_s4 jj (by omega)])⟩  (fun jj hjj => by rw [f_s4 jj (by omega), f_s3 jj (by omega), f_s2 jj (by omega), fr_loop jj (by omega)])
  exact loop₉ 39 0 1 (mu₉, ma) mm my σ (by omega) (by omega) (Or.inl ⟨rfl, rfl, (phi_rg hrA).1⟩) hrA (fun _ => rfl) (fun _ => rfl) hf hA hsc  (fun _ _ => rfl)
