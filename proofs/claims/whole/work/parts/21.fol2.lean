/-! Following: choices, loops, rows₉. -/
set_option maxHeartbeats 4000000 in
set_option maxRecDepth 100000 in
theorem c_X3_followChoice (E : En) (N D₉ : Nat) (IH₉ : FolRow E N D₉) (σ : Nat → va_E) (sg vl mt₉ lw ll la mm my mu₉ ma : Int → Int) (sz₉ lk₉ chs lps dp ln o k₉ lp v₉ kn₉ : Int) (dl : Nat) (hN₉ : 101 ≤ N) (hp : isP E σ 23 sg vl mt₉ lw ll la sz₉ lk₉ chs lps dp ln) (ho : okP sg vl mt₉ lw ll la sz₉ lk₉ chs lps dp ln) (hv : 1 ≤ v₉ ∧ v₉ ≤ 3) (hf : isFo E σ v₉ kn₉ mm my) (hA : isA E σ (35 + 3 * dl) mu₉ ma) (hrA : rgA (mu₉, ma)) (hsc : scr E σ dl) (ta_ tb_ : Tr) (hwa : wf ta_) (hwb : wf tb_) (hda : tDep ta_ ≤ D₉ ∧ tDep tb_ ≤ D₉) (pa0 : sg o = 2 ∧ mt₉ o = o + 1 + tLen ta_ ∧ mt₉ (o + 1 + tLen ta_) = o + 2 + tLen ta_ + tLen tb_) (paa : PA₉ sg vl mt₉ lw ll la ta_ (o + 1) k₉ lp) (pab : PA₉ sg vl mt₉ lw ll la tb_ (o + 2 + tLen ta_) (k₉ + tLks ta_) lp) (ho1 : 0 ≤ o ∧ o + 3 + tLen ta_ + tLen tb_ ≤ sz₉) (hk1 : 0 ≤ k₉ ∧ k₉ + tLks ta_ + tLks tb_ ≤ lk₉) (hdl : tDep ta_ + dl ≤ 2 ∧ tDep tb_ + dl ≤ 2) : CI E M_X3_followChoice (7 + 2 * D₉) [vr E 30, vr E 23, vi o, vi dl] N σ (fun y₉ σ' => y₉ = o + 2 + (tLen ta_ : Int) + (tLen tb_ : Int) ∧ isFo E σ' v₉ kn₉ (recU (recU mm k₉ (rec1 v₉ ta_ (mu₉, ma))) (k₉ + tLks ta_) (rec1 v₉ tb_ (mu₉, ma))) (recU (recU my k₉ (rec2 v₉ ta_ (mu₉, ma))) (k₉ + tLks ta_) (rec2 v₉ tb_ (mu₉, ma))) ∧ isA E σ' (35 + 3 * dl) (aJoin (fa v₉ ta_ (mu₉, ma)) (fa v₉ tb_ (mu₉, ma))).1 (aJoin (fa v₉ ta_ (mu₉, ma)) (fa v₉ tb_ (mu₉, ma))).2 ∧ scr E σ' dl ∧ ∀ q₉, (q₉ ≠ 31 ∧ q₉ ≠ 32 ∧ (q₉ < 35 + 3 * dl ∨ (46 < q₉ ∧ q₉ < 47 + 3 * dl) ∨ 55 < q₉)) → σ' q₉ = σ q₉) := by
  refine CT.of2 (own := RX3) (by decide) rfl (Nat.le_of_ble_eq_true rfl) ?_
  intro p e R s m args below meth c Q hF hr hlk hnm hz hR hQ
  have hsz := ho.1
  obtain ⟨nu1, na1, hN1⟩ := hsc.1 (dl + 1) (by omega) (by omega)
  obtain ⟨nu2, na2, hH1⟩ := hsc.2 dl (by omega) (by omega)
  have hsc1 := hsc.deeper
  refine go_aload_n (pc := 0) hF dX3_followChoice_0 1 rfl ?_
  refine go_iload_n (pc := 1) hF dX3_followChoice_1 2 rfl ?_
  have cm_k1 : CP E M_X6_mateOf 2 [vr E 23, vi o] N σ (o + 1 + (tLen ta_ : Int)) := by
    have h := c_X6_mateOf E N σ 23 o (by omega) (by omega) hp ho
    rw [show gMate mt₉ sz₉ o = o + 1 + (tLen ta_ : Int) from by unfold gMate; rw [if_pos (by omega), pa0.2.1]; omega] at h
    exact h
  refine go_callVP (pc := 2) hF [vi o] [] mv_X3_81 dX3_followChoice_2 (by omega) hp.1 cm_k1 rfl rfl (Nat.le_of_ble_eq_true rfl) (by omega) ⟨Nat.zero_le _, Nat.zero_le _⟩ ?_
  refine go_istore (pc := 5) hF [(4, vi (o + 1 + (tLen ta_ : Int))), (0, vr E 30), (1, vr E 23), (2, vi o), (3, vi (dl : Int))] dX3_followChoice_5 rfl (by decide) ?_
  refine go_aload_n (pc := 7) hF dX3_followChoice_7 2 rfl ?_
  refine go_iload (pc := 8) hF dX3_followChoice_8 0 rfl ?_
  have cm_k2 : CP E M_X6_mateOf 2 [vr E 23, vi (o + 1 + (tLen ta_ : Int))] N σ (o + 2 + (tLen ta_ : Int) + (tLen tb_ : Int)) := by
    have h := c_X6_mateOf E N σ 23 (o + 1 + (tLen ta_ : Int)) (by omega) (by omega) hp ho
    rw [show gMate mt₉ sz₉ (o + 1 + (tLen ta_ : Int)) = o + 2 + (tLen ta_ : Int) + (tLen tb_ : Int) from by unfold gMate; rw [if_pos (by omega), pa0.2.2]; omega] at h
    exact h
  refine go_callVP (pc := 10) hF [vi (o + 1 + (tLen ta_ : Int))] [] mv_X3_81 dX3_followChoice_10 (by omega) hp.1 cm_k2 rfl rfl (Nat.le_of_ble_eq_true rfl) (by omega) ⟨Nat.zero_le _, Nat.zero_le _⟩ ?_
  refine go_istore (pc := 13) hF [(5, vi (o + 2 + (tLen ta_ : Int) + (tLen tb_ : Int))), (4, vi (o + 1 + (tLen ta_ : Int))), (0, vr E 30), (1, vr E 23), (2, vi o), (3, vi (dl : Int))] dX3_followChoice_13 rfl (by decide) ?_
  refine go_iload_n (pc := 15) hF dX3_followChoice_15 5 rfl ?_
  refine go_iconst (pc := 16) hF dX3_followChoice_16 ?_
  refine go_iconst (pc := 17) hF dX3_followChoice_17 ?_
  refine go_callNP (pc := 18) hF [vi (dl : Int), vi 0, vi 2] [] mn_X3_96 dX3_followChoice_18 (c_X10_isWithin E N σ (dl : Int) 0 2 (by omega) ⟨by decide, by decide⟩ ⟨by decide, by decide⟩) rfl rfl (Nat.le_of_ble_eq_true rfl) (by omega) ⟨Nat.zero_le _, Nat.zero_le _⟩ ?_
  refine go_if_eq (pc := 21) hF 135 dX3_followChoice_21 (by decide) (bI_rg _) (fun bq21 => ?_) (fun bq21 => ?_)
  · exact absurd ((bI_0 _).mp bq21) (by omega)
  · refine go_aload_n (pc := 24) hF dX3_followChoice_24 2 rfl ?_
    refine go_get (pc := 25) hF fl_X3_24 dX3_followChoice_25 (by omega) hf.1 rfl ?_
    refine go_iload_n (pc := 28) hF dX3_followChoice_28 5 rfl ?_
    refine go_aald (pc := 29) hF 3 (47 + 3 * dl) dX3_followChoice_29 rfl (by omega) hf.2.2.2.2 (by omega) (by show (47 : Int) + 3 * (dl : Int) = ((47 + 3 * dl : Nat) : Int); omega) ?_
    refine go_aload_n (pc := 30) hF dX3_followChoice_30 2 rfl ?_
    refine go_get (pc := 31) hF fl_X3_20 dX3_followChoice_31 (by omega) hf.1 rfl ?_
    refine go_iload_n (pc := 34) hF dX3_followChoice_34 5 rfl ?_
    refine go_aald (pc := 35) hF 3 (35 + 3 * dl) dX3_followChoice_35 rfl (by omega) hf.2.2.2.1 (by omega) (by show (35 : Int) + 3 * (dl : Int) = ((35 + 3 * dl : Nat) : Int); omega) ?_
    refine go_callVV (pc := 36) hF [vr E (35 + 3 * dl)] [] mv_X3_118 dX3_followChoice_36 (by omega) hH1.1 (c_X0_setAs E N σ (47 + 3 * dl) (35 + 3 * dl) _ _ _ _ (by omega) (by omega) (by omega) hH1 hA) rfl rfl (Nat.le_of_ble_eq_true rfl) (by omega) ⟨Nat.zero_le _, Nat.zero_le _⟩ (fun s3₉ h_s3 => ?_)
    obtain ⟨uA_s3, f_s3⟩ := h_s3
    have t_s3 := hp.keep (fun jj h1 h2 => f_s3 jj (by omega))
    have fo_s3 := hf.keep (fun jj h1 h2 => f_s3 jj (by omega))
    have A0_s3 := hA.keep (fun jj h1 h2 => f_s3 jj (by omega))
    have A1_s3 := hN1.keep (fun jj h1 h2 => f_s3 jj (by omega))
    refine go_aload_n (pc := 39) hF dX3_followChoice_39 2 rfl ?_
    refine go_get (pc := 40) hF fl_X3_20 dX3_followChoice_40 (by omega) fo_s3.1 rfl ?_
    refine go_iload_n (pc := 43) hF dX3_followChoice_43 5 rfl ?_
    refine go_iconst (pc := 44) hF dX3_followChoice_44 ?_
    refine go_iadd (pc := 45) hF dX3_followChoice_45 ?_
    refine go_aald (pc := 46) hF 3 (35 + 3 * (dl + 1)) dX3_followChoice_46 rfl (by omega) fo_s3.2.2.2.1 (by omega) (by show (35 : Int) + 3 * ((dl : Int) + 1) = ((35 + 3 * (dl + 1) : Nat) : Int); omega) ?_
    refine go_aload_n (pc := 47) hF dX3_followChoice_47 2 rfl ?_
    refine go_get (pc := 48) hF fl_X3_24 dX3_followChoice_48 (by omega) fo_s3.1 rfl ?_
    refine go_iload_n (pc := 51) hF dX3_followChoice_51 5 rfl ?_
    refine go_aald (pc := 52) hF 3 (47 + 3 * dl) dX3_followChoice_52 rfl (by omega) fo_s3.2.2.2.2 (by omega) (by show (47 : Int) + 3 * (dl : Int) = ((47 + 3 * dl : Nat) : Int); omega) ?_
    refine go_callVV (pc := 53) hF [vr E (47 + 3 * dl)] [] mv_X3_118 dX3_followChoice_53 (by omega) A1_s3.1 (c_X0_setAs E N s3₉ (35 + 3 * (dl + 1)) (47 + 3 * dl) _ _ _ _ (by omega) (by omega) (by omega) A1_s3 uA_s3) rfl rfl (Nat.le_of_ble_eq_true rfl) (by omega) ⟨Nat.zero_le _, Nat.zero_le _⟩ (fun s4₉ h_s4 => ?_)
    obtain ⟨uA_s4, f_s4⟩ := h_s4
    have t_s4 := t_s3.keep (fun jj h1 h2 => f_s4 jj (by omega))
    have fo_s4 := fo_s3.keep (fun jj h1 h2 => f_s4 jj (by omega))
    have A0_s4 := A0_s3.keep (fun jj h1 h2 => f_s4 jj (by omega))
    have H0_s4 := uA_s3.keep (fun jj h1 h2 => f_s4 jj (by omega))
    refine go_aload_n (pc := 56) hF dX3_followChoice_56 2 rfl ?_
    refine go_aload_n (pc := 57) hF dX3_followChoice_57 3 rfl ?_
    refine go_iload_n (pc := 58) hF dX3_followChoice_58 4 rfl ?_
    refine go_iconst (pc := 59) hF dX3_followChoice_59 ?_
    refine go_iadd (pc := 60) hF dX3_followChoice_60 ?_
    refine go_iload (pc := 61) hF dX3_followChoice_61 1 rfl ?_
    refine go_iload_n (pc := 63) hF dX3_followChoice_63 5 rfl ?_
    refine go_iconst (pc := 64) hF dX3_followChoice_64 ?_
    refine go_iadd (pc := 65) hF dX3_followChoice_65 ?_
    have sc_s5 : scr E s4₉ (dl + 1) := hsc1.keep (fun jj h1 h2 => by rw [f_s4 jj (by omega), f_s3 jj (by omega)])
    have cr_s5 := IH₉ ta_ s4₉ sg vl mt₉ lw ll la mm my (mu₉, ma).1 (mu₉, ma).2 sz₉ lk₉ chs lps dp ln (o + 1) k₉ lp v₉ kn₉ (dl + 1) hN₉ t_s4 ho hwa (by omega) paa (by omega) (by omega) (by omega) hv fo_s4 uA_s4 hrA sc_s5
    rw [show (o + 1) + (tLen ta_ : Int) = o + 1 + (tLen ta_ : Int) by omega, show ((dl + 1 : Nat) : Int) = (dl : Int) + 1 by omega] at cr_s5
    refine go_callVV (pc := 66) hF [vr E 23, vi (o + 1), vi (o + 1 + (tLen ta_ : Int)), vi ((dl : Int) + 1)] [] mv_X3_45 dX3_followChoice_66 (by omega) fo_s4.1 cr_s5 rfl rfl (Nat.le_of_ble_eq_true rfl) (by omega) ⟨Nat.zero_le _, Nat.zero_le _⟩ (fun s5 h_s5 => ?_)
    obtain ⟨uf_s5, uA_s5, us_s5, f_s5⟩ := h_s5
    have t_s5 := t_s4.keep (fun jj h1 h2 => f_s5 jj (by omega))
    have A0_s5 := A0_s4.keep (fun jj h1 h2 => f_s5 jj (by omega))
    have H0_s5 := H0_s4.keep (fun jj h1 h2 => f_s5 jj (by omega))
    refine go_aload_n (pc := 69) hF dX3_followChoice_69 2 rfl ?_
    refine go_get (pc := 70) hF fl_X3_20 dX3_followChoice_70 (by omega) uf_s5.1 rfl ?_
    refine go_iload_n (pc := 73) hF dX3_followChoice_73 5 rfl ?_
    refine go_aald (pc := 74) hF 3 (35 + 3 * dl) dX3_followChoice_74 rfl (by omega) uf_s5.2.2.2.1 (by omega) (by show (35 : Int) + 3 * (dl : Int) = ((35 + 3 * dl : Nat) : Int); omega) ?_
    refine go_aload_n (pc := 75) hF dX3_followChoice_75 2 rfl ?_
    refine go_get (pc := 76) hF fl_X3_20 dX3_followChoice_76 (by omega) uf_s5.1 rfl ?_
    refine go_iload_n (pc := 79) hF dX3_followChoice_79 5 rfl ?_
    refine go_iconst (pc := 80) hF dX3_followChoice_80 ?_
    refine go_iadd (pc := 81) hF dX3_followChoice_81 ?_
    refine go_aald (pc := 82) hF 3 (35 + 3 * (dl + 1)) dX3_followChoice_82 rfl (by omega) uf_s5.2.2.2.1 (by omega) (by show (35 : Int) + 3 * ((dl : Int) + 1) = ((35 + 3 * (dl + 1) : Nat) : Int); omega) ?_
    refine go_callVV (pc := 83) hF [vr E (35 + 3 * (dl + 1))] [] mv_X3_118 dX3_followChoice_83 (by omega) A0_s5.1 (c_X0_setAs E N s5 (35 + 3 * dl) (35 + 3 * (dl + 1)) _ _ _ _ (by omega) (by omega) (by omega) A0_s5 uA_s5) rfl rfl (Nat.le_of_ble_eq_true rfl) (by omega) ⟨Nat.zero_le _, Nat.zero_le _⟩ (fun s6₉ h_s6 => ?_)
    obtain ⟨uA_s6, f_s6⟩ := h_s6
    have t_s6 := t_s5.keep (fun jj h1 h2 => f_s6 jj (by omega))
    have fo_s6 := uf_s5.keep (fun jj h1 h2 => f_s6 jj (by omega))
    have A1_s6 := uA_s5.keep (fun jj h1 h2 => f_s6 jj (by omega))
    have H0_s6 := H0_s5.keep (fun jj h1 h2 => f_s6 jj (by omega))
    refine go_aload_n (pc := 86) hF dX3_followChoice_86 2 rfl ?_
    refine go_get (pc := 87) hF fl_X3_20 dX3_followChoice_87 (by omega) fo_s6.1 rfl ?_
    refine go_iload_n (pc := 90) hF dX3_followChoice_90 5 rfl ?_
    refine go_iconst (pc := 91) hF dX3_followChoice_91 ?_
    refine go_iadd (pc := 92) hF dX3_followChoice_92 ?_
    refine go_aald (pc := 93) hF 3 (35 + 3 * (dl + 1)) dX3_followChoice_93 rfl (by omega) fo_s6.2.2.2.1 (by omega) (by show (35 : Int) + 3 * ((dl : Int) + 1) = ((35 + 3 * (dl + 1) : Nat) : Int); omega) ?_
    refine go_aload_n (pc := 94) hF dX3_followChoice_94 2 rfl ?_
    refine go_get (pc := 95) hF fl_X3_24 dX3_followChoice_95 (by omega) fo_s6.1 rfl ?_
    refine go_iload_n (pc := 98) hF dX3_followChoice_98 5 rfl ?_
    refine go_aald (pc := 99) hF 3 (47 + 3 * dl) dX3_followChoice_99 rfl (by omega) fo_s6.2.2.2.2 (by omega) (by show (47 : Int) + 3 * (dl : Int) = ((47 + 3 * dl : Nat) : Int); omega) ?_
    refine go_callVV (pc := 100) hF [vr E (47 + 3 * dl)] [] mv_X3_118 dX3_followChoice_100 (by omega) A1_s6.1 (c_X0_setAs E N s6₉ (35 + 3 * (dl + 1)) (47 + 3 * dl) _ _ _ _ (by omega) (by omega) (by omega) A1_s6 H0_s6) rfl rfl (Nat.le_of_ble_eq_true rfl) (by omega) ⟨Nat.zero_le _, Nat.zero_le _⟩ (fun s7 h_s7 => ?_)
    obtain ⟨uA_s7, f_s7⟩ := h_s7
    have t_s7 := t_s6.keep (fun jj h1 h2 => f_s7 jj (by omega))
    have fo_s7 := fo_s6.keep (fun jj h1 h2 => f_s7 jj (by omega))
    have A0_s7 := uA_s6.keep (fun jj h1 h2 => f_s7 jj (by omega))
    have H0_s7 := H0_s6.keep (fun jj h1 h2 => f_s7 jj (by omega))
    refine go_aload_n (pc := 103) hF dX3_followChoice_103 2 rfl ?_
    refine go_aload_n (pc := 104) hF dX3_followChoice_104 3 rfl ?_
    refine go_iload (pc := 105) hF dX3_followChoice_105 1 rfl ?_
    refine go_iconst (pc := 107) hF dX3_followChoice_107 ?_
    refine go_iadd (pc := 108) hF dX3_followChoice_108 ?_
    refine go_iload (pc := 109) hF dX3_followChoice_109 0 rfl ?_
    refine go_iload_n (pc := 111) hF dX3_followChoice_111 5 rfl ?_
    refine go_iconst (pc := 112) hF dX3_followChoice_112 ?_
    refine go_iadd (pc := 113) hF dX3_followChoice_113 ?_
    have sc_s8 : scr E s7 (dl + 1) := us_s5.keep (fun jj h1 h2 => by rw [f_s7 jj (by omega), f_s6 jj (by omega)])
    have cr_s8 := IH₉ tb_ s7 sg vl mt₉ lw ll la (recU mm k₉ (rec1 v₉ ta_ (mu₉, ma))) (recU my k₉ (rec2 v₉ ta_ (mu₉, ma))) (mu₉, ma).1 (mu₉, ma).2 sz₉ lk₉ chs lps dp ln (o + 1 + (tLen ta_ : Int) + 1) (k₉ + tLks ta_) lp v₉ kn₉ (dl + 1) hN₉ t_s7 ho hwb (by omega) (by rw [show o + 1 + (tLen ta_ : Int) + 1 = o + 2 + (tLen ta_ : Int) by omega]; exact pab) (by omega) (by omega) (by omega) hv fo_s7 uA_s7 hrA sc_s8
    rw [show (o + 1 + (tLen ta_ : Int) + 1) + (tLen tb_ : Int) = o + 2 + (tLen ta_ : Int) + (tLen tb_ : Int) by omega, show ((dl + 1 : Nat) : Int) = (dl : Int) + 1 by omega] at cr_s8
    refine go_callVV (pc := 114) hF [vr E 23, vi ((o + 1 + (tLen ta_ : Int)) + 1), vi (o + 2 + (tLen ta_ : Int) + (tLen tb_ : Int)), vi ((dl : Int) + 1)] [] mv_X3_45 dX3_followChoice_114 (by omega) fo_s7.1 cr_s8 rfl rfl (Nat.le_of_ble_eq_true rfl) (by omega) ⟨Nat.zero_le _, Nat.zero_le _⟩ (fun s8 h_s8 => ?_)
    obtain ⟨uf_s8, uA_s8, us_s8, f_s8⟩ := h_s8
    have t_s8 := t_s7.keep (fun jj h1 h2 => f_s8 jj (by omega))
    have A0_s8 := A0_s7.keep (fun jj h1 h2 => f_s8 jj (by omega))
    have H0_s8 := H0_s7.keep (fun jj h1 h2 => f_s8 jj (by omega))
    refine go_aload_n (pc := 117) hF dX3_followChoice_117 2 rfl ?_
    refine go_get (pc := 118) hF fl_X3_20 dX3_followChoice_118 (by omega) uf_s8.1 rfl ?_
    refine go_iload_n (pc := 121) hF dX3_followChoice_121 5 rfl ?_
    refine go_aald (pc := 122) hF 3 (35 + 3 * dl) dX3_followChoice_122 rfl (by omega) uf_s8.2.2.2.1 (by omega) (by show (35 : Int) + 3 * (dl : Int) = ((35 + 3 * dl : Nat) : Int); omega) ?_
    refine go_aload_n (pc := 123) hF dX3_followChoice_123 2 rfl ?_
    refine go_get (pc := 124) hF fl_X3_20 dX3_followChoice_124 (by omega) uf_s8.1 rfl ?_
    refine go_iload_n (pc := 127) hF dX3_followChoice_127 5 rfl ?_
    refine go_iconst (pc := 128) hF dX3_followChoice_128 ?_
    refine go_iadd (pc := 129) hF dX3_followChoice_129 ?_
    refine go_aald (pc := 130) hF 3 (35 + 3 * (dl + 1)) dX3_followChoice_130 rfl (by omega) uf_s8.2.2.2.1 (by omega) (by show (35 : Int) + 3 * ((dl : Int) + 1) = ((35 + 3 * (dl + 1) : Nat) : Int); omega) ?_
    refine go_callVI (pc := 131) hF [vr E (35 + 3 * (dl + 1))] [] mv_X3_122 dX3_followChoice_131 (by omega) A0_s8.1 (c_X0_joinWith E N s8 (35 + 3 * dl) (35 + 3 * (dl + 1)) (fa v₉ ta_ (mu₉, ma)).1 (fa v₉ ta_ (mu₉, ma)).2 (fa v₉ tb_ (mu₉, ma)).1 (fa v₉ tb_ (mu₉, ma)).2 (fun z₉ h1 h2 => ((rgA_fa hv ta_ hwa (mu₉, ma) hrA) z₉ h1 h2).1) (fun z₉ h1 h2 => ((rgA_fa hv ta_ hwa (mu₉, ma) hrA) z₉ h1 h2).2) (fun z₉ h1 h2 => ((rgA_fa hv tb_ hwb (mu₉, ma) hrA) z₉ h1 h2).1) (fun z₉ h1 h2 => ((rgA_fa hv tb_ hwb (mu₉, ma) hrA) z₉ h1 h2).2) (by omega) (by omega) (by omega) A0_s8 uA_s8) rfl rfl (Nat.le_of_ble_eq_true rfl) (by omega) ⟨Nat.zero_le _, Nat.zero_le _⟩ (fun r_s9 s9 h_s9 => ?_)
    obtain ⟨q0_s9, q1_s9, uA_s9, f_s9⟩ := h_s9
    have t_s9 := t_s8.keep (fun jj h1 h2 => f_s9 jj (by omega))
    have fo_s9 := uf_s8.keep (fun jj h1 h2 => f_s9 jj (by omega))
    have A1_s9 := uA_s8.keep (fun jj h1 h2 => f_s9 jj (by omega))
    have H0_s9 := H0_s8.keep (fun jj h1 h2 => f_s9 jj (by omega))
    refine go_pop (pc := 134) hF dX3_followChoice_134 rfl ?_
    refine go_iload (pc := 135) hF dX3_followChoice_135 0 rfl ?_
    refine go_iretQ hF hr hlk hQ dX3_followChoice_137 ⟨rfl, fo_s9, uA_s9, ⟨fun d₉ h1 h2 => ?_, fun d₉ h1 h2 => ?_⟩, (fun jj hjj => by rw [f_s9 jj (by omega), f_s8 jj (by omega), f_s7 jj (by omega), f_s6 jj (by omega), f_s5 jj (by omega), f_s4 jj (by omega), f_s3 jj (by omega)])⟩
    · by_cases hd1 : d₉ = dl + 1
      · subst hd1; exact ⟨_, _, A1_s9⟩
      · exact (us_s8.1 d₉ (by omega) h2).keep (fun jj h3 h4 => by rw [f_s9 jj (by omega)])
    · by_cases hd1 : d₉ = dl
      · subst hd1; exact ⟨_, _, H0_s9⟩
      · exact (us_s8.2 d₉ (by omega) h2).keep (fun jj h3 h4 => by rw [f_s9 jj (by omega)])
