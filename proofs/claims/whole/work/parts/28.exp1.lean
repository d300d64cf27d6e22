/-! Explorer: choices and loops. -/
theorem jF.cell {E : En} {σ : Nat → va_E} {i₉ : Nat} (h : jF E σ i₉) : ∃ fs, σ i₉ = ob 4 fs := by
  obtain ⟨S₉, B₉, ⟨a₉, b₉, c, d₉, h1, -⟩, -⟩ := h
  exact ⟨_, h1.1⟩
theorem pool_rg {i₉ : Nat} (h : pool₉ i₉) : 59 ≤ i₉ ∧ i₉ ≤ 76 := by unfold pool₉ at h; omega
theorem pool_66 {i₉ : Nat} (h : pool₉ i₉) : i₉ + 3 < 63 ∨ 63 < i₉ := by unfold pool₉ at h; omega
theorem ahead_no {d₉ : Nat} (h : d₉ ≤ 2) : frontNo (80 + 4 * d₉) := by unfold frontNo; omega
theorem pool_ahead {i₉ d₉ : Nat} (h : pool₉ i₉) (hd₉ : d₉ ≤ 2) : i₉ + 3 < 80 + 4 * d₉ ∨ 80 + 4 * d₉ + 3 < i₉ := front_apart (Or.inl h) (ahead_no hd₉) (by unfold pool₉ at h; omega)
theorem okN.apart {nw : Int → Nat} {un : Nat} (h : okN nw un) {d₉ d' : Int} (h1 : 0 ≤ d₉ ∧ d₉ ≤ 3) (h2 : 0 ≤ d' ∧ d' ≤ 3) (hn : d₉ ≠ d') : nw d₉ + 3 < nw d' ∨ nw d' + 3 < nw d₉ := front_apart (Or.inl (h.1 d₉ h1.1 h1.2).1) (Or.inl (h.1 d' h2.1 h2.2).1) (fun e => hn (h.2.2 d₉ d' h1.1 h1.2 h2.1 h2.2 e))
theorem frI.putAllP {E : En} {N : Nat} {σ : Nat → va_E} {i₉ j₉ : Nat} {S₉ T : XS} {B₉ C₉ A₉ : Int} (hi₉ : i₉ + 3 < N) (hj : j₉ + 3 < N) (hij : i₉ + 3 < j₉ ∨ j₉ + 3 < i₉) (h1 : frI E σ i₉ S₉ B₉) (h2 : frI E σ j₉ T C₉) (hA : B₉ ≤ A₉ ∧ C₉ ≤ A₉ ∧ A₉ < 1900000000) : CV E M_X4_putAll 3 [vr E i₉, vr E j₉] N σ (fun σ' => frI E σ' i₉ (fun r₉ c => S₉ r₉ c ∨ T r₉ c) A₉ ∧ ∀ q₉, (q₉ < i₉ ∨ i₉ + 3 < q₉) → σ' q₉ = σ q₉) :=
  c_X4_putAll E N σ i₉ j₉ S₉ T A₉ hi₉ hj hij (h1.wide hA.1) (h2.wide hA.2.1) (by omega)
set_option maxHeartbeats 4000000 in
set_option maxRecDepth 100000 in
theorem c_X2_exploreChoice (E : En) (N D₉ : Nat) (IH₉ : ExpRow E N D₉) (σ : Nat → va_E) (sg vl mt₉ lw ll la : Int → Int) (sz₉ lk₉ chs lps dp ln o k₉ lp : Int) (dl : Nat) (nw : Int → Nat) (un : Nat) (kn₉ r0 u₉ kd pr B₉ : Int) (S₉ : XS) (hN₉ : 101 ≤ N) (hp : isP E σ 23 sg vl mt₉ lw ll la sz₉ lk₉ chs lps dp ln) (ho : okP sg vl mt₉ lw ll la sz₉ lk₉ chs lps dp ln) (hu : 1 ≤ u₉ ∧ u₉ ≤ 3) (hkd : 0 ≤ kd ∧ kd ≤ 3) (hpr : 2 ≤ pr ∧ pr ≤ 99) (hok : okN nw un) (hx : isEx E σ nw un kn₉) (hst : σ 63 = ob 1 [vi r0, vi u₉, vi kd, vi pr]) (hvS : vS u₉ S₉) (hS₉ : frI E σ (nw dl) (img S₉) B₉) (hall : allF E σ) (ta_ tb_ : Tr) (hwa : wf ta_) (hwb : wf tb_) (hda : tDep ta_ ≤ D₉ ∧ tDep tb_ ≤ D₉) (pa0 : sg o = 2 ∧ mt₉ o = o + 1 + tLen ta_ ∧ mt₉ (o + 1 + tLen ta_) = o + 2 + tLen ta_ + tLen tb_) (paa : PA₉ sg vl mt₉ lw ll la ta_ (o + 1) k₉ lp) (pab : PA₉ sg vl mt₉ lw ll la tb_ (o + 2 + tLen ta_) (k₉ + tLks ta_) lp) (ho1 : 0 ≤ o ∧ o + 3 + tLen ta_ + tLen tb_ ≤ sz₉) (hk1 : 0 ≤ k₉ ∧ k₉ + tLks ta_ + tLks tb_ ≤ lk₉) (hdl : tDep ta_ + dl ≤ 2 ∧ tDep tb_ + dl ≤ 2) (hB₉ : 0 ≤ B₉ ∧ B₉ + cB₉ ta_ + cB₉ tb_ ≤ 1000000000) : CI E M_X2_exploreChoice (8 + 2 * D₉) [vr E 56, vr E 23, vi o, vi dl] N σ (fun y₉ σ' => y₉ = o + 2 + (tLen ta_ : Int) + (tLen tb_ : Int) ∧ xPost E σ σ' nw kn₉ dl (fun x₉ c => ex₉ u₉ kd pr ta_ S₉ x₉ c ∨ ex₉ u₉ kd pr tb_ S₉ x₉ c) (B₉ + cB₉ ta_ + cB₉ tb_)) := by
  refine CT.of2 (own := RX2) (by decide) rfl (Nat.le_of_ble_eq_true rfl) ?_
  intro p e R s m args below meth c Q hF hr hlk hnm hz hR hQ
  have hsz := ho.1
  have p0_s0 := hok.1 (dl : Int) (by omega) (by omega)
  have p1_s0 := hok.1 ((dl : Int) + 1) (by omega) (by omega)
  have a1_s0 := hok.apart (d₉ := (dl : Int)) (d' := (dl : Int) + 1) (by omega) (by omega) (by omega)
  have a2_s0 := pool_ahead (d₉ := dl) p0_s0.1 (by omega)
  have a3_s0 := pool_ahead (d₉ := dl) p1_s0.1 (by omega)
  have r0_s0 := pool_rg p0_s0.1
  have r1_s0 := pool_rg p1_s0.1
  have r2_s0 := pool_66 p0_s0.1
  have r3_s0 := pool_66 p1_s0.1
  refine go_aload_n (pc := 0) hF dX2_exploreChoice_0 1 rfl ?_
  refine go_iload_n (pc := 1) hF dX2_exploreChoice_1 2 rfl ?_
  have cm_k1 : CP E M_X6_mateOf 2 [vr E 23, vi o] N σ (o + 1 + (tLen ta_ : Int)) := by
    have h := c_X6_mateOf E N σ 23 o (by omega) (by omega) hp ho
    rw [show gMate mt₉ sz₉ o = o + 1 + (tLen ta_ : Int) from by unfold gMate; rw [if_pos (by omega), pa0.2.1]; omega] at h
    exact h
  refine go_callVP (pc := 2) hF [vi o] [] mv_X2_100 dX2_exploreChoice_2 (by omega) hp.1 cm_k1 rfl rfl (Nat.le_of_ble_eq_true rfl) (by omega) ⟨Nat.zero_le _, Nat.zero_le _⟩ ?_
  refine go_istore (pc := 5) hF [(4, vi (o + 1 + (tLen ta_ : Int))), (0, vr E 56), (1, vr E 23), (2, vi o), (3, vi (dl : Int))] dX2_exploreChoice_5 rfl (by decide) ?_
  refine go_aload_n (pc := 7) hF dX2_exploreChoice_7 2 rfl ?_
  refine go_iload (pc := 8) hF dX2_exploreChoice_8 0 rfl ?_
  have cm_k2 : CP E M_X6_mateOf 2 [vr E 23, vi (o + 1 + (tLen ta_ : Int))] N σ (o + 2 + (tLen ta_ : Int) + (tLen tb_ : Int)) := by
    have h := c_X6_mateOf E N σ 23 (o + 1 + (tLen ta_ : Int)) (by omega) (by omega) hp ho
    rw [show gMate mt₉ sz₉ (o + 1 + (tLen ta_ : Int)) = o + 2 + (tLen ta_ : Int) + (tLen tb_ : Int) from by unfold gMate; rw [if_pos (by omega), pa0.2.2]; omega] at h
    exact h
  refine go_callVP (pc := 10) hF [vi (o + 1 + (tLen ta_ : Int))] [] mv_X2_100 dX2_exploreChoice_10 (by omega) hp.1 cm_k2 rfl rfl (Nat.le_of_ble_eq_true rfl) (by omega) ⟨Nat.zero_le _, Nat.zero_le _⟩ ?_
  refine go_istore (pc := 13) hF [(5, vi (o + 2 + (tLen ta_ : Int) + (tLen tb_ : Int))), (4, vi (o + 1 + (tLen ta_ : Int))), (0, vr E 56), (1, vr E 23), (2, vi o), (3, vi (dl : Int))] dX2_exploreChoice_13 rfl (by decide) ?_
  refine go_iload_n (pc := 15) hF dX2_exploreChoice_15 5 rfl ?_
  refine go_iconst (pc := 16) hF dX2_exploreChoice_16 ?_
  refine go_iconst (pc := 17) hF dX2_exploreChoice_17 ?_
  refine go_callNP (pc := 18) hF [vi (dl : Int), vi 0, vi 2] [] mn_X2_72 dX2_exploreChoice_18 (c_X10_isWithin E N σ (dl : Int) 0 2 (by omega) ⟨by decide, by decide⟩ ⟨by decide, by decide⟩) rfl rfl (Nat.le_of_ble_eq_true rfl) (by omega) ⟨Nat.zero_le _, Nat.zero_le _⟩ ?_
  refine go_if_eq (pc := 21) hF 134 dX2_exploreChoice_21 (by decide) (bI_rg _) (fun bq21 => ?_) (fun bq21 => ?_)
  · exact absurd ((bI_0 _).mp bq21) (by omega)
  · refine go_aload_n (pc := 24) hF dX2_exploreChoice_24 2 rfl ?_
    refine go_get (pc := 25) hF fl_X2_17 dX2_exploreChoice_25 (by omega) hx.1 rfl ?_
    refine go_iload_n (pc := 28) hF dX2_exploreChoice_28 5 rfl ?_
    refine go_aald (pc := 29) hF 5 (80 + 4 * dl) dX2_exploreChoice_29 rfl (by omega) hx.2.2 (by omega) (by show (80 : Int) + 4 * (dl : Int) = ((80 + 4 * dl : Nat) : Int); omega) ?_
    refine go_aload_n (pc := 30) hF dX2_exploreChoice_30 2 rfl ?_
    refine go_get (pc := 31) hF fl_X2_11 dX2_exploreChoice_31 (by omega) hx.1 rfl ?_
    refine go_iload_n (pc := 34) hF dX2_exploreChoice_34 5 rfl ?_
    refine go_aald (pc := 35) hF 5 (nw (dl)) dX2_exploreChoice_35 rfl (by omega) hx.2.1 (by omega) rfl ?_
    obtain ⟨fs_s3, hc_s3⟩ := (hall _ (ahead_no (d₉ := dl) (by omega))).cell
    refine go_callVV (pc := 36) hF [vr E (nw (dl))] [] mv_X2_103 dX2_exploreChoice_36 (show 80 + 4 * dl < N by omega) hc_s3 (frI.setAsP (by omega) (by omega) (by omega) (hall _ (ahead_no (d₉ := dl) (by omega))) hS₉ (by omega)) rfl rfl (Nat.le_of_ble_eq_true rfl) (by omega) ⟨Nat.zero_le _, Nat.zero_le _⟩ (fun s3₉ h_s3 => ?_)
    obtain ⟨u_s3, f_s3⟩ := h_s3
    have all_s3 := hall.step (ahead_no (d₉ := dl) (by omega)) u_s3 (by omega) f_s3
    have t_s3 := hp.keep (fun jj h1 h2 => f_s3 jj (by omega))
    have ex_s3 := hx.keep (fun jj h1 h2 => f_s3 jj (by omega))
    have st_s3 := (f_s3 63 (by omega)).trans hst
    have kn0_s3 := hS₉.keep (fun jj h1 h2 => f_s3 jj (by omega))
    refine go_aload_n (pc := 39) hF dX2_exploreChoice_39 2 rfl ?_
    refine go_get (pc := 40) hF fl_X2_11 dX2_exploreChoice_40 (by omega) ex_s3.1 rfl ?_
    refine go_iload_n (pc := 43) hF dX2_exploreChoice_43 5 rfl ?_
    refine go_iconst (pc := 44) hF dX2_exploreChoice_44 ?_
    refine go_iadd (pc := 45) hF dX2_exploreChoice_45 ?_
    refine go_aald (pc := 46) hF 5 (nw ((dl : Int) + 1)) dX2_exploreChoice_46 rfl (by omega) ex_s3.2.1 (by omega) rfl ?_
    refine go_aload_n (pc := 47) hF dX2_exploreChoice_47 2 rfl ?_
    refine go_get (pc := 48) hF fl_X2_17 dX2_exploreChoice_48 (by omega) ex_s3.1 rfl ?_
    refine go_iload_n (pc := 51) hF dX2_exploreChoice_51 5 rfl ?_
    refine go_aald (pc := 52) hF 5 (80 + 4 * dl) dX2_exploreChoice_52 rfl (by omega) ex_s3.2.2 (by omega) (by show (80 : Int) + 4 * (dl : Int) = ((80 + 4 * dl : Nat) : Int); omega) ?_
    obtain ⟨fs_s4, hc_s4⟩ := (all_s3 _ (Or.inl (hok.1 ((dl : Int) + 1) (by omega) (by omega)).1)).cell
    refine go_callVV (pc := 53) hF [vr E (80 + 4 * dl)] [] mv_X2_103 dX2_exploreChoice_53 (show nw ((dl : Int) + 1) < N by omega) hc_s4 (frI.setAsP (by omega) (by omega) (by omega) (all_s3 _ (Or.inl (hok.1 ((dl : Int) + 1) (by omega) (by omega)).1)) u_s3 (by omega)) rfl rfl (Nat.le_of_ble_eq_true rfl) (by omega) ⟨Nat.zero_le _, Nat.zero_le _⟩ (fun s4₉ h_s4 => ?_)
    obtain ⟨u_s4, f_s4⟩ := h_s4
    have all_s4 := all_s3.step (Or.inl (hok.1 ((dl : Int) + 1) (by omega) (by omega)).1) u_s4 (by omega) f_s4
    have t_s4 := t_s3.keep (fun jj h1 h2 => f_s4 jj (by omega))
    have ex_s4 := ex_s3.keep (fun jj h1 h2 => f_s4 jj (by omega))
    have st_s4 := (f_s4 63 (by omega)).trans st_s3
    have kn0_s4 := kn0_s3.keep (fun jj h1 h2 => f_s4 jj (by omega))
    have kh0_s4 := u_s3.keep (fun jj h1 h2 => f_s4 jj (by omega))
    refine go_aload_n (pc := 56) hF dX2_exploreChoice_56 2 rfl ?_
    refine go_aload_n (pc := 57) hF dX2_exploreChoice_57 3 rfl ?_
    refine go_iload_n (pc := 58) hF dX2_exploreChoice_58 4 rfl ?_
    refine go_iconst (pc := 59) hF dX2_exploreChoice_59 ?_
    refine go_iadd (pc := 60) hF dX2_exploreChoice_60 ?_
    refine go_iload (pc := 61) hF dX2_exploreChoice_61 1 rfl ?_
    refine go_iload_n (pc := 63) hF dX2_exploreChoice_63 5 rfl ?_
    refine go_iconst (pc := 64) hF dX2_exploreChoice_64 ?_
    refine go_iadd (pc := 65) hF dX2_exploreChoice_65 ?_
    have cr_s5 := IH₉ ta_ s4₉ sg vl mt₉ lw ll la sz₉ lk₉ chs lps dp ln (o + 1) k₉ lp (dl + 1) nw un kn₉ r0 u₉ kd pr B₉ S₉ hN₉ t_s4 ho hwa (by omega) paa (by omega) (by omega) (by omega) hu hkd hpr (by omega) hok ex_s4 st_s4 hvS (by show frI E s4₉ (nw (((dl + 1 : Nat)) : Int)) _ _; rw [show (((dl + 1 : Nat)) : Int) = (dl : Int) + 1 by omega]; exact u_s4) all_s4
    rw [show (o + 1) + (tLen ta_ : Int) = o + 1 + (tLen ta_ : Int) by omega] at cr_s5
    rw [show ((dl + 1 : Nat) : Int) = (dl : Int) + 1 by omega] at cr_s5
    refine go_callVV (pc := 66) hF [vr E 23, vi (o + 1), vi (o + 1 + (tLen ta_ : Int)), vi ((dl : Int) + 1)] [] mv_X2_60 dX2_exploreChoice_66 (by omega) ex_s4.1 cr_s5 rfl rfl (Nat.le_of_ble_eq_true rfl) (by omega) ⟨Nat.zero_le _, Nat.zero_le _⟩ (fun s5 h_s5 => ?_)
    obtain ⟨nw_s5, un_s5, ok_s5, eq_s5, x_s5, u_s5, all_s5, fq_s5, fd_s5, fa_s5⟩ := h_s5
    rw [show ((dl + 1 : Nat) : Int) = (dl : Int) + 1 by omega] at eq_s5 u_s5 fd_s5
    have e0_s5 : nw_s5 (dl : Int) = nw (dl : Int) := eq_s5 _ (by omega)
    have t_s5 := t_s4.keep (fun jj h1 h2 => fq_s5 jj (by omega))
    have st_s5 := (fq_s5 63 (by omega)).trans st_s4
    have kn0_s5 : frI E s5 (nw_s5 (dl : Int)) (img S₉) (B₉) := by rw [e0_s5]; exact kn0_s4.keep (fun jj h1 h2 => fd_s5 (dl : Int) (by omega) (by omega) jj h1 h2)
    have kh0_s5 := kh0_s4.keep (fun jj h1 h2 => fa_s5 dl (by omega) jj h1 (by omega))
    have p0_s5 := ok_s5.1 (dl : Int) (by omega) (by omega)
    have p1_s5 := ok_s5.1 ((dl : Int) + 1) (by omega) (by omega)
    have a1_s5 := ok_s5.apart (d₉ := (dl : Int)) (d' := (dl : Int) + 1) (by omega) (by omega) (by omega)
    have a2_s5 := pool_ahead (d₉ := dl) p0_s5.1 (by omega)
    have a3_s5 := pool_ahead (d₉ := dl) p1_s5.1 (by omega)
    have r0_s5 := pool_rg p0_s5.1
    have r1_s5 := pool_rg p1_s5.1
    have r2_s5 := pool_66 p0_s5.1
    have r3_s5 := pool_66 p1_s5.1
    refine go_aload_n (pc := 69) hF dX2_exploreChoice_69 2 rfl ?_
    refine go_get (pc := 70) hF fl_X2_11 dX2_exploreChoice_70 (by omega) x_s5.1 rfl ?_
    refine go_iload_n (pc := 73) hF dX2_exploreChoice_73 5 rfl ?_
    refine go_aald (pc := 74) hF 5 (nw_s5 (dl)) dX2_exploreChoice_74 rfl (by omega) x_s5.2.1 (by omega) rfl ?_
    refine go_aload_n (pc := 75) hF dX2_exploreChoice_75 2 rfl ?_
    refine go_get (pc := 76) hF fl_X2_11 dX2_exploreChoice_76 (by omega) x_s5.1 rfl ?_
    refine go_iload_n (pc := 79) hF dX2_exploreChoice_79 5 rfl ?_
    refine go_iconst (pc := 80) hF dX2_exploreChoice_80 ?_
    refine go_iadd (pc := 81) hF dX2_exploreChoice_81 ?_
    refine go_aald (pc := 82) hF 5 (nw_s5 ((dl : Int) + 1)) dX2_exploreChoice_82 rfl (by omega) x_s5.2.1 (by omega) rfl ?_
    obtain ⟨fs_s6, hc_s6⟩ := (all_s5 _ (Or.inl (ok_s5.1 (dl : Int) (by omega) (by omega)).1)).cell
    refine go_callVV (pc := 83) hF [vr E (nw_s5 ((dl : Int) + 1))] [] mv_X2_103 dX2_exploreChoice_83 (show nw_s5 (dl) < N by omega) hc_s6 (frI.setAsP (by omega) (by omega) (by omega) (all_s5 _ (Or.inl (ok_s5.1 (dl : Int) (by omega) (by omega)).1)) u_s5 (by omega)) rfl rfl (Nat.le_of_ble_eq_true rfl) (by omega) ⟨Nat.zero_le _, Nat.zero_le _⟩ (fun s6₉ h_s6 => ?_)
    obtain ⟨u_s6, f_s6⟩ := h_s6
    have all_s6 := all_s5.step (Or.inl (ok_s5.1 (dl : Int) (by omega) (by omega)).1) u_s6 (by omega) f_s6
    have t_s6 := t_s5.keep (fun jj h1 h2 => f_s6 jj (by omega))
    have ex_s6 := x_s5.keep (fun jj h1 h2 => f_s6 jj (by omega))
    have st_s6 := (f_s6 63 (by omega)).trans st_s5
    have kh0_s6 := kh0_s5.keep (fun jj h1 h2 => f_s6 jj (by omega))
    have kn1_s6 := u_s5.keep (fun jj h1 h2 => f_s6 jj (by omega))
    refine go_aload_n (pc := 86) hF dX2_exploreChoice_86 2 rfl ?_
    refine go_get (pc := 87) hF fl_X2_11 dX2_exploreChoice_87 (by omega) ex_s6.1 rfl ?_
    refine go_iload_n (pc := 90) hF dX2_exploreChoice_90 5 rfl ?_
    refine go_iconst (pc := 91) hF dX2_exploreChoice_91 ?_
    refine go_iadd (pc := 92) hF dX2_exploreChoice_92 ?_
    refine go_aald (pc := 93) hF 5 (nw_s5 ((dl : Int) + 1)) dX2_exploreChoice_93 rfl (by omega) ex_s6.2.1 (by omega) rfl ?_
    refine go_aload_n (pc := 94) hF dX2_exploreChoice_94 2 rfl ?_
    refine go_get (pc := 95) hF fl_X2_17 dX2_exploreChoice_95 (by omega) ex_s6.1 rfl ?_
    refine go_iload_n (pc := 98) hF dX2_exploreChoice_98 5 rfl ?_
    refine go_aald (pc := 99) hF 5 (80 + 4 * dl) dX2_exploreChoice_99 rfl (by omega) ex_s6.2.2 (by omega) (by show (80 : Int) + 4 * (dl : Int) = ((80 + 4 * dl : Nat) : Int); omega) ?_
    obtain ⟨fs_s7, hc_s7⟩ := (all_s6 _ (Or.inl (ok_s5.1 ((dl : Int) + 1) (by omega) (by omega)).1)).cell
    refine go_callVV (pc := 100) hF [vr E (80 + 4 * dl)] [] mv_X2_103 dX2_exploreChoice_100 (show nw_s5 ((dl : Int) + 1) < N by omega) hc_s7 (frI.setAsP (by omega) (by omega) (by omega) (all_s6 _ (Or.inl (ok_s5.1 ((dl : Int) + 1) (by omega) (by omega)).1)) kh0_s6 (by omega)) rfl rfl (Nat.le_of_ble_eq_true rfl) (by omega) ⟨Nat.zero_le _, Nat.zero_le _⟩ (fun s7 h_s7 => ?_)
    obtain ⟨u_s7, f_s7⟩ := h_s7
    have all_s7 := all_s6.step (Or.inl (ok_s5.1 ((dl : Int) + 1) (by omega) (by omega)).1) u_s7 (by omega) f_s7
    have t_s7 := t_s6.keep (fun jj h1 h2 => f_s7 jj (by omega))
    have ex_s7 := ex_s6.keep (fun jj h1 h2 => f_s7 jj (by omega))
    have st_s7 := (f_s7 63 (by omega)).trans st_s6
    have kn0_s7 := u_s6.keep (fun jj h1 h2 => f_s7 jj (by omega))
    have kh0_s7 := kh0_s6.keep (fun jj h1 h2 => f_s7 jj (by omega))
    refine go_aload_n (pc := 103) hF dX2_exploreChoice_103 2 rfl ?_
    refine go_aload_n (pc := 104) hF dX2_exploreChoice_104 3 rfl ?_
    refine go_iload (pc := 105) hF dX2_exploreChoice_105 1 rfl ?_
    refine go_iconst (pc := 107) hF dX2_exploreChoice_107 ?_
    refine go_iadd (pc := 108) hF dX2_exploreChoice_108 ?_
    refine go_iload (pc := 109) hF dX2_exploreChoice_109 0 rfl ?_
    refine go_iload_n (pc := 111) hF dX2_exploreChoice_111 5 rfl ?_
    refine go_iconst (pc := 112) hF dX2_exploreChoice_112 ?_
    refine go_iadd (pc := 113) hF dX2_exploreChoice_113 ?_
    have cr_s8 := IH₉ tb_ s7 sg vl mt₉ lw ll la sz₉ lk₉ chs lps dp ln ((o + 1 + (tLen ta_ : Int)) + 1) (k₉ + tLks ta_) lp (dl + 1) nw_s5 un_s5 kn₉ r0 u₉ kd pr B₉ S₉ hN₉ t_s7 ho hwb (by omega) (by rw [show o + 1 + (tLen ta_ : Int) + 1 = o + 2 + (tLen ta_ : Int) by omega]; exact pab) (by omega) (by omega) (by omega) hu hkd hpr (by omega) ok_s5 ex_s7 st_s7 hvS (by show frI E s7 (nw_s5 (((dl + 1 : Nat)) : Int)) _ _; rw [show (((dl + 1 : Nat)) : Int) = (dl : Int) + 1 by omega]; exact u_s7) all_s7
    rw [show ((o + 1 + (tLen ta_ : Int)) + 1) + (tLen tb_ : Int) = o + 2 + (tLen ta_ : Int) + (tLen tb_ : Int) by omega] at cr_s8
    rw [show ((dl + 1 : Nat) : Int) = (dl : Int) + 1 by omega] at cr_s8
    refine go_callVV (pc := 114) hF [vr E 23, vi ((o + 1 + (tLen ta_ : Int)) + 1), vi (o + 2 + (tLen ta_ : Int) + (tLen tb_ : Int)), vi ((dl : Int) + 1)] [] mv_X2_60 dX2_exploreChoice_114 (by omega) ex_s7.1 cr_s8 rfl rfl (Nat.le_of_ble_eq_true rfl) (by omega) ⟨Nat.zero_le _, Nat.zero_le _⟩ (fun s8 h_s8 => ?_)
    obtain ⟨nw_s8, un_s8, ok_s8, eq_s8, x_s8, u_s8, all_s8, fq_s8, fd_s8, fa_s8⟩ := h_s8
    rw [show ((dl + 1 : Nat) : Int) = (dl : Int) + 1 by omega] at eq_s8 u_s8 fd_s8
    have e0_s8 : nw_s8 (dl : Int) = nw_s5 (dl : Int) := eq_s8 _ (by omega)
    have t_s8 := t_s7.keep (fun jj h1 h2 => fq_s8 jj (by omega))
    have st_s8 := (fq_s8 63 (by omega)).trans st_s7
    have kn0_s8 : frI E s8 (nw_s8 (dl : Int)) (img (ex₉ u₉ kd pr ta_ S₉)) (B₉ + cB₉ ta_) := by rw [e0_s8]; exact kn0_s7.keep (fun jj h1 h2 => fd_s8 (dl : Int) (by omega) (by omega) jj h1 h2)
    have kh0_s8 := kh0_s7.keep (fun jj h1 h2 => fa_s8 dl (by omega) jj h1 (by omega))
    have p0_s8 := ok_s8.1 (dl : Int) (by omega) (by omega)
    have p1_s8 := ok_s8.1 ((dl : Int) + 1) (by omega) (by omega)
    have a1_s8 := ok_s8.apart (d₉ := (dl : Int)) (d' := (dl : Int) + 1) (by omega) (by omega) (by omega)
    have a2_s8 := pool_ahead (d₉ := dl) p0_s8.1 (by omega)
    have a3_s8 := pool_ahead (d₉ := dl) p1_s8.1 (by omega)
    have r0_s8 := pool_rg p0_s8.1
    have r1_s8 := pool_rg p1_s8.1
    have r2_s8 := pool_66 p0_s8.1
    have r3_s8 := pool_66 p1_s8.1
    refine go_aload_n (pc := 117) hF dX2_exploreChoice_117 2 rfl ?_
    refine go_get (pc := 118) hF fl_X2_11 dX2_exploreChoice_118 (by omega) x_s8.1 rfl ?_
    refine go_iload_n (pc := 121) hF dX2_exploreChoice_121 5 rfl ?_
    refine go_aald (pc := 122) hF 5 (nw_s8 (dl)) dX2_exploreChoice_122 rfl (by omega) x_s8.2.1 (by omega) rfl ?_
    refine go_aload_n (pc := 123) hF dX2_exploreChoice_123 2 rfl ?_
    refine go_get (pc := 124) hF fl_X2_11 dX2_exploreChoice_124 (by omega) x_s8.1 rfl ?_
    refine go_iload_n (pc := 127) hF dX2_exploreChoice_127 5 rfl ?_
    refine go_iconst (pc := 128) hF dX2_exploreChoice_128 ?_
    refine go_iadd (pc := 129) hF dX2_exploreChoice_129 ?_
    refine go_aald (pc := 130) hF 5 (nw_s8 ((dl : Int) + 1)) dX2_exploreChoice_130 rfl (by omega) x_s8.2.1 (by omega) rfl ?_
    obtain ⟨fs_s9, hc_s9⟩ := (all_s8 _ (Or.inl (ok_s8.1 (dl : Int) (by omega) (by omega)).1)).cell
    refine go_callVV (pc := 131) hF [vr E (nw_s8 ((dl : Int) + 1))] [] mv_X2_106 dX2_exploreChoice_131 (show nw_s8 (dl) < N by omega) hc_s9 (frI.putAllP (A₉ := (B₉ + cB₉ ta_ + cB₉ tb_)) (by omega) (by omega) (by omega) kn0_s8 u_s8 (by omega)) rfl rfl (Nat.le_of_ble_eq_true rfl) (by omega) ⟨Nat.zero_le _, Nat.zero_le _⟩ (fun s9 h_s9 => ?_)
    obtain ⟨u_s9, f_s9⟩ := h_s9
    have all_s9 := all_s8.step (Or.inl (ok_s8.1 (dl : Int) (by omega) (by omega)).1) u_s9 (by omega) f_s9
    have t_s9 := t_s8.keep (fun jj h1 h2 => f_s9 jj (by omega))
    have ex_s9 := x_s8.keep (fun jj h1 h2 => f_s9 jj (by omega))
    have st_s9 := (f_s9 63 (by omega)).trans st_s8
    have kh0_s9 := kh0_s8.keep (fun jj h1 h2 => f_s9 jj (by omega))
    have kn1_s9 := u_s8.keep (fun jj h1 h2 => f_s9 jj (by omega))
    refine go_iload (pc := 134) hF dX2_exploreChoice_134 0 rfl ?_
    refine go_iretQ hF hr hlk hQ dX2_exploreChoice_136 ⟨rfl, ⟨nw_s8, un_s8, ok_s8, (fun d₉ h1 => by rw [eq_s8 d₉ (by omega)]; rw [eq_s5 d₉ (by omega)]), ex_s9, (u_s9.iff (fun r₉ c => (img_or _ _ r₉ c).symm)), all_s9, (fun jj h1 => by rw [f_s9 jj (by omega), fq_s8 jj (by omega), f_s7 jj (by omega), f_s6 jj (by omega), fq_s5 jj (by omega), f_s4 jj (by omega), f_s3 jj (by omega)]), (fun d₉ h1 h2 jj h3 h4 => by have pd := (hok.1 d₉ h1 (by omega)).1; have rd₉ := pool_rg pd; have ap1 := pool_ahead (d₉ := dl) pd (by omega); have ap2 := hok.apart (d₉ := d₉) (d' := (dl : Int) + 1) (by omega) (by omega) (by omega); have ap3 := ok_s5.apart (d₉ := d₉) (d' := (dl : Int)) (by omega) (by omega) (by omega); have ap4 := ok_s5.apart (d₉ := d₉) (d' := (dl : Int) + 1) (by omega) (by omega) (by omega); have ap5 := ok_s8.apart (d₉ := d₉) (d' := (dl : Int)) (by omega) (by omega) (by omega); have en_s5 := eq_s5 d₉ (by omega); have en_s8 := eq_s8 d₉ (by omega); rw [f_s9 jj (by omega), fd_s8 d₉ h1 (by omega) jj (by omega) (by omega), f_s7 jj (by omega), f_s6 jj (by omega), fd_s5 d₉ h1 (by omega) jj (by omega) (by omega), f_s4 jj (by omega), f_s3 jj (by omega)]), fun d₉ h1 jj h3 h4 => by have ap2 := pool_ahead (d₉ := d₉) (hok.1 ((dl : Int) + 1) (by omega) (by omega)).1 (by omega); have ap3 := pool_ahead (d₉ := d₉) (ok_s5.1 (dl : Int) (by omega) (by omega)).1 (by omega); have ap4 := pool_ahead (d₉ := d₉) (ok_s5.1 ((dl : Int) + 1) (by omega) (by omega)).1 (by omega); have ap5 := pool_ahead (d₉ := d₉) (ok_s8.1 (dl : Int) (by omega) (by omega)).1 (by omega); rw [f_s9 jj (by omega), fa_s8 d₉ (by omega) jj (by omega) (by omega), f_s7 jj (by omega), f_s6 jj (by omega), fa_s5 d₉ (by omega) jj (by omega) (by omega), f_s4 jj (by omega), f_s3 jj (by omega)]⟩⟩
