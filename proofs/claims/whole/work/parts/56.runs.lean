/-! The reference₉: runs, draws. -/
set_option maxHeartbeats 4000000 in
set_option maxRecDepth 100000 in
theorem c_X11_runs_bad (E : En) (N : Nat) (σ : Nat → va_E) (r₉ u₉ kd pr : Int) (yr yw yk yp : Int → Int) (hs : Int) (tx : Int → Int) (tl : Int) (t₉ : Tr) (xb xn xf q1₉ q2₉ q3₉ : Int) (hN₉ : 120 ≤ N) (hO : okS r₉ u₉ kd pr yr yw yk yp hs tx tl t₉ xb xn xf q1₉ q2₉ q3₉) (hS₉ : mdS E σ r₉ u₉ kd pr yr yw yk yp hs tx tl t₉ xb xn xf q1₉ q2₉ q3₉) (x₉ : Int) (hx : rg x₉) (hno : ¬ (0 ≤ x₉ ∧ x₉ ≤ 1048575)) : CI E M_X11_runs 16 [vr E 94, vi x₉] N σ (fun y₉ σ' => y₉ = (-2) ∧ mdS E σ' r₉ u₉ kd pr yr yw yk yp hs tx tl t₉ (wr₉ (xb + 1)) xn xf q1₉ q2₉ q3₉ ∧ ∀ q₉, q₉ < 94 → σ' q₉ = σ q₉) := by
  refine CT.of2 (own := RX11) (by decide) rfl (Nat.le_of_ble_eq_true rfl) ?_
  intro p e R s m args below meth c Q hF hr hlk hnm hz hR hQ
  obtain ⟨nw, pa, rf, sn, eo, bo, rr, rz, hi₉, mi, ak, rt, cn, z101, z102, z103, z104, z105, z106, z107, z108, z126, ⟨⟨g109, z109⟩, ⟨g110, z110⟩, ⟨g111, z111⟩, ⟨g112, z112⟩, ⟨g113, z113⟩, ⟨g114, z114⟩, ⟨g115, z115⟩, ⟨g116, z116⟩, ⟨g117, z117⟩, ⟨g118, z118⟩, ⟨g119, z119⟩, ⟨g120, z120⟩, ⟨g121, z121⟩, ⟨g122, z122⟩, ⟨g123, z123⟩, ⟨g124, z124⟩, ⟨g125, z125⟩⟩, hnw, hpa, hrf, hrr, hMA⟩ := hS₉
  obtain ⟨⟨hrw, hu, hkd, hpr⟩, hhs, hyy, htl, htx, hxb, hxn, hxf, hq1, hq2, hq3, hwf, hdp3, hl80, hl24⟩ := hO
  have hrw3 := vrow_up hrw (show u₉ ≤ 3 by omega)
  have hrr0 := hrw.1
  obtain ⟨n0₉, n1₉, n2₉, n3₉, n4₉, n5₉, n6₉⟩ := id hnw
  have gl := mLong_rg r₉
  refine go_iload_n (pc := 0) hF dX11_runs_0 1 rfl ?_
  refine go_i2l (pc := 1) hF dX11_runs_1 (by omega) ?_
  refine go_lconst (pc := 2) (v := 0) hF dX11_runs_2 (by decide) ?_
  refine go_ldc2 (pc := 3) hF kc_X11_293 dX11_runs_3 ?_
  refine go_callSP (pc := 6) hF [vl x₉, vl 0, vl 1048575] [] ms_X11_89 dX11_runs_6 (c_X11_in E N σ x₉ 0 1048575 (by omega) ⟨by decide, by decide⟩ ⟨by decide, by decide⟩) rfl rfl (Nat.le_of_ble_eq_true rfl) (by decide) ⟨Nat.zero_le _, Nat.zero_le _⟩ ?_
  refine go_if_ne (pc := 9) hF 17 dX11_runs_9 (by decide) (bI_rg _) (fun bq9 => ?_) (fun bq9 => ?_)
  · exact absurd (Decidable.not_not.mp (fun z₉ => bq9 ((bI_0 _).mpr z₉))) hno
  · refine go_aload_n (pc := 12) hF dX11_runs_12 0 rfl ?_
    refine go_callVI (pc := 13) hF [] [] mv_X11_120 dX11_runs_13 (by omega) z101 (c_X11_bad E N σ hN₉ z101 z104) rfl rfl (Nat.le_of_ble_eq_true rfl) (by decide) ⟨Nat.zero_le _, Nat.zero_le _⟩ (fun r_s1 s1₉ h_s1 => ?_)
    obtain ⟨e_s1, u_s1, f_s1⟩ := h_s1
    subst e_s1
    have x_s1 := (f_s1 94 (by omega)).trans z101
    have nw_s1 := (f_s1 95 (by omega)).trans z102
    have pa_s1 := (f_s1 96 (by omega)).trans z103
    have sn_s1 := (f_s1 98 (by omega)).trans z105
    have eo_s1 := (f_s1 99 (by omega)).trans z106
    have bo_s1 := (f_s1 100 (by omega)).trans z107
    have tx_s1 := (f_s1 101 (by omega)).trans z108
    have rr_s1 := (f_s1 119 (by omega)).trans z126
    have readSign_s1 := (f_s1 102 (by omega)).trans z109
    have open_s1 := (f_s1 103 (by omega)).trans z110
    have isBarred_s1 := (f_s1 104 (by omega)).trans z111
    have ages_s1 := (f_s1 105 (by omega)).trans z112
    have entered_s1 := (f_s1 106 (by omega)).trans z113
    have first_s1 := (f_s1 107 (by omega)).trans z114
    have mustAt_s1 := (f_s1 108 (by omega)).trans z115
    have mayAt_s1 := (f_s1 109 (by omega)).trans z116
    have sums_s1 := (f_s1 110 (by omega)).trans z117
    have sumsFirst_s1 := (f_s1 111 (by omega)).trans z118
    have took_s1 := (f_s1 112 (by omega)).trans z119
    have next_s1 := (f_s1 113 (by omega)).trans z120
    have inOf_s1 := (f_s1 114 (by omega)).trans z121
    have firstOf_s1 := (f_s1 115 (by omega)).trans z122
    have rounds_s1 := (f_s1 116 (by omega)).trans z123
    have counts_s1 := (f_s1 117 (by omega)).trans z124
    have countsFirst_s1 := (f_s1 118 (by omega)).trans z125
    exact go_iretQ hF hr hlk hQ dX11_runs_16 ⟨rfl, ⟨_, _, _, _, _, _, _, _, _, _, _, _, _, x_s1, nw_s1, pa_s1, u_s1, sn_s1, eo_s1, bo_s1, tx_s1, rr_s1, ⟨⟨_, readSign_s1⟩, ⟨_, open_s1⟩, ⟨_, isBarred_s1⟩, ⟨_, ages_s1⟩, ⟨_, entered_s1⟩, ⟨_, first_s1⟩, ⟨_, mustAt_s1⟩, ⟨_, mayAt_s1⟩, ⟨_, sums_s1⟩, ⟨_, sumsFirst_s1⟩, ⟨_, took_s1⟩, ⟨_, next_s1⟩, ⟨_, inOf_s1⟩, ⟨_, firstOf_s1⟩, ⟨_, rounds_s1⟩, ⟨_, counts_s1⟩, ⟨_, countsFirst_s1⟩⟩, hnw, hpa, ⟨by rw [badF_at, hrf.1], by rw [badF_ne (by decide) (by rw [hrf.2.1]; exact hxn)]; exact hrf.2.1, by rw [badF_ne (by decide) (by rw [hrf.2.2]; exact hxf)]; exact hrf.2.2⟩, hrr, hMA⟩, (fun jj hjj => by rw [f_s1 jj (by omega)])⟩
set_option maxHeartbeats 4000000 in
set_option maxRecDepth 100000 in
theorem c_X11_runs_ok (E : En) (N : Nat) (σ : Nat → va_E) (r₉ u₉ kd pr : Int) (yr yw yk yp : Int → Int) (hs : Int) (tx : Int → Int) (tl : Int) (t₉ : Tr) (xb xn xf q1₉ q2₉ q3₉ : Int) (hN₉ : 120 ≤ N) (hO : okS r₉ u₉ kd pr yr yw yk yp hs tx tl t₉ xb xn xf q1₉ q2₉ q3₉) (hS₉ : mdS E σ r₉ u₉ kd pr yr yw yk yp hs tx tl t₉ xb xn xf q1₉ q2₉ q3₉) (x₉ : Int) (hx : 0 ≤ x₉ ∧ x₉ ≤ 1048575) : CI E M_X11_runs 16 [vr E 94, vi x₉] N σ (fun y₉ σ' => y₉ = (rn u₉ kd pr x₉ t₉ (r₉, 0, 0, 0, 0)).2.1 ∧ mdS E σ' ((rn u₉ kd pr x₉ t₉ (r₉, 0, 0, 0, 0)).1) u₉ kd pr (psh yr r₉) (psh yw u₉) (psh yk kd) (psh yp pr) (min (hs + 1) 8) tx tl t₉ xb xn xf (wr₉ (rn u₉ kd pr x₉ t₉ (r₉, 0, 0, 0, 0)).2.2.1) (wr₉ (rn u₉ kd pr x₉ t₉ (r₉, 0, 0, 0, 0)).2.2.2.1) (wr₉ (rn u₉ kd pr x₉ t₉ (r₉, 0, 0, 0, 0)).2.2.2.2) ∧ ∀ q₉, q₉ < 94 → σ' q₉ = σ q₉) := by
  refine CT.of2 (own := RX11) (by decide) rfl (Nat.le_of_ble_eq_true rfl) ?_
  intro p e R s m args below meth c Q hF hr hlk hnm hz hR hQ
  obtain ⟨nw, pa, rf, sn, eo, bo, rr, rz, hi₉, mi, ak, rt, cn, z101, z102, z103, z104, z105, z106, z107, z108, z126, ⟨⟨g109, z109⟩, ⟨g110, z110⟩, ⟨g111, z111⟩, ⟨g112, z112⟩, ⟨g113, z113⟩, ⟨g114, z114⟩, ⟨g115, z115⟩, ⟨g116, z116⟩, ⟨g117, z117⟩, ⟨g118, z118⟩, ⟨g119, z119⟩, ⟨g120, z120⟩, ⟨g121, z121⟩, ⟨g122, z122⟩, ⟨g123, z123⟩, ⟨g124, z124⟩, ⟨g125, z125⟩⟩, hnw, hpa, hrf, hrr, hMA⟩ := hS₉
  obtain ⟨⟨hrw, hu, hkd, hpr⟩, hhs, hyy, htl, htx, hxb, hxn, hxf, hq1, hq2, hq3, hwf, hdp3, hl80, hl24⟩ := hO
  have hrw3 := vrow_up hrw (show u₉ ≤ 3 by omega)
  have hrr0 := hrw.1
  obtain ⟨n0₉, n1₉, n2₉, n3₉, n4₉, n5₉, n6₉⟩ := id hnw
  have gl := mLong_rg r₉
  have hsg0 := MA_sg t₉ hwf 0 hMA
  have hsg : ∀ p : Int, 0 ≤ p → p < (tLen t₉ : Int) → 40 ≤ sn p ∧ sn p ≤ 124 := fun p a₉ b₉ => hsg0 p a₉ (by omega)
  have z107w : σ 100 = ai E 80 (fun z₉ => wr₉ (bo z₉)) := by rw [ai_wr]; exact z107
  have hMAw := MA_wrb t₉ hwf 0 hMA (by omega) (by omega)
  refine go_iload_n (pc := 0) hF dX11_runs_0 1 rfl ?_
  refine go_i2l (pc := 1) hF dX11_runs_1 (by omega) ?_
  refine go_lconst (pc := 2) (v := 0) hF dX11_runs_2 (by decide) ?_
  refine go_ldc2 (pc := 3) hF kc_X11_293 dX11_runs_3 ?_
  refine go_callSP (pc := 6) hF [vl x₉, vl 0, vl 1048575] [] ms_X11_89 dX11_runs_6 (c_X11_in E N σ x₉ 0 1048575 (by omega) ⟨by decide, by decide⟩ ⟨by decide, by decide⟩) rfl rfl (Nat.le_of_ble_eq_true rfl) (by decide) ⟨Nat.zero_le _, Nat.zero_le _⟩ ?_
  refine go_if_ne (pc := 9) hF 17 dX11_runs_9 (by decide) (bI_rg _) (fun bq9 => ?_) (fun bq9 => ?_)
  · refine go_aload_n (pc := 17) hF dX11_runs_17 0 rfl ?_
    refine go_callVV (pc := 18) hF [] [] mv_X11_124 dX11_runs_18 (by omega) z101 (c_X11_keep E N σ hN₉ z101 z102 z103 hhs hnw hpa) rfl rfl (Nat.le_of_ble_eq_true rfl) (by decide) ⟨Nat.zero_le _, Nat.zero_le _⟩ (fun s1₉ h_s1 => ?_)
    obtain ⟨pa_s1, ux_s1, up_s1, hp_s1, f_s1⟩ := h_s1
    have nw_s1 := (f_s1 95 (by omega)).trans z102
    have rf_s1 := (f_s1 97 (by omega)).trans z104
    have sn_s1 := (f_s1 98 (by omega)).trans z105
    have eo_s1 := (f_s1 99 (by omega)).trans z106
    have bo_s1 := (f_s1 100 (by omega)).trans z107w
    have tx_s1 := (f_s1 101 (by omega)).trans z108
    have rr_s1 := (f_s1 119 (by omega)).trans z126
    have readSign_s1 := (f_s1 102 (by omega)).trans z109
    have open_s1 := (f_s1 103 (by omega)).trans z110
    have isBarred_s1 := (f_s1 104 (by omega)).trans z111
    have ages_s1 := (f_s1 105 (by omega)).trans z112
    have entered_s1 := (f_s1 106 (by omega)).trans z113
    have first_s1 := (f_s1 107 (by omega)).trans z114
    have mustAt_s1 := (f_s1 108 (by omega)).trans z115
    have mayAt_s1 := (f_s1 109 (by omega)).trans z116
    have sums_s1 := (f_s1 110 (by omega)).trans z117
    have sumsFirst_s1 := (f_s1 111 (by omega)).trans z118
    have took_s1 := (f_s1 112 (by omega)).trans z119
    have next_s1 := (f_s1 113 (by omega)).trans z120
    have inOf_s1 := (f_s1 114 (by omega)).trans z121
    have firstOf_s1 := (f_s1 115 (by omega)).trans z122
    have rounds_s1 := (f_s1 116 (by omega)).trans z123
    have counts_s1 := (f_s1 117 (by omega)).trans z124
    have countsFirst_s1 := (f_s1 118 (by omega)).trans z125
    refine go_aload_n (pc := 21) hF dX11_runs_21 0 rfl ?_
    refine go_aload_n (pc := 22) hF dX11_runs_22 0 rfl ?_
    refine go_callVP (pc := 23) hF [] [vr E 94] mv_X11_127 dX11_runs_23 (by omega) ux_s1 (c_X11_rowNow E N s1₉ hN₉ ux_s1 nw_s1 hnw hrw3) rfl rfl (Nat.le_of_ble_eq_true rfl) (by decide) ⟨Nat.zero_le _, Nat.zero_le _⟩ ?_
    refine go_iload_n (pc := 26) hF dX11_runs_26 1 rfl ?_
    refine go_callVI (pc := 27) hF [vi r₉, vi x₉] [] mv_X11_295 dX11_runs_27 (by omega) ux_s1 (c_X11_run E N s1₉ hN₉ ux_s1 nw_s1 sn_s1 eo_s1 bo_s1 rounds_s1 hwf hMAw hl80 hdp3 (fun q₉ _ _ => wr_rg _) r₉ u₉ kd pr x₉ n4₉ n5₉ n6₉ hu hkd hpr hrw (by omega)) rfl rfl (Nat.le_of_ble_eq_true rfl) (by decide) ⟨Nat.zero_le _, Nat.zero_le _⟩ (fun r_s2 s2₉ h_s2 => ?_)
    obtain ⟨e_s2, ux_s2, ⟨ro_s2, ur_s2⟩, f_s2⟩ := h_s2
    subst e_s2
    have nw_s2 := (f_s2 95 (by omega)).trans nw_s1
    have pa_s2 := (f_s2 96 (by omega)).trans up_s1
    have rf_s2 := (f_s2 97 (by omega)).trans rf_s1
    have sn_s2 := (f_s2 98 (by omega)).trans sn_s1
    have eo_s2 := (f_s2 99 (by omega)).trans eo_s1
    have bo_s2 := (f_s2 100 (by omega)).trans bo_s1
    have tx_s2 := (f_s2 101 (by omega)).trans tx_s1
    have rr_s2 := (f_s2 119 (by omega)).trans rr_s1
    have readSign_s2 := (f_s2 102 (by omega)).trans readSign_s1
    have open_s2 := (f_s2 103 (by omega)).trans open_s1
    have isBarred_s2 := (f_s2 104 (by omega)).trans isBarred_s1
    have ages_s2 := (f_s2 105 (by omega)).trans ages_s1
    have entered_s2 := (f_s2 106 (by omega)).trans entered_s1
    have first_s2 := (f_s2 107 (by omega)).trans first_s1
    have mustAt_s2 := (f_s2 108 (by omega)).trans mustAt_s1
    have mayAt_s2 := (f_s2 109 (by omega)).trans mayAt_s1
    have sums_s2 := (f_s2 110 (by omega)).trans sums_s1
    have sumsFirst_s2 := (f_s2 111 (by omega)).trans sumsFirst_s1
    have took_s2 := (f_s2 112 (by omega)).trans took_s1
    have next_s2 := (f_s2 113 (by omega)).trans next_s1
    have inOf_s2 := (f_s2 114 (by omega)).trans inOf_s1
    have firstOf_s2 := (f_s2 115 (by omega)).trans firstOf_s1
    have counts_s2 := (f_s2 117 (by omega)).trans counts_s1
    have countsFirst_s2 := (f_s2 118 (by omega)).trans countsFirst_s1
    refine go_istore_n (pc := 30) hF [(2, vi ((rn u₉ kd pr x₉ t₉ (r₉, 0, 0, 0, 0)).2.1)), (0, vr E 94), (1, vi x₉)] dX11_runs_30 rfl (by decide) ?_
    refine go_aload_n (pc := 31) hF dX11_runs_31 1 rfl ?_
    refine go_aload_n (pc := 32) hF dX11_runs_32 1 rfl ?_
    refine go_get (pc := 33) hF fl_X11_283 dX11_runs_33 (by omega) ux_s2 rfl ?_
    refine go_callVV (pc := 36) hF [vi ((rn u₉ kd pr x₉ t₉ (r₉, 0, 0, 0, 0)).1)] [] mv_X11_130 dX11_runs_36 (by omega) ux_s2 (c_X11_layRow E N s2₉ hN₉ ux_s2 nw_s2 ((rn u₉ kd pr x₉ t₉ (r₉, 0, 0, 0, 0)).1) (rn_row hu hkd t₉ hwf (r₉, 0, 0, 0, 0) hrw).1) rfl rfl (Nat.le_of_ble_eq_true rfl) (by decide) ⟨Nat.zero_le _, Nat.zero_le _⟩ (fun s3₉ h_s3 => ?_)
    obtain ⟨nw_s3, un_s3, hn_s3, f_s3⟩ := h_s3
    have x_s3 := (f_s3 94 (by omega)).trans ux_s2
    have pa_s3 := (f_s3 96 (by omega)).trans pa_s2
    have rf_s3 := (f_s3 97 (by omega)).trans rf_s2
    have sn_s3 := (f_s3 98 (by omega)).trans sn_s2
    have eo_s3 := (f_s3 99 (by omega)).trans eo_s2
    have bo_s3 := (f_s3 100 (by omega)).trans bo_s2
    have tx_s3 := (f_s3 101 (by omega)).trans tx_s2
    have rr_s3 := (f_s3 119 (by omega)).trans rr_s2
    have readSign_s3 := (f_s3 102 (by omega)).trans readSign_s2
    have open_s3 := (f_s3 103 (by omega)).trans open_s2
    have isBarred_s3 := (f_s3 104 (by omega)).trans isBarred_s2
    have ages_s3 := (f_s3 105 (by omega)).trans ages_s2
    have entered_s3 := (f_s3 106 (by omega)).trans entered_s2
    have first_s3 := (f_s3 107 (by omega)).trans first_s2
    have mustAt_s3 := (f_s3 108 (by omega)).trans mustAt_s2
    have mayAt_s3 := (f_s3 109 (by omega)).trans mayAt_s2
    have sums_s3 := (f_s3 110 (by omega)).trans sums_s2
    have sumsFirst_s3 := (f_s3 111 (by omega)).trans sumsFirst_s2
    have took_s3 := (f_s3 112 (by omega)).trans took_s2
    have next_s3 := (f_s3 113 (by omega)).trans next_s2
    have inOf_s3 := (f_s3 114 (by omega)).trans inOf_s2
    have firstOf_s3 := (f_s3 115 (by omega)).trans firstOf_s2
    have rounds_s3 := (f_s3 116 (by omega)).trans ur_s2
    have counts_s3 := (f_s3 117 (by omega)).trans counts_s2
    have countsFirst_s3 := (f_s3 118 (by omega)).trans countsFirst_s2
    refine go_aload_n (pc := 39) hF dX11_runs_39 1 rfl ?_
    refine go_get (pc := 40) hF fl_X11_84 dX11_runs_40 (by omega) x_s3 rfl ?_
    refine go_iconst (pc := 43) hF dX11_runs_43 ?_
    refine go_aload_n (pc := 44) hF dX11_runs_44 1 rfl ?_
    refine go_get (pc := 45) hF fl_X11_277 dX11_runs_45 (by omega) x_s3 rfl ?_
    refine go_iast (pc := 48) hF dX11_runs_48 (by omega) rr_s3 (by omega) (fun s4₉ u_s4 f_s4 => ?_)
    have x_s4 := (f_s4 94 (by omega)).trans x_s3
    have nw_s4 := (f_s4 95 (by omega)).trans un_s3
    have pa_s4 := (f_s4 96 (by omega)).trans pa_s3
    have rf_s4 := (f_s4 97 (by omega)).trans rf_s3
    have sn_s4 := (f_s4 98 (by omega)).trans sn_s3
    have eo_s4 := (f_s4 99 (by omega)).trans eo_s3
    have bo_s4 := (f_s4 100 (by omega)).trans bo_s3
    have tx_s4 := (f_s4 101 (by omega)).trans tx_s3
    have readSign_s4 := (f_s4 102 (by omega)).trans readSign_s3
    have open_s4 := (f_s4 103 (by omega)).trans open_s3
    have isBarred_s4 := (f_s4 104 (by omega)).trans isBarred_s3
    have ages_s4 := (f_s4 105 (by omega)).trans ages_s3
    have entered_s4 := (f_s4 106 (by omega)).trans entered_s3
    have first_s4 := (f_s4 107 (by omega)).trans first_s3
    have mustAt_s4 := (f_s4 108 (by omega)).trans mustAt_s3
    have mayAt_s4 := (f_s4 109 (by omega)).trans mayAt_s3
    have sums_s4 := (f_s4 110 (by omega)).trans sums_s3
    have sumsFirst_s4 := (f_s4 111 (by omega)).trans sumsFirst_s3
    have took_s4 := (f_s4 112 (by omega)).trans took_s3
    have next_s4 := (f_s4 113 (by omega)).trans next_s3
    have inOf_s4 := (f_s4 114 (by omega)).trans inOf_s3
    have firstOf_s4 := (f_s4 115 (by omega)).trans firstOf_s3
    have rounds_s4 := (f_s4 116 (by omega)).trans rounds_s3
    have counts_s4 := (f_s4 117 (by omega)).trans counts_s3
    have countsFirst_s4 := (f_s4 118 (by omega)).trans countsFirst_s3
    refine go_aload_n (pc := 49) hF dX11_runs_49 1 rfl ?_
    refine go_get (pc := 50) hF fl_X11_84 dX11_runs_50 (by omega) x_s4 rfl ?_
    refine go_iconst (pc := 53) hF dX11_runs_53 ?_
    refine go_aload_n (pc := 54) hF dX11_runs_54 1 rfl ?_
    refine go_get (pc := 55) hF fl_X11_280 dX11_runs_55 (by omega) x_s4 rfl ?_
    refine go_iast (pc := 58) hF dX11_runs_58 (by omega) u_s4 (by omega) (fun s5 u_s5 f_s5 => ?_)
    have x_s5 := (f_s5 94 (by omega)).trans x_s4
    have nw_s5 := (f_s5 95 (by omega)).trans nw_s4
    have pa_s5 := (f_s5 96 (by omega)).trans pa_s4
    have rf_s5 := (f_s5 97 (by omega)).trans rf_s4
    have sn_s5 := (f_s5 98 (by omega)).trans sn_s4
    have eo_s5 := (f_s5 99 (by omega)).trans eo_s4
    have bo_s5 := (f_s5 100 (by omega)).trans bo_s4
    have tx_s5 := (f_s5 101 (by omega)).trans tx_s4
    have readSign_s5 := (f_s5 102 (by omega)).trans readSign_s4
    have open_s5 := (f_s5 103 (by omega)).trans open_s4
    have isBarred_s5 := (f_s5 104 (by omega)).trans isBarred_s4
    have ages_s5 := (f_s5 105 (by omega)).trans ages_s4
    have entered_s5 := (f_s5 106 (by omega)).trans entered_s4
    have first_s5 := (f_s5 107 (by omega)).trans first_s4
    have mustAt_s5 := (f_s5 108 (by omega)).trans mustAt_s4
    have mayAt_s5 := (f_s5 109 (by omega)).trans mayAt_s4
    have sums_s5 := (f_s5 110 (by omega)).trans sums_s4
    have sumsFirst_s5 := (f_s5 111 (by omega)).trans sumsFirst_s4
    have took_s5 := (f_s5 112 (by omega)).trans took_s4
    have next_s5 := (f_s5 113 (by omega)).trans next_s4
    have inOf_s5 := (f_s5 114 (by omega)).trans inOf_s4
    have firstOf_s5 := (f_s5 115 (by omega)).trans firstOf_s4
    have rounds_s5 := (f_s5 116 (by omega)).trans rounds_s4
    have counts_s5 := (f_s5 117 (by omega)).trans counts_s4
    have countsFirst_s5 := (f_s5 118 (by omega)).trans countsFirst_s4
    refine go_aload_n (pc := 59) hF dX11_runs_59 1 rfl ?_
    refine go_get (pc := 60) hF fl_X11_84 dX11_runs_60 (by omega) x_s5 rfl ?_
    refine go_iconst (pc := 63) hF dX11_runs_63 ?_
    refine go_aload_n (pc := 64) hF dX11_runs_64 1 rfl ?_
    refine go_get (pc := 65) hF fl_X11_271 dX11_runs_65 (by omega) x_s5 rfl ?_
    refine go_iast (pc := 68) hF dX11_runs_68 (by omega) u_s5 (by omega) (fun s6₉ u_s6 f_s6 => ?_)
    have x_s6 := (f_s6 94 (by omega)).trans x_s5
    have nw_s6 := (f_s6 95 (by omega)).trans nw_s5
    have pa_s6 := (f_s6 96 (by omega)).trans pa_s5
    have rf_s6 := (f_s6 97 (by omega)).trans rf_s5
    have sn_s6 := (f_s6 98 (by omega)).trans sn_s5
    have eo_s6 := (f_s6 99 (by omega)).trans eo_s5
    have bo_s6 := (f_s6 100 (by omega)).trans bo_s5
    have tx_s6 := (f_s6 101 (by omega)).trans tx_s5
    have readSign_s6 := (f_s6 102 (by omega)).trans readSign_s5
    have open_s6 := (f_s6 103 (by omega)).trans open_s5
    have isBarred_s6 := (f_s6 104 (by omega)).trans isBarred_s5
    have ages_s6 := (f_s6 105 (by omega)).trans ages_s5
    have entered_s6 := (f_s6 106 (by omega)).trans entered_s5
    have first_s6 := (f_s6 107 (by omega)).trans first_s5
    have mustAt_s6 := (f_s6 108 (by omega)).trans mustAt_s5
    have mayAt_s6 := (f_s6 109 (by omega)).trans mayAt_s5
    have sums_s6 := (f_s6 110 (by omega)).trans sums_s5
    have sumsFirst_s6 := (f_s6 111 (by omega)).trans sumsFirst_s5
    have took_s6 := (f_s6 112 (by omega)).trans took_s5
    have next_s6 := (f_s6 113 (by omega)).trans next_s5
    have inOf_s6 := (f_s6 114 (by omega)).trans inOf_s5
    have firstOf_s6 := (f_s6 115 (by omega)).trans firstOf_s5
    have rounds_s6 := (f_s6 116 (by omega)).trans rounds_s5
    have counts_s6 := (f_s6 117 (by omega)).trans counts_s5
    have countsFirst_s6 := (f_s6 118 (by omega)).trans countsFirst_s5
    refine go_iload_n (pc := 69) hF dX11_runs_69 0 rfl ?_
    exact go_iretQ hF hr hlk hQ dX11_runs_70 ⟨rfl, ⟨_, _, _, _, _, _, _, _, _, _, _, _, _, x_s6, nw_s6, pa_s6, rf_s6, sn_s6, eo_s6, bo_s6, tx_s6, (show s6₉ 119 = ai E 3 (fun z₉ => wr₉ ((up (up (up rr 0 (rn u₉ kd pr x₉ t₉ (r₉, 0, 0, 0, 0)).2.2.1) 1 (rn u₉ kd pr x₉ t₉ (r₉, 0, 0, 0, 0)).2.2.2.1) 2 (rn u₉ kd pr x₉ t₉ (r₉, 0, 0, 0, 0)).2.2.2.2) z₉)) from by rw [ai_wr]; exact u_s6), ⟨⟨_, readSign_s6⟩, ⟨_, open_s6⟩, ⟨_, isBarred_s6⟩, ⟨_, ages_s6⟩, ⟨_, entered_s6⟩, ⟨_, first_s6⟩, ⟨_, mustAt_s6⟩, ⟨_, mayAt_s6⟩, ⟨_, sums_s6⟩, ⟨_, sumsFirst_s6⟩, ⟨_, took_s6⟩, ⟨_, next_s6⟩, ⟨_, inOf_s6⟩, ⟨_, firstOf_s6⟩, ⟨_, rounds_s6⟩, ⟨_, counts_s6⟩, ⟨_, countsFirst_s6⟩⟩, (by have q₉ := hn_s3; rw [n4₉, n5₉, n6₉] at q₉; exact q₉), hp_s1, hrf, ⟨by show wr₉ ((up (up (up rr 0 (rn u₉ kd pr x₉ t₉ (r₉, 0, 0, 0, 0)).2.2.1) 1 (rn u₉ kd pr x₉ t₉ (r₉, 0, 0, 0, 0)).2.2.2.1) 2 (rn u₉ kd pr x₉ t₉ (r₉, 0, 0, 0, 0)).2.2.2.2) 0) = _; rw [up_ne _ _ (by decide), up_ne _ _ (by decide), up_self], by show wr₉ ((up (up (up rr 0 (rn u₉ kd pr x₉ t₉ (r₉, 0, 0, 0, 0)).2.2.1) 1 (rn u₉ kd pr x₉ t₉ (r₉, 0, 0, 0, 0)).2.2.2.1) 2 (rn u₉ kd pr x₉ t₉ (r₉, 0, 0, 0, 0)).2.2.2.2) 1) = _; rw [up_ne _ _ (by decide), up_self], by show wr₉ ((up (up (up rr 0 (rn u₉ kd pr x₉ t₉ (r₉, 0, 0, 0, 0)).2.2.1) 1 (rn u₉ kd pr x₉ t₉ (r₉, 0, 0, 0, 0)).2.2.2.1) 2 (rn u₉ kd pr x₉ t₉ (r₉, 0, 0, 0, 0)).2.2.2.2) 2) = _; rw [up_self]⟩, hMAw⟩, (fun jj hjj => by rw [f_s6 jj (by omega), f_s5 jj (by omega), f_s4 jj (by omega), f_s3 jj (by omega), f_s2 jj (by omega), f_s1 jj (by omega)])⟩
  · exact absurd ((bI_0 _).mp bq9) (by omega)
set_option maxHeartbeats 4000000 in
set_option maxRecDepth 100000 in
theorem c_X11_draws_bad (E : En) (N : Nat) (σ : Nat → va_E) (r₉ u₉ kd pr : Int) (yr yw yk yp : Int → Int) (hs : Int) (tx : Int → Int) (tl : Int) (t₉ : Tr) (xb xn xf q1₉ q2₉ q3₉ : Int) (hN₉ : 120 ≤ N) (hO : okS r₉ u₉ kd pr yr yw yk yp hs tx tl t₉ xb xn xf q1₉ q2₉ q3₉) (hS₉ : mdS E σ r₉ u₉ kd pr yr yw yk yp hs tx tl t₉ xb xn xf q1₉ q2₉ q3₉) (k9 x₉ : Int) (hk9 : rg k9) (hx : rg x₉) (hno : ¬ ((0 ≤ k9 ∧ k9 ≤ 999999) ∧ 0 ≤ x₉ ∧ x₉ ≤ 20)) : CI E M_X11_draws 16 [vr E 94, vi k9, vi x₉] N σ (fun y₉ σ' => y₉ = (-2) ∧ mdS E σ' r₉ u₉ kd pr yr yw yk yp hs tx tl t₉ (wr₉ (xb + 1)) xn xf q1₉ q2₉ q3₉ ∧ ∀ q₉, q₉ < 94 → σ' q₉ = σ q₉) := by
  refine CT.of2 (own := RX11) (by decide) rfl (Nat.le_of_ble_eq_true rfl) ?_
  intro p e R s m args below meth c Q hF hr hlk hnm hz hR hQ
  obtain ⟨nw, pa, rf, sn, eo, bo, rr, rz, hi₉, mi, ak, rt, cn, z101, z102, z103, z104, z105, z106, z107, z108, z126, ⟨⟨g109, z109⟩, ⟨g110, z110⟩, ⟨g111, z111⟩, ⟨g112, z112⟩, ⟨g113, z113⟩, ⟨g114, z114⟩, ⟨g115, z115⟩, ⟨g116, z116⟩, ⟨g117, z117⟩, ⟨g118, z118⟩, ⟨g119, z119⟩, ⟨g120, z120⟩, ⟨g121, z121⟩, ⟨g122, z122⟩, ⟨g123, z123⟩, ⟨g124, z124⟩, ⟨g125, z125⟩⟩, hnw, hpa, hrf, hrr, hMA⟩ := hS₉
  obtain ⟨⟨hrw, hu, hkd, hpr⟩, hhs, hyy, htl, htx, hxb, hxn, hxf, hq1, hq2, hq3, hwf, hdp3, hl80, hl24⟩ := hO
  have hrw3 := vrow_up hrw (show u₉ ≤ 3 by omega)
  have hrr0 := hrw.1
  obtain ⟨n0₉, n1₉, n2₉, n3₉, n4₉, n5₉, n6₉⟩ := id hnw
  have gl := mLong_rg r₉
  refine go_iload_n (pc := 0) hF dX11_draws_0 1 rfl ?_
  refine go_i2l (pc := 1) hF dX11_draws_1 (by omega) ?_
  refine go_lconst (pc := 2) (v := 0) hF dX11_draws_2 (by decide) ?_
  refine go_ldc2 (pc := 3) hF kc_X11_301 dX11_draws_3 ?_
  refine go_callSP (pc := 6) hF [vl k9, vl 0, vl 999999] [] ms_X11_89 dX11_draws_6 (c_X11_in E N σ k9 0 999999 (by omega) ⟨by decide, by decide⟩ ⟨by decide, by decide⟩) rfl rfl (Nat.le_of_ble_eq_true rfl) (by decide) ⟨Nat.zero_le _, Nat.zero_le _⟩ ?_
  refine go_if_eq (pc := 9) hF 24 dX11_draws_9 (by decide) (bI_rg _) (fun bq9 => ?_) (fun bq9 => ?_)
  · refine go_aload_n (pc := 24) hF dX11_draws_24 0 rfl ?_
    refine go_callVI (pc := 25) hF [] [] mv_X11_120 dX11_draws_25 (by omega) z101 (c_X11_bad E N σ hN₉ z101 z104) rfl rfl (Nat.le_of_ble_eq_true rfl) (by decide) ⟨Nat.zero_le _, Nat.zero_le _⟩ (fun r_s1 s1₉ h_s1 => ?_)
    obtain ⟨e_s1, u_s1, f_s1⟩ := h_s1
    subst e_s1
    have x_s1 := (f_s1 94 (by omega)).trans z101
    have nw_s1 := (f_s1 95 (by omega)).trans z102
    have pa_s1 := (f_s1 96 (by omega)).trans z103
    have sn_s1 := (f_s1 98 (by omega)).trans z105
    have eo_s1 := (f_s1 99 (by omega)).trans z106
    have bo_s1 := (f_s1 100 (by omega)).trans z107
    have tx_s1 := (f_s1 101 (by omega)).trans z108
    have rr_s1 := (f_s1 119 (by omega)).trans z126
    have readSign_s1 := (f_s1 102 (by omega)).trans z109
    have open_s1 := (f_s1 103 (by omega)).trans z110
    have isBarred_s1 := (f_s1 104 (by omega)).trans z111
    have ages_s1 := (f_s1 105 (by omega)).trans z112
    have entered_s1 := (f_s1 106 (by omega)).trans z113
    have first_s1 := (f_s1 107 (by omega)).trans z114
    have mustAt_s1 := (f_s1 108 (by omega)).trans z115
    have mayAt_s1 := (f_s1 109 (by omega)).trans z116
    have sums_s1 := (f_s1 110 (by omega)).trans z117
    have sumsFirst_s1 := (f_s1 111 (by omega)).trans z118
    have took_s1 := (f_s1 112 (by omega)).trans z119
    have next_s1 := (f_s1 113 (by omega)).trans z120
    have inOf_s1 := (f_s1 114 (by omega)).trans z121
    have firstOf_s1 := (f_s1 115 (by omega)).trans z122
    have rounds_s1 := (f_s1 116 (by omega)).trans z123
    have counts_s1 := (f_s1 117 (by omega)).trans z124
    have countsFirst_s1 := (f_s1 118 (by omega)).trans z125
    exact go_iretQ hF hr hlk hQ dX11_draws_28 ⟨rfl, ⟨_, _, _, _, _, _, _, _, _, _, _, _, _, x_s1, nw_s1, pa_s1, u_s1, sn_s1, eo_s1, bo_s1, tx_s1, rr_s1, ⟨⟨_, readSign_s1⟩, ⟨_, open_s1⟩, ⟨_, isBarred_s1⟩, ⟨_, ages_s1⟩, ⟨_, entered_s1⟩, ⟨_, first_s1⟩, ⟨_, mustAt_s1⟩, ⟨_, mayAt_s1⟩, ⟨_, sums_s1⟩, ⟨_, sumsFirst_s1⟩, ⟨_, took_s1⟩, ⟨_, next_s1⟩, ⟨_, inOf_s1⟩, ⟨_, firstOf_s1⟩, ⟨_, rounds_s1⟩, ⟨_, counts_s1⟩, ⟨_, countsFirst_s1⟩⟩, hnw, hpa, ⟨by rw [badF_at, hrf.1], by rw [badF_ne (by decide) (by rw [hrf.2.1]; exact hxn)]; exact hrf.2.1, by rw [badF_ne (by decide) (by rw [hrf.2.2]; exact hxf)]; exact hrf.2.2⟩, hrr, hMA⟩, (fun jj hjj => by rw [f_s1 jj (by omega)])⟩
  · refine go_iload_n (pc := 12) hF dX11_draws_12 2 rfl ?_
    refine go_i2l (pc := 13) hF dX11_draws_13 (by omega) ?_
    refine go_lconst (pc := 14) (v := 0) hF dX11_draws_14 (by decide) ?_
    refine go_ldc2 (pc := 15) hF kc_X11_303 dX11_draws_15 ?_
    refine go_callSP (pc := 18) hF [vl x₉, vl 0, vl 20] [] ms_X11_89 dX11_draws_18 (c_X11_in E N σ x₉ 0 20 (by omega) ⟨by decide, by decide⟩ ⟨by decide, by decide⟩) rfl rfl (Nat.le_of_ble_eq_true rfl) (by decide) ⟨Nat.zero_le _, Nat.zero_le _⟩ ?_
    refine go_if_ne (pc := 21) hF 29 dX11_draws_21 (by decide) (bI_rg _) (fun bq21 => ?_) (fun bq21 => ?_)
    · exact absurd ⟨Decidable.not_not.mp (fun z₉ => bq9 ((bI_0 _).mpr z₉)), Decidable.not_not.mp (fun z₉ => bq21 ((bI_0 _).mpr z₉))⟩ hno
    · refine go_aload_n (pc := 24) hF dX11_draws_24 0 rfl ?_
      refine go_callVI (pc := 25) hF [] [] mv_X11_120 dX11_draws_25 (by omega) z101 (c_X11_bad E N σ hN₉ z101 z104) rfl rfl (Nat.le_of_ble_eq_true rfl) (by decide) ⟨Nat.zero_le _, Nat.zero_le _⟩ (fun r_s2 s2₉ h_s2 => ?_)
      obtain ⟨e_s2, u_s2, f_s2⟩ := h_s2
      subst e_s2
      have x_s2 := (f_s2 94 (by omega)).trans z101
      have nw_s2 := (f_s2 95 (by omega)).trans z102
      have pa_s2 := (f_s2 96 (by omega)).trans z103
      have sn_s2 := (f_s2 98 (by omega)).trans z105
      have eo_s2 := (f_s2 99 (by omega)).trans z106
      have bo_s2 := (f_s2 100 (by omega)).trans z107
      have tx_s2 := (f_s2 101 (by omega)).trans z108
      have rr_s2 := (f_s2 119 (by omega)).trans z126
      have readSign_s2 := (f_s2 102 (by omega)).trans z109
      have open_s2 := (f_s2 103 (by omega)).trans z110
      have isBarred_s2 := (f_s2 104 (by omega)).trans z111
      have ages_s2 := (f_s2 105 (by omega)).trans z112
      have entered_s2 := (f_s2 106 (by omega)).trans z113
      have first_s2 := (f_s2 107 (by omega)).trans z114
      have mustAt_s2 := (f_s2 108 (by omega)).trans z115
      have mayAt_s2 := (f_s2 109 (by omega)).trans z116
      have sums_s2 := (f_s2 110 (by omega)).trans z117
      have sumsFirst_s2 := (f_s2 111 (by omega)).trans z118
      have took_s2 := (f_s2 112 (by omega)).trans z119
      have next_s2 := (f_s2 113 (by omega)).trans z120
      have inOf_s2 := (f_s2 114 (by omega)).trans z121
      have firstOf_s2 := (f_s2 115 (by omega)).trans z122
      have rounds_s2 := (f_s2 116 (by omega)).trans z123
      have counts_s2 := (f_s2 117 (by omega)).trans z124
      have countsFirst_s2 := (f_s2 118 (by omega)).trans z125
      exact go_iretQ hF hr hlk hQ dX11_draws_28 ⟨rfl, ⟨_, _, _, _, _, _, _, _, _, _, _, _, _, x_s2, nw_s2, pa_s2, u_s2, sn_s2, eo_s2, bo_s2, tx_s2, rr_s2, ⟨⟨_, readSign_s2⟩, ⟨_, open_s2⟩, ⟨_, isBarred_s2⟩, ⟨_, ages_s2⟩, ⟨_, entered_s2⟩, ⟨_, first_s2⟩, ⟨_, mustAt_s2⟩, ⟨_, mayAt_s2⟩, ⟨_, sums_s2⟩, ⟨_, sumsFirst_s2⟩, ⟨_, took_s2⟩, ⟨_, next_s2⟩, ⟨_, inOf_s2⟩, ⟨_, firstOf_s2⟩, ⟨_, rounds_s2⟩, ⟨_, counts_s2⟩, ⟨_, countsFirst_s2⟩⟩, hnw, hpa, ⟨by rw [badF_at, hrf.1], by rw [badF_ne (by decide) (by rw [hrf.2.1]; exact hxn)]; exact hrf.2.1, by rw [badF_ne (by decide) (by rw [hrf.2.2]; exact hxf)]; exact hrf.2.2⟩, hrr, hMA⟩, (fun jj hjj => by rw [f_s2 jj (by omega)])⟩
set_option maxHeartbeats 4000000 in
set_option maxRecDepth 100000 in
theorem c_X11_draws_ok (E : En) (N : Nat) (σ : Nat → va_E) (r₉ u₉ kd pr : Int) (yr yw yk yp : Int → Int) (hs : Int) (tx : Int → Int) (tl : Int) (t₉ : Tr) (xb xn xf q1₉ q2₉ q3₉ : Int) (hN₉ : 120 ≤ N) (hO : okS r₉ u₉ kd pr yr yw yk yp hs tx tl t₉ xb xn xf q1₉ q2₉ q3₉) (hS₉ : mdS E σ r₉ u₉ kd pr yr yw yk yp hs tx tl t₉ xb xn xf q1₉ q2₉ q3₉) (k9 x₉ : Int) (hk9 : 0 ≤ k9 ∧ k9 ≤ 999999) (hx : 0 ≤ x₉ ∧ x₉ ≤ 20) : CI E M_X11_draws 16 [vr E 94, vi k9, vi x₉] N σ (fun y₉ σ' => y₉ = dw t₉ r₉ u₉ kd pr x₉.toNat k9 0 ∧ mdS E σ' r₉ u₉ kd pr yr yw yk yp hs tx tl t₉ xb xn xf q1₉ q2₉ q3₉ ∧ ∀ q₉, q₉ < 94 → σ' q₉ = σ q₉) := by
  refine CT.of2 (own := RX11) (by decide) rfl (Nat.le_of_ble_eq_true rfl) ?_
  intro p e R s m args below meth c Q hF hr hlk hnm hz hR hQ
  obtain ⟨nw, pa, rf, sn, eo, bo, rr, rz, hi₉, mi, ak, rt, cn, z101, z102, z103, z104, z105, z106, z107, z108, z126, ⟨⟨g109, z109⟩, ⟨g110, z110⟩, ⟨g111, z111⟩, ⟨g112, z112⟩, ⟨g113, z113⟩, ⟨g114, z114⟩, ⟨g115, z115⟩, ⟨g116, z116⟩, ⟨g117, z117⟩, ⟨g118, z118⟩, ⟨g119, z119⟩, ⟨g120, z120⟩, ⟨g121, z121⟩, ⟨g122, z122⟩, ⟨g123, z123⟩, ⟨g124, z124⟩, ⟨g125, z125⟩⟩, hnw, hpa, hrf, hrr, hMA⟩ := hS₉
  obtain ⟨⟨hrw, hu, hkd, hpr⟩, hhs, hyy, htl, htx, hxb, hxn, hxf, hq1, hq2, hq3, hwf, hdp3, hl80, hl24⟩ := hO
  have hrw3 := vrow_up hrw (show u₉ ≤ 3 by omega)
  have hrr0 := hrw.1
  obtain ⟨n0₉, n1₉, n2₉, n3₉, n4₉, n5₉, n6₉⟩ := id hnw
  have gl := mLong_rg r₉
  have hsg0 := MA_sg t₉ hwf 0 hMA
  have hsg : ∀ p : Int, 0 ≤ p → p < (tLen t₉ : Int) → 40 ≤ sn p ∧ sn p ≤ 124 := fun p a₉ b₉ => hsg0 p a₉ (by omega)
  have z107w : σ 100 = ai E 80 (fun z₉ => wr₉ (bo z₉)) := by rw [ai_wr]; exact z107
  have hMAw := MA_wrb t₉ hwf 0 hMA (by omega) (by omega)
  refine go_iload_n (pc := 0) hF dX11_draws_0 1 rfl ?_
  refine go_i2l (pc := 1) hF dX11_draws_1 (by omega) ?_
  refine go_lconst (pc := 2) (v := 0) hF dX11_draws_2 (by decide) ?_
  refine go_ldc2 (pc := 3) hF kc_X11_301 dX11_draws_3 ?_
  refine go_callSP (pc := 6) hF [vl k9, vl 0, vl 999999] [] ms_X11_89 dX11_draws_6 (c_X11_in E N σ k9 0 999999 (by omega) ⟨by decide, by decide⟩ ⟨by decide, by decide⟩) rfl rfl (Nat.le_of_ble_eq_true rfl) (by decide) ⟨Nat.zero_le _, Nat.zero_le _⟩ ?_
  refine go_if_eq (pc := 9) hF 24 dX11_draws_9 (by decide) (bI_rg _) (fun bq9 => ?_) (fun bq9 => ?_)
  · exact absurd ((bI_0 _).mp bq9) (by omega)
  · refine go_iload_n (pc := 12) hF dX11_draws_12 2 rfl ?_
    refine go_i2l (pc := 13) hF dX11_draws_13 (by omega) ?_
    refine go_lconst (pc := 14) (v := 0) hF dX11_draws_14 (by decide) ?_
    refine go_ldc2 (pc := 15) hF kc_X11_303 dX11_draws_15 ?_
    refine go_callSP (pc := 18) hF [vl x₉, vl 0, vl 20] [] ms_X11_89 dX11_draws_18 (c_X11_in E N σ x₉ 0 20 (by omega) ⟨by decide, by decide⟩ ⟨by decide, by decide⟩) rfl rfl (Nat.le_of_ble_eq_true rfl) (by decide) ⟨Nat.zero_le _, Nat.zero_le _⟩ ?_
    refine go_if_ne (pc := 21) hF 29 dX11_draws_21 (by decide) (bI_rg _) (fun bq21 => ?_) (fun bq21 => ?_)
    · refine go_iload_n (pc := 29) hF dX11_draws_29 1 rfl ?_
      refine go_i2l (pc := 30) hF dX11_draws_30 (by omega) ?_
      refine go_lstore_n (pc := 31) hF [(3, vl k9), (0, vr E 94), (1, vi k9), (2, vi x₉)] dX11_draws_31 rfl (by decide) ?_
      refine go_iconst (pc := 32) hF dX11_draws_32 ?_
      refine go_istore (pc := 33) hF [(5, vi 0), (3, vl k9), (0, vr E 94), (1, vi k9), (2, vi x₉)] dX11_draws_33 rfl (by decide) ?_
      refine go_iconst (pc := 35) hF dX11_draws_35 ?_
      refine go_istore (pc := 36) hF [(6, vi 0), (5, vi 0), (3, vl k9), (0, vr E 94), (1, vi k9), (2, vi x₉)] dX11_draws_36 rfl (by decide) ?_
      have loop₉ : ∀ (n₉ : Nat) (j₉ : Nat) (xx : Int) (mo : Int) (e1₉ : Int) (e2₉ : Int) (e3₉ : Int) (e4₉ : Int) (e5₉ : Int) (g9 : Int → Int) (τ : Nat → va_E), j₉ + n₉ = 22 → (j₉ : Int) ≤ x₉ → (0 ≤ xx ∧ xx < 2147483648) → rg mo → dw t₉ r₉ u₉ kd pr (x₉.toNat - j₉) xx mo = dw t₉ r₉ u₉ kd pr x₉.toNat k9 0 → τ 94 = ob 10 [vr E 95, vr E 96, vi hs, vr E 97, vr E 98, vr E 99, vr E 100, vi (tLen t₉ : Int), vr E 101, vi tl, vr E 102, vi rz, vr E 103, vr E 104, vr E 105, vr E 106, vr E 107, vr E 108, vr E 109, vr E 110, vr E 111, vr E 112, vr E 113, vr E 114, vr E 115, vr E 116, vr E 117, vr E 118, vr E 119, vi e1₉, vi e2₉, vi e3₉, vi e4₉, vi e5₉] → τ 116 = ai E 3 g9 → (∀ jj : Nat, (jj ≠ 94 ∧ jj ≠ 116) → τ jj = σ jj) → Go E p e R s m args below meth c Q 8 (0, 0) N τ [(6, vi (j₉ : Int)), (5, vi mo), (3, vl xx), (0, vr E 94), (1, vi k9), (2, vi x₉)] [] 38 := by
        intro n₉
        induction n₉ with
        | zero => intro j₉ xx mo e1₉ e2₉ e3₉ e4₉ e5₉ g9 τ hfu hj hxx hmo hdw c_x_loop c_rounds_loop fr_loop; exfalso; omega
        | succ n₉ ih₉ =>
          intro j₉ xx mo e1₉ e2₉ e3₉ e4₉ e5₉ g9 τ hfu hj hxx hmo hdw c_x_loop c_rounds_loop fr_loop
          have nw_loop := (fr_loop 95 (by omega)).trans z102
          have pa_loop := (fr_loop 96 (by omega)).trans z103
          have rf_loop := (fr_loop 97 (by omega)).trans z104
          have sn_loop := (fr_loop 98 (by omega)).trans z105
          have eo_loop := (fr_loop 99 (by omega)).trans z106
          have bo_loop := (fr_loop 100 (by omega)).trans z107w
          have tx_loop := (fr_loop 101 (by omega)).trans z108
          have rr_loop := (fr_loop 119 (by omega)).trans z126
          have readSign_loop := (fr_loop 102 (by omega)).trans z109
          have open_loop := (fr_loop 103 (by omega)).trans z110
          have isBarred_loop := (fr_loop 104 (by omega)).trans z111
          have ages_loop := (fr_loop 105 (by omega)).trans z112
          have entered_loop := (fr_loop 106 (by omega)).trans z113
          have first_loop := (fr_loop 107 (by omega)).trans z114
          have mustAt_loop := (fr_loop 108 (by omega)).trans z115
          have mayAt_loop := (fr_loop 109 (by omega)).trans z116
          have sums_loop := (fr_loop 110 (by omega)).trans z117
          have sumsFirst_loop := (fr_loop 111 (by omega)).trans z118
          have took_loop := (fr_loop 112 (by omega)).trans z119
          have next_loop := (fr_loop 113 (by omega)).trans z120
          have inOf_loop := (fr_loop 114 (by omega)).trans z121
          have firstOf_loop := (fr_loop 115 (by omega)).trans z122
          have counts_loop := (fr_loop 117 (by omega)).trans z124
          have countsFirst_loop := (fr_loop 118 (by omega)).trans z125
          refine go_iload (pc := 38) hF dX11_draws_38 0 rfl ?_
          refine go_iload_n (pc := 40) hF dX11_draws_40 5 rfl ?_
          refine go_icmp_ge (pc := 41) hF 100 dX11_draws_41 (by decide) (by omega) (by omega) (fun bq41 => ?_) (fun bq41 => ?_)
          · refine go_iload (pc := 100) hF dX11_draws_100 1 rfl ?_
            have ej : x₉.toNat - j₉ = 0 := by omega
            rw [ej] at hdw
            exact go_iretQ hF hr hlk hQ dX11_draws_102 ⟨hdw, ⟨_, _, _, _, _, _, _, _, _, _, _, _, _, c_x_loop, nw_loop, pa_loop, rf_loop, sn_loop, eo_loop, bo_loop, tx_loop, rr_loop, ⟨⟨_, readSign_loop⟩, ⟨_, open_loop⟩, ⟨_, isBarred_loop⟩, ⟨_, ages_loop⟩, ⟨_, entered_loop⟩, ⟨_, first_loop⟩, ⟨_, mustAt_loop⟩, ⟨_, mayAt_loop⟩, ⟨_, sums_loop⟩, ⟨_, sumsFirst_loop⟩, ⟨_, took_loop⟩, ⟨_, next_loop⟩, ⟨_, inOf_loop⟩, ⟨_, firstOf_loop⟩, ⟨_, c_rounds_loop⟩, ⟨_, counts_loop⟩, ⟨_, countsFirst_loop⟩⟩, hnw, hpa, hrf, hrr, hMAw⟩, (fun jj hjj => by rw [fr_loop jj (by omega)])⟩
          · refine go_lload_n (pc := 44) hF dX11_draws_44 2 rfl ?_
            refine go_ldc2 (pc := 45) hF kc_X11_305 dX11_draws_45 ?_
            refine go_lmul (pc := 48) hF dX11_draws_48 ?_
            refine go_ldc2 (pc := 49) hF kc_X11_307 dX11_draws_49 ?_
            refine go_ladd (pc := 52) hF dX11_draws_52 ?_
            refine go_ldc2 (pc := 53) hF kc_X11_309 dX11_draws_53 ?_
            refine go_lrem (pc := 56) hF dX11_draws_56 (by omega) (by decide) ?_
            have eX : (xx * 1103515245 + 12345) % 2147483648 = dwX xx := rfl
            rw [eX]
            have gX : 0 ≤ dwX xx ∧ dwX xx < 2147483648 := by unfold dwX; omega
            refine go_lstore_n (pc := 57) hF [(3, vl (dwX xx)), (6, vi (j₉ : Int)), (5, vi mo), (0, vr E 94), (1, vi k9), (2, vi x₉)] dX11_draws_57 rfl (by decide) ?_
            refine go_aload_n (pc := 58) hF dX11_draws_58 3 rfl ?_
            refine go_aload_n (pc := 59) hF dX11_draws_59 3 rfl ?_
            refine go_callVP (pc := 60) hF [] [vr E 94] mv_X11_127 dX11_draws_60 (by omega) c_x_loop (c_X11_rowNow E N τ hN₉ c_x_loop nw_loop hnw hrw3) rfl rfl (Nat.le_of_ble_eq_true rfl) (by decide) ⟨Nat.zero_le _, Nat.zero_le _⟩ ?_
            refine go_lload_n (pc := 63) hF dX11_draws_63 0 rfl ?_
            refine go_ldc2 (pc := 64) hF kc_X11_311 dX11_draws_64 ?_
            refine go_ldiv (pc := 67) hF dX11_draws_67 (by omega) (by decide) ?_
            refine go_ldc2 (pc := 68) hF kc_X11_313 dX11_draws_68 ?_
            refine go_lrem (pc := 71) hF dX11_draws_71 (by omega) (by decide) ?_
            refine go_l2i (pc := 72) hF dX11_draws_72 ?_
            have eC₉ : dwX xx / 1024 % 1048576 = dwC (dwX xx) := rfl
            rw [eC₉]
            have gC : 0 ≤ dwC (dwX xx) ∧ dwC (dwX xx) < 1048576 := by unfold dwC; omega
            refine go_callVI (pc := 73) hF [vi r₉, vi (dwC (dwX xx))] [] mv_X11_295 dX11_draws_73 (by omega) c_x_loop (c_X11_run E N τ hN₉ c_x_loop nw_loop sn_loop eo_loop bo_loop c_rounds_loop hwf hMAw hl80 hdp3 (fun q₉ _ _ => wr_rg _) r₉ u₉ kd pr (dwC (dwX xx)) n4₉ n5₉ n6₉ hu hkd hpr hrw (by omega)) rfl rfl (Nat.le_of_ble_eq_true rfl) (by decide) ⟨Nat.zero_le _, Nat.zero_le _⟩ (fun r_s1 s1₉ h_s1 => ?_)
            obtain ⟨e_s1, ux_s1, ⟨ro_s1, ur_s1⟩, f_s1⟩ := h_s1
            subst e_s1
            have nw_s1 := (f_s1 95 (by omega)).trans nw_loop
            have pa_s1 := (f_s1 96 (by omega)).trans pa_loop
            have rf_s1 := (f_s1 97 (by omega)).trans rf_loop
            have sn_s1 := (f_s1 98 (by omega)).trans sn_loop
            have eo_s1 := (f_s1 99 (by omega)).trans eo_loop
            have bo_s1 := (f_s1 100 (by omega)).trans bo_loop
            have tx_s1 := (f_s1 101 (by omega)).trans tx_loop
            have rr_s1 := (f_s1 119 (by omega)).trans rr_loop
            have readSign_s1 := (f_s1 102 (by omega)).trans readSign_loop
            have open_s1 := (f_s1 103 (by omega)).trans open_loop
            have isBarred_s1 := (f_s1 104 (by omega)).trans isBarred_loop
            have ages_s1 := (f_s1 105 (by omega)).trans ages_loop
            have entered_s1 := (f_s1 106 (by omega)).trans entered_loop
            have first_s1 := (f_s1 107 (by omega)).trans first_loop
            have mustAt_s1 := (f_s1 108 (by omega)).trans mustAt_loop
            have mayAt_s1 := (f_s1 109 (by omega)).trans mayAt_loop
            have sums_s1 := (f_s1 110 (by omega)).trans sums_loop
            have sumsFirst_s1 := (f_s1 111 (by omega)).trans sumsFirst_loop
            have took_s1 := (f_s1 112 (by omega)).trans took_loop
            have next_s1 := (f_s1 113 (by omega)).trans next_loop
            have inOf_s1 := (f_s1 114 (by omega)).trans inOf_loop
            have firstOf_s1 := (f_s1 115 (by omega)).trans firstOf_loop
            have counts_s1 := (f_s1 117 (by omega)).trans counts_loop
            have countsFirst_s1 := (f_s1 118 (by omega)).trans countsFirst_loop
            have gw := wr_rg ((rn u₉ kd pr (dwC (dwX xx)) t₉ (r₉, 0, 0, 0, 0)).2.1)
            rw [← vi_wr ((rn u₉ kd pr (dwC (dwX xx)) t₉ (r₉, 0, 0, 0, 0)).2.1)]
            refine go_istore (pc := 76) hF [(7, vi (wr₉ ((rn u₉ kd pr (dwC (dwX xx)) t₉ (r₉, 0, 0, 0, 0)).2.1))), (3, vl (dwX xx)), (6, vi (j₉ : Int)), (5, vi mo), (0, vr E 94), (1, vi k9), (2, vi x₉)] dX11_draws_76 rfl (by decide) ?_
            refine go_iload (pc := 78) hF dX11_draws_78 0 rfl ?_
            refine go_iload (pc := 80) hF dX11_draws_80 3 rfl ?_
            refine go_icmp_le (pc := 82) hF 90 dX11_draws_82 (by decide) (by omega) (by omega) (fun bq82 => ?_) (fun bq82 => ?_)
            · refine go_iload (pc := 90) hF dX11_draws_90 3 rfl ?_
              refine go_istore (pc := 92) hF [(5, vi mo), (7, vi (wr₉ ((rn u₉ kd pr (dwC (dwX xx)) t₉ (r₉, 0, 0, 0, 0)).2.1))), (3, vl (dwX xx)), (6, vi (j₉ : Int)), (0, vr E 94), (1, vi k9), (2, vi x₉)] dX11_draws_92 rfl (by decide) ?_
              refine go_lvE [(5, vi (max mo (wr₉ ((rn u₉ kd pr (dwC (dwX xx)) t₉ (r₉, 0, 0, 0, 0)).2.1)))), (7, vi (wr₉ ((rn u₉ kd pr (dwC (dwX xx)) t₉ (r₉, 0, 0, 0, 0)).2.1))), (3, vl (dwX xx)), (6, vi (j₉ : Int)), (0, vr E 94), (1, vi k9), (2, vi x₉)] (by rw [show max mo (wr₉ ((rn u₉ kd pr (dwC (dwX xx)) t₉ (r₉, 0, 0, 0, 0)).2.1)) = mo by omega]) ?_
              refine go_iinc (pc := 94) hF [(6, vi ((j₉ : Int) + 1)), (5, vi (max mo (wr₉ ((rn u₉ kd pr (dwC (dwX xx)) t₉ (r₉, 0, 0, 0, 0)).2.1)))), (7, vi (wr₉ ((rn u₉ kd pr (dwC (dwX xx)) t₉ (r₉, 0, 0, 0, 0)).2.1))), (3, vl (dwX xx)), (0, vr E 94), (1, vi k9), (2, vi x₉)] dX11_draws_94 3 rfl rfl (by decide) ?_
              refine go_goto (pc := 97) hF 38 dX11_draws_97 (by decide) ?_
              refine go_lv [(6, vi ((j₉ : Int) + 1)), (5, vi (max mo (wr₉ ((rn u₉ kd pr (dwC (dwX xx)) t₉ (r₉, 0, 0, 0, 0)).2.1)))), (3, vl (dwX xx)), (0, vr E 94), (1, vi k9), (2, vi x₉)] [0, 1, 3, 4, 5, 6] rfl ?_
              exact ih₉ (j₉ + 1) (dwX xx) _ _ _ _ _ _ _ s1₉ (by omega) (by omega) gX (by omega) (by rw [← hdw, show x₉.toNat - j₉ = (x₉.toNat - (j₉ + 1)) + 1 by omega]; rfl) ux_s1 ur_s1 (fun jj hjj => by rw [f_s1 jj (by omega), fr_loop jj (by omega)])
            · refine go_iload (pc := 85) hF dX11_draws_85 0 rfl ?_
              refine go_goto (pc := 87) hF 92 dX11_draws_87 (by decide) ?_
              refine go_istore (pc := 92) hF [(5, vi (wr₉ ((rn u₉ kd pr (dwC (dwX xx)) t₉ (r₉, 0, 0, 0, 0)).2.1))), (7, vi (wr₉ ((rn u₉ kd pr (dwC (dwX xx)) t₉ (r₉, 0, 0, 0, 0)).2.1))), (3, vl (dwX xx)), (6, vi (j₉ : Int)), (0, vr E 94), (1, vi k9), (2, vi x₉)] dX11_draws_92 rfl (by decide) ?_
              refine go_lvE [(5, vi (max mo (wr₉ ((rn u₉ kd pr (dwC (dwX xx)) t₉ (r₉, 0, 0, 0, 0)).2.1)))), (7, vi (wr₉ ((rn u₉ kd pr (dwC (dwX xx)) t₉ (r₉, 0, 0, 0, 0)).2.1))), (3, vl (dwX xx)), (6, vi (j₉ : Int)), (0, vr E 94), (1, vi k9), (2, vi x₉)] (by rw [show max mo (wr₉ ((rn u₉ kd pr (dwC (dwX xx)) t₉ (r₉, 0, 0, 0, 0)).2.1)) = wr₉ ((rn u₉ kd pr (dwC (dwX xx)) t₉ (r₉, 0, 0, 0, 0)).2.1) by omega]) ?_
              refine go_iinc (pc := 94) hF [(6, vi ((j₉ : Int) + 1)), (5, vi (max mo (wr₉ ((rn u₉ kd pr (dwC (dwX xx)) t₉ (r₉, 0, 0, 0, 0)).2.1)))), (7, vi (wr₉ ((rn u₉ kd pr (dwC (dwX xx)) t₉ (r₉, 0, 0, 0, 0)).2.1))), (3, vl (dwX xx)), (0, vr E 94), (1, vi k9), (2, vi x₉)] dX11_draws_94 3 rfl rfl (by decide) ?_
              refine go_goto (pc := 97) hF 38 dX11_draws_97 (by decide) ?_
              refine go_lv [(6, vi ((j₉ : Int) + 1)), (5, vi (max mo (wr₉ ((rn u₉ kd pr (dwC (dwX xx)) t₉ (r₉, 0, 0, 0, 0)).2.1)))), (3, vl (dwX xx)), (0, vr E 94), (1, vi k9), (2, vi x₉)] [0, 1, 3, 4, 5, 6] rfl ?_
              exact ih₉ (j₉ + 1) (dwX xx) _ _ _ _ _ _ _ s1₉ (by omega) (by omega) gX (by omega) (by rw [← hdw, show x₉.toNat - j₉ = (x₉.toNat - (j₉ + 1)) + 1 by omega]; rfl) ux_s1 ur_s1 (fun jj hjj => by rw [f_s1 jj (by omega), fr_loop jj (by omega)])
      exact loop₉ 22 0 k9 0 hi₉ mi ak rt cn g123 σ rfl (by omega) (by omega) (by omega) rfl z101 z123 (fun _ _ => rfl)
    · exact absurd ((bI_0 _).mp bq21) (by omega)
