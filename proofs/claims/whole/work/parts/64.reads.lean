/-! The reference₉: reads₉. -/
set_option maxHeartbeats 4000000 in
set_option maxRecDepth 100000 in
theorem c_X11_reads_no (E : En) (N : Nat) (σ : Nat → va_E) (r₉ u₉ kd pr : Int) (yr yw yk yp : Int → Int) (hs : Int) (tx : Int → Int) (tl : Int) (t₉ : Tr) (xb xn xf q1₉ q2₉ q3₉ : Int) (hN₉ : 120 ≤ N) (hO : okS r₉ u₉ kd pr yr yw yk yp hs tx tl t₉ xb xn xf q1₉ q2₉ q3₉) (hS₉ : mdS E σ r₉ u₉ kd pr yr yw yk yp hs tx tl t₉ xb xn xf q1₉ q2₉ q3₉) (hno : zEnd tx tl ≠ -1) : CI E M_X11_reads 16 [vr E 94] N σ (fun y₉ σ' => y₉ = (-10 - zEnd tx tl) ∧ mdS E σ' r₉ u₉ kd pr yr yw yk yp hs tx tl t₉ xb xn xf q1₉ q2₉ q3₉ ∧ ∀ q₉, q₉ < 94 → σ' q₉ = σ q₉) := by
  refine CT.of2 (own := RX11) (by decide) rfl (Nat.le_of_ble_eq_true rfl) ?_
  intro p e R s m args below meth c Q hF hr hlk hnm hz hR hQ
  obtain ⟨nw, pa, rf, sn, eo, bo, rr, rz, hi₉, mi, ak, rt, cn, z101, z102, z103, z104, z105, z106, z107, z108, z126, ⟨⟨g109, z109⟩, ⟨g110, z110⟩, ⟨g111, z111⟩, ⟨g112, z112⟩, ⟨g113, z113⟩, ⟨g114, z114⟩, ⟨g115, z115⟩, ⟨g116, z116⟩, ⟨g117, z117⟩, ⟨g118, z118⟩, ⟨g119, z119⟩, ⟨g120, z120⟩, ⟨g121, z121⟩, ⟨g122, z122⟩, ⟨g123, z123⟩, ⟨g124, z124⟩, ⟨g125, z125⟩⟩, hnw, hpa, hrf, hrr, hMA⟩ := hS₉
  obtain ⟨⟨hrw, hu, hkd, hpr⟩, hhs, hyy, htl, htx, hxb, hxn, hxf, hq1, hq2, hq3, hwf, hdp3, hl80, hl24⟩ := hO
  have hrw3 := vrow_up hrw (show u₉ ≤ 3 by omega)
  have hrr0 := hrw.1
  obtain ⟨n0₉, n1₉, n2₉, n3₉, n4₉, n5₉, n6₉⟩ := id hnw
  have gl := mLong_rg r₉
  have gze := zEnd_rg tx htl
  refine go_aload_n (pc := 0) hF dX11_reads_0 0 rfl ?_
  refine go_callVI (pc := 1) hF [] [] mv_X11_174 dX11_reads_1 (by omega) z101 (c_X11_faultOf E N σ hN₉ z101 z108 z109 z110 z111 htl htx) rfl rfl (Nat.le_of_ble_eq_true rfl) (by decide) ⟨Nat.zero_le _, Nat.zero_le _⟩ (fun r_s1 s1₉ h_s1 => ?_)
  obtain ⟨e_s1, rs_s1, op_s1, ib_s1, rz_s1, ⟨ux_s1, ur_s1, uo_s1, ui_s1, f_s1⟩, ht_s1⟩ := h_s1
  subst e_s1
  have nw_s1 := (f_s1 95 (by omega)).trans z102
  have pa_s1 := (f_s1 96 (by omega)).trans z103
  have rf_s1 := (f_s1 97 (by omega)).trans z104
  have sn_s1 := (f_s1 98 (by omega)).trans z105
  have eo_s1 := (f_s1 99 (by omega)).trans z106
  have bo_s1 := (f_s1 100 (by omega)).trans z107
  have tx_s1 := (f_s1 101 (by omega)).trans z108
  have rr_s1 := (f_s1 119 (by omega)).trans z126
  have ages_s1 := (f_s1 105 (by omega)).trans z112
  have entered_s1 := (f_s1 106 (by omega)).trans z113
  have first_s1 := (f_s1 107 (by omega)).trans z114
  have mustAt_s1 := (f_s1 108 (by omega)).trans z115
  have mayAt_s1 := (f_s1 109 (by omega)).trans z116
  have sums_s1 := (f_s1 110 (by omega)).trans z117
  have sumsFirst_s1 := (f_s1 111 (by omega)).trans z118
  have took_s1 := (f_s1 112 (by omega)).trans z119
  have next_s1 := (f_s1 113 (by omega)).trans z120
  have inOf_s1 := (f_s1 114 (by omega)).trans z121
  have firstOf_s1 := (f_s1 115 (by omega)).trans z122
  have rounds_s1 := (f_s1 116 (by omega)).trans z123
  have counts_s1 := (f_s1 117 (by omega)).trans z124
  have countsFirst_s1 := (f_s1 118 (by omega)).trans z125
  refine go_istore_n (pc := 4) hF [(1, vi (zEnd tx tl)), (0, vr E 94)] dX11_reads_4 rfl (by decide) ?_
  refine go_iload_n (pc := 5) hF dX11_reads_5 0 rfl ?_
  refine go_iconst (pc := 6) hF dX11_reads_6 ?_
  refine go_icmp_eq (pc := 7) hF 15 dX11_reads_7 (by decide) (by omega) ⟨by decide, by decide⟩ (fun bq7 => ?_) (fun bq7 => ?_)
  · exact absurd bq7 hno
  · refine go_bipush (pc := 10) hF dX11_reads_10 (by decide) ?_
    refine go_iload_n (pc := 12) hF dX11_reads_12 0 rfl ?_
    refine go_isub (pc := 13) hF dX11_reads_13 ?_
    exact go_iretQ hF hr hlk hQ dX11_reads_14 ⟨rfl, ⟨_, _, _, _, _, _, _, _, _, _, _, _, _, ux_s1, nw_s1, pa_s1, rf_s1, sn_s1, eo_s1, bo_s1, tx_s1, rr_s1, ⟨⟨_, ur_s1⟩, ⟨_, uo_s1⟩, ⟨_, ui_s1⟩, ⟨_, ages_s1⟩, ⟨_, entered_s1⟩, ⟨_, first_s1⟩, ⟨_, mustAt_s1⟩, ⟨_, mayAt_s1⟩, ⟨_, sums_s1⟩, ⟨_, sumsFirst_s1⟩, ⟨_, took_s1⟩, ⟨_, next_s1⟩, ⟨_, inOf_s1⟩, ⟨_, firstOf_s1⟩, ⟨_, rounds_s1⟩, ⟨_, counts_s1⟩, ⟨_, countsFirst_s1⟩⟩, hnw, hpa, hrf, hrr, hMA⟩, (fun jj hjj => by rw [f_s1 jj (by omega)])⟩
set_option maxHeartbeats 4000000 in
set_option maxRecDepth 100000 in
theorem c_X11_reads_yes (E : En) (N : Nat) (σ : Nat → va_E) (r₉ u₉ kd pr : Int) (yr yw yk yp : Int → Int) (hs : Int) (tx : Int → Int) (tl : Int) (t₉ : Tr) (xb xn xf q1₉ q2₉ q3₉ : Int) (hN₉ : 120 ≤ N) (hO : okS r₉ u₉ kd pr yr yw yk yp hs tx tl t₉ xb xn xf q1₉ q2₉ q3₉) (hS₉ : mdS E σ r₉ u₉ kd pr yr yw yk yp hs tx tl t₉ xb xn xf q1₉ q2₉ q3₉) (t9 : Tr) (hz9 : zR tx tl.toNat = .inr ([], t9, 0)) (hyes : zEnd tx tl = -1) (hw9 : wf t9) (hd9 : tDep t9 ≤ 3) (hl9 : tLen t9 ≤ 80) : CI E M_X11_reads 16 [vr E 94] N σ (fun y₉ σ' => y₉ = (tLks t9 : Int) ∧ mdS E σ' r₉ u₉ kd pr yr yw yk yp hs tx tl t9 xb xn xf q1₉ q2₉ q3₉ ∧ ∀ q₉, q₉ < 94 → σ' q₉ = σ q₉) := by
  refine CT.of2 (own := RX11) (by decide) rfl (Nat.le_of_ble_eq_true rfl) ?_
  intro p e R s m args below meth c Q hF hr hlk hnm hz hR hQ
  obtain ⟨nw, pa, rf, sn, eo, bo, rr, rz, hi₉, mi, ak, rt, cn, z101, z102, z103, z104, z105, z106, z107, z108, z126, ⟨⟨g109, z109⟩, ⟨g110, z110⟩, ⟨g111, z111⟩, ⟨g112, z112⟩, ⟨g113, z113⟩, ⟨g114, z114⟩, ⟨g115, z115⟩, ⟨g116, z116⟩, ⟨g117, z117⟩, ⟨g118, z118⟩, ⟨g119, z119⟩, ⟨g120, z120⟩, ⟨g121, z121⟩, ⟨g122, z122⟩, ⟨g123, z123⟩, ⟨g124, z124⟩, ⟨g125, z125⟩⟩, hnw, hpa, hrf, hrr, hMA⟩ := hS₉
  obtain ⟨⟨hrw, hu, hkd, hpr⟩, hhs, hyy, htl, htx, hxb, hxn, hxf, hq1, hq2, hq3, hwf, hdp3, hl80, hl24⟩ := hO
  have hrw3 := vrow_up hrw (show u₉ ≤ 3 by omega)
  have hrr0 := hrw.1
  obtain ⟨n0₉, n1₉, n2₉, n3₉, n4₉, n5₉, n6₉⟩ := id hnw
  have gl := mLong_rg r₉
  have gze := zEnd_rg tx htl
  refine go_aload_n (pc := 0) hF dX11_reads_0 0 rfl ?_
  refine go_callVI (pc := 1) hF [] [] mv_X11_174 dX11_reads_1 (by omega) z101 (c_X11_faultOf E N σ hN₉ z101 z108 z109 z110 z111 htl htx) rfl rfl (Nat.le_of_ble_eq_true rfl) (by decide) ⟨Nat.zero_le _, Nat.zero_le _⟩ (fun r_s1 s1₉ h_s1 => ?_)
  obtain ⟨e_s1, rs_s1, op_s1, ib_s1, rz_s1, ⟨ux_s1, ur_s1, uo_s1, ui_s1, f_s1⟩, ht_s1⟩ := h_s1
  subst e_s1
  have nw_s1 := (f_s1 95 (by omega)).trans z102
  have pa_s1 := (f_s1 96 (by omega)).trans z103
  have rf_s1 := (f_s1 97 (by omega)).trans z104
  have sn_s1 := (f_s1 98 (by omega)).trans z105
  have eo_s1 := (f_s1 99 (by omega)).trans z106
  have bo_s1 := (f_s1 100 (by omega)).trans z107
  have tx_s1 := (f_s1 101 (by omega)).trans z108
  have rr_s1 := (f_s1 119 (by omega)).trans z126
  have ages_s1 := (f_s1 105 (by omega)).trans z112
  have entered_s1 := (f_s1 106 (by omega)).trans z113
  have first_s1 := (f_s1 107 (by omega)).trans z114
  have mustAt_s1 := (f_s1 108 (by omega)).trans z115
  have mayAt_s1 := (f_s1 109 (by omega)).trans z116
  have sums_s1 := (f_s1 110 (by omega)).trans z117
  have sumsFirst_s1 := (f_s1 111 (by omega)).trans z118
  have took_s1 := (f_s1 112 (by omega)).trans z119
  have next_s1 := (f_s1 113 (by omega)).trans z120
  have inOf_s1 := (f_s1 114 (by omega)).trans z121
  have firstOf_s1 := (f_s1 115 (by omega)).trans z122
  have rounds_s1 := (f_s1 116 (by omega)).trans z123
  have counts_s1 := (f_s1 117 (by omega)).trans z124
  have countsFirst_s1 := (f_s1 118 (by omega)).trans z125
  refine go_istore_n (pc := 4) hF [(1, vi (zEnd tx tl)), (0, vr E 94)] dX11_reads_4 rfl (by decide) ?_
  refine go_iload_n (pc := 5) hF dX11_reads_5 0 rfl ?_
  refine go_iconst (pc := 6) hF dX11_reads_6 ?_
  refine go_icmp_eq (pc := 7) hF 15 dX11_reads_7 (by decide) (by omega) ⟨by decide, by decide⟩ (fun bq7 => ?_) (fun bq7 => ?_)
  · obtain ⟨t8, hz8, hw8, hs8, hr8⟩ := ht_s1 hyes
    have e8 : t9 = t8 := congrArg (fun z₉ => z₉.2.1) (Sum.inr.inj (hz9.symm.trans hz8))
    subst e8
    subst hr8
    have hsg8 := SGT_sg t9 hw9 0 hs8
    have hsg7 : ∀ p : Int, 0 ≤ p → p < (tLen t9 : Int) → 40 ≤ rs_s1 p ∧ rs_s1 p ≤ 124 := fun p a₉ b₉ => hsg8 p a₉ (by omega)
    refine go_iconst (pc := 15) hF dX11_reads_15 ?_
    refine go_istore_n (pc := 16) hF [(2, vi 0), (1, vi (zEnd tx tl)), (0, vr E 94)] dX11_reads_16 rfl (by decide) ?_
    refine go_aload_n (pc := 17) hF dX11_reads_17 2 rfl ?_
    refine go_aload_n (pc := 18) hF dX11_reads_18 2 rfl ?_
    refine go_get (pc := 19) hF fl_X11_165 dX11_reads_19 (by omega) ux_s1 rfl ?_
    refine go_put (pc := 22) hF [vr E 95, vr E 96, vi hs, vr E 97, vr E 98, vr E 99, vr E 100, vi (tLen t9 : Int), vr E 101, vi tl, vr E 102, vi (tLen t9 : Int), vr E 103, vr E 104, vr E 105, vr E 106, vr E 107, vr E 108, vr E 109, vr E 110, vr E 111, vr E 112, vr E 113, vr E 114, vr E 115, vr E 116, vr E 117, vr E 118, vr E 119, vi hi₉, vi mi, vi ak, vi rt, vi cn] fl_X11_177 dX11_reads_22 (by omega) ux_s1 rfl rfl rfl (Nat.le_of_ble_eq_true rfl) (fun s2₉ u_s2 f_s2 => ?_)
    have nw_s2 := (f_s2 95 (by omega)).trans nw_s1
    have pa_s2 := (f_s2 96 (by omega)).trans pa_s1
    have rf_s2 := (f_s2 97 (by omega)).trans rf_s1
    have sn_s2 := (f_s2 98 (by omega)).trans sn_s1
    have eo_s2 := (f_s2 99 (by omega)).trans eo_s1
    have bo_s2 := (f_s2 100 (by omega)).trans bo_s1
    have tx_s2 := (f_s2 101 (by omega)).trans tx_s1
    have rr_s2 := (f_s2 119 (by omega)).trans rr_s1
    have readSign_s2 := (f_s2 102 (by omega)).trans ur_s1
    have open_s2 := (f_s2 103 (by omega)).trans uo_s1
    have isBarred_s2 := (f_s2 104 (by omega)).trans ui_s1
    have ages_s2 := (f_s2 105 (by omega)).trans ages_s1
    have entered_s2 := (f_s2 106 (by omega)).trans entered_s1
    have first_s2 := (f_s2 107 (by omega)).trans first_s1
    have mustAt_s2 := (f_s2 108 (by omega)).trans mustAt_s1
    have mayAt_s2 := (f_s2 109 (by omega)).trans mayAt_s1
    have sums_s2 := (f_s2 110 (by omega)).trans sums_s1
    have sumsFirst_s2 := (f_s2 111 (by omega)).trans sumsFirst_s1
    have took_s2 := (f_s2 112 (by omega)).trans took_s1
    have next_s2 := (f_s2 113 (by omega)).trans next_s1
    have inOf_s2 := (f_s2 114 (by omega)).trans inOf_s1
    have firstOf_s2 := (f_s2 115 (by omega)).trans firstOf_s1
    have rounds_s2 := (f_s2 116 (by omega)).trans rounds_s1
    have counts_s2 := (f_s2 117 (by omega)).trans counts_s1
    have countsFirst_s2 := (f_s2 118 (by omega)).trans countsFirst_s1
    refine go_iconst (pc := 25) hF dX11_reads_25 ?_
    refine go_istore_n (pc := 26) hF [(3, vi 0), (2, vi 0), (1, vi (zEnd tx tl)), (0, vr E 94)] dX11_reads_26 rfl (by decide) ?_
    have s_dot : ∀ (oo dl : Int) (sn eo bo op₉ : Int → Int) (ρ : Nat → va_E), dW E s2₉ ρ sn eo bo op₉ → 0 ≤ oo ∧ oo < (tLen t9 : Int) → 0 ≤ dl ∧ dl ≤ 3 → rs_s1 oo = 46 → (∀ ρ', dW E s2₉ ρ' (up sn oo (rs_s1 oo)) eo bo op₉ → Go E p e R s m args below meth c Q 5 (0, 0) N ρ' [(3, vi (oo + 1)), (2, vi dl), (0, vr E 94)] [] 27) → Go E p e R s m args below meth c Q 5 (0, 0) N ρ [(3, vi oo), (2, vi dl), (0, vr E 94)] [] 27 := by
      intro oo dl sn eo bo op₉ ρ hW ho hd₉ hc₉ hK₉
      obtain ⟨w1₉, w2₉, w3₉, w4₉, fr₉⟩ := hW
      have zx := (fr₉ 94 (by omega)).trans u_s2
      have zr := (fr₉ 102 (by omega)).trans readSign_s2
      refine go_iload_n (pc := 27) hF dX11_reads_27 0 rfl ?_
      refine go_aload_n (pc := 28) hF dX11_reads_28 2 rfl ?_
      refine go_get (pc := 29) hF fl_X11_177 dX11_reads_29 (by omega) zx rfl ?_
      refine go_icmp_ge (pc := 32) hF 150 dX11_reads_32 (by decide) (by omega) (by omega) (fun bq32 => ?_) (fun bq32 => ?_)
      · exact absurd bq32 (by omega)
      · refine go_aload_n (pc := 35) hF dX11_reads_35 2 rfl ?_
        refine go_get (pc := 36) hF fl_X11_31 dX11_reads_36 (by omega) zx rfl ?_
        refine go_iload_n (pc := 39) hF dX11_reads_39 0 rfl ?_
        refine go_iald (pc := 40) hF dX11_reads_40 (by omega) zr (by omega)  ?_
        rw [hc₉]
        refine go_istore (pc := 41) hF [(4, vi 46), (3, vi oo), (2, vi dl), (0, vr E 94)] dX11_reads_41 rfl (by decide) ?_
        refine go_aload_n (pc := 43) hF dX11_reads_43 3 rfl ?_
        refine go_get (pc := 44) hF fl_X11_19 dX11_reads_44 (by omega) zx rfl ?_
        refine go_iload_n (pc := 47) hF dX11_reads_47 1 rfl ?_
        refine go_iload (pc := 48) hF dX11_reads_48 0 rfl ?_
        refine go_iast (pc := 50) hF dX11_reads_50 (by omega) w1₉ (by omega) (fun s3₉ u_s3 f_s3 => ?_)
        have x_s3 := (f_s3 94 (by omega)).trans zx
        have readSign_s3 := (f_s3 102 (by omega)).trans zr
        have endOf_s3 := (f_s3 99 (by omega)).trans w2₉
        have barOf_s3 := (f_s3 100 (by omega)).trans w3₉
        have open_s3 := (f_s3 103 (by omega)).trans w4₉
        refine go_iload (pc := 51) hF dX11_reads_51 0 rfl ?_
        refine go_bipush (pc := 53) hF dX11_reads_53 (by decide) ?_
        refine go_icmp_eq (pc := 55) hF 66 dX11_reads_55 (by decide) ⟨by decide, by decide⟩ ⟨by decide, by decide⟩ (fun bq55 => ?_) (fun bq55 => ?_)
        · exact absurd bq55 (by decide)
        · refine go_iload (pc := 58) hF dX11_reads_58 0 rfl ?_
          refine go_callSP (pc := 60) hF [vi 46] [] ms_X11_171 dX11_reads_60 (show CP E M_X11_isFigure 2 [vi 46] N s3₉ 0 from (by have h := c_X11_isFigure E N s3₉ 46 (by omega); rw [bI_f (by omega)] at h; exact h)) rfl rfl (Nat.le_of_ble_eq_true rfl) (by decide) ⟨Nat.zero_le _, Nat.zero_le _⟩ ?_
          refine go_if_eq (pc := 63) hF 79 dX11_reads_63 (by decide) ⟨by decide, by decide⟩ (fun bq63 => ?_) (fun bq63 => ?_)
          · refine go_iload (pc := 79) hF dX11_reads_79 0 rfl ?_
            refine go_bipush (pc := 81) hF dX11_reads_81 (by decide) ?_
            refine go_icmp_ne (pc := 83) hF 103 dX11_reads_83 (by decide) ⟨by decide, by decide⟩ ⟨by decide, by decide⟩ (fun bq83 => ?_) (fun bq83 => ?_)
            · refine go_iload (pc := 103) hF dX11_reads_103 0 rfl ?_
              refine go_bipush (pc := 105) hF dX11_reads_105 (by decide) ?_
              refine go_icmp_eq (pc := 107) hF 117 dX11_reads_107 (by decide) ⟨by decide, by decide⟩ ⟨by decide, by decide⟩ (fun bq107 => ?_) (fun bq107 => ?_)
              · exact absurd bq107 (by decide)
              · refine go_iload (pc := 110) hF dX11_reads_110 0 rfl ?_
                refine go_bipush (pc := 112) hF dX11_reads_112 (by decide) ?_
                refine go_icmp_ne (pc := 114) hF 144 dX11_reads_114 (by decide) ⟨by decide, by decide⟩ ⟨by decide, by decide⟩ (fun bq114 => ?_) (fun bq114 => ?_)
                · refine go_iinc (pc := 144) hF [(3, vi (oo + 1)), (4, vi 46), (2, vi dl), (0, vr E 94)] dX11_reads_144 1 rfl rfl (by decide) ?_
                  refine go_goto (pc := 147) hF 27 dX11_reads_147 (by decide) ?_
                  refine go_lv [(3, vi (oo + 1)), (2, vi dl), (0, vr E 94)] [0, 2, 3] rfl ?_
                  rw [hc₉] at hK₉
                  exact hK₉ _ ⟨u_s3, endOf_s3, barOf_s3, open_s3, (fun jj hjj => by rw [f_s3 jj (by omega), fr₉ jj (by omega)])⟩
                · exact absurd bq114 (by decide)
            · exact absurd bq83 (by decide)
          · exact absurd bq63 (by decide)
    have s_look : ∀ (oo dl : Int) (sn eo bo op₉ : Int → Int) (ρ : Nat → va_E), dW E s2₉ ρ sn eo bo op₉ → 0 ≤ oo ∧ oo < (tLen t9 : Int) → 0 ≤ dl ∧ dl ≤ 3 → 97 ≤ rs_s1 oo ∧ rs_s1 oo ≤ 102 → (∀ ρ', dW E s2₉ ρ' (up sn oo (rs_s1 oo)) eo bo op₉ → Go E p e R s m args below meth c Q 5 (0, 0) N ρ' [(3, vi (oo + 1)), (2, vi dl), (0, vr E 94)] [] 27) → Go E p e R s m args below meth c Q 5 (0, 0) N ρ [(3, vi oo), (2, vi dl), (0, vr E 94)] [] 27 := by
      intro oo dl sn eo bo op₉ ρ hW ho hd₉ hc₉ hK₉
      obtain ⟨w1₉, w2₉, w3₉, w4₉, fr₉⟩ := hW
      have zx := (fr₉ 94 (by omega)).trans u_s2
      have zr := (fr₉ 102 (by omega)).trans readSign_s2
      refine go_iload_n (pc := 27) hF dX11_reads_27 0 rfl ?_
      refine go_aload_n (pc := 28) hF dX11_reads_28 2 rfl ?_
      refine go_get (pc := 29) hF fl_X11_177 dX11_reads_29 (by omega) zx rfl ?_
      refine go_icmp_ge (pc := 32) hF 150 dX11_reads_32 (by decide) (by omega) (by omega) (fun bq32 => ?_) (fun bq32 => ?_)
      · exact absurd bq32 (by omega)
      · refine go_aload_n (pc := 35) hF dX11_reads_35 2 rfl ?_
        refine go_get (pc := 36) hF fl_X11_31 dX11_reads_36 (by omega) zx rfl ?_
        refine go_iload_n (pc := 39) hF dX11_reads_39 0 rfl ?_
        refine go_iald (pc := 40) hF dX11_reads_40 (by omega) zr (by omega)  ?_
        refine go_istore (pc := 41) hF [(4, vi (rs_s1 oo)), (3, vi oo), (2, vi dl), (0, vr E 94)] dX11_reads_41 rfl (by decide) ?_
        refine go_aload_n (pc := 43) hF dX11_reads_43 3 rfl ?_
        refine go_get (pc := 44) hF fl_X11_19 dX11_reads_44 (by omega) zx rfl ?_
        refine go_iload_n (pc := 47) hF dX11_reads_47 1 rfl ?_
        refine go_iload (pc := 48) hF dX11_reads_48 0 rfl ?_
        refine go_iast (pc := 50) hF dX11_reads_50 (by omega) w1₉ (by omega) (fun s4₉ u_s4 f_s4 => ?_)
        have x_s4 := (f_s4 94 (by omega)).trans zx
        have readSign_s4 := (f_s4 102 (by omega)).trans zr
        have endOf_s4 := (f_s4 99 (by omega)).trans w2₉
        have barOf_s4 := (f_s4 100 (by omega)).trans w3₉
        have open_s4 := (f_s4 103 (by omega)).trans w4₉
        refine go_iload (pc := 51) hF dX11_reads_51 0 rfl ?_
        refine go_bipush (pc := 53) hF dX11_reads_53 (by decide) ?_
        refine go_icmp_eq (pc := 55) hF 66 dX11_reads_55 (by decide) (by omega) ⟨by decide, by decide⟩ (fun bq55 => ?_) (fun bq55 => ?_)
        · exact absurd bq55 (by omega)
        · refine go_iload (pc := 58) hF dX11_reads_58 0 rfl ?_
          refine go_callSP (pc := 60) hF [vi (rs_s1 oo)] [] ms_X11_171 dX11_reads_60 (show CP E M_X11_isFigure 2 [vi (rs_s1 oo)] N s4₉ 0 from (by have h := c_X11_isFigure E N s4₉ (rs_s1 oo) (by omega); rw [bI_f (by omega)] at h; exact h)) rfl rfl (Nat.le_of_ble_eq_true rfl) (by decide) ⟨Nat.zero_le _, Nat.zero_le _⟩ ?_
          refine go_if_eq (pc := 63) hF 79 dX11_reads_63 (by decide) ⟨by decide, by decide⟩ (fun bq63 => ?_) (fun bq63 => ?_)
          · refine go_iload (pc := 79) hF dX11_reads_79 0 rfl ?_
            refine go_bipush (pc := 81) hF dX11_reads_81 (by decide) ?_
            refine go_icmp_ne (pc := 83) hF 103 dX11_reads_83 (by decide) (by omega) ⟨by decide, by decide⟩ (fun bq83 => ?_) (fun bq83 => ?_)
            · refine go_iload (pc := 103) hF dX11_reads_103 0 rfl ?_
              refine go_bipush (pc := 105) hF dX11_reads_105 (by decide) ?_
              refine go_icmp_eq (pc := 107) hF 117 dX11_reads_107 (by decide) (by omega) ⟨by decide, by decide⟩ (fun bq107 => ?_) (fun bq107 => ?_)
              · exact absurd bq107 (by omega)
              · refine go_iload (pc := 110) hF dX11_reads_110 0 rfl ?_
                refine go_bipush (pc := 112) hF dX11_reads_112 (by decide) ?_
                refine go_icmp_ne (pc := 114) hF 144 dX11_reads_114 (by decide) (by omega) ⟨by decide, by decide⟩ (fun bq114 => ?_) (fun bq114 => ?_)
                · refine go_iinc (pc := 144) hF [(3, vi (oo + 1)), (4, vi (rs_s1 oo)), (2, vi dl), (0, vr E 94)] dX11_reads_144 1 rfl rfl (by decide) ?_
                  refine go_goto (pc := 147) hF 27 dX11_reads_147 (by decide) ?_
                  refine go_lv [(3, vi (oo + 1)), (2, vi dl), (0, vr E 94)] [0, 2, 3] rfl ?_
                  exact hK₉ _ ⟨u_s4, endOf_s4, barOf_s4, open_s4, (fun jj hjj => by rw [f_s4 jj (by omega), fr₉ jj (by omega)])⟩
                · exact absurd bq114 (by omega)
            · exact absurd bq83 (by omega)
          · exact absurd bq63 (by decide)
    have s_opA : ∀ (oo dl : Int) (sn eo bo op₉ : Int → Int) (ρ : Nat → va_E), dW E s2₉ ρ sn eo bo op₉ → 0 ≤ oo ∧ oo < (tLen t9 : Int) → 0 ≤ dl ∧ dl ≤ 2 → rs_s1 oo = 40 → (∀ ρ', dW E s2₉ ρ' (up sn oo (rs_s1 oo)) eo bo (up op₉ dl oo) → Go E p e R s m args below meth c Q 5 (0, 0) N ρ' [(3, vi (oo + 1)), (2, vi (dl + 1)), (0, vr E 94)] [] 27) → Go E p e R s m args below meth c Q 5 (0, 0) N ρ [(3, vi oo), (2, vi dl), (0, vr E 94)] [] 27 := by
      intro oo dl sn eo bo op₉ ρ hW ho hd₉ hc₉ hK₉
      obtain ⟨w1₉, w2₉, w3₉, w4₉, fr₉⟩ := hW
      have zx := (fr₉ 94 (by omega)).trans u_s2
      have zr := (fr₉ 102 (by omega)).trans readSign_s2
      refine go_iload_n (pc := 27) hF dX11_reads_27 0 rfl ?_
      refine go_aload_n (pc := 28) hF dX11_reads_28 2 rfl ?_
      refine go_get (pc := 29) hF fl_X11_177 dX11_reads_29 (by omega) zx rfl ?_
      refine go_icmp_ge (pc := 32) hF 150 dX11_reads_32 (by decide) (by omega) (by omega) (fun bq32 => ?_) (fun bq32 => ?_)
      · exact absurd bq32 (by omega)
      · refine go_aload_n (pc := 35) hF dX11_reads_35 2 rfl ?_
        refine go_get (pc := 36) hF fl_X11_31 dX11_reads_36 (by omega) zx rfl ?_
        refine go_iload_n (pc := 39) hF dX11_reads_39 0 rfl ?_
        refine go_iald (pc := 40) hF dX11_reads_40 (by omega) zr (by omega)  ?_
        rw [hc₉]
        refine go_istore (pc := 41) hF [(4, vi 40), (3, vi oo), (2, vi dl), (0, vr E 94)] dX11_reads_41 rfl (by decide) ?_
        refine go_aload_n (pc := 43) hF dX11_reads_43 3 rfl ?_
        refine go_get (pc := 44) hF fl_X11_19 dX11_reads_44 (by omega) zx rfl ?_
        refine go_iload_n (pc := 47) hF dX11_reads_47 1 rfl ?_
        refine go_iload (pc := 48) hF dX11_reads_48 0 rfl ?_
        refine go_iast (pc := 50) hF dX11_reads_50 (by omega) w1₉ (by omega) (fun s5 u_s5 f_s5 => ?_)
        have x_s5 := (f_s5 94 (by omega)).trans zx
        have readSign_s5 := (f_s5 102 (by omega)).trans zr
        have endOf_s5 := (f_s5 99 (by omega)).trans w2₉
        have barOf_s5 := (f_s5 100 (by omega)).trans w3₉
        have open_s5 := (f_s5 103 (by omega)).trans w4₉
        refine go_iload (pc := 51) hF dX11_reads_51 0 rfl ?_
        refine go_bipush (pc := 53) hF dX11_reads_53 (by decide) ?_
        refine go_icmp_eq (pc := 55) hF 66 dX11_reads_55 (by decide) ⟨by decide, by decide⟩ ⟨by decide, by decide⟩ (fun bq55 => ?_) (fun bq55 => ?_)
        · refine go_aload_n (pc := 66) hF dX11_reads_66 3 rfl ?_
          refine go_get (pc := 67) hF fl_X11_34 dX11_reads_67 (by omega) x_s5 rfl ?_
          refine go_iload_n (pc := 70) hF dX11_reads_70 2 rfl ?_
          refine go_iload_n (pc := 71) hF dX11_reads_71 1 rfl ?_
          refine go_iast (pc := 72) hF dX11_reads_72 (by omega) open_s5 (by omega) (fun s6₉ u_s6 f_s6 => ?_)
          have x_s6 := (f_s6 94 (by omega)).trans x_s5
          have readSign_s6 := (f_s6 102 (by omega)).trans readSign_s5
          have sign_s6 := (f_s6 98 (by omega)).trans u_s5
          have endOf_s6 := (f_s6 99 (by omega)).trans endOf_s5
          have barOf_s6 := (f_s6 100 (by omega)).trans barOf_s5
          refine go_iinc (pc := 73) hF [(2, vi (dl + 1)), (4, vi 40), (3, vi oo), (0, vr E 94)] dX11_reads_73 2 rfl rfl (by decide) ?_
          refine go_goto (pc := 76) hF 144 dX11_reads_76 (by decide) ?_
          refine go_iinc (pc := 144) hF [(3, vi (oo + 1)), (2, vi (dl + 1)), (4, vi 40), (0, vr E 94)] dX11_reads_144 2 rfl rfl (by decide) ?_
          refine go_goto (pc := 147) hF 27 dX11_reads_147 (by decide) ?_
          refine go_lv [(3, vi (oo + 1)), (2, vi (dl + 1)), (0, vr E 94)] [0, 1, 3] rfl ?_
          rw [hc₉] at hK₉
          exact hK₉ _ ⟨sign_s6, endOf_s6, barOf_s6, u_s6, (fun jj hjj => by rw [f_s6 jj (by omega), f_s5 jj (by omega), fr₉ jj (by omega)])⟩
        · exact absurd bq55 (by decide)
    have s_opB : ∀ (oo dl : Int) (sn eo bo op₉ : Int → Int) (ρ : Nat → va_E), dW E s2₉ ρ sn eo bo op₉ → 0 ≤ oo ∧ oo < (tLen t9 : Int) → 0 ≤ dl ∧ dl ≤ 2 → 49 ≤ rs_s1 oo ∧ rs_s1 oo ≤ 57 → (∀ ρ', dW E s2₉ ρ' (up sn oo (rs_s1 oo)) eo bo (up op₉ dl oo) → Go E p e R s m args below meth c Q 5 (0, 0) N ρ' [(3, vi (oo + 1)), (2, vi (dl + 1)), (0, vr E 94)] [] 27) → Go E p e R s m args below meth c Q 5 (0, 0) N ρ [(3, vi oo), (2, vi dl), (0, vr E 94)] [] 27 := by
      intro oo dl sn eo bo op₉ ρ hW ho hd₉ hc₉ hK₉
      obtain ⟨w1₉, w2₉, w3₉, w4₉, fr₉⟩ := hW
      have zx := (fr₉ 94 (by omega)).trans u_s2
      have zr := (fr₉ 102 (by omega)).trans readSign_s2
      refine go_iload_n (pc := 27) hF dX11_reads_27 0 rfl ?_
      refine go_aload_n (pc := 28) hF dX11_reads_28 2 rfl ?_
      refine go_get (pc := 29) hF fl_X11_177 dX11_reads_29 (by omega) zx rfl ?_
      refine go_icmp_ge (pc := 32) hF 150 dX11_reads_32 (by decide) (by omega) (by omega) (fun bq32 => ?_) (fun bq32 => ?_)
      · exact absurd bq32 (by omega)
      · refine go_aload_n (pc := 35) hF dX11_reads_35 2 rfl ?_
        refine go_get (pc := 36) hF fl_X11_31 dX11_reads_36 (by omega) zx rfl ?_
        refine go_iload_n (pc := 39) hF dX11_reads_39 0 rfl ?_
        refine go_iald (pc := 40) hF dX11_reads_40 (by omega) zr (by omega)  ?_
        refine go_istore (pc := 41) hF [(4, vi (rs_s1 oo)), (3, vi oo), (2, vi dl), (0, vr E 94)] dX11_reads_41 rfl (by decide) ?_
        refine go_aload_n (pc := 43) hF dX11_reads_43 3 rfl ?_
        refine go_get (pc := 44) hF fl_X11_19 dX11_reads_44 (by omega) zx rfl ?_
        refine go_iload_n (pc := 47) hF dX11_reads_47 1 rfl ?_
        refine go_iload (pc := 48) hF dX11_reads_48 0 rfl ?_
        refine go_iast (pc := 50) hF dX11_reads_50 (by omega) w1₉ (by omega) (fun s7 u_s7 f_s7 => ?_)
        have x_s7 := (f_s7 94 (by omega)).trans zx
        have readSign_s7 := (f_s7 102 (by omega)).trans zr
        have endOf_s7 := (f_s7 99 (by omega)).trans w2₉
        have barOf_s7 := (f_s7 100 (by omega)).trans w3₉
        have open_s7 := (f_s7 103 (by omega)).trans w4₉
        refine go_iload (pc := 51) hF dX11_reads_51 0 rfl ?_
        refine go_bipush (pc := 53) hF dX11_reads_53 (by decide) ?_
        refine go_icmp_eq (pc := 55) hF 66 dX11_reads_55 (by decide) (by omega) ⟨by decide, by decide⟩ (fun bq55 => ?_) (fun bq55 => ?_)
        · exact absurd bq55 (by omega)
        · refine go_iload (pc := 58) hF dX11_reads_58 0 rfl ?_
          refine go_callSP (pc := 60) hF [vi (rs_s1 oo)] [] ms_X11_171 dX11_reads_60 (show CP E M_X11_isFigure 2 [vi (rs_s1 oo)] N s7 1 from (by have h := c_X11_isFigure E N s7 (rs_s1 oo) (by omega); rw [bI_t (by omega)] at h; exact h)) rfl rfl (Nat.le_of_ble_eq_true rfl) (by decide) ⟨Nat.zero_le _, Nat.zero_le _⟩ ?_
          refine go_if_eq (pc := 63) hF 79 dX11_reads_63 (by decide) ⟨by decide, by decide⟩ (fun bq63 => ?_) (fun bq63 => ?_)
          · exact absurd bq63 (by decide)
          · refine go_aload_n (pc := 66) hF dX11_reads_66 3 rfl ?_
            refine go_get (pc := 67) hF fl_X11_34 dX11_reads_67 (by omega) x_s7 rfl ?_
            refine go_iload_n (pc := 70) hF dX11_reads_70 2 rfl ?_
            refine go_iload_n (pc := 71) hF dX11_reads_71 1 rfl ?_
            refine go_iast (pc := 72) hF dX11_reads_72 (by omega) open_s7 (by omega) (fun s8 u_s8 f_s8 => ?_)
            have x_s8 := (f_s8 94 (by omega)).trans x_s7
            have readSign_s8 := (f_s8 102 (by omega)).trans readSign_s7
            have sign_s8 := (f_s8 98 (by omega)).trans u_s7
            have endOf_s8 := (f_s8 99 (by omega)).trans endOf_s7
            have barOf_s8 := (f_s8 100 (by omega)).trans barOf_s7
            refine go_iinc (pc := 73) hF [(2, vi (dl + 1)), (4, vi (rs_s1 oo)), (3, vi oo), (0, vr E 94)] dX11_reads_73 2 rfl rfl (by decide) ?_
            refine go_goto (pc := 76) hF 144 dX11_reads_76 (by decide) ?_
            refine go_iinc (pc := 144) hF [(3, vi (oo + 1)), (2, vi (dl + 1)), (4, vi (rs_s1 oo)), (0, vr E 94)] dX11_reads_144 2 rfl rfl (by decide) ?_
            refine go_goto (pc := 147) hF 27 dX11_reads_147 (by decide) ?_
            refine go_lv [(3, vi (oo + 1)), (2, vi (dl + 1)), (0, vr E 94)] [0, 1, 3] rfl ?_
            exact hK₉ _ ⟨sign_s8, endOf_s8, barOf_s8, u_s8, (fun jj hjj => by rw [f_s8 jj (by omega), f_s7 jj (by omega), fr₉ jj (by omega)])⟩
    have s_bar : ∀ (oo dl o0₉ : Int) (sn eo bo op₉ : Int → Int) (ρ : Nat → va_E), dW E s2₉ ρ sn eo bo op₉ → 0 ≤ oo ∧ oo < (tLen t9 : Int) → 0 ≤ dl ∧ dl ≤ 2 → rs_s1 oo = 124 → op₉ dl = o0₉ → 0 ≤ o0₉ ∧ o0₉ < oo → (∀ ρ', dW E s2₉ ρ' (up sn oo (rs_s1 oo)) eo (up bo o0₉ oo) op₉ → Go E p e R s m args below meth c Q 5 (0, 0) N ρ' [(3, vi (oo + 1)), (2, vi (dl + 1)), (0, vr E 94)] [] 27) → Go E p e R s m args below meth c Q 5 (0, 0) N ρ [(3, vi oo), (2, vi (dl + 1)), (0, vr E 94)] [] 27 := by
      intro oo dl o0₉ sn eo bo op₉ ρ hW ho hd₉ hc₉ hop9 ho0 hK₉
      obtain ⟨w1₉, w2₉, w3₉, w4₉, fr₉⟩ := hW
      have zx := (fr₉ 94 (by omega)).trans u_s2
      have zr := (fr₉ 102 (by omega)).trans readSign_s2
      refine go_iload_n (pc := 27) hF dX11_reads_27 0 rfl ?_
      refine go_aload_n (pc := 28) hF dX11_reads_28 2 rfl ?_
      refine go_get (pc := 29) hF fl_X11_177 dX11_reads_29 (by omega) zx rfl ?_
      refine go_icmp_ge (pc := 32) hF 150 dX11_reads_32 (by decide) (by omega) (by omega) (fun bq32 => ?_) (fun bq32 => ?_)
      · exact absurd bq32 (by omega)
      · refine go_aload_n (pc := 35) hF dX11_reads_35 2 rfl ?_
        refine go_get (pc := 36) hF fl_X11_31 dX11_reads_36 (by omega) zx rfl ?_
        refine go_iload_n (pc := 39) hF dX11_reads_39 0 rfl ?_
        refine go_iald (pc := 40) hF dX11_reads_40 (by omega) zr (by omega)  ?_
        rw [hc₉]
        refine go_istore (pc := 41) hF [(4, vi 124), (3, vi oo), (2, vi (dl + 1)), (0, vr E 94)] dX11_reads_41 rfl (by decide) ?_
        refine go_aload_n (pc := 43) hF dX11_reads_43 3 rfl ?_
        refine go_get (pc := 44) hF fl_X11_19 dX11_reads_44 (by omega) zx rfl ?_
        refine go_iload_n (pc := 47) hF dX11_reads_47 1 rfl ?_
        refine go_iload (pc := 48) hF dX11_reads_48 0 rfl ?_
        refine go_iast (pc := 50) hF dX11_reads_50 (by omega) w1₉ (by omega) (fun s9 u_s9 f_s9 => ?_)
        have x_s9 := (f_s9 94 (by omega)).trans zx
        have readSign_s9 := (f_s9 102 (by omega)).trans zr
        have endOf_s9 := (f_s9 99 (by omega)).trans w2₉
        have barOf_s9 := (f_s9 100 (by omega)).trans w3₉
        have open_s9 := (f_s9 103 (by omega)).trans w4₉
        refine go_iload (pc := 51) hF dX11_reads_51 0 rfl ?_
        refine go_bipush (pc := 53) hF dX11_reads_53 (by decide) ?_
        refine go_icmp_eq (pc := 55) hF 66 dX11_reads_55 (by decide) ⟨by decide, by decide⟩ ⟨by decide, by decide⟩ (fun bq55 => ?_) (fun bq55 => ?_)
        · exact absurd bq55 (by decide)
        · refine go_iload (pc := 58) hF dX11_reads_58 0 rfl ?_
          refine go_callSP (pc := 60) hF [vi 124] [] ms_X11_171 dX11_reads_60 (show CP E M_X11_isFigure 2 [vi 124] N s9 0 from (by have h := c_X11_isFigure E N s9 124 (by omega); rw [bI_f (by omega)] at h; exact h)) rfl rfl (Nat.le_of_ble_eq_true rfl) (by decide) ⟨Nat.zero_le _, Nat.zero_le _⟩ ?_
          refine go_if_eq (pc := 63) hF 79 dX11_reads_63 (by decide) ⟨by decide, by decide⟩ (fun bq63 => ?_) (fun bq63 => ?_)
          · refine go_iload (pc := 79) hF dX11_reads_79 0 rfl ?_
            refine go_bipush (pc := 81) hF dX11_reads_81 (by decide) ?_
            refine go_icmp_ne (pc := 83) hF 103 dX11_reads_83 (by decide) ⟨by decide, by decide⟩ ⟨by decide, by decide⟩ (fun bq83 => ?_) (fun bq83 => ?_)
            · exact absurd bq83 (by decide)
            · refine go_aload_n (pc := 86) hF dX11_reads_86 3 rfl ?_
              refine go_get (pc := 87) hF fl_X11_25 dX11_reads_87 (by omega) x_s9 rfl ?_
              refine go_aload_n (pc := 90) hF dX11_reads_90 3 rfl ?_
              refine go_get (pc := 91) hF fl_X11_34 dX11_reads_91 (by omega) x_s9 rfl ?_
              refine go_iload_n (pc := 94) hF dX11_reads_94 2 rfl ?_
              refine go_iconst (pc := 95) hF dX11_reads_95 ?_
              refine go_isub (pc := 96) hF dX11_reads_96 ?_
              rw [show dl + 1 - 1 = dl by omega]
              refine go_iald (pc := 97) hF dX11_reads_97 (by omega) open_s9 (by omega)  ?_
              rw [hop9]
              refine go_iload_n (pc := 98) hF dX11_reads_98 1 rfl ?_
              refine go_iast (pc := 99) hF dX11_reads_99 (by omega) barOf_s9 (by omega) (fun s10 u_s10 f_s10 => ?_)
              have x_s10 := (f_s10 94 (by omega)).trans x_s9
              have readSign_s10 := (f_s10 102 (by omega)).trans readSign_s9
              have sign_s10 := (f_s10 98 (by omega)).trans u_s9
              have endOf_s10 := (f_s10 99 (by omega)).trans endOf_s9
              have open_s10 := (f_s10 103 (by omega)).trans open_s9
              refine go_goto (pc := 100) hF 144 dX11_reads_100 (by decide) ?_
              refine go_iinc (pc := 144) hF [(3, vi (oo + 1)), (4, vi 124), (2, vi (dl + 1)), (0, vr E 94)] dX11_reads_144 1 rfl rfl (by decide) ?_
              refine go_goto (pc := 147) hF 27 dX11_reads_147 (by decide) ?_
              refine go_lv [(3, vi (oo + 1)), (2, vi (dl + 1)), (0, vr E 94)] [0, 2, 3] rfl ?_
              rw [hc₉] at hK₉
              exact hK₉ _ ⟨sign_s10, endOf_s10, u_s10, open_s10, (fun jj hjj => by rw [f_s10 jj (by omega), f_s9 jj (by omega), fr₉ jj (by omega)])⟩
          · exact absurd bq63 (by decide)
    have s_clA : ∀ (oo dl o0₉ : Int) (sn eo bo op₉ : Int → Int) (ρ : Nat → va_E), dW E s2₉ ρ sn eo bo op₉ → 0 ≤ oo ∧ oo < (tLen t9 : Int) → 0 ≤ dl ∧ dl ≤ 2 → rs_s1 oo = 41 → op₉ dl = o0₉ → 0 ≤ o0₉ ∧ o0₉ < oo → (∀ ρ', dW E s2₉ ρ' (up sn oo (rs_s1 oo)) (up (up eo o0₉ oo) oo o0₉) bo op₉ → Go E p e R s m args below meth c Q 5 (0, 0) N ρ' [(3, vi (oo + 1)), (2, vi dl), (0, vr E 94)] [] 27) → Go E p e R s m args below meth c Q 5 (0, 0) N ρ [(3, vi oo), (2, vi (dl + 1)), (0, vr E 94)] [] 27 := by
      intro oo dl o0₉ sn eo bo op₉ ρ hW ho hd₉ hc₉ hop9 ho0 hK₉
      obtain ⟨w1₉, w2₉, w3₉, w4₉, fr₉⟩ := hW
      have zx := (fr₉ 94 (by omega)).trans u_s2
      have zr := (fr₉ 102 (by omega)).trans readSign_s2
      refine go_iload_n (pc := 27) hF dX11_reads_27 0 rfl ?_
      refine go_aload_n (pc := 28) hF dX11_reads_28 2 rfl ?_
      refine go_get (pc := 29) hF fl_X11_177 dX11_reads_29 (by omega) zx rfl ?_
      refine go_icmp_ge (pc := 32) hF 150 dX11_reads_32 (by decide) (by omega) (by omega) (fun bq32 => ?_) (fun bq32 => ?_)
      · exact absurd bq32 (by omega)
      · refine go_aload_n (pc := 35) hF dX11_reads_35 2 rfl ?_
        refine go_get (pc := 36) hF fl_X11_31 dX11_reads_36 (by omega) zx rfl ?_
        refine go_iload_n (pc := 39) hF dX11_reads_39 0 rfl ?_
        refine go_iald (pc := 40) hF dX11_reads_40 (by omega) zr (by omega)  ?_
        rw [hc₉]
        refine go_istore (pc := 41) hF [(4, vi 41), (3, vi oo), (2, vi (dl + 1)), (0, vr E 94)] dX11_reads_41 rfl (by decide) ?_
        refine go_aload_n (pc := 43) hF dX11_reads_43 3 rfl ?_
        refine go_get (pc := 44) hF fl_X11_19 dX11_reads_44 (by omega) zx rfl ?_
        refine go_iload_n (pc := 47) hF dX11_reads_47 1 rfl ?_
        refine go_iload (pc := 48) hF dX11_reads_48 0 rfl ?_
        refine go_iast (pc := 50) hF dX11_reads_50 (by omega) w1₉ (by omega) (fun s11 u_s11 f_s11 => ?_)
        have x_s11 := (f_s11 94 (by omega)).trans zx
        have readSign_s11 := (f_s11 102 (by omega)).trans zr
        have endOf_s11 := (f_s11 99 (by omega)).trans w2₉
        have barOf_s11 := (f_s11 100 (by omega)).trans w3₉
        have open_s11 := (f_s11 103 (by omega)).trans w4₉
        refine go_iload (pc := 51) hF dX11_reads_51 0 rfl ?_
        refine go_bipush (pc := 53) hF dX11_reads_53 (by decide) ?_
        refine go_icmp_eq (pc := 55) hF 66 dX11_reads_55 (by decide) ⟨by decide, by decide⟩ ⟨by decide, by decide⟩ (fun bq55 => ?_) (fun bq55 => ?_)
        · exact absurd bq55 (by decide)
        · refine go_iload (pc := 58) hF dX11_reads_58 0 rfl ?_
          refine go_callSP (pc := 60) hF [vi 41] [] ms_X11_171 dX11_reads_60 (show CP E M_X11_isFigure 2 [vi 41] N s11 0 from (by have h := c_X11_isFigure E N s11 41 (by omega); rw [bI_f (by omega)] at h; exact h)) rfl rfl (Nat.le_of_ble_eq_true rfl) (by decide) ⟨Nat.zero_le _, Nat.zero_le _⟩ ?_
          refine go_if_eq (pc := 63) hF 79 dX11_reads_63 (by decide) ⟨by decide, by decide⟩ (fun bq63 => ?_) (fun bq63 => ?_)
          · refine go_iload (pc := 79) hF dX11_reads_79 0 rfl ?_
            refine go_bipush (pc := 81) hF dX11_reads_81 (by decide) ?_
            refine go_icmp_ne (pc := 83) hF 103 dX11_reads_83 (by decide) ⟨by decide, by decide⟩ ⟨by decide, by decide⟩ (fun bq83 => ?_) (fun bq83 => ?_)
            · refine go_iload (pc := 103) hF dX11_reads_103 0 rfl ?_
              refine go_bipush (pc := 105) hF dX11_reads_105 (by decide) ?_
              refine go_icmp_eq (pc := 107) hF 117 dX11_reads_107 (by decide) ⟨by decide, by decide⟩ ⟨by decide, by decide⟩ (fun bq107 => ?_) (fun bq107 => ?_)
              · refine go_iinc (pc := 117) hF [(2, vi ((dl + 1) + (-1))), (4, vi 41), (3, vi oo), (0, vr E 94)] dX11_reads_117 2 rfl rfl (by decide) ?_
                refine go_lvE [(2, vi dl), (4, vi 41), (3, vi oo), (0, vr E 94)] (by rw [show (dl + 1) + (-1) = dl by omega]) ?_
                refine go_aload_n (pc := 120) hF dX11_reads_120 3 rfl ?_
                refine go_get (pc := 121) hF fl_X11_22 dX11_reads_121 (by omega) x_s11 rfl ?_
                refine go_aload_n (pc := 124) hF dX11_reads_124 3 rfl ?_
                refine go_get (pc := 125) hF fl_X11_34 dX11_reads_125 (by omega) x_s11 rfl ?_
                refine go_iload_n (pc := 128) hF dX11_reads_128 0 rfl ?_
                refine go_iald (pc := 129) hF dX11_reads_129 (by omega) open_s11 (by omega)  ?_
                rw [hop9]
                refine go_iload_n (pc := 130) hF dX11_reads_130 2 rfl ?_
                refine go_iast (pc := 131) hF dX11_reads_131 (by omega) endOf_s11 (by omega) (fun s12 u_s12 f_s12 => ?_)
                have x_s12 := (f_s12 94 (by omega)).trans x_s11
                have readSign_s12 := (f_s12 102 (by omega)).trans readSign_s11
                have sign_s12 := (f_s12 98 (by omega)).trans u_s11
                have barOf_s12 := (f_s12 100 (by omega)).trans barOf_s11
                have open_s12 := (f_s12 103 (by omega)).trans open_s11
                refine go_aload_n (pc := 132) hF dX11_reads_132 3 rfl ?_
                refine go_get (pc := 133) hF fl_X11_22 dX11_reads_133 (by omega) x_s12 rfl ?_
                refine go_iload_n (pc := 136) hF dX11_reads_136 2 rfl ?_
                refine go_aload_n (pc := 137) hF dX11_reads_137 3 rfl ?_
                refine go_get (pc := 138) hF fl_X11_34 dX11_reads_138 (by omega) x_s12 rfl ?_
                refine go_iload_n (pc := 141) hF dX11_reads_141 0 rfl ?_
                refine go_iald (pc := 142) hF dX11_reads_142 (by omega) open_s12 (by omega)  ?_
                rw [hop9]
                refine go_iast (pc := 143) hF dX11_reads_143 (by omega) u_s12 (by omega) (fun s13 u_s13 f_s13 => ?_)
                have x_s13 := (f_s13 94 (by omega)).trans x_s12
                have readSign_s13 := (f_s13 102 (by omega)).trans readSign_s12
                have sign_s13 := (f_s13 98 (by omega)).trans sign_s12
                have barOf_s13 := (f_s13 100 (by omega)).trans barOf_s12
                have open_s13 := (f_s13 103 (by omega)).trans open_s12
                refine go_iinc (pc := 144) hF [(3, vi (oo + 1)), (2, vi dl), (4, vi 41), (0, vr E 94)] dX11_reads_144 2 rfl rfl (by decide) ?_
                refine go_goto (pc := 147) hF 27 dX11_reads_147 (by decide) ?_
                refine go_lv [(3, vi (oo + 1)), (2, vi dl), (0, vr E 94)] [0, 1, 3] rfl ?_
                rw [hc₉] at hK₉
                exact hK₉ _ ⟨sign_s13, u_s13, barOf_s13, open_s13, (fun jj hjj => by rw [f_s13 jj (by omega), f_s12 jj (by omega), f_s11 jj (by omega), fr₉ jj (by omega)])⟩
              · exact absurd bq107 (by decide)
            · exact absurd bq83 (by decide)
          · exact absurd bq63 (by decide)
    have s_clB : ∀ (oo dl o0₉ : Int) (sn eo bo op₉ : Int → Int) (ρ : Nat → va_E), dW E s2₉ ρ sn eo bo op₉ → 0 ≤ oo ∧ oo < (tLen t9 : Int) → 0 ≤ dl ∧ dl ≤ 2 → rs_s1 oo = 93 → op₉ dl = o0₉ → 0 ≤ o0₉ ∧ o0₉ < oo → (∀ ρ', dW E s2₉ ρ' (up sn oo (rs_s1 oo)) (up (up eo o0₉ oo) oo o0₉) bo op₉ → Go E p e R s m args below meth c Q 5 (0, 0) N ρ' [(3, vi (oo + 1)), (2, vi dl), (0, vr E 94)] [] 27) → Go E p e R s m args below meth c Q 5 (0, 0) N ρ [(3, vi oo), (2, vi (dl + 1)), (0, vr E 94)] [] 27 := by
      intro oo dl o0₉ sn eo bo op₉ ρ hW ho hd₉ hc₉ hop9 ho0 hK₉
      obtain ⟨w1₉, w2₉, w3₉, w4₉, fr₉⟩ := hW
      have zx := (fr₉ 94 (by omega)).trans u_s2
      have zr := (fr₉ 102 (by omega)).trans readSign_s2
      refine go_iload_n (pc := 27) hF dX11_reads_27 0 rfl ?_
      refine go_aload_n (pc := 28) hF dX11_reads_28 2 rfl ?_
      refine go_get (pc := 29) hF fl_X11_177 dX11_reads_29 (by omega) zx rfl ?_
      refine go_icmp_ge (pc := 32) hF 150 dX11_reads_32 (by decide) (by omega) (by omega) (fun bq32 => ?_) (fun bq32 => ?_)
      · exact absurd bq32 (by omega)
      · refine go_aload_n (pc := 35) hF dX11_reads_35 2 rfl ?_
        refine go_get (pc := 36) hF fl_X11_31 dX11_reads_36 (by omega) zx rfl ?_
        refine go_iload_n (pc := 39) hF dX11_reads_39 0 rfl ?_
        refine go_iald (pc := 40) hF dX11_reads_40 (by omega) zr (by omega)  ?_
        rw [hc₉]
        refine go_istore (pc := 41) hF [(4, vi 93), (3, vi oo), (2, vi (dl + 1)), (0, vr E 94)] dX11_reads_41 rfl (by decide) ?_
        refine go_aload_n (pc := 43) hF dX11_reads_43 3 rfl ?_
        refine go_get (pc := 44) hF fl_X11_19 dX11_reads_44 (by omega) zx rfl ?_
        refine go_iload_n (pc := 47) hF dX11_reads_47 1 rfl ?_
        refine go_iload (pc := 48) hF dX11_reads_48 0 rfl ?_
        refine go_iast (pc := 50) hF dX11_reads_50 (by omega) w1₉ (by omega) (fun s14 u_s14 f_s14 => ?_)
        have x_s14 := (f_s14 94 (by omega)).trans zx
        have readSign_s14 := (f_s14 102 (by omega)).trans zr
        have endOf_s14 := (f_s14 99 (by omega)).trans w2₉
        have barOf_s14 := (f_s14 100 (by omega)).trans w3₉
        have open_s14 := (f_s14 103 (by omega)).trans w4₉
        refine go_iload (pc := 51) hF dX11_reads_51 0 rfl ?_
        refine go_bipush (pc := 53) hF dX11_reads_53 (by decide) ?_
        refine go_icmp_eq (pc := 55) hF 66 dX11_reads_55 (by decide) ⟨by decide, by decide⟩ ⟨by decide, by decide⟩ (fun bq55 => ?_) (fun bq55 => ?_)
        · exact absurd bq55 (by decide)
        · refine go_iload (pc := 58) hF dX11_reads_58 0 rfl ?_
          refine go_callSP (pc := 60) hF [vi 93] [] ms_X11_171 dX11_reads_60 (show CP E M_X11_isFigure 2 [vi 93] N s14 0 from (by have h := c_X11_isFigure E N s14 93 (by omega); rw [bI_f (by omega)] at h; exact h)) rfl rfl (Nat.le_of_ble_eq_true rfl) (by decide) ⟨Nat.zero_le _, Nat.zero_le _⟩ ?_
          refine go_if_eq (pc := 63) hF 79 dX11_reads_63 (by decide) ⟨by decide, by decide⟩ (fun bq63 => ?_) (fun bq63 => ?_)
          · refine go_iload (pc := 79) hF dX11_reads_79 0 rfl ?_
            refine go_bipush (pc := 81) hF dX11_reads_81 (by decide) ?_
            refine go_icmp_ne (pc := 83) hF 103 dX11_reads_83 (by decide) ⟨by decide, by decide⟩ ⟨by decide, by decide⟩ (fun bq83 => ?_) (fun bq83 => ?_)
            · refine go_iload (pc := 103) hF dX11_reads_103 0 rfl ?_
              refine go_bipush (pc := 105) hF dX11_reads_105 (by decide) ?_
              refine go_icmp_eq (pc := 107) hF 117 dX11_reads_107 (by decide) ⟨by decide, by decide⟩ ⟨by decide, by decide⟩ (fun bq107 => ?_) (fun bq107 => ?_)
              · exact absurd bq107 (by decide)
              · refine go_iload (pc := 110) hF dX11_reads_110 0 rfl ?_
                refine go_bipush (pc := 112) hF dX11_reads_112 (by decide) ?_
                refine go_icmp_ne (pc := 114) hF 144 dX11_reads_114 (by decide) ⟨by decide, by decide⟩ ⟨by decide, by decide⟩ (fun bq114 => ?_) (fun bq114 => ?_)
                · exact absurd bq114 (by decide)
                · refine go_iinc (pc := 117) hF [(2, vi ((dl + 1) + (-1))), (4, vi 93), (3, vi oo), (0, vr E 94)] dX11_reads_117 2 rfl rfl (by decide) ?_
                  refine go_lvE [(2, vi dl), (4, vi 93), (3, vi oo), (0, vr E 94)] (by rw [show (dl + 1) + (-1) = dl by omega]) ?_
                  refine go_aload_n (pc := 120) hF dX11_reads_120 3 rfl ?_
                  refine go_get (pc := 121) hF fl_X11_22 dX11_reads_121 (by omega) x_s14 rfl ?_
                  refine go_aload_n (pc := 124) hF dX11_reads_124 3 rfl ?_
                  refine go_get (pc := 125) hF fl_X11_34 dX11_reads_125 (by omega) x_s14 rfl ?_
                  refine go_iload_n (pc := 128) hF dX11_reads_128 0 rfl ?_
                  refine go_iald (pc := 129) hF dX11_reads_129 (by omega) open_s14 (by omega)  ?_
                  rw [hop9]
                  refine go_iload_n (pc := 130) hF dX11_reads_130 2 rfl ?_
                  refine go_iast (pc := 131) hF dX11_reads_131 (by omega) endOf_s14 (by omega) (fun s15 u_s15 f_s15 => ?_)
                  have x_s15 := (f_s15 94 (by omega)).trans x_s14
                  have readSign_s15 := (f_s15 102 (by omega)).trans readSign_s14
                  have sign_s15 := (f_s15 98 (by omega)).trans u_s14
                  have barOf_s15 := (f_s15 100 (by omega)).trans barOf_s14
                  have open_s15 := (f_s15 103 (by omega)).trans open_s14
                  refine go_aload_n (pc := 132) hF dX11_reads_132 3 rfl ?_
                  refine go_get (pc := 133) hF fl_X11_22 dX11_reads_133 (by omega) x_s15 rfl ?_
                  refine go_iload_n (pc := 136) hF dX11_reads_136 2 rfl ?_
                  refine go_aload_n (pc := 137) hF dX11_reads_137 3 rfl ?_
                  refine go_get (pc := 138) hF fl_X11_34 dX11_reads_138 (by omega) x_s15 rfl ?_
                  refine go_iload_n (pc := 141) hF dX11_reads_141 0 rfl ?_
                  refine go_iald (pc := 142) hF dX11_reads_142 (by omega) open_s15 (by omega)  ?_
                  rw [hop9]
                  refine go_iast (pc := 143) hF dX11_reads_143 (by omega) u_s15 (by omega) (fun s16 u_s16 f_s16 => ?_)
                  have x_s16 := (f_s16 94 (by omega)).trans x_s15
                  have readSign_s16 := (f_s16 102 (by omega)).trans readSign_s15
                  have sign_s16 := (f_s16 98 (by omega)).trans sign_s15
                  have barOf_s16 := (f_s16 100 (by omega)).trans barOf_s15
                  have open_s16 := (f_s16 103 (by omega)).trans open_s15
                  refine go_iinc (pc := 144) hF [(3, vi (oo + 1)), (2, vi dl), (4, vi 93), (0, vr E 94)] dX11_reads_144 2 rfl rfl (by decide) ?_
                  refine go_goto (pc := 147) hF 27 dX11_reads_147 (by decide) ?_
                  refine go_lv [(3, vi (oo + 1)), (2, vi dl), (0, vr E 94)] [0, 1, 3] rfl ?_
                  rw [hc₉] at hK₉
                  exact hK₉ _ ⟨sign_s16, u_s16, barOf_s16, open_s16, (fun jj hjj => by rw [f_s16 jj (by omega), f_s15 jj (by omega), f_s14 jj (by omega), fr₉ jj (by omega)])⟩
            · exact absurd bq83 (by decide)
          · exact absurd bq63 (by decide)
    have s_end : ∀ (sn eo bo op₉ : Int → Int) (ρ : Nat → va_E), dW E s2₉ ρ sn eo bo op₉ → MA₉ sn eo bo t9 0 → Go E p e R s m args below meth c Q 5 (0, 0) N ρ [(3, vi (0 + (tLen t9 : Int))), (2, vi 0), (0, vr E 94)] [] 27 := by
      intro sn eo bo op₉ ρ hW hM9
      obtain ⟨w1₉, w2₉, w3₉, w4₉, fr₉⟩ := hW
      have zx := (fr₉ 94 (by omega)).trans u_s2
      have zr := (fr₉ 102 (by omega)).trans readSign_s2
      have hsg1 := MA_sg t9 hw9 0 hM9
      have hsg9 : ∀ p : Int, 0 ≤ p → p < (tLen t9 : Int) → 40 ≤ sn p ∧ sn p ≤ 124 := fun p a₉ b₉ => hsg1 p a₉ (by omega)
      refine go_iload_n (pc := 27) hF dX11_reads_27 0 rfl ?_
      refine go_aload_n (pc := 28) hF dX11_reads_28 2 rfl ?_
      refine go_get (pc := 29) hF fl_X11_177 dX11_reads_29 (by omega) zx rfl ?_
      refine go_icmp_ge (pc := 32) hF 150 dX11_reads_32 (by decide) (by omega) (by omega) (fun bq32 => ?_) (fun bq32 => ?_)
      · refine go_aload_n (pc := 150) hF dX11_reads_150 2 rfl ?_
        refine go_iconst (pc := 151) hF dX11_reads_151 ?_
        refine go_callVP (pc := 152) hF [vi 0] [] mv_X11_180 dX11_reads_152 (by omega) zx (show CP E M_X11_countOf 3 [vr E 94, vi 0] N ρ (tLks t9 : Int) from (by have h := c_X11_countOf E N ρ hN₉ zx w1₉ hsg9 (by omega) 0 (by omega); rw [Int.toNat_natCast, cnt_tree 0 (by omega) t9 hw9 0 0 hM9, Int.zero_add] at h; exact h)) rfl rfl (Nat.le_of_ble_eq_true rfl) (by decide) ⟨Nat.zero_le _, Nat.zero_le _⟩ ?_
        exact go_iretQ hF hr hlk hQ dX11_reads_155 ⟨rfl, ⟨_, _, _, _, _, _, _, _, _, _, _, _, _, ((fr₉ 94 (by omega)).trans u_s2), ((fr₉ 95 (by omega)).trans nw_s2), ((fr₉ 96 (by omega)).trans pa_s2), ((fr₉ 97 (by omega)).trans rf_s2), w1₉, w2₉, w3₉, ((fr₉ 101 (by omega)).trans tx_s2), ((fr₉ 119 (by omega)).trans rr_s2), ⟨⟨_, ((fr₉ 102 (by omega)).trans readSign_s2)⟩, ⟨_, w4₉⟩, ⟨_, ((fr₉ 104 (by omega)).trans isBarred_s2)⟩, ⟨_, ((fr₉ 105 (by omega)).trans ages_s2)⟩, ⟨_, ((fr₉ 106 (by omega)).trans entered_s2)⟩, ⟨_, ((fr₉ 107 (by omega)).trans first_s2)⟩, ⟨_, ((fr₉ 108 (by omega)).trans mustAt_s2)⟩, ⟨_, ((fr₉ 109 (by omega)).trans mayAt_s2)⟩, ⟨_, ((fr₉ 110 (by omega)).trans sums_s2)⟩, ⟨_, ((fr₉ 111 (by omega)).trans sumsFirst_s2)⟩, ⟨_, ((fr₉ 112 (by omega)).trans took_s2)⟩, ⟨_, ((fr₉ 113 (by omega)).trans next_s2)⟩, ⟨_, ((fr₉ 114 (by omega)).trans inOf_s2)⟩, ⟨_, ((fr₉ 115 (by omega)).trans firstOf_s2)⟩, ⟨_, ((fr₉ 116 (by omega)).trans rounds_s2)⟩, ⟨_, ((fr₉ 117 (by omega)).trans counts_s2)⟩, ⟨_, ((fr₉ 118 (by omega)).trans countsFirst_s2)⟩⟩, hnw, hpa, hrf, hrr, hM9⟩, (fun jj hjj => by rw [fr₉ jj (by omega), f_s2 jj (by omega), f_s1 jj (by omega)])⟩
      · exact absurd bq32 (by omega)
    refine go_lv [(3, vi 0), (2, vi 0), (0, vr E 94)] [0, 1, 3] rfl ?_
    exact rd_walk (E := E) (by omega) (fun ρ o d₉ => Go E p e R s m args below meth c Q 5 (0, 0) N ρ [(3, vi o), (2, vi d₉), (0, vr E 94)] [] 27) (fun oo dl sn eo bo op₉ ρ hW ho hd₉ hc₉ hK₉ => hc₉.elim (fun hc₉ => s_dot oo dl sn eo bo op₉ ρ hW ho hd₉ hc₉ hK₉) (fun hc₉ => s_look oo dl sn eo bo op₉ ρ hW ho hd₉ hc₉ hK₉)) (fun oo dl sn eo bo op₉ ρ hW ho hd₉ hc₉ hK₉ => hc₉.elim (fun hc₉ => s_opA oo dl sn eo bo op₉ ρ hW ho hd₉ hc₉ hK₉) (fun hc₉ => s_opB oo dl sn eo bo op₉ ρ hW ho hd₉ hc₉ hK₉)) s_bar (fun oo dl o0₉ sn eo bo op₉ ρ hW ho hd₉ hc₉ h1 h2 hK₉ => hc₉.elim (fun hc₉ => s_clA oo dl o0₉ sn eo bo op₉ ρ hW ho hd₉ hc₉ h1 h2 hK₉) (fun hc₉ => s_clB oo dl o0₉ sn eo bo op₉ ρ hW ho hd₉ hc₉ h1 h2 hK₉)) t9 hw9 0 0 sn eo bo op_s1 s2₉ (by omega) (by omega) hs8 ⟨sn_s2, eo_s2, bo_s2, open_s2, fun _ _ => rfl⟩ (fun sn eo bo op₉ ρ hW hM9 _ _ => s_end sn eo bo op₉ ρ hW hM9)
  · exact absurd hyes bq7
