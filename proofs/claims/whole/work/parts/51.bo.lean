/-! The reference₉: upper, lower. -/
set_option maxHeartbeats 4000000 in
set_option maxRecDepth 100000 in
theorem c_X11_boundOf_up (E : En) (N : Nat) (σ : Nat → va_E) (r₉ u₉ kd pr : Int) (yr yw yk yp : Int → Int) (hs : Int) (tx : Int → Int) (tl : Int) (t₉ : Tr) (xb xn xf q1₉ q2₉ q3₉ : Int) (hN₉ : 120 ≤ N) (hO : okS r₉ u₉ kd pr yr yw yk yp hs tx tl t₉ xb xn xf q1₉ q2₉ q3₉) (hS₉ : mdS E σ r₉ u₉ kd pr yr yw yk yp hs tx tl t₉ xb xn xf q1₉ q2₉ q3₉) : CI E M_X11_boundOf 15 [vr E 94, vi 1] N σ (fun y₉ σ' => y₉ = upB₉ (soT t₉ u₉) pr t₉ 0 ∧ mdS E σ' r₉ u₉ kd pr yr yw yk yp hs tx tl t₉ xb xn xf q1₉ q2₉ q3₉ ∧ ∀ q₉, q₉ < 94 → σ' q₉ = σ q₉) := by
  refine CT.of2 (own := RX11) (by decide) rfl (Nat.le_of_ble_eq_true rfl) ?_
  intro p e R s m args below meth c Q hF hr hlk hnm hz hR hQ
  obtain ⟨nw, pa, rf, sn, eo, bo, rr, rz, hi₉, mi, ak, rt, cn, z101, z102, z103, z104, z105, z106, z107, z108, z126, ⟨⟨g109, z109⟩, ⟨g110, z110⟩, ⟨g111, z111⟩, ⟨g112, z112⟩, ⟨g113, z113⟩, ⟨g114, z114⟩, ⟨g115, z115⟩, ⟨g116, z116⟩, ⟨g117, z117⟩, ⟨g118, z118⟩, ⟨g119, z119⟩, ⟨g120, z120⟩, ⟨g121, z121⟩, ⟨g122, z122⟩, ⟨g123, z123⟩, ⟨g124, z124⟩, ⟨g125, z125⟩⟩, hnw, hpa, hrf, hrr, hMA⟩ := hS₉
  obtain ⟨⟨hrw, hu, hkd, hpr⟩, hhs, hyy, htl, htx, hxb, hxn, hxf, hq1, hq2, hq3, hwf, hdp3, hl80, hl24⟩ := hO
  have hrw3 := vrow_up hrw (show u₉ ≤ 3 by omega)
  have hrr0 := hrw.1
  obtain ⟨n0₉, n1₉, n2₉, n3₉, n4₉, n5₉, n6₉⟩ := id hnw
  have gl := mLong_rg r₉
  have hsg0 := MA_sg t₉ hwf 0 hMA
  have hsg : ∀ p : Int, 0 ≤ p → p < (tLen t₉ : Int) → 40 ≤ sn p ∧ sn p ≤ 124 := fun p a₉ b₉ => hsg0 p a₉ (by omega)
  refine go_iconst (pc := 0) hF dX11_boundOf_0 ?_
  refine go_istore_n (pc := 1) hF [(2, vi 0), (0, vr E 94), (1, vi 1)] dX11_boundOf_1 rfl (by decide) ?_
  refine go_aload_n (pc := 2) hF dX11_boundOf_2 1 rfl ?_
  refine go_callVV (pc := 3) hF [] [] mv_X11_216 dX11_boundOf_3 (by omega) z101 (c_X11_follows E N σ hN₉ z101 z102 z105 z106 z112 z113 z114 z115 z116 hwf hMA hl80 hdp3 (by rw [n4₉]; exact hu)) rfl rfl (Nat.le_of_ble_eq_true rfl) (by decide) ⟨Nat.zero_le _, Nat.zero_le _⟩ (fun s1₉ h_s1 => ?_)
  obtain ⟨ag_s1, eg_s1, fg_s1, ma_s1, my_s1, ⟨w1_s1, w2_s1, w3_s1, w4_s1, w5_s1, f_s1⟩, ha_s1, hc_s1⟩ := h_s1
  rw [n4₉] at ha_s1 hc_s1
  have hfR := foR_of hwf hMA hu.1 hc_s1
  have x_s1 := (f_s1 94 (by omega)).trans z101
  have nw_s1 := (f_s1 95 (by omega)).trans z102
  have pa_s1 := (f_s1 96 (by omega)).trans z103
  have rf_s1 := (f_s1 97 (by omega)).trans z104
  have sn_s1 := (f_s1 98 (by omega)).trans z105
  have eo_s1 := (f_s1 99 (by omega)).trans z106
  have bo_s1 := (f_s1 100 (by omega)).trans z107
  have tx_s1 := (f_s1 101 (by omega)).trans z108
  have rr_s1 := (f_s1 119 (by omega)).trans z126
  have readSign_s1 := (f_s1 102 (by omega)).trans z109
  have open_s1 := (f_s1 103 (by omega)).trans z110
  have isBarred_s1 := (f_s1 104 (by omega)).trans z111
  have sums_s1 := (f_s1 110 (by omega)).trans z117
  have sumsFirst_s1 := (f_s1 111 (by omega)).trans z118
  have took_s1 := (f_s1 112 (by omega)).trans z119
  have next_s1 := (f_s1 113 (by omega)).trans z120
  have inOf_s1 := (f_s1 114 (by omega)).trans z121
  have firstOf_s1 := (f_s1 115 (by omega)).trans z122
  have rounds_s1 := (f_s1 116 (by omega)).trans z123
  have counts_s1 := (f_s1 117 (by omega)).trans z124
  have countsFirst_s1 := (f_s1 118 (by omega)).trans z125
  refine go_aload_n (pc := 6) hF dX11_boundOf_6 1 rfl ?_
  refine go_get (pc := 7) hF fl_X11_56 dX11_boundOf_7 (by omega) x_s1 rfl ?_
  refine go_iconst (pc := 10) hF dX11_boundOf_10 ?_
  refine go_iconst (pc := 11) hF dX11_boundOf_11 ?_
  refine go_iast (pc := 12) hF dX11_boundOf_12 (by omega) sums_s1 (by omega) (fun s2₉ u_s2 f_s2 => ?_)
  have x_s2 := (f_s2 94 (by omega)).trans x_s1
  have nw_s2 := (f_s2 95 (by omega)).trans nw_s1
  have pa_s2 := (f_s2 96 (by omega)).trans pa_s1
  have rf_s2 := (f_s2 97 (by omega)).trans rf_s1
  have sn_s2 := (f_s2 98 (by omega)).trans sn_s1
  have eo_s2 := (f_s2 99 (by omega)).trans eo_s1
  have bo_s2 := (f_s2 100 (by omega)).trans bo_s1
  have tx_s2 := (f_s2 101 (by omega)).trans tx_s1
  have rr_s2 := (f_s2 119 (by omega)).trans rr_s1
  have readSign_s2 := (f_s2 102 (by omega)).trans readSign_s1
  have open_s2 := (f_s2 103 (by omega)).trans open_s1
  have isBarred_s2 := (f_s2 104 (by omega)).trans isBarred_s1
  have ages_s2 := (f_s2 105 (by omega)).trans w1_s1
  have entered_s2 := (f_s2 106 (by omega)).trans w2_s1
  have first_s2 := (f_s2 107 (by omega)).trans w3_s1
  have mustAt_s2 := (f_s2 108 (by omega)).trans w4_s1
  have mayAt_s2 := (f_s2 109 (by omega)).trans w5_s1
  have sumsFirst_s2 := (f_s2 111 (by omega)).trans sumsFirst_s1
  have took_s2 := (f_s2 112 (by omega)).trans took_s1
  have next_s2 := (f_s2 113 (by omega)).trans next_s1
  have inOf_s2 := (f_s2 114 (by omega)).trans inOf_s1
  have firstOf_s2 := (f_s2 115 (by omega)).trans firstOf_s1
  have rounds_s2 := (f_s2 116 (by omega)).trans rounds_s1
  have counts_s2 := (f_s2 117 (by omega)).trans counts_s1
  have countsFirst_s2 := (f_s2 118 (by omega)).trans countsFirst_s1
  refine go_iconst (pc := 13) hF dX11_boundOf_13 ?_
  refine go_istore_n (pc := 14) hF [(3, vi 0), (2, vi 0), (0, vr E 94), (1, vi 1)] dX11_boundOf_14 rfl (by decide) ?_
  have s_dot : ∀ (oo dl : Int) (sm₉ sf : Int → Int) (ρ : Nat → va_E), bW E s2₉ ρ sm₉ sf → 0 ≤ oo ∧ oo < (tLen t₉ : Int) → 0 ≤ dl ∧ dl ≤ 3 → sn oo = 46 → (∀ ρ', bW E s2₉ ρ' (up sm₉ dl (sm₉ dl + 1)) sf → Go E p e R s m args below meth c Q 7 (0, 0) N ρ' [(3, vi (oo + 1)), (2, vi dl), (1, vi 1), (0, vr E 94)] [] 15) → Go E p e R s m args below meth c Q 7 (0, 0) N ρ [(3, vi oo), (2, vi dl), (1, vi 1), (0, vr E 94)] [] 15 := by
    intro oo dl sm₉ sf ρ hW ho hd₉ hc₉ hK₉
    obtain ⟨w1₉, w2₉, fr₉⟩ := hW
    have zx := (fr₉ 94 (by omega)).trans x_s2
    have zn := (fr₉ 95 (by omega)).trans nw_s2
    have zs := (fr₉ 98 (by omega)).trans sn_s2
    have ze := (fr₉ 99 (by omega)).trans eo_s2
    have zm := (fr₉ 108 (by omega)).trans mustAt_s2
    have zy := (fr₉ 109 (by omega)).trans mayAt_s2
    refine go_iload_n (pc := 15) hF dX11_boundOf_15 0 rfl ?_
    refine go_aload_n (pc := 16) hF dX11_boundOf_16 3 rfl ?_
    refine go_get (pc := 17) hF fl_X11_177 dX11_boundOf_17 (by omega) zx rfl ?_
    refine go_icmp_ge (pc := 20) hF 301 dX11_boundOf_20 (by decide) (by omega) (by omega) (fun bq20 => ?_) (fun bq20 => ?_)
    · exact absurd bq20 (by omega)
    · refine go_aload_n (pc := 23) hF dX11_boundOf_23 3 rfl ?_
      refine go_get (pc := 24) hF fl_X11_19 dX11_boundOf_24 (by omega) zx rfl ?_
      refine go_iload_n (pc := 27) hF dX11_boundOf_27 0 rfl ?_
      refine go_iald (pc := 28) hF dX11_boundOf_28 (by omega) zs (by omega)  ?_
      rw [hc₉]
      refine go_istore (pc := 29) hF [(4, vi 46), (3, vi oo), (2, vi dl), (1, vi 1), (0, vr E 94)] dX11_boundOf_29 rfl (by decide) ?_
      refine go_iload (pc := 31) hF dX11_boundOf_31 0 rfl ?_
      refine go_callSP (pc := 33) hF [vi 46] [] ms_X11_168 dX11_boundOf_33 (show CP E M_X11_isLook 2 [vi 46] N ρ 0 from (by have h := c_X11_isLook E N ρ 46 (by omega); rw [bI_f (by omega)] at h; exact h)) rfl rfl (Nat.le_of_ble_eq_true rfl) (by decide) ⟨Nat.zero_le _, Nat.zero_le _⟩ ?_
      refine go_if_eq (pc := 36) hF 104 dX11_boundOf_36 (by decide) ⟨by decide, by decide⟩ (fun bq36 => ?_) (fun bq36 => ?_)
      · refine go_iload (pc := 104) hF dX11_boundOf_104 0 rfl ?_
        refine go_bipush (pc := 106) hF dX11_boundOf_106 (by decide) ?_
        refine go_icmp_ne (pc := 108) hF 124 dX11_boundOf_108 (by decide) ⟨by decide, by decide⟩ ⟨by decide, by decide⟩ (fun bq108 => ?_) (fun bq108 => ?_)
        · exact absurd bq108 (by decide)
        · refine go_aload_n (pc := 111) hF dX11_boundOf_111 4 rfl ?_
          refine go_get (pc := 112) hF fl_X11_56 dX11_boundOf_112 (by omega) zx rfl ?_
          refine go_iload_n (pc := 115) hF dX11_boundOf_115 2 rfl ?_
          refine go_dup2 (pc := 116) hF dX11_boundOf_116 rfl rfl ?_
          refine go_iald (pc := 117) hF dX11_boundOf_117 (by omega) w1₉ (by omega)  ?_
          refine go_iconst (pc := 118) hF dX11_boundOf_118 ?_
          refine go_iadd (pc := 119) hF dX11_boundOf_119 ?_
          refine go_iast (pc := 120) hF dX11_boundOf_120 (by omega) w1₉ (by omega) (fun s3₉ u_s3 f_s3 => ?_)
          have x_s3 := (f_s3 94 (by omega)).trans zx
          have nw_s3 := (f_s3 95 (by omega)).trans zn
          have sn_s3 := (f_s3 98 (by omega)).trans zs
          have eo_s3 := (f_s3 99 (by omega)).trans ze
          have mustAt_s3 := (f_s3 108 (by omega)).trans zm
          have mayAt_s3 := (f_s3 109 (by omega)).trans zy
          have sumsFirst_s3 := (f_s3 111 (by omega)).trans w2₉
          refine go_goto (pc := 121) hF 295 dX11_boundOf_121 (by decide) ?_
          refine go_iinc (pc := 295) hF [(3, vi (oo + 1)), (4, vi 46), (2, vi dl), (1, vi 1), (0, vr E 94)] dX11_boundOf_295 1 rfl rfl (by decide) ?_
          refine go_goto (pc := 298) hF 15 dX11_boundOf_298 (by decide) ?_
          refine go_lv [(3, vi (oo + 1)), (2, vi dl), (1, vi 1), (0, vr E 94)] [0, 2, 3, 4] rfl ?_
          exact hK₉ _ ⟨u_s3, sumsFirst_s3, (fun jj hjj => by rw [f_s3 jj (by omega), fr₉ jj (by omega)])⟩
      · exact absurd bq36 (by decide)
  have s_look : ∀ (oo dl : Int) (sm₉ sf : Int → Int) (ρ : Nat → va_E), bW E s2₉ ρ sm₉ sf → 0 ≤ oo ∧ oo < (tLen t₉ : Int) → 0 ≤ dl ∧ dl ≤ 3 → 97 ≤ sn oo ∧ sn oo ≤ 102 → (∀ ρ', bW E s2₉ ρ' (up sm₉ dl (sm₉ dl + (if soT t₉ u₉ (kN₉ sn oo.toNat) = 1 then 1 else pr))) sf → Go E p e R s m args below meth c Q 7 (0, 0) N ρ' [(3, vi (oo + 1)), (2, vi dl), (1, vi 1), (0, vr E 94)] [] 15) → Go E p e R s m args below meth c Q 7 (0, 0) N ρ [(3, vi oo), (2, vi dl), (1, vi 1), (0, vr E 94)] [] 15 := by
    intro oo dl sm₉ sf ρ hW ho hd₉ hc₉ hK₉
    obtain ⟨jx, rfl⟩ := Int.eq_ofNat_of_zero_le ho.1
    rw [Int.toNat_natCast] at hK₉
    have hjx : jx < tLen t₉ := by omega
    have gso := soT_rg t₉ u₉ (kN₉ sn jx)
    obtain ⟨w1₉, w2₉, fr₉⟩ := hW
    have zx := (fr₉ 94 (by omega)).trans x_s2
    have zn := (fr₉ 95 (by omega)).trans nw_s2
    have zs := (fr₉ 98 (by omega)).trans sn_s2
    have ze := (fr₉ 99 (by omega)).trans eo_s2
    have zm := (fr₉ 108 (by omega)).trans mustAt_s2
    have zy := (fr₉ 109 (by omega)).trans mayAt_s2
    refine go_iload_n (pc := 15) hF dX11_boundOf_15 0 rfl ?_
    refine go_aload_n (pc := 16) hF dX11_boundOf_16 3 rfl ?_
    refine go_get (pc := 17) hF fl_X11_177 dX11_boundOf_17 (by omega) zx rfl ?_
    refine go_icmp_ge (pc := 20) hF 301 dX11_boundOf_20 (by decide) (by omega) (by omega) (fun bq20 => ?_) (fun bq20 => ?_)
    · exact absurd bq20 (by omega)
    · refine go_aload_n (pc := 23) hF dX11_boundOf_23 3 rfl ?_
      refine go_get (pc := 24) hF fl_X11_19 dX11_boundOf_24 (by omega) zx rfl ?_
      refine go_iload_n (pc := 27) hF dX11_boundOf_27 0 rfl ?_
      refine go_iald (pc := 28) hF dX11_boundOf_28 (by omega) zs (by omega)  ?_
      refine go_istore (pc := 29) hF [(4, vi (sn (jx : Int))), (3, vi (jx : Int)), (2, vi dl), (1, vi 1), (0, vr E 94)] dX11_boundOf_29 rfl (by decide) ?_
      refine go_iload (pc := 31) hF dX11_boundOf_31 0 rfl ?_
      refine go_callSP (pc := 33) hF [vi (sn (jx : Int))] [] ms_X11_168 dX11_boundOf_33 (show CP E M_X11_isLook 2 [vi (sn (jx : Int))] N ρ 1 from (by have h := c_X11_isLook E N ρ (sn (jx : Int)) (by omega); rw [bI_t (by omega)] at h; exact h)) rfl rfl (Nat.le_of_ble_eq_true rfl) (by decide) ⟨Nat.zero_le _, Nat.zero_le _⟩ ?_
      refine go_if_eq (pc := 36) hF 104 dX11_boundOf_36 (by decide) ⟨by decide, by decide⟩ (fun bq36 => ?_) (fun bq36 => ?_)
      · exact absurd bq36 (by decide)
      · refine go_iload_n (pc := 39) hF dX11_boundOf_39 3 rfl ?_
        refine go_if_eq (pc := 40) hF 60 dX11_boundOf_40 (by decide) ⟨by decide, by decide⟩ (fun bq40 => ?_) (fun bq40 => ?_)
        · exact absurd bq40 (by decide)
        · refine go_aload_n (pc := 43) hF dX11_boundOf_43 4 rfl ?_
          refine go_iload_n (pc := 44) hF dX11_boundOf_44 1 rfl ?_
          refine go_callVP (pc := 45) hF [vi (jx : Int)] [] mv_X11_210 dX11_boundOf_45 (by omega) zx (show CP E M_X11_sureOf 1 [vr E 94, vi (jx : Int)] N ρ (soT t₉ u₉ (kN₉ sn jx)) from (by have q₉ := hfR jx hjx hc₉; have h := c_X11_sureOf E N ρ hN₉ zx zn zm zy u₉ jx n4₉ hu (by omega) (by omega) (by omega); rw [soM_at hfR hjx hc₉] at h; exact h)) rfl rfl (Nat.le_of_ble_eq_true rfl) (by decide) ⟨Nat.zero_le _, Nat.zero_le _⟩ ?_
          refine go_iconst (pc := 48) hF dX11_boundOf_48 ?_
          refine go_icmp_eq (pc := 49) hF 56 dX11_boundOf_49 (by decide) (by omega) ⟨by decide, by decide⟩ (fun bq49 => ?_) (fun bq49 => ?_)
          · refine go_iconst (pc := 56) hF dX11_boundOf_56 ?_
            refine go_goto (pc := 57) hF 74 dX11_boundOf_57 (by decide) ?_
            refine go_istore (pc := 74) hF [(5, vi 0), (4, vi (sn (jx : Int))), (3, vi (jx : Int)), (2, vi dl), (1, vi 1), (0, vr E 94)] dX11_boundOf_74 rfl (by decide) ?_
            refine go_aload_n (pc := 76) hF dX11_boundOf_76 5 rfl ?_
            refine go_get (pc := 77) hF fl_X11_56 dX11_boundOf_77 (by omega) zx rfl ?_
            refine go_iload_n (pc := 80) hF dX11_boundOf_80 3 rfl ?_
            refine go_dup2 (pc := 81) hF dX11_boundOf_81 rfl rfl ?_
            refine go_iald (pc := 82) hF dX11_boundOf_82 (by omega) w1₉ (by omega)  ?_
            refine go_iload (pc := 83) hF dX11_boundOf_83 0 rfl ?_
            refine go_if_eq (pc := 85) hF 98 dX11_boundOf_85 (by decide) ⟨by decide, by decide⟩ (fun bq85 => ?_) (fun bq85 => ?_)
            · refine go_iconst (pc := 98) hF dX11_boundOf_98 ?_
              refine go_iadd (pc := 99) hF dX11_boundOf_99 ?_
              refine go_iast (pc := 100) hF dX11_boundOf_100 (by omega) w1₉ (by omega) (fun s4₉ u_s4 f_s4 => ?_)
              have x_s4 := (f_s4 94 (by omega)).trans zx
              have nw_s4 := (f_s4 95 (by omega)).trans zn
              have sn_s4 := (f_s4 98 (by omega)).trans zs
              have eo_s4 := (f_s4 99 (by omega)).trans ze
              have mustAt_s4 := (f_s4 108 (by omega)).trans zm
              have mayAt_s4 := (f_s4 109 (by omega)).trans zy
              have sumsFirst_s4 := (f_s4 111 (by omega)).trans w2₉
              refine go_goto (pc := 101) hF 295 dX11_boundOf_101 (by decide) ?_
              refine go_iinc (pc := 295) hF [(3, vi ((jx : Int) + 1)), (5, vi 0), (4, vi (sn (jx : Int))), (2, vi dl), (1, vi 1), (0, vr E 94)] dX11_boundOf_295 2 rfl rfl (by decide) ?_
              refine go_goto (pc := 298) hF 15 dX11_boundOf_298 (by decide) ?_
              refine go_lv [(3, vi ((jx : Int) + 1)), (2, vi dl), (1, vi 1), (0, vr E 94)] [0, 3, 4, 5] rfl ?_
              rw [if_pos bq49] at hK₉
              exact hK₉ _ ⟨u_s4, sumsFirst_s4, (fun jj hjj => by rw [f_s4 jj (by omega), fr₉ jj (by omega)])⟩
            · exact absurd bq85 (by decide)
          · refine go_iconst (pc := 52) hF dX11_boundOf_52 ?_
            refine go_goto (pc := 53) hF 74 dX11_boundOf_53 (by decide) ?_
            refine go_istore (pc := 74) hF [(5, vi 1), (4, vi (sn (jx : Int))), (3, vi (jx : Int)), (2, vi dl), (1, vi 1), (0, vr E 94)] dX11_boundOf_74 rfl (by decide) ?_
            refine go_aload_n (pc := 76) hF dX11_boundOf_76 5 rfl ?_
            refine go_get (pc := 77) hF fl_X11_56 dX11_boundOf_77 (by omega) zx rfl ?_
            refine go_iload_n (pc := 80) hF dX11_boundOf_80 3 rfl ?_
            refine go_dup2 (pc := 81) hF dX11_boundOf_81 rfl rfl ?_
            refine go_iald (pc := 82) hF dX11_boundOf_82 (by omega) w1₉ (by omega)  ?_
            refine go_iload (pc := 83) hF dX11_boundOf_83 0 rfl ?_
            refine go_if_eq (pc := 85) hF 98 dX11_boundOf_85 (by decide) ⟨by decide, by decide⟩ (fun bq85 => ?_) (fun bq85 => ?_)
            · exact absurd bq85 (by decide)
            · refine go_aload_n (pc := 88) hF dX11_boundOf_88 5 rfl ?_
              refine go_get (pc := 89) hF fl_X11_7 dX11_boundOf_89 (by omega) zx rfl ?_
              refine go_bipush (pc := 92) hF dX11_boundOf_92 (by decide) ?_
              refine go_iald (pc := 94) hF dX11_boundOf_94 (by omega) zn (by omega)  ?_
              rw [n6₉]
              refine go_goto (pc := 95) hF 99 dX11_boundOf_95 (by decide) ?_
              refine go_iadd (pc := 99) hF dX11_boundOf_99 ?_
              refine go_iast (pc := 100) hF dX11_boundOf_100 (by omega) w1₉ (by omega) (fun s5 u_s5 f_s5 => ?_)
              have x_s5 := (f_s5 94 (by omega)).trans zx
              have nw_s5 := (f_s5 95 (by omega)).trans zn
              have sn_s5 := (f_s5 98 (by omega)).trans zs
              have eo_s5 := (f_s5 99 (by omega)).trans ze
              have mustAt_s5 := (f_s5 108 (by omega)).trans zm
              have mayAt_s5 := (f_s5 109 (by omega)).trans zy
              have sumsFirst_s5 := (f_s5 111 (by omega)).trans w2₉
              refine go_goto (pc := 101) hF 295 dX11_boundOf_101 (by decide) ?_
              refine go_iinc (pc := 295) hF [(3, vi ((jx : Int) + 1)), (5, vi 1), (4, vi (sn (jx : Int))), (2, vi dl), (1, vi 1), (0, vr E 94)] dX11_boundOf_295 2 rfl rfl (by decide) ?_
              refine go_goto (pc := 298) hF 15 dX11_boundOf_298 (by decide) ?_
              refine go_lv [(3, vi ((jx : Int) + 1)), (2, vi dl), (1, vi 1), (0, vr E 94)] [0, 3, 4, 5] rfl ?_
              rw [if_neg bq49] at hK₉
              exact hK₉ _ ⟨u_s5, sumsFirst_s5, (fun jj hjj => by rw [f_s5 jj (by omega), fr₉ jj (by omega)])⟩
  have s_opA : ∀ (oo dl : Int) (sm₉ sf : Int → Int) (ρ : Nat → va_E), bW E s2₉ ρ sm₉ sf → 0 ≤ oo ∧ oo < (tLen t₉ : Int) → 0 ≤ dl ∧ dl ≤ 2 → sn oo = 40 → (∀ ρ', bW E s2₉ ρ' (up sm₉ (dl + 1) 0) sf → Go E p e R s m args below meth c Q 7 (0, 0) N ρ' [(3, vi (oo + 1)), (2, vi (dl + 1)), (1, vi 1), (0, vr E 94)] [] 15) → Go E p e R s m args below meth c Q 7 (0, 0) N ρ [(3, vi oo), (2, vi dl), (1, vi 1), (0, vr E 94)] [] 15 := by
    intro oo dl sm₉ sf ρ hW ho hd₉ hc₉ hK₉
    obtain ⟨w1₉, w2₉, fr₉⟩ := hW
    have zx := (fr₉ 94 (by omega)).trans x_s2
    have zn := (fr₉ 95 (by omega)).trans nw_s2
    have zs := (fr₉ 98 (by omega)).trans sn_s2
    have ze := (fr₉ 99 (by omega)).trans eo_s2
    have zm := (fr₉ 108 (by omega)).trans mustAt_s2
    have zy := (fr₉ 109 (by omega)).trans mayAt_s2
    refine go_iload_n (pc := 15) hF dX11_boundOf_15 0 rfl ?_
    refine go_aload_n (pc := 16) hF dX11_boundOf_16 3 rfl ?_
    refine go_get (pc := 17) hF fl_X11_177 dX11_boundOf_17 (by omega) zx rfl ?_
    refine go_icmp_ge (pc := 20) hF 301 dX11_boundOf_20 (by decide) (by omega) (by omega) (fun bq20 => ?_) (fun bq20 => ?_)
    · exact absurd bq20 (by omega)
    · refine go_aload_n (pc := 23) hF dX11_boundOf_23 3 rfl ?_
      refine go_get (pc := 24) hF fl_X11_19 dX11_boundOf_24 (by omega) zx rfl ?_
      refine go_iload_n (pc := 27) hF dX11_boundOf_27 0 rfl ?_
      refine go_iald (pc := 28) hF dX11_boundOf_28 (by omega) zs (by omega)  ?_
      rw [hc₉]
      refine go_istore (pc := 29) hF [(4, vi 40), (3, vi oo), (2, vi dl), (1, vi 1), (0, vr E 94)] dX11_boundOf_29 rfl (by decide) ?_
      refine go_iload (pc := 31) hF dX11_boundOf_31 0 rfl ?_
      refine go_callSP (pc := 33) hF [vi 40] [] ms_X11_168 dX11_boundOf_33 (show CP E M_X11_isLook 2 [vi 40] N ρ 0 from (by have h := c_X11_isLook E N ρ 40 (by omega); rw [bI_f (by omega)] at h; exact h)) rfl rfl (Nat.le_of_ble_eq_true rfl) (by decide) ⟨Nat.zero_le _, Nat.zero_le _⟩ ?_
      refine go_if_eq (pc := 36) hF 104 dX11_boundOf_36 (by decide) ⟨by decide, by decide⟩ (fun bq36 => ?_) (fun bq36 => ?_)
      · refine go_iload (pc := 104) hF dX11_boundOf_104 0 rfl ?_
        refine go_bipush (pc := 106) hF dX11_boundOf_106 (by decide) ?_
        refine go_icmp_ne (pc := 108) hF 124 dX11_boundOf_108 (by decide) ⟨by decide, by decide⟩ ⟨by decide, by decide⟩ (fun bq108 => ?_) (fun bq108 => ?_)
        · refine go_iload (pc := 124) hF dX11_boundOf_124 0 rfl ?_
          refine go_bipush (pc := 126) hF dX11_boundOf_126 (by decide) ?_
          refine go_icmp_eq (pc := 128) hF 139 dX11_boundOf_128 (by decide) ⟨by decide, by decide⟩ ⟨by decide, by decide⟩ (fun bq128 => ?_) (fun bq128 => ?_)
          · refine go_iinc (pc := 139) hF [(2, vi (dl + 1)), (4, vi 40), (3, vi oo), (1, vi 1), (0, vr E 94)] dX11_boundOf_139 2 rfl rfl (by decide) ?_
            refine go_aload_n (pc := 142) hF dX11_boundOf_142 4 rfl ?_
            refine go_get (pc := 143) hF fl_X11_56 dX11_boundOf_143 (by omega) zx rfl ?_
            refine go_iload_n (pc := 146) hF dX11_boundOf_146 0 rfl ?_
            refine go_iconst (pc := 147) hF dX11_boundOf_147 ?_
            refine go_iast (pc := 148) hF dX11_boundOf_148 (by omega) w1₉ (by omega) (fun s6₉ u_s6 f_s6 => ?_)
            have x_s6 := (f_s6 94 (by omega)).trans zx
            have nw_s6 := (f_s6 95 (by omega)).trans zn
            have sn_s6 := (f_s6 98 (by omega)).trans zs
            have eo_s6 := (f_s6 99 (by omega)).trans ze
            have mustAt_s6 := (f_s6 108 (by omega)).trans zm
            have mayAt_s6 := (f_s6 109 (by omega)).trans zy
            have sumsFirst_s6 := (f_s6 111 (by omega)).trans w2₉
            refine go_goto (pc := 149) hF 295 dX11_boundOf_149 (by decide) ?_
            refine go_iinc (pc := 295) hF [(3, vi (oo + 1)), (2, vi (dl + 1)), (4, vi 40), (1, vi 1), (0, vr E 94)] dX11_boundOf_295 2 rfl rfl (by decide) ?_
            refine go_goto (pc := 298) hF 15 dX11_boundOf_298 (by decide) ?_
            refine go_lv [(3, vi (oo + 1)), (2, vi (dl + 1)), (1, vi 1), (0, vr E 94)] [0, 1, 3, 4] rfl ?_
            exact hK₉ _ ⟨u_s6, sumsFirst_s6, (fun jj hjj => by rw [f_s6 jj (by omega), fr₉ jj (by omega)])⟩
          · exact absurd bq128 (by decide)
        · exact absurd bq108 (by decide)
      · exact absurd bq36 (by decide)
  have s_opB : ∀ (oo dl : Int) (sm₉ sf : Int → Int) (ρ : Nat → va_E), bW E s2₉ ρ sm₉ sf → 0 ≤ oo ∧ oo < (tLen t₉ : Int) → 0 ≤ dl ∧ dl ≤ 2 → 49 ≤ sn oo ∧ sn oo ≤ 57 → (∀ ρ', bW E s2₉ ρ' (up sm₉ (dl + 1) 0) sf → Go E p e R s m args below meth c Q 7 (0, 0) N ρ' [(3, vi (oo + 1)), (2, vi (dl + 1)), (1, vi 1), (0, vr E 94)] [] 15) → Go E p e R s m args below meth c Q 7 (0, 0) N ρ [(3, vi oo), (2, vi dl), (1, vi 1), (0, vr E 94)] [] 15 := by
    intro oo dl sm₉ sf ρ hW ho hd₉ hc₉ hK₉
    obtain ⟨w1₉, w2₉, fr₉⟩ := hW
    have zx := (fr₉ 94 (by omega)).trans x_s2
    have zn := (fr₉ 95 (by omega)).trans nw_s2
    have zs := (fr₉ 98 (by omega)).trans sn_s2
    have ze := (fr₉ 99 (by omega)).trans eo_s2
    have zm := (fr₉ 108 (by omega)).trans mustAt_s2
    have zy := (fr₉ 109 (by omega)).trans mayAt_s2
    refine go_iload_n (pc := 15) hF dX11_boundOf_15 0 rfl ?_
    refine go_aload_n (pc := 16) hF dX11_boundOf_16 3 rfl ?_
    refine go_get (pc := 17) hF fl_X11_177 dX11_boundOf_17 (by omega) zx rfl ?_
    refine go_icmp_ge (pc := 20) hF 301 dX11_boundOf_20 (by decide) (by omega) (by omega) (fun bq20 => ?_) (fun bq20 => ?_)
    · exact absurd bq20 (by omega)
    · refine go_aload_n (pc := 23) hF dX11_boundOf_23 3 rfl ?_
      refine go_get (pc := 24) hF fl_X11_19 dX11_boundOf_24 (by omega) zx rfl ?_
      refine go_iload_n (pc := 27) hF dX11_boundOf_27 0 rfl ?_
      refine go_iald (pc := 28) hF dX11_boundOf_28 (by omega) zs (by omega)  ?_
      refine go_istore (pc := 29) hF [(4, vi (sn oo)), (3, vi oo), (2, vi dl), (1, vi 1), (0, vr E 94)] dX11_boundOf_29 rfl (by decide) ?_
      refine go_iload (pc := 31) hF dX11_boundOf_31 0 rfl ?_
      refine go_callSP (pc := 33) hF [vi (sn oo)] [] ms_X11_168 dX11_boundOf_33 (show CP E M_X11_isLook 2 [vi (sn oo)] N ρ 0 from (by have h := c_X11_isLook E N ρ (sn oo) (by omega); rw [bI_f (by omega)] at h; exact h)) rfl rfl (Nat.le_of_ble_eq_true rfl) (by decide) ⟨Nat.zero_le _, Nat.zero_le _⟩ ?_
      refine go_if_eq (pc := 36) hF 104 dX11_boundOf_36 (by decide) ⟨by decide, by decide⟩ (fun bq36 => ?_) (fun bq36 => ?_)
      · refine go_iload (pc := 104) hF dX11_boundOf_104 0 rfl ?_
        refine go_bipush (pc := 106) hF dX11_boundOf_106 (by decide) ?_
        refine go_icmp_ne (pc := 108) hF 124 dX11_boundOf_108 (by decide) (by omega) ⟨by decide, by decide⟩ (fun bq108 => ?_) (fun bq108 => ?_)
        · refine go_iload (pc := 124) hF dX11_boundOf_124 0 rfl ?_
          refine go_bipush (pc := 126) hF dX11_boundOf_126 (by decide) ?_
          refine go_icmp_eq (pc := 128) hF 139 dX11_boundOf_128 (by decide) (by omega) ⟨by decide, by decide⟩ (fun bq128 => ?_) (fun bq128 => ?_)
          · exact absurd bq128 (by omega)
          · refine go_iload (pc := 131) hF dX11_boundOf_131 0 rfl ?_
            refine go_callSP (pc := 133) hF [vi (sn oo)] [] ms_X11_171 dX11_boundOf_133 (show CP E M_X11_isFigure 2 [vi (sn oo)] N ρ 1 from (by have h := c_X11_isFigure E N ρ (sn oo) (by omega); rw [bI_t (by omega)] at h; exact h)) rfl rfl (Nat.le_of_ble_eq_true rfl) (by decide) ⟨Nat.zero_le _, Nat.zero_le _⟩ ?_
            refine go_if_eq (pc := 136) hF 152 dX11_boundOf_136 (by decide) ⟨by decide, by decide⟩ (fun bq136 => ?_) (fun bq136 => ?_)
            · exact absurd bq136 (by decide)
            · refine go_iinc (pc := 139) hF [(2, vi (dl + 1)), (4, vi (sn oo)), (3, vi oo), (1, vi 1), (0, vr E 94)] dX11_boundOf_139 2 rfl rfl (by decide) ?_
              refine go_aload_n (pc := 142) hF dX11_boundOf_142 4 rfl ?_
              refine go_get (pc := 143) hF fl_X11_56 dX11_boundOf_143 (by omega) zx rfl ?_
              refine go_iload_n (pc := 146) hF dX11_boundOf_146 0 rfl ?_
              refine go_iconst (pc := 147) hF dX11_boundOf_147 ?_
              refine go_iast (pc := 148) hF dX11_boundOf_148 (by omega) w1₉ (by omega) (fun s7 u_s7 f_s7 => ?_)
              have x_s7 := (f_s7 94 (by omega)).trans zx
              have nw_s7 := (f_s7 95 (by omega)).trans zn
              have sn_s7 := (f_s7 98 (by omega)).trans zs
              have eo_s7 := (f_s7 99 (by omega)).trans ze
              have mustAt_s7 := (f_s7 108 (by omega)).trans zm
              have mayAt_s7 := (f_s7 109 (by omega)).trans zy
              have sumsFirst_s7 := (f_s7 111 (by omega)).trans w2₉
              refine go_goto (pc := 149) hF 295 dX11_boundOf_149 (by decide) ?_
              refine go_iinc (pc := 295) hF [(3, vi (oo + 1)), (2, vi (dl + 1)), (4, vi (sn oo)), (1, vi 1), (0, vr E 94)] dX11_boundOf_295 2 rfl rfl (by decide) ?_
              refine go_goto (pc := 298) hF 15 dX11_boundOf_298 (by decide) ?_
              refine go_lv [(3, vi (oo + 1)), (2, vi (dl + 1)), (1, vi 1), (0, vr E 94)] [0, 1, 3, 4] rfl ?_
              exact hK₉ _ ⟨u_s7, sumsFirst_s7, (fun jj hjj => by rw [f_s7 jj (by omega), fr₉ jj (by omega)])⟩
        · exact absurd bq108 (by omega)
      · exact absurd bq36 (by decide)
  have s_bar : ∀ (oo dl : Int) (sm₉ sf : Int → Int) (ρ : Nat → va_E), bW E s2₉ ρ sm₉ sf → 0 ≤ oo ∧ oo < (tLen t₉ : Int) → 0 ≤ dl ∧ dl ≤ 2 → sn oo = 124 → (∀ ρ', bW E s2₉ ρ' (up sm₉ (dl + 1) 0) (up sf (dl + 1) (sm₉ (dl + 1))) → Go E p e R s m args below meth c Q 7 (0, 0) N ρ' [(3, vi (oo + 1)), (2, vi (dl + 1)), (1, vi 1), (0, vr E 94)] [] 15) → Go E p e R s m args below meth c Q 7 (0, 0) N ρ [(3, vi oo), (2, vi (dl + 1)), (1, vi 1), (0, vr E 94)] [] 15 := by
    intro oo dl sm₉ sf ρ hW ho hd₉ hc₉ hK₉
    obtain ⟨w1₉, w2₉, fr₉⟩ := hW
    have zx := (fr₉ 94 (by omega)).trans x_s2
    have zn := (fr₉ 95 (by omega)).trans nw_s2
    have zs := (fr₉ 98 (by omega)).trans sn_s2
    have ze := (fr₉ 99 (by omega)).trans eo_s2
    have zm := (fr₉ 108 (by omega)).trans mustAt_s2
    have zy := (fr₉ 109 (by omega)).trans mayAt_s2
    refine go_iload_n (pc := 15) hF dX11_boundOf_15 0 rfl ?_
    refine go_aload_n (pc := 16) hF dX11_boundOf_16 3 rfl ?_
    refine go_get (pc := 17) hF fl_X11_177 dX11_boundOf_17 (by omega) zx rfl ?_
    refine go_icmp_ge (pc := 20) hF 301 dX11_boundOf_20 (by decide) (by omega) (by omega) (fun bq20 => ?_) (fun bq20 => ?_)
    · exact absurd bq20 (by omega)
    · refine go_aload_n (pc := 23) hF dX11_boundOf_23 3 rfl ?_
      refine go_get (pc := 24) hF fl_X11_19 dX11_boundOf_24 (by omega) zx rfl ?_
      refine go_iload_n (pc := 27) hF dX11_boundOf_27 0 rfl ?_
      refine go_iald (pc := 28) hF dX11_boundOf_28 (by omega) zs (by omega)  ?_
      rw [hc₉]
      refine go_istore (pc := 29) hF [(4, vi 124), (3, vi oo), (2, vi (dl + 1)), (1, vi 1), (0, vr E 94)] dX11_boundOf_29 rfl (by decide) ?_
      refine go_iload (pc := 31) hF dX11_boundOf_31 0 rfl ?_
      refine go_callSP (pc := 33) hF [vi 124] [] ms_X11_168 dX11_boundOf_33 (show CP E M_X11_isLook 2 [vi 124] N ρ 0 from (by have h := c_X11_isLook E N ρ 124 (by omega); rw [bI_f (by omega)] at h; exact h)) rfl rfl (Nat.le_of_ble_eq_true rfl) (by decide) ⟨Nat.zero_le _, Nat.zero_le _⟩ ?_
      refine go_if_eq (pc := 36) hF 104 dX11_boundOf_36 (by decide) ⟨by decide, by decide⟩ (fun bq36 => ?_) (fun bq36 => ?_)
      · refine go_iload (pc := 104) hF dX11_boundOf_104 0 rfl ?_
        refine go_bipush (pc := 106) hF dX11_boundOf_106 (by decide) ?_
        refine go_icmp_ne (pc := 108) hF 124 dX11_boundOf_108 (by decide) ⟨by decide, by decide⟩ ⟨by decide, by decide⟩ (fun bq108 => ?_) (fun bq108 => ?_)
        · refine go_iload (pc := 124) hF dX11_boundOf_124 0 rfl ?_
          refine go_bipush (pc := 126) hF dX11_boundOf_126 (by decide) ?_
          refine go_icmp_eq (pc := 128) hF 139 dX11_boundOf_128 (by decide) ⟨by decide, by decide⟩ ⟨by decide, by decide⟩ (fun bq128 => ?_) (fun bq128 => ?_)
          · exact absurd bq128 (by decide)
          · refine go_iload (pc := 131) hF dX11_boundOf_131 0 rfl ?_
            refine go_callSP (pc := 133) hF [vi 124] [] ms_X11_171 dX11_boundOf_133 (show CP E M_X11_isFigure 2 [vi 124] N ρ 0 from (by have h := c_X11_isFigure E N ρ 124 (by omega); rw [bI_f (by omega)] at h; exact h)) rfl rfl (Nat.le_of_ble_eq_true rfl) (by decide) ⟨Nat.zero_le _, Nat.zero_le _⟩ ?_
            refine go_if_eq (pc := 136) hF 152 dX11_boundOf_136 (by decide) ⟨by decide, by decide⟩ (fun bq136 => ?_) (fun bq136 => ?_)
            · refine go_iload (pc := 152) hF dX11_boundOf_152 0 rfl ?_
              refine go_bipush (pc := 154) hF dX11_boundOf_154 (by decide) ?_
              refine go_icmp_ne (pc := 156) hF 181 dX11_boundOf_156 (by decide) ⟨by decide, by decide⟩ ⟨by decide, by decide⟩ (fun bq156 => ?_) (fun bq156 => ?_)
              · exact absurd bq156 (by decide)
              · refine go_aload_n (pc := 159) hF dX11_boundOf_159 4 rfl ?_
                refine go_get (pc := 160) hF fl_X11_59 dX11_boundOf_160 (by omega) zx rfl ?_
                refine go_iload_n (pc := 163) hF dX11_boundOf_163 2 rfl ?_
                refine go_aload_n (pc := 164) hF dX11_boundOf_164 4 rfl ?_
                refine go_get (pc := 165) hF fl_X11_56 dX11_boundOf_165 (by omega) zx rfl ?_
                refine go_iload_n (pc := 168) hF dX11_boundOf_168 2 rfl ?_
                refine go_iald (pc := 169) hF dX11_boundOf_169 (by omega) w1₉ (by omega)  ?_
                refine go_iast (pc := 170) hF dX11_boundOf_170 (by omega) w2₉ (by omega) (fun s8 u_s8 f_s8 => ?_)
                have x_s8 := (f_s8 94 (by omega)).trans zx
                have nw_s8 := (f_s8 95 (by omega)).trans zn
                have sn_s8 := (f_s8 98 (by omega)).trans zs
                have eo_s8 := (f_s8 99 (by omega)).trans ze
                have mustAt_s8 := (f_s8 108 (by omega)).trans zm
                have mayAt_s8 := (f_s8 109 (by omega)).trans zy
                have sums_s8 := (f_s8 110 (by omega)).trans w1₉
                refine go_aload_n (pc := 171) hF dX11_boundOf_171 4 rfl ?_
                refine go_get (pc := 172) hF fl_X11_56 dX11_boundOf_172 (by omega) x_s8 rfl ?_
                refine go_iload_n (pc := 175) hF dX11_boundOf_175 2 rfl ?_
                refine go_iconst (pc := 176) hF dX11_boundOf_176 ?_
                refine go_iast (pc := 177) hF dX11_boundOf_177 (by omega) sums_s8 (by omega) (fun s9 u_s9 f_s9 => ?_)
                have x_s9 := (f_s9 94 (by omega)).trans x_s8
                have nw_s9 := (f_s9 95 (by omega)).trans nw_s8
                have sn_s9 := (f_s9 98 (by omega)).trans sn_s8
                have eo_s9 := (f_s9 99 (by omega)).trans eo_s8
                have mustAt_s9 := (f_s9 108 (by omega)).trans mustAt_s8
                have mayAt_s9 := (f_s9 109 (by omega)).trans mayAt_s8
                have sumsFirst_s9 := (f_s9 111 (by omega)).trans u_s8
                refine go_goto (pc := 178) hF 295 dX11_boundOf_178 (by decide) ?_
                refine go_iinc (pc := 295) hF [(3, vi (oo + 1)), (4, vi 124), (2, vi (dl + 1)), (1, vi 1), (0, vr E 94)] dX11_boundOf_295 1 rfl rfl (by decide) ?_
                refine go_goto (pc := 298) hF 15 dX11_boundOf_298 (by decide) ?_
                refine go_lv [(3, vi (oo + 1)), (2, vi (dl + 1)), (1, vi 1), (0, vr E 94)] [0, 2, 3, 4] rfl ?_
                exact hK₉ _ ⟨u_s9, sumsFirst_s9, (fun jj hjj => by rw [f_s9 jj (by omega), f_s8 jj (by omega), fr₉ jj (by omega)])⟩
            · exact absurd bq136 (by decide)
        · exact absurd bq108 (by decide)
      · exact absurd bq36 (by decide)
  have s_close : ∀ (oo dl : Int) (sm₉ sf : Int → Int) (ρ : Nat → va_E), bW E s2₉ ρ sm₉ sf → 0 ≤ oo ∧ oo < (tLen t₉ : Int) → 0 ≤ dl ∧ dl ≤ 2 → sn oo = 41 → rg (sm₉ (dl + 1)) → rg (sf (dl + 1)) → (∀ ρ', bW E s2₉ ρ' (up sm₉ dl (sm₉ dl + max (sf (dl + 1)) (sm₉ (dl + 1)))) sf → Go E p e R s m args below meth c Q 7 (0, 0) N ρ' [(3, vi (oo + 1)), (2, vi dl), (1, vi 1), (0, vr E 94)] [] 15) → Go E p e R s m args below meth c Q 7 (0, 0) N ρ [(3, vi oo), (2, vi (dl + 1)), (1, vi 1), (0, vr E 94)] [] 15 := by
    intro oo dl sm₉ sf ρ hW ho hd₉ hc₉ hr1 hr2 hK₉
    obtain ⟨w1₉, w2₉, fr₉⟩ := hW
    have zx := (fr₉ 94 (by omega)).trans x_s2
    have zn := (fr₉ 95 (by omega)).trans nw_s2
    have zs := (fr₉ 98 (by omega)).trans sn_s2
    have ze := (fr₉ 99 (by omega)).trans eo_s2
    have zm := (fr₉ 108 (by omega)).trans mustAt_s2
    have zy := (fr₉ 109 (by omega)).trans mayAt_s2
    refine go_iload_n (pc := 15) hF dX11_boundOf_15 0 rfl ?_
    refine go_aload_n (pc := 16) hF dX11_boundOf_16 3 rfl ?_
    refine go_get (pc := 17) hF fl_X11_177 dX11_boundOf_17 (by omega) zx rfl ?_
    refine go_icmp_ge (pc := 20) hF 301 dX11_boundOf_20 (by decide) (by omega) (by omega) (fun bq20 => ?_) (fun bq20 => ?_)
    · exact absurd bq20 (by omega)
    · refine go_aload_n (pc := 23) hF dX11_boundOf_23 3 rfl ?_
      refine go_get (pc := 24) hF fl_X11_19 dX11_boundOf_24 (by omega) zx rfl ?_
      refine go_iload_n (pc := 27) hF dX11_boundOf_27 0 rfl ?_
      refine go_iald (pc := 28) hF dX11_boundOf_28 (by omega) zs (by omega)  ?_
      rw [hc₉]
      refine go_istore (pc := 29) hF [(4, vi 41), (3, vi oo), (2, vi (dl + 1)), (1, vi 1), (0, vr E 94)] dX11_boundOf_29 rfl (by decide) ?_
      refine go_iload (pc := 31) hF dX11_boundOf_31 0 rfl ?_
      refine go_callSP (pc := 33) hF [vi 41] [] ms_X11_168 dX11_boundOf_33 (show CP E M_X11_isLook 2 [vi 41] N ρ 0 from (by have h := c_X11_isLook E N ρ 41 (by omega); rw [bI_f (by omega)] at h; exact h)) rfl rfl (Nat.le_of_ble_eq_true rfl) (by decide) ⟨Nat.zero_le _, Nat.zero_le _⟩ ?_
      refine go_if_eq (pc := 36) hF 104 dX11_boundOf_36 (by decide) ⟨by decide, by decide⟩ (fun bq36 => ?_) (fun bq36 => ?_)
      · refine go_iload (pc := 104) hF dX11_boundOf_104 0 rfl ?_
        refine go_bipush (pc := 106) hF dX11_boundOf_106 (by decide) ?_
        refine go_icmp_ne (pc := 108) hF 124 dX11_boundOf_108 (by decide) ⟨by decide, by decide⟩ ⟨by decide, by decide⟩ (fun bq108 => ?_) (fun bq108 => ?_)
        · refine go_iload (pc := 124) hF dX11_boundOf_124 0 rfl ?_
          refine go_bipush (pc := 126) hF dX11_boundOf_126 (by decide) ?_
          refine go_icmp_eq (pc := 128) hF 139 dX11_boundOf_128 (by decide) ⟨by decide, by decide⟩ ⟨by decide, by decide⟩ (fun bq128 => ?_) (fun bq128 => ?_)
          · exact absurd bq128 (by decide)
          · refine go_iload (pc := 131) hF dX11_boundOf_131 0 rfl ?_
            refine go_callSP (pc := 133) hF [vi 41] [] ms_X11_171 dX11_boundOf_133 (show CP E M_X11_isFigure 2 [vi 41] N ρ 0 from (by have h := c_X11_isFigure E N ρ 41 (by omega); rw [bI_f (by omega)] at h; exact h)) rfl rfl (Nat.le_of_ble_eq_true rfl) (by decide) ⟨Nat.zero_le _, Nat.zero_le _⟩ ?_
            refine go_if_eq (pc := 136) hF 152 dX11_boundOf_136 (by decide) ⟨by decide, by decide⟩ (fun bq136 => ?_) (fun bq136 => ?_)
            · refine go_iload (pc := 152) hF dX11_boundOf_152 0 rfl ?_
              refine go_bipush (pc := 154) hF dX11_boundOf_154 (by decide) ?_
              refine go_icmp_ne (pc := 156) hF 181 dX11_boundOf_156 (by decide) ⟨by decide, by decide⟩ ⟨by decide, by decide⟩ (fun bq156 => ?_) (fun bq156 => ?_)
              · refine go_iload (pc := 181) hF dX11_boundOf_181 0 rfl ?_
                refine go_bipush (pc := 183) hF dX11_boundOf_183 (by decide) ?_
                refine go_icmp_ne (pc := 185) hF 250 dX11_boundOf_185 (by decide) ⟨by decide, by decide⟩ ⟨by decide, by decide⟩ (fun bq185 => ?_) (fun bq185 => ?_)
                · exact absurd bq185 (by decide)
                · refine go_aload_n (pc := 188) hF dX11_boundOf_188 4 rfl ?_
                  refine go_get (pc := 189) hF fl_X11_56 dX11_boundOf_189 (by omega) zx rfl ?_
                  refine go_iload_n (pc := 192) hF dX11_boundOf_192 2 rfl ?_
                  refine go_iald (pc := 193) hF dX11_boundOf_193 (by omega) w1₉ (by omega)  ?_
                  refine go_aload_n (pc := 194) hF dX11_boundOf_194 4 rfl ?_
                  refine go_get (pc := 195) hF fl_X11_59 dX11_boundOf_195 (by omega) zx rfl ?_
                  refine go_iload_n (pc := 198) hF dX11_boundOf_198 2 rfl ?_
                  refine go_iald (pc := 199) hF dX11_boundOf_199 (by omega) w2₉ (by omega)  ?_
                  refine go_icmp_le (pc := 200) hF 207 dX11_boundOf_200 (by decide) (by omega) (by omega) (fun bq200 => ?_) (fun bq200 => ?_)
                  · refine go_iconst (pc := 207) hF dX11_boundOf_207 ?_
                    refine go_istore (pc := 208) hF [(5, vi 0), (4, vi 41), (3, vi oo), (2, vi (dl + 1)), (1, vi 1), (0, vr E 94)] dX11_boundOf_208 rfl (by decide) ?_
                    refine go_iload (pc := 210) hF dX11_boundOf_210 0 rfl ?_
                    refine go_iload_n (pc := 212) hF dX11_boundOf_212 4 rfl ?_
                    refine go_icmp_ne (pc := 213) hF 225 dX11_boundOf_213 (by decide) ⟨by decide, by decide⟩ ⟨by decide, by decide⟩ (fun bq213 => ?_) (fun bq213 => ?_)
                    · refine go_aload_n (pc := 225) hF dX11_boundOf_225 5 rfl ?_
                      refine go_get (pc := 226) hF fl_X11_59 dX11_boundOf_226 (by omega) zx rfl ?_
                      refine go_iload_n (pc := 229) hF dX11_boundOf_229 3 rfl ?_
                      refine go_iald (pc := 230) hF dX11_boundOf_230 (by omega) w2₉ (by omega)  ?_
                      refine go_istore (pc := 231) hF [(6, vi (sf (dl + 1))), (5, vi 0), (4, vi 41), (3, vi oo), (2, vi (dl + 1)), (1, vi 1), (0, vr E 94)] dX11_boundOf_231 rfl (by decide) ?_
                      refine go_iinc (pc := 233) hF [(2, vi ((dl + 1) + (-1))), (6, vi (sf (dl + 1))), (5, vi 0), (4, vi 41), (3, vi oo), (1, vi 1), (0, vr E 94)] dX11_boundOf_233 4 rfl rfl (by decide) ?_
                      refine go_lvE [(2, vi dl), (6, vi (sf (dl + 1))), (5, vi 0), (4, vi 41), (3, vi oo), (1, vi 1), (0, vr E 94)] (by rw [show (dl + 1) + (-1) = dl by omega]) ?_
                      refine go_aload_n (pc := 236) hF dX11_boundOf_236 6 rfl ?_
                      refine go_get (pc := 237) hF fl_X11_56 dX11_boundOf_237 (by omega) zx rfl ?_
                      refine go_iload_n (pc := 240) hF dX11_boundOf_240 0 rfl ?_
                      refine go_dup2 (pc := 241) hF dX11_boundOf_241 rfl rfl ?_
                      refine go_iald (pc := 242) hF dX11_boundOf_242 (by omega) w1₉ (by omega)  ?_
                      refine go_iload (pc := 243) hF dX11_boundOf_243 1 rfl ?_
                      refine go_iadd (pc := 245) hF dX11_boundOf_245 ?_
                      refine go_iast (pc := 246) hF dX11_boundOf_246 (by omega) w1₉ (by omega) (fun s10 u_s10 f_s10 => ?_)
                      have x_s10 := (f_s10 94 (by omega)).trans zx
                      have nw_s10 := (f_s10 95 (by omega)).trans zn
                      have sn_s10 := (f_s10 98 (by omega)).trans zs
                      have eo_s10 := (f_s10 99 (by omega)).trans ze
                      have mustAt_s10 := (f_s10 108 (by omega)).trans zm
                      have mayAt_s10 := (f_s10 109 (by omega)).trans zy
                      have sumsFirst_s10 := (f_s10 111 (by omega)).trans w2₉
                      refine go_goto (pc := 247) hF 295 dX11_boundOf_247 (by decide) ?_
                      refine go_iinc (pc := 295) hF [(3, vi (oo + 1)), (2, vi dl), (6, vi (sf (dl + 1))), (5, vi 0), (4, vi 41), (1, vi 1), (0, vr E 94)] dX11_boundOf_295 4 rfl rfl (by decide) ?_
                      refine go_goto (pc := 298) hF 15 dX11_boundOf_298 (by decide) ?_
                      refine go_lv [(3, vi (oo + 1)), (2, vi dl), (1, vi 1), (0, vr E 94)] [0, 1, 5, 6] rfl ?_
                      rw [show max (sf (dl + 1)) (sm₉ (dl + 1)) = sf (dl + 1) by omega] at hK₉
                      exact hK₉ _ ⟨u_s10, sumsFirst_s10, (fun jj hjj => by rw [f_s10 jj (by omega), fr₉ jj (by omega)])⟩
                    · exact absurd bq213 (by decide)
                  · refine go_iconst (pc := 203) hF dX11_boundOf_203 ?_
                    refine go_goto (pc := 204) hF 208 dX11_boundOf_204 (by decide) ?_
                    refine go_istore (pc := 208) hF [(5, vi 1), (4, vi 41), (3, vi oo), (2, vi (dl + 1)), (1, vi 1), (0, vr E 94)] dX11_boundOf_208 rfl (by decide) ?_
                    refine go_iload (pc := 210) hF dX11_boundOf_210 0 rfl ?_
                    refine go_iload_n (pc := 212) hF dX11_boundOf_212 4 rfl ?_
                    refine go_icmp_ne (pc := 213) hF 225 dX11_boundOf_213 (by decide) ⟨by decide, by decide⟩ ⟨by decide, by decide⟩ (fun bq213 => ?_) (fun bq213 => ?_)
                    · exact absurd bq213 (by decide)
                    · refine go_aload_n (pc := 216) hF dX11_boundOf_216 5 rfl ?_
                      refine go_get (pc := 217) hF fl_X11_56 dX11_boundOf_217 (by omega) zx rfl ?_
                      refine go_iload_n (pc := 220) hF dX11_boundOf_220 3 rfl ?_
                      refine go_iald (pc := 221) hF dX11_boundOf_221 (by omega) w1₉ (by omega)  ?_
                      refine go_goto (pc := 222) hF 231 dX11_boundOf_222 (by decide) ?_
                      refine go_istore (pc := 231) hF [(6, vi (sm₉ (dl + 1))), (5, vi 1), (4, vi 41), (3, vi oo), (2, vi (dl + 1)), (1, vi 1), (0, vr E 94)] dX11_boundOf_231 rfl (by decide) ?_
                      refine go_iinc (pc := 233) hF [(2, vi ((dl + 1) + (-1))), (6, vi (sm₉ (dl + 1))), (5, vi 1), (4, vi 41), (3, vi oo), (1, vi 1), (0, vr E 94)] dX11_boundOf_233 4 rfl rfl (by decide) ?_
                      refine go_lvE [(2, vi dl), (6, vi (sm₉ (dl + 1))), (5, vi 1), (4, vi 41), (3, vi oo), (1, vi 1), (0, vr E 94)] (by rw [show (dl + 1) + (-1) = dl by omega]) ?_
                      refine go_aload_n (pc := 236) hF dX11_boundOf_236 6 rfl ?_
                      refine go_get (pc := 237) hF fl_X11_56 dX11_boundOf_237 (by omega) zx rfl ?_
                      refine go_iload_n (pc := 240) hF dX11_boundOf_240 0 rfl ?_
                      refine go_dup2 (pc := 241) hF dX11_boundOf_241 rfl rfl ?_
                      refine go_iald (pc := 242) hF dX11_boundOf_242 (by omega) w1₉ (by omega)  ?_
                      refine go_iload (pc := 243) hF dX11_boundOf_243 1 rfl ?_
                      refine go_iadd (pc := 245) hF dX11_boundOf_245 ?_
                      refine go_iast (pc := 246) hF dX11_boundOf_246 (by omega) w1₉ (by omega) (fun s11 u_s11 f_s11 => ?_)
                      have x_s11 := (f_s11 94 (by omega)).trans zx
                      have nw_s11 := (f_s11 95 (by omega)).trans zn
                      have sn_s11 := (f_s11 98 (by omega)).trans zs
                      have eo_s11 := (f_s11 99 (by omega)).trans ze
                      have mustAt_s11 := (f_s11 108 (by omega)).trans zm
                      have mayAt_s11 := (f_s11 109 (by omega)).trans zy
                      have sumsFirst_s11 := (f_s11 111 (by omega)).trans w2₉
                      refine go_goto (pc := 247) hF 295 dX11_boundOf_247 (by decide) ?_
                      refine go_iinc (pc := 295) hF [(3, vi (oo + 1)), (2, vi dl), (6, vi (sm₉ (dl + 1))), (5, vi 1), (4, vi 41), (1, vi 1), (0, vr E 94)] dX11_boundOf_295 4 rfl rfl (by decide) ?_
                      refine go_goto (pc := 298) hF 15 dX11_boundOf_298 (by decide) ?_
                      refine go_lv [(3, vi (oo + 1)), (2, vi dl), (1, vi 1), (0, vr E 94)] [0, 1, 5, 6] rfl ?_
                      rw [show max (sf (dl + 1)) (sm₉ (dl + 1)) = sm₉ (dl + 1) by omega] at hK₉
                      exact hK₉ _ ⟨u_s11, sumsFirst_s11, (fun jj hjj => by rw [f_s11 jj (by omega), fr₉ jj (by omega)])⟩
              · exact absurd bq156 (by decide)
            · exact absurd bq136 (by decide)
        · exact absurd bq108 (by decide)
      · exact absurd bq36 (by decide)
  have s_back : ∀ (oo dl o1 : Int) (n9 : Nat) (sm₉ sf : Int → Int) (ρ : Nat → va_E), bW E s2₉ ρ sm₉ sf → 0 ≤ oo ∧ oo < (tLen t₉ : Int) → 0 ≤ dl ∧ dl ≤ 2 → sn oo = 93 → eo oo = o1 → 0 ≤ o1 ∧ o1 < (tLen t₉ : Int) → sn o1 = 48 + (n9 : Int) → (∀ ρ', bW E s2₉ ρ' (up sm₉ dl (sm₉ dl + (n9 : Int) * sm₉ (dl + 1))) sf → Go E p e R s m args below meth c Q 7 (0, 0) N ρ' [(3, vi (oo + 1)), (2, vi dl), (1, vi 1), (0, vr E 94)] [] 15) → Go E p e R s m args below meth c Q 7 (0, 0) N ρ [(3, vi oo), (2, vi (dl + 1)), (1, vi 1), (0, vr E 94)] [] 15 := by
    intro oo dl o1 n9 sm₉ sf ρ hW ho hd₉ hc₉ he ho1 hn9 hK₉
    obtain ⟨w1₉, w2₉, fr₉⟩ := hW
    have zx := (fr₉ 94 (by omega)).trans x_s2
    have zn := (fr₉ 95 (by omega)).trans nw_s2
    have zs := (fr₉ 98 (by omega)).trans sn_s2
    have ze := (fr₉ 99 (by omega)).trans eo_s2
    have zm := (fr₉ 108 (by omega)).trans mustAt_s2
    have zy := (fr₉ 109 (by omega)).trans mayAt_s2
    refine go_iload_n (pc := 15) hF dX11_boundOf_15 0 rfl ?_
    refine go_aload_n (pc := 16) hF dX11_boundOf_16 3 rfl ?_
    refine go_get (pc := 17) hF fl_X11_177 dX11_boundOf_17 (by omega) zx rfl ?_
    refine go_icmp_ge (pc := 20) hF 301 dX11_boundOf_20 (by decide) (by omega) (by omega) (fun bq20 => ?_) (fun bq20 => ?_)
    · exact absurd bq20 (by omega)
    · refine go_aload_n (pc := 23) hF dX11_boundOf_23 3 rfl ?_
      refine go_get (pc := 24) hF fl_X11_19 dX11_boundOf_24 (by omega) zx rfl ?_
      refine go_iload_n (pc := 27) hF dX11_boundOf_27 0 rfl ?_
      refine go_iald (pc := 28) hF dX11_boundOf_28 (by omega) zs (by omega)  ?_
      rw [hc₉]
      refine go_istore (pc := 29) hF [(4, vi 93), (3, vi oo), (2, vi (dl + 1)), (1, vi 1), (0, vr E 94)] dX11_boundOf_29 rfl (by decide) ?_
      refine go_iload (pc := 31) hF dX11_boundOf_31 0 rfl ?_
      refine go_callSP (pc := 33) hF [vi 93] [] ms_X11_168 dX11_boundOf_33 (show CP E M_X11_isLook 2 [vi 93] N ρ 0 from (by have h := c_X11_isLook E N ρ 93 (by omega); rw [bI_f (by omega)] at h; exact h)) rfl rfl (Nat.le_of_ble_eq_true rfl) (by decide) ⟨Nat.zero_le _, Nat.zero_le _⟩ ?_
      refine go_if_eq (pc := 36) hF 104 dX11_boundOf_36 (by decide) ⟨by decide, by decide⟩ (fun bq36 => ?_) (fun bq36 => ?_)
      · refine go_iload (pc := 104) hF dX11_boundOf_104 0 rfl ?_
        refine go_bipush (pc := 106) hF dX11_boundOf_106 (by decide) ?_
        refine go_icmp_ne (pc := 108) hF 124 dX11_boundOf_108 (by decide) ⟨by decide, by decide⟩ ⟨by decide, by decide⟩ (fun bq108 => ?_) (fun bq108 => ?_)
        · refine go_iload (pc := 124) hF dX11_boundOf_124 0 rfl ?_
          refine go_bipush (pc := 126) hF dX11_boundOf_126 (by decide) ?_
          refine go_icmp_eq (pc := 128) hF 139 dX11_boundOf_128 (by decide) ⟨by decide, by decide⟩ ⟨by decide, by decide⟩ (fun bq128 => ?_) (fun bq128 => ?_)
          · exact absurd bq128 (by decide)
          · refine go_iload (pc := 131) hF dX11_boundOf_131 0 rfl ?_
            refine go_callSP (pc := 133) hF [vi 93] [] ms_X11_171 dX11_boundOf_133 (show CP E M_X11_isFigure 2 [vi 93] N ρ 0 from (by have h := c_X11_isFigure E N ρ 93 (by omega); rw [bI_f (by omega)] at h; exact h)) rfl rfl (Nat.le_of_ble_eq_true rfl) (by decide) ⟨Nat.zero_le _, Nat.zero_le _⟩ ?_
            refine go_if_eq (pc := 136) hF 152 dX11_boundOf_136 (by decide) ⟨by decide, by decide⟩ (fun bq136 => ?_) (fun bq136 => ?_)
            · refine go_iload (pc := 152) hF dX11_boundOf_152 0 rfl ?_
              refine go_bipush (pc := 154) hF dX11_boundOf_154 (by decide) ?_
              refine go_icmp_ne (pc := 156) hF 181 dX11_boundOf_156 (by decide) ⟨by decide, by decide⟩ ⟨by decide, by decide⟩ (fun bq156 => ?_) (fun bq156 => ?_)
              · refine go_iload (pc := 181) hF dX11_boundOf_181 0 rfl ?_
                refine go_bipush (pc := 183) hF dX11_boundOf_183 (by decide) ?_
                refine go_icmp_ne (pc := 185) hF 250 dX11_boundOf_185 (by decide) ⟨by decide, by decide⟩ ⟨by decide, by decide⟩ (fun bq185 => ?_) (fun bq185 => ?_)
                · refine go_iload_n (pc := 250) hF dX11_boundOf_250 3 rfl ?_
                  refine go_if_eq (pc := 251) hF 278 dX11_boundOf_251 (by decide) ⟨by decide, by decide⟩ (fun bq251 => ?_) (fun bq251 => ?_)
                  · exact absurd bq251 (by decide)
                  · refine go_aload_n (pc := 254) hF dX11_boundOf_254 4 rfl ?_
                    refine go_get (pc := 255) hF fl_X11_56 dX11_boundOf_255 (by omega) zx rfl ?_
                    refine go_iload_n (pc := 258) hF dX11_boundOf_258 2 rfl ?_
                    refine go_iald (pc := 259) hF dX11_boundOf_259 (by omega) w1₉ (by omega)  ?_
                    refine go_aload_n (pc := 260) hF dX11_boundOf_260 4 rfl ?_
                    refine go_get (pc := 261) hF fl_X11_19 dX11_boundOf_261 (by omega) zx rfl ?_
                    refine go_aload_n (pc := 264) hF dX11_boundOf_264 4 rfl ?_
                    refine go_get (pc := 265) hF fl_X11_22 dX11_boundOf_265 (by omega) zx rfl ?_
                    refine go_iload_n (pc := 268) hF dX11_boundOf_268 1 rfl ?_
                    refine go_iald (pc := 269) hF dX11_boundOf_269 (by omega) ze (by omega)  ?_
                    rw [he]
                    refine go_iald (pc := 270) hF dX11_boundOf_270 (by omega) zs (by omega)  ?_
                    rw [hn9]
                    refine go_bipush (pc := 271) hF dX11_boundOf_271 (by decide) ?_
                    refine go_isub (pc := 273) hF dX11_boundOf_273 ?_
                    refine go_imul (pc := 274) hF dX11_boundOf_274 ?_
                    refine go_goto (pc := 275) hF 279 dX11_boundOf_275 (by decide) ?_
                    refine go_istore (pc := 279) hF [(5, vi ((sm₉ (dl + 1)) * ((48 + (n9 : Int)) - 48))), (4, vi 93), (3, vi oo), (2, vi (dl + 1)), (1, vi 1), (0, vr E 94)] dX11_boundOf_279 rfl (by decide) ?_
                    refine go_iinc (pc := 281) hF [(2, vi ((dl + 1) + (-1))), (5, vi ((sm₉ (dl + 1)) * ((48 + (n9 : Int)) - 48))), (4, vi 93), (3, vi oo), (1, vi 1), (0, vr E 94)] dX11_boundOf_281 3 rfl rfl (by decide) ?_
                    refine go_lvE [(2, vi dl), (5, vi ((sm₉ (dl + 1)) * ((48 + (n9 : Int)) - 48))), (4, vi 93), (3, vi oo), (1, vi 1), (0, vr E 94)] (by rw [show (dl + 1) + (-1) = dl by omega]) ?_
                    refine go_aload_n (pc := 284) hF dX11_boundOf_284 5 rfl ?_
                    refine go_get (pc := 285) hF fl_X11_56 dX11_boundOf_285 (by omega) zx rfl ?_
                    refine go_iload_n (pc := 288) hF dX11_boundOf_288 0 rfl ?_
                    refine go_dup2 (pc := 289) hF dX11_boundOf_289 rfl rfl ?_
                    refine go_iald (pc := 290) hF dX11_boundOf_290 (by omega) w1₉ (by omega)  ?_
                    refine go_iload (pc := 291) hF dX11_boundOf_291 1 rfl ?_
                    refine go_iadd (pc := 293) hF dX11_boundOf_293 ?_
                    refine go_iast (pc := 294) hF dX11_boundOf_294 (by omega) w1₉ (by omega) (fun s12 u_s12 f_s12 => ?_)
                    have x_s12 := (f_s12 94 (by omega)).trans zx
                    have nw_s12 := (f_s12 95 (by omega)).trans zn
                    have sn_s12 := (f_s12 98 (by omega)).trans zs
                    have eo_s12 := (f_s12 99 (by omega)).trans ze
                    have mustAt_s12 := (f_s12 108 (by omega)).trans zm
                    have mayAt_s12 := (f_s12 109 (by omega)).trans zy
                    have sumsFirst_s12 := (f_s12 111 (by omega)).trans w2₉
                    refine go_iinc (pc := 295) hF [(3, vi (oo + 1)), (2, vi dl), (5, vi ((sm₉ (dl + 1)) * ((48 + (n9 : Int)) - 48))), (4, vi 93), (1, vi 1), (0, vr E 94)] dX11_boundOf_295 3 rfl rfl (by decide) ?_
                    refine go_goto (pc := 298) hF 15 dX11_boundOf_298 (by decide) ?_
                    refine go_lv [(3, vi (oo + 1)), (2, vi dl), (1, vi 1), (0, vr E 94)] [0, 1, 4, 5] rfl ?_
                    rw [show (n9 : Int) * sm₉ (dl + 1) = sm₉ (dl + 1) * (48 + (n9 : Int) - 48) by rw [show 48 + (n9 : Int) - 48 = n9 by omega]; exact Int.mul_comm _ _] at hK₉
                    exact hK₉ _ ⟨u_s12, sumsFirst_s12, (fun jj hjj => by rw [f_s12 jj (by omega), fr₉ jj (by omega)])⟩
                · exact absurd bq185 (by decide)
              · exact absurd bq156 (by decide)
            · exact absurd bq136 (by decide)
        · exact absurd bq108 (by decide)
      · exact absurd bq36 (by decide)
  have s_end : ∀ (sm₉ sf : Int → Int) (ρ : Nat → va_E), bW E s2₉ ρ sm₉ sf → sm₉ 0 = upB₉ (soT t₉ u₉) pr t₉ 0 → Go E p e R s m args below meth c Q 7 (0, 0) N ρ [(3, vi (0 + (tLen t₉ : Int))), (2, vi 0), (1, vi 1), (0, vr E 94)] [] 15 := by
    intro sm₉ sf ρ hW hv9
    obtain ⟨w1₉, w2₉, fr₉⟩ := hW
    have zx := (fr₉ 94 (by omega)).trans x_s2
    have zn := (fr₉ 95 (by omega)).trans nw_s2
    have zs := (fr₉ 98 (by omega)).trans sn_s2
    have ze := (fr₉ 99 (by omega)).trans eo_s2
    have zm := (fr₉ 108 (by omega)).trans mustAt_s2
    have zy := (fr₉ 109 (by omega)).trans mayAt_s2
    refine go_iload_n (pc := 15) hF dX11_boundOf_15 0 rfl ?_
    refine go_aload_n (pc := 16) hF dX11_boundOf_16 3 rfl ?_
    refine go_get (pc := 17) hF fl_X11_177 dX11_boundOf_17 (by omega) zx rfl ?_
    refine go_icmp_ge (pc := 20) hF 301 dX11_boundOf_20 (by decide) (by omega) (by omega) (fun bq20 => ?_) (fun bq20 => ?_)
    · refine go_aload_n (pc := 301) hF dX11_boundOf_301 3 rfl ?_
      refine go_get (pc := 302) hF fl_X11_56 dX11_boundOf_302 (by omega) zx rfl ?_
      refine go_iconst (pc := 305) hF dX11_boundOf_305 ?_
      refine go_iald (pc := 306) hF dX11_boundOf_306 (by omega) w1₉ (by omega)  ?_
      exact go_iretQ hF hr hlk hQ dX11_boundOf_307 ⟨hv9, ⟨_, _, _, _, _, _, _, _, _, _, _, _, _, ((fr₉ 94 (by omega)).trans x_s2), ((fr₉ 95 (by omega)).trans nw_s2), ((fr₉ 96 (by omega)).trans pa_s2), ((fr₉ 97 (by omega)).trans rf_s2), ((fr₉ 98 (by omega)).trans sn_s2), ((fr₉ 99 (by omega)).trans eo_s2), ((fr₉ 100 (by omega)).trans bo_s2), ((fr₉ 101 (by omega)).trans tx_s2), ((fr₉ 119 (by omega)).trans rr_s2), ⟨⟨_, ((fr₉ 102 (by omega)).trans readSign_s2)⟩, ⟨_, ((fr₉ 103 (by omega)).trans open_s2)⟩, ⟨_, ((fr₉ 104 (by omega)).trans isBarred_s2)⟩, ⟨_, ((fr₉ 105 (by omega)).trans ages_s2)⟩, ⟨_, ((fr₉ 106 (by omega)).trans entered_s2)⟩, ⟨_, ((fr₉ 107 (by omega)).trans first_s2)⟩, ⟨_, ((fr₉ 108 (by omega)).trans mustAt_s2)⟩, ⟨_, ((fr₉ 109 (by omega)).trans mayAt_s2)⟩, ⟨_, w1₉⟩, ⟨_, w2₉⟩, ⟨_, ((fr₉ 112 (by omega)).trans took_s2)⟩, ⟨_, ((fr₉ 113 (by omega)).trans next_s2)⟩, ⟨_, ((fr₉ 114 (by omega)).trans inOf_s2)⟩, ⟨_, ((fr₉ 115 (by omega)).trans firstOf_s2)⟩, ⟨_, ((fr₉ 116 (by omega)).trans rounds_s2)⟩, ⟨_, ((fr₉ 117 (by omega)).trans counts_s2)⟩, ⟨_, ((fr₉ 118 (by omega)).trans countsFirst_s2)⟩⟩, hnw, hpa, hrf, hrr, hMA⟩, (fun jj hjj => by rw [fr₉ jj (by omega), f_s2 jj (by omega), f_s1 jj (by omega)])⟩
    · exact absurd bq20 (by omega)
  refine go_lv [(3, vi 0), (2, vi 0), (1, vi 1), (0, vr E 94)] [0, 1, 3, 2] rfl ?_
  exact bo_walk (bo := bo) (E := E) (by omega) (upB₉ (soT t₉ u₉) pr) (fun k₉ => if soT t₉ u₉ k₉ = 1 then 1 else pr) max (fun n₉ x₉ => n₉ * x₉) (fun _ => rfl) (fun _ _ _ => rfl) (fun _ _ _ _ => rfl) (fun _ _ _ _ => rfl) (fun t' h1 h2 h3 k₉ => by have q₉ := upB_rg (soT t₉ u₉) hpr t' h1 k₉; have q2₉ := ten3 h2 h3; exact ⟨by omega, by omega⟩) (fun ρ o d₉ => Go E p e R s m args below meth c Q 7 (0, 0) N ρ [(3, vi o), (2, vi d₉), (1, vi 1), (0, vr E 94)] [] 15) s_dot s_look (fun oo dl sm₉ sf ρ hW ho hd₉ hc₉ hK₉ => hc₉.elim (fun hc₉ => s_opA oo dl sm₉ sf ρ hW ho hd₉ hc₉ hK₉) (fun hc₉ => s_opB oo dl sm₉ sf ρ hW ho hd₉ hc₉ hK₉)) s_bar s_close s_back t₉ hwf 0 0 0 (up g117 0 0) g118 s2₉ (by omega) (by omega) (kN_0 sn) hMA ⟨u_s2, sumsFirst_s2, fun _ _ => rfl⟩ (fun sm₉ sf ρ hW e9₉ _ => s_end sm₉ sf ρ hW (by rw [e9₉, up_self, Int.zero_add]))
set_option maxHeartbeats 4000000 in
set_option maxRecDepth 100000 in
theorem c_X11_upper (E : En) (N : Nat) (σ : Nat → va_E) (r₉ u₉ kd pr : Int) (yr yw yk yp : Int → Int) (hs : Int) (tx : Int → Int) (tl : Int) (t₉ : Tr) (xb xn xf q1₉ q2₉ q3₉ : Int) (hN₉ : 120 ≤ N) (hO : okS r₉ u₉ kd pr yr yw yk yp hs tx tl t₉ xb xn xf q1₉ q2₉ q3₉) (hS₉ : mdS E σ r₉ u₉ kd pr yr yw yk yp hs tx tl t₉ xb xn xf q1₉ q2₉ q3₉) : CI E M_X11_upper 16 [vr E 94] N σ (fun y₉ σ' => y₉ = upB₉ (soT t₉ u₉) pr t₉ 0 ∧ mdS E σ' r₉ u₉ kd pr yr yw yk yp hs tx tl t₉ xb xn xf q1₉ q2₉ q3₉ ∧ ∀ q₉, q₉ < 94 → σ' q₉ = σ q₉) := by
  refine CT.of2 (own := RX11) (by decide) rfl (Nat.le_of_ble_eq_true rfl) ?_
  intro p e R s m args below meth c Q hF hr hlk hnm hz hR hQ
  obtain ⟨_, _, _, _, _, _, _, _, _, _, _, _, _, hob, -⟩ := id hS₉
  refine go_aload_n (pc := 0) hF dX11_upper_0 0 rfl ?_
  refine go_iconst (pc := 1) hF dX11_upper_1 ?_
  refine go_callVI (pc := 2) hF [vi 1] [] mv_X11_225 dX11_upper_2 (by omega) hob (c_X11_boundOf_up E N σ r₉ u₉ kd pr yr yw yk yp hs tx tl t₉ xb xn xf q1₉ q2₉ q3₉ hN₉ hO hS₉) rfl rfl (Nat.le_of_ble_eq_true rfl) (by decide) ⟨Nat.zero_le _, Nat.zero_le _⟩ (fun r_s1 s1₉ h_s1 => ?_)
  obtain ⟨rfl, hS2, f_s1⟩ := h_s1
  exact go_iretQ hF hr hlk hQ dX11_upper_5 ⟨rfl, hS2, f_s1⟩
set_option maxHeartbeats 4000000 in
set_option maxRecDepth 100000 in
theorem c_X11_boundOf_lo (E : En) (N : Nat) (σ : Nat → va_E) (r₉ u₉ kd pr : Int) (yr yw yk yp : Int → Int) (hs : Int) (tx : Int → Int) (tl : Int) (t₉ : Tr) (xb xn xf q1₉ q2₉ q3₉ : Int) (hN₉ : 120 ≤ N) (hO : okS r₉ u₉ kd pr yr yw yk yp hs tx tl t₉ xb xn xf q1₉ q2₉ q3₉) (hS₉ : mdS E σ r₉ u₉ kd pr yr yw yk yp hs tx tl t₉ xb xn xf q1₉ q2₉ q3₉) : CI E M_X11_boundOf 15 [vr E 94, vi 0] N σ (fun y₉ σ' => y₉ = loB₉ (soT t₉ u₉) pr t₉ 0 ∧ mdS E σ' r₉ u₉ kd pr yr yw yk yp hs tx tl t₉ xb xn xf q1₉ q2₉ q3₉ ∧ ∀ q₉, q₉ < 94 → σ' q₉ = σ q₉) := by
  refine CT.of2 (own := RX11) (by decide) rfl (Nat.le_of_ble_eq_true rfl) ?_
  intro p e R s m args below meth c Q hF hr hlk hnm hz hR hQ
  obtain ⟨nw, pa, rf, sn, eo, bo, rr, rz, hi₉, mi, ak, rt, cn, z101, z102, z103, z104, z105, z106, z107, z108, z126, ⟨⟨g109, z109⟩, ⟨g110, z110⟩, ⟨g111, z111⟩, ⟨g112, z112⟩, ⟨g113, z113⟩, ⟨g114, z114⟩, ⟨g115, z115⟩, ⟨g116, z116⟩, ⟨g117, z117⟩, ⟨g118, z118⟩, ⟨g119, z119⟩, ⟨g120, z120⟩, ⟨g121, z121⟩, ⟨g122, z122⟩, ⟨g123, z123⟩, ⟨g124, z124⟩, ⟨g125, z125⟩⟩, hnw, hpa, hrf, hrr, hMA⟩ := hS₉
  obtain ⟨⟨hrw, hu, hkd, hpr⟩, hhs, hyy, htl, htx, hxb, hxn, hxf, hq1, hq2, hq3, hwf, hdp3, hl80, hl24⟩ := hO
  have hrw3 := vrow_up hrw (show u₉ ≤ 3 by omega)
  have hrr0 := hrw.1
  obtain ⟨n0₉, n1₉, n2₉, n3₉, n4₉, n5₉, n6₉⟩ := id hnw
  have gl := mLong_rg r₉
  have hsg0 := MA_sg t₉ hwf 0 hMA
  have hsg : ∀ p : Int, 0 ≤ p → p < (tLen t₉ : Int) → 40 ≤ sn p ∧ sn p ≤ 124 := fun p a₉ b₉ => hsg0 p a₉ (by omega)
  refine go_iconst (pc := 0) hF dX11_boundOf_0 ?_
  refine go_istore_n (pc := 1) hF [(2, vi 0), (0, vr E 94), (1, vi 0)] dX11_boundOf_1 rfl (by decide) ?_
  refine go_aload_n (pc := 2) hF dX11_boundOf_2 1 rfl ?_
  refine go_callVV (pc := 3) hF [] [] mv_X11_216 dX11_boundOf_3 (by omega) z101 (c_X11_follows E N σ hN₉ z101 z102 z105 z106 z112 z113 z114 z115 z116 hwf hMA hl80 hdp3 (by rw [n4₉]; exact hu)) rfl rfl (Nat.le_of_ble_eq_true rfl) (by decide) ⟨Nat.zero_le _, Nat.zero_le _⟩ (fun s1₉ h_s1 => ?_)
  obtain ⟨ag_s1, eg_s1, fg_s1, ma_s1, my_s1, ⟨w1_s1, w2_s1, w3_s1, w4_s1, w5_s1, f_s1⟩, ha_s1, hc_s1⟩ := h_s1
  rw [n4₉] at ha_s1 hc_s1
  have hfR := foR_of hwf hMA hu.1 hc_s1
  have x_s1 := (f_s1 94 (by omega)).trans z101
  have nw_s1 := (f_s1 95 (by omega)).trans z102
  have pa_s1 := (f_s1 96 (by omega)).trans z103
  have rf_s1 := (f_s1 97 (by omega)).trans z104
  have sn_s1 := (f_s1 98 (by omega)).trans z105
  have eo_s1 := (f_s1 99 (by omega)).trans z106
  have bo_s1 := (f_s1 100 (by omega)).trans z107
  have tx_s1 := (f_s1 101 (by omega)).trans z108
  have rr_s1 := (f_s1 119 (by omega)).trans z126
  have readSign_s1 := (f_s1 102 (by omega)).trans z109
  have open_s1 := (f_s1 103 (by omega)).trans z110
  have isBarred_s1 := (f_s1 104 (by omega)).trans z111
  have sums_s1 := (f_s1 110 (by omega)).trans z117
  have sumsFirst_s1 := (f_s1 111 (by omega)).trans z118
  have took_s1 := (f_s1 112 (by omega)).trans z119
  have next_s1 := (f_s1 113 (by omega)).trans z120
  have inOf_s1 := (f_s1 114 (by omega)).trans z121
  have firstOf_s1 := (f_s1 115 (by omega)).trans z122
  have rounds_s1 := (f_s1 116 (by omega)).trans z123
  have counts_s1 := (f_s1 117 (by omega)).trans z124
  have countsFirst_s1 := (f_s1 118 (by omega)).trans z125
  refine go_aload_n (pc := 6) hF dX11_boundOf_6 1 rfl ?_
  refine go_get (pc := 7) hF fl_X11_56 dX11_boundOf_7 (by omega) x_s1 rfl ?_
  refine go_iconst (pc := 10) hF dX11_boundOf_10 ?_
  refine go_iconst (pc := 11) hF dX11_boundOf_11 ?_
  refine go_iast (pc := 12) hF dX11_boundOf_12 (by omega) sums_s1 (by omega) (fun s2₉ u_s2 f_s2 => ?_)
  have x_s2 := (f_s2 94 (by omega)).trans x_s1
  have nw_s2 := (f_s2 95 (by omega)).trans nw_s1
  have pa_s2 := (f_s2 96 (by omega)).trans pa_s1
  have rf_s2 := (f_s2 97 (by omega)).trans rf_s1
  have sn_s2 := (f_s2 98 (by omega)).trans sn_s1
  have eo_s2 := (f_s2 99 (by omega)).trans eo_s1
  have bo_s2 := (f_s2 100 (by omega)).trans bo_s1
  have tx_s2 := (f_s2 101 (by omega)).trans tx_s1
  have rr_s2 := (f_s2 119 (by omega)).trans rr_s1
  have readSign_s2 := (f_s2 102 (by omega)).trans readSign_s1
  have open_s2 := (f_s2 103 (by omega)).trans open_s1
  have isBarred_s2 := (f_s2 104 (by omega)).trans isBarred_s1
  have ages_s2 := (f_s2 105 (by omega)).trans w1_s1
  have entered_s2 := (f_s2 106 (by omega)).trans w2_s1
  have first_s2 := (f_s2 107 (by omega)).trans w3_s1
  have mustAt_s2 := (f_s2 108 (by omega)).trans w4_s1
  have mayAt_s2 := (f_s2 109 (by omega)).trans w5_s1
  have sumsFirst_s2 := (f_s2 111 (by omega)).trans sumsFirst_s1
  have took_s2 := (f_s2 112 (by omega)).trans took_s1
  have next_s2 := (f_s2 113 (by omega)).trans next_s1
  have inOf_s2 := (f_s2 114 (by omega)).trans inOf_s1
  have firstOf_s2 := (f_s2 115 (by omega)).trans firstOf_s1
  have rounds_s2 := (f_s2 116 (by omega)).trans rounds_s1
  have counts_s2 := (f_s2 117 (by omega)).trans counts_s1
  have countsFirst_s2 := (f_s2 118 (by omega)).trans countsFirst_s1
  refine go_iconst (pc := 13) hF dX11_boundOf_13 ?_
  refine go_istore_n (pc := 14) hF [(3, vi 0), (2, vi 0), (0, vr E 94), (1, vi 0)] dX11_boundOf_14 rfl (by decide) ?_
  have s_dot : ∀ (oo dl : Int) (sm₉ sf : Int → Int) (ρ : Nat → va_E), bW E s2₉ ρ sm₉ sf → 0 ≤ oo ∧ oo < (tLen t₉ : Int) → 0 ≤ dl ∧ dl ≤ 3 → sn oo = 46 → (∀ ρ', bW E s2₉ ρ' (up sm₉ dl (sm₉ dl + 1)) sf → Go E p e R s m args below meth c Q 7 (0, 0) N ρ' [(3, vi (oo + 1)), (2, vi dl), (1, vi 0), (0, vr E 94)] [] 15) → Go E p e R s m args below meth c Q 7 (0, 0) N ρ [(3, vi oo), (2, vi dl), (1, vi 0), (0, vr E 94)] [] 15 := by
    intro oo dl sm₉ sf ρ hW ho hd₉ hc₉ hK₉
    obtain ⟨w1₉, w2₉, fr₉⟩ := hW
    have zx := (fr₉ 94 (by omega)).trans x_s2
    have zn := (fr₉ 95 (by omega)).trans nw_s2
    have zs := (fr₉ 98 (by omega)).trans sn_s2
    have ze := (fr₉ 99 (by omega)).trans eo_s2
    have zm := (fr₉ 108 (by omega)).trans mustAt_s2
    have zy := (fr₉ 109 (by omega)).trans mayAt_s2
    refine go_iload_n (pc := 15) hF dX11_boundOf_15 0 rfl ?_
    refine go_aload_n (pc := 16) hF dX11_boundOf_16 3 rfl ?_
    refine go_get (pc := 17) hF fl_X11_177 dX11_boundOf_17 (by omega) zx rfl ?_
    refine go_icmp_ge (pc := 20) hF 301 dX11_boundOf_20 (by decide) (by omega) (by omega) (fun bq20 => ?_) (fun bq20 => ?_)
    · exact absurd bq20 (by omega)
    · refine go_aload_n (pc := 23) hF dX11_boundOf_23 3 rfl ?_
      refine go_get (pc := 24) hF fl_X11_19 dX11_boundOf_24 (by omega) zx rfl ?_
      refine go_iload_n (pc := 27) hF dX11_boundOf_27 0 rfl ?_
      refine go_iald (pc := 28) hF dX11_boundOf_28 (by omega) zs (by omega)  ?_
      rw [hc₉]
      refine go_istore (pc := 29) hF [(4, vi 46), (3, vi oo), (2, vi dl), (1, vi 0), (0, vr E 94)] dX11_boundOf_29 rfl (by decide) ?_
      refine go_iload (pc := 31) hF dX11_boundOf_31 0 rfl ?_
      refine go_callSP (pc := 33) hF [vi 46] [] ms_X11_168 dX11_boundOf_33 (show CP E M_X11_isLook 2 [vi 46] N ρ 0 from (by have h := c_X11_isLook E N ρ 46 (by omega); rw [bI_f (by omega)] at h; exact h)) rfl rfl (Nat.le_of_ble_eq_true rfl) (by decide) ⟨Nat.zero_le _, Nat.zero_le _⟩ ?_
      refine go_if_eq (pc := 36) hF 104 dX11_boundOf_36 (by decide) ⟨by decide, by decide⟩ (fun bq36 => ?_) (fun bq36 => ?_)
      · refine go_iload (pc := 104) hF dX11_boundOf_104 0 rfl ?_
        refine go_bipush (pc := 106) hF dX11_boundOf_106 (by decide) ?_
        refine go_icmp_ne (pc := 108) hF 124 dX11_boundOf_108 (by decide) ⟨by decide, by decide⟩ ⟨by decide, by decide⟩ (fun bq108 => ?_) (fun bq108 => ?_)
        · exact absurd bq108 (by decide)
        · refine go_aload_n (pc := 111) hF dX11_boundOf_111 4 rfl ?_
          refine go_get (pc := 112) hF fl_X11_56 dX11_boundOf_112 (by omega) zx rfl ?_
          refine go_iload_n (pc := 115) hF dX11_boundOf_115 2 rfl ?_
          refine go_dup2 (pc := 116) hF dX11_boundOf_116 rfl rfl ?_
          refine go_iald (pc := 117) hF dX11_boundOf_117 (by omega) w1₉ (by omega)  ?_
          refine go_iconst (pc := 118) hF dX11_boundOf_118 ?_
          refine go_iadd (pc := 119) hF dX11_boundOf_119 ?_
          refine go_iast (pc := 120) hF dX11_boundOf_120 (by omega) w1₉ (by omega) (fun s3₉ u_s3 f_s3 => ?_)
          have x_s3 := (f_s3 94 (by omega)).trans zx
          have nw_s3 := (f_s3 95 (by omega)).trans zn
          have sn_s3 := (f_s3 98 (by omega)).trans zs
          have eo_s3 := (f_s3 99 (by omega)).trans ze
          have mustAt_s3 := (f_s3 108 (by omega)).trans zm
          have mayAt_s3 := (f_s3 109 (by omega)).trans zy
          have sumsFirst_s3 := (f_s3 111 (by omega)).trans w2₉
          refine go_goto (pc := 121) hF 295 dX11_boundOf_121 (by decide) ?_
          refine go_iinc (pc := 295) hF [(3, vi (oo + 1)), (4, vi 46), (2, vi dl), (1, vi 0), (0, vr E 94)] dX11_boundOf_295 1 rfl rfl (by decide) ?_
          refine go_goto (pc := 298) hF 15 dX11_boundOf_298 (by decide) ?_
          refine go_lv [(3, vi (oo + 1)), (2, vi dl), (1, vi 0), (0, vr E 94)] [0, 2, 3, 4] rfl ?_
          exact hK₉ _ ⟨u_s3, sumsFirst_s3, (fun jj hjj => by rw [f_s3 jj (by omega), fr₉ jj (by omega)])⟩
      · exact absurd bq36 (by decide)
  have s_look : ∀ (oo dl : Int) (sm₉ sf : Int → Int) (ρ : Nat → va_E), bW E s2₉ ρ sm₉ sf → 0 ≤ oo ∧ oo < (tLen t₉ : Int) → 0 ≤ dl ∧ dl ≤ 3 → 97 ≤ sn oo ∧ sn oo ≤ 102 → (∀ ρ', bW E s2₉ ρ' (up sm₉ dl (sm₉ dl + (if soT t₉ u₉ (kN₉ sn oo.toNat) = 2 then pr else 1))) sf → Go E p e R s m args below meth c Q 7 (0, 0) N ρ' [(3, vi (oo + 1)), (2, vi dl), (1, vi 0), (0, vr E 94)] [] 15) → Go E p e R s m args below meth c Q 7 (0, 0) N ρ [(3, vi oo), (2, vi dl), (1, vi 0), (0, vr E 94)] [] 15 := by
    intro oo dl sm₉ sf ρ hW ho hd₉ hc₉ hK₉
    obtain ⟨jx, rfl⟩ := Int.eq_ofNat_of_zero_le ho.1
    rw [Int.toNat_natCast] at hK₉
    have hjx : jx < tLen t₉ := by omega
    have gso := soT_rg t₉ u₉ (kN₉ sn jx)
    obtain ⟨w1₉, w2₉, fr₉⟩ := hW
    have zx := (fr₉ 94 (by omega)).trans x_s2
    have zn := (fr₉ 95 (by omega)).trans nw_s2
    have zs := (fr₉ 98 (by omega)).trans sn_s2
    have ze := (fr₉ 99 (by omega)).trans eo_s2
    have zm := (fr₉ 108 (by omega)).trans mustAt_s2
    have zy := (fr₉ 109 (by omega)).trans mayAt_s2
    refine go_iload_n (pc := 15) hF dX11_boundOf_15 0 rfl ?_
    refine go_aload_n (pc := 16) hF dX11_boundOf_16 3 rfl ?_
    refine go_get (pc := 17) hF fl_X11_177 dX11_boundOf_17 (by omega) zx rfl ?_
    refine go_icmp_ge (pc := 20) hF 301 dX11_boundOf_20 (by decide) (by omega) (by omega) (fun bq20 => ?_) (fun bq20 => ?_)
    · exact absurd bq20 (by omega)
    · refine go_aload_n (pc := 23) hF dX11_boundOf_23 3 rfl ?_
      refine go_get (pc := 24) hF fl_X11_19 dX11_boundOf_24 (by omega) zx rfl ?_
      refine go_iload_n (pc := 27) hF dX11_boundOf_27 0 rfl ?_
      refine go_iald (pc := 28) hF dX11_boundOf_28 (by omega) zs (by omega)  ?_
      refine go_istore (pc := 29) hF [(4, vi (sn (jx : Int))), (3, vi (jx : Int)), (2, vi dl), (1, vi 0), (0, vr E 94)] dX11_boundOf_29 rfl (by decide) ?_
      refine go_iload (pc := 31) hF dX11_boundOf_31 0 rfl ?_
      refine go_callSP (pc := 33) hF [vi (sn (jx : Int))] [] ms_X11_168 dX11_boundOf_33 (show CP E M_X11_isLook 2 [vi (sn (jx : Int))] N ρ 1 from (by have h := c_X11_isLook E N ρ (sn (jx : Int)) (by omega); rw [bI_t (by omega)] at h; exact h)) rfl rfl (Nat.le_of_ble_eq_true rfl) (by decide) ⟨Nat.zero_le _, Nat.zero_le _⟩ ?_
      refine go_if_eq (pc := 36) hF 104 dX11_boundOf_36 (by decide) ⟨by decide, by decide⟩ (fun bq36 => ?_) (fun bq36 => ?_)
      · exact absurd bq36 (by decide)
      · refine go_iload_n (pc := 39) hF dX11_boundOf_39 3 rfl ?_
        refine go_if_eq (pc := 40) hF 60 dX11_boundOf_40 (by decide) ⟨by decide, by decide⟩ (fun bq40 => ?_) (fun bq40 => ?_)
        · refine go_aload_n (pc := 60) hF dX11_boundOf_60 4 rfl ?_
          refine go_iload_n (pc := 61) hF dX11_boundOf_61 1 rfl ?_
          refine go_callVP (pc := 62) hF [vi (jx : Int)] [] mv_X11_210 dX11_boundOf_62 (by omega) zx (show CP E M_X11_sureOf 1 [vr E 94, vi (jx : Int)] N ρ (soT t₉ u₉ (kN₉ sn jx)) from (by have q₉ := hfR jx hjx hc₉; have h := c_X11_sureOf E N ρ hN₉ zx zn zm zy u₉ jx n4₉ hu (by omega) (by omega) (by omega); rw [soM_at hfR hjx hc₉] at h; exact h)) rfl rfl (Nat.le_of_ble_eq_true rfl) (by decide) ⟨Nat.zero_le _, Nat.zero_le _⟩ ?_
          refine go_iconst (pc := 65) hF dX11_boundOf_65 ?_
          refine go_icmp_ne (pc := 66) hF 73 dX11_boundOf_66 (by decide) (by omega) ⟨by decide, by decide⟩ (fun bq66 => ?_) (fun bq66 => ?_)
          · refine go_iconst (pc := 73) hF dX11_boundOf_73 ?_
            refine go_istore (pc := 74) hF [(5, vi 0), (4, vi (sn (jx : Int))), (3, vi (jx : Int)), (2, vi dl), (1, vi 0), (0, vr E 94)] dX11_boundOf_74 rfl (by decide) ?_
            refine go_aload_n (pc := 76) hF dX11_boundOf_76 5 rfl ?_
            refine go_get (pc := 77) hF fl_X11_56 dX11_boundOf_77 (by omega) zx rfl ?_
            refine go_iload_n (pc := 80) hF dX11_boundOf_80 3 rfl ?_
            refine go_dup2 (pc := 81) hF dX11_boundOf_81 rfl rfl ?_
            refine go_iald (pc := 82) hF dX11_boundOf_82 (by omega) w1₉ (by omega)  ?_
            refine go_iload (pc := 83) hF dX11_boundOf_83 0 rfl ?_
            refine go_if_eq (pc := 85) hF 98 dX11_boundOf_85 (by decide) ⟨by decide, by decide⟩ (fun bq85 => ?_) (fun bq85 => ?_)
            · refine go_iconst (pc := 98) hF dX11_boundOf_98 ?_
              refine go_iadd (pc := 99) hF dX11_boundOf_99 ?_
              refine go_iast (pc := 100) hF dX11_boundOf_100 (by omega) w1₉ (by omega) (fun s4₉ u_s4 f_s4 => ?_)
              have x_s4 := (f_s4 94 (by omega)).trans zx
              have nw_s4 := (f_s4 95 (by omega)).trans zn
              have sn_s4 := (f_s4 98 (by omega)).trans zs
              have eo_s4 := (f_s4 99 (by omega)).trans ze
              have mustAt_s4 := (f_s4 108 (by omega)).trans zm
              have mayAt_s4 := (f_s4 109 (by omega)).trans zy
              have sumsFirst_s4 := (f_s4 111 (by omega)).trans w2₉
              refine go_goto (pc := 101) hF 295 dX11_boundOf_101 (by decide) ?_
              refine go_iinc (pc := 295) hF [(3, vi ((jx : Int) + 1)), (5, vi 0), (4, vi (sn (jx : Int))), (2, vi dl), (1, vi 0), (0, vr E 94)] dX11_boundOf_295 2 rfl rfl (by decide) ?_
              refine go_goto (pc := 298) hF 15 dX11_boundOf_298 (by decide) ?_
              refine go_lv [(3, vi ((jx : Int) + 1)), (2, vi dl), (1, vi 0), (0, vr E 94)] [0, 3, 4, 5] rfl ?_
              rw [if_neg bq66] at hK₉
              exact hK₉ _ ⟨u_s4, sumsFirst_s4, (fun jj hjj => by rw [f_s4 jj (by omega), fr₉ jj (by omega)])⟩
            · exact absurd bq85 (by decide)
          · refine go_iconst (pc := 69) hF dX11_boundOf_69 ?_
            refine go_goto (pc := 70) hF 74 dX11_boundOf_70 (by decide) ?_
            refine go_istore (pc := 74) hF [(5, vi 1), (4, vi (sn (jx : Int))), (3, vi (jx : Int)), (2, vi dl), (1, vi 0), (0, vr E 94)] dX11_boundOf_74 rfl (by decide) ?_
            refine go_aload_n (pc := 76) hF dX11_boundOf_76 5 rfl ?_
            refine go_get (pc := 77) hF fl_X11_56 dX11_boundOf_77 (by omega) zx rfl ?_
            refine go_iload_n (pc := 80) hF dX11_boundOf_80 3 rfl ?_
            refine go_dup2 (pc := 81) hF dX11_boundOf_81 rfl rfl ?_
            refine go_iald (pc := 82) hF dX11_boundOf_82 (by omega) w1₉ (by omega)  ?_
            refine go_iload (pc := 83) hF dX11_boundOf_83 0 rfl ?_
            refine go_if_eq (pc := 85) hF 98 dX11_boundOf_85 (by decide) ⟨by decide, by decide⟩ (fun bq85 => ?_) (fun bq85 => ?_)
            · exact absurd bq85 (by decide)
            · refine go_aload_n (pc := 88) hF dX11_boundOf_88 5 rfl ?_
              refine go_get (pc := 89) hF fl_X11_7 dX11_boundOf_89 (by omega) zx rfl ?_
              refine go_bipush (pc := 92) hF dX11_boundOf_92 (by decide) ?_
              refine go_iald (pc := 94) hF dX11_boundOf_94 (by omega) zn (by omega)  ?_
              rw [n6₉]
              refine go_goto (pc := 95) hF 99 dX11_boundOf_95 (by decide) ?_
              refine go_iadd (pc := 99) hF dX11_boundOf_99 ?_
              refine go_iast (pc := 100) hF dX11_boundOf_100 (by omega) w1₉ (by omega) (fun s5 u_s5 f_s5 => ?_)
              have x_s5 := (f_s5 94 (by omega)).trans zx
              have nw_s5 := (f_s5 95 (by omega)).trans zn
              have sn_s5 := (f_s5 98 (by omega)).trans zs
              have eo_s5 := (f_s5 99 (by omega)).trans ze
              have mustAt_s5 := (f_s5 108 (by omega)).trans zm
              have mayAt_s5 := (f_s5 109 (by omega)).trans zy
              have sumsFirst_s5 := (f_s5 111 (by omega)).trans w2₉
              refine go_goto (pc := 101) hF 295 dX11_boundOf_101 (by decide) ?_
              refine go_iinc (pc := 295) hF [(3, vi ((jx : Int) + 1)), (5, vi 1), (4, vi (sn (jx : Int))), (2, vi dl), (1, vi 0), (0, vr E 94)] dX11_boundOf_295 2 rfl rfl (by decide) ?_
              refine go_goto (pc := 298) hF 15 dX11_boundOf_298 (by decide) ?_
              refine go_lv [(3, vi ((jx : Int) + 1)), (2, vi dl), (1, vi 0), (0, vr E 94)] [0, 3, 4, 5] rfl ?_
              rw [if_pos bq66] at hK₉
              exact hK₉ _ ⟨u_s5, sumsFirst_s5, (fun jj hjj => by rw [f_s5 jj (by omega), fr₉ jj (by omega)])⟩
        · exact absurd bq40 (by decide)
  have s_opA : ∀ (oo dl : Int) (sm₉ sf : Int → Int) (ρ : Nat → va_E), bW E s2₉ ρ sm₉ sf → 0 ≤ oo ∧ oo < (tLen t₉ : Int) → 0 ≤ dl ∧ dl ≤ 2 → sn oo = 40 → (∀ ρ', bW E s2₉ ρ' (up sm₉ (dl + 1) 0) sf → Go E p e R s m args below meth c Q 7 (0, 0) N ρ' [(3, vi (oo + 1)), (2, vi (dl + 1)), (1, vi 0), (0, vr E 94)] [] 15) → Go E p e R s m args below meth c Q 7 (0, 0) N ρ [(3, vi oo), (2, vi dl), (1, vi 0), (0, vr E 94)] [] 15 := by
    intro oo dl sm₉ sf ρ hW ho hd₉ hc₉ hK₉
    obtain ⟨w1₉, w2₉, fr₉⟩ := hW
    have zx := (fr₉ 94 (by omega)).trans x_s2
    have zn := (fr₉ 95 (by omega)).trans nw_s2
    have zs := (fr₉ 98 (by omega)).trans sn_s2
    have ze := (fr₉ 99 (by omega)).trans eo_s2
    have zm := (fr₉ 108 (by omega)).trans mustAt_s2
    have zy := (fr₉ 109 (by omega)).trans mayAt_s2
    refine go_iload_n (pc := 15) hF dX11_boundOf_15 0 rfl ?_
    refine go_aload_n (pc := 16) hF dX11_boundOf_16 3 rfl ?_
    refine go_get (pc := 17) hF fl_X11_177 dX11_boundOf_17 (by omega) zx rfl ?_
    refine go_icmp_ge (pc := 20) hF 301 dX11_boundOf_20 (by decide) (by omega) (by omega) (fun bq20 => ?_) (fun bq20 => ?_)
    · exact absurd bq20 (by omega)
    · refine go_aload_n (pc := 23) hF dX11_boundOf_23 3 rfl ?_
      refine go_get (pc := 24) hF fl_X11_19 dX11_boundOf_24 (by omega) zx rfl ?_
      refine go_iload_n (pc := 27) hF dX11_boundOf_27 0 rfl ?_
      refine go_iald (pc := 28) hF dX11_boundOf_28 (by omega) zs (by omega)  ?_
      rw [hc₉]
      refine go_istore (pc := 29) hF [(4, vi 40), (3, vi oo), (2, vi dl), (1, vi 0), (0, vr E 94)] dX11_boundOf_29 rfl (by decide) ?_
      refine go_iload (pc := 31) hF dX11_boundOf_31 0 rfl ?_
      refine go_callSP (pc := 33) hF [vi 40] [] ms_X11_168 dX11_boundOf_33 (show CP E M_X11_isLook 2 [vi 40] N ρ 0 from (by have h := c_X11_isLook E N ρ 40 (by omega); rw [bI_f (by omega)] at h; exact h)) rfl rfl (Nat.le_of_ble_eq_true rfl) (by decide) ⟨Nat.zero_le _, Nat.zero_le _⟩ ?_
      refine go_if_eq (pc := 36) hF 104 dX11_boundOf_36 (by decide) ⟨by decide, by decide⟩ (fun bq36 => ?_) (fun bq36 => ?_)
      · refine go_iload (pc := 104) hF dX11_boundOf_104 0 rfl ?_
        refine go_bipush (pc := 106) hF dX11_boundOf_106 (by decide) ?_
        refine go_icmp_ne (pc := 108) hF 124 dX11_boundOf_108 (by decide) ⟨by decide, by decide⟩ ⟨by decide, by decide⟩ (fun bq108 => ?_) (fun bq108 => ?_)
        · refine go_iload (pc := 124) hF dX11_boundOf_124 0 rfl ?_
          refine go_bipush (pc := 126) hF dX11_boundOf_126 (by decide) ?_
          refine go_icmp_eq (pc := 128) hF 139 dX11_boundOf_128 (by decide) ⟨by decide, by decide⟩ ⟨by decide, by decide⟩ (fun bq128 => ?_) (fun bq128 => ?_)
          · refine go_iinc (pc := 139) hF [(2, vi (dl + 1)), (4, vi 40), (3, vi oo), (1, vi 0), (0, vr E 94)] dX11_boundOf_139 2 rfl rfl (by decide) ?_
            refine go_aload_n (pc := 142) hF dX11_boundOf_142 4 rfl ?_
            refine go_get (pc := 143) hF fl_X11_56 dX11_boundOf_143 (by omega) zx rfl ?_
            refine go_iload_n (pc := 146) hF dX11_boundOf_146 0 rfl ?_
            refine go_iconst (pc := 147) hF dX11_boundOf_147 ?_
            refine go_iast (pc := 148) hF dX11_boundOf_148 (by omega) w1₉ (by omega) (fun s6₉ u_s6 f_s6 => ?_)
            have x_s6 := (f_s6 94 (by omega)).trans zx
            have nw_s6 := (f_s6 95 (by omega)).trans zn
            have sn_s6 := (f_s6 98 (by omega)).trans zs
            have eo_s6 := (f_s6 99 (by omega)).trans ze
            have mustAt_s6 := (f_s6 108 (by omega)).trans zm
            have mayAt_s6 := (f_s6 109 (by omega)).trans zy
            have sumsFirst_s6 := (f_s6 111 (by omega)).trans w2₉
            refine go_goto (pc := 149) hF 295 dX11_boundOf_149 (by decide) ?_
            refine go_iinc (pc := 295) hF [(3, vi (oo + 1)), (2, vi (dl + 1)), (4, vi 40), (1, vi 0), (0, vr E 94)] dX11_boundOf_295 2 rfl rfl (by decide) ?_
            refine go_goto (pc := 298) hF 15 dX11_boundOf_298 (by decide) ?_
            refine go_lv [(3, vi (oo + 1)), (2, vi (dl + 1)), (1, vi 0), (0, vr E 94)] [0, 1, 3, 4] rfl ?_
            exact hK₉ _ ⟨u_s6, sumsFirst_s6, (fun jj hjj => by rw [f_s6 jj (by omega), fr₉ jj (by omega)])⟩
          · exact absurd bq128 (by decide)
        · exact absurd bq108 (by decide)
      · exact absurd bq36 (by decide)
  have s_opB : ∀ (oo dl : Int) (sm₉ sf : Int → Int) (ρ : Nat → va_E), bW E s2₉ ρ sm₉ sf → 0 ≤ oo ∧ oo < (tLen t₉ : Int) → 0 ≤ dl ∧ dl ≤ 2 → 49 ≤ sn oo ∧ sn oo ≤ 57 → (∀ ρ', bW E s2₉ ρ' (up sm₉ (dl + 1) 0) sf → Go E p e R s m args below meth c Q 7 (0, 0) N ρ' [(3, vi (oo + 1)), (2, vi (dl + 1)), (1, vi 0), (0, vr E 94)] [] 15) → Go E p e R s m args below meth c Q 7 (0, 0) N ρ [(3, vi oo), (2, vi dl), (1, vi 0), (0, vr E 94)] [] 15 := by
    intro oo dl sm₉ sf ρ hW ho hd₉ hc₉ hK₉
    obtain ⟨w1₉, w2₉, fr₉⟩ := hW
    have zx := (fr₉ 94 (by omega)).trans x_s2
    have zn := (fr₉ 95 (by omega)).trans nw_s2
    have zs := (fr₉ 98 (by omega)).trans sn_s2
    have ze := (fr₉ 99 (by omega)).trans eo_s2
    have zm := (fr₉ 108 (by omega)).trans mustAt_s2
    have zy := (fr₉ 109 (by omega)).trans mayAt_s2
    refine go_iload_n (pc := 15) hF dX11_boundOf_15 0 rfl ?_
    refine go_aload_n (pc := 16) hF dX11_boundOf_16 3 rfl ?_
    refine go_get (pc := 17) hF fl_X11_177 dX11_boundOf_17 (by omega) zx rfl ?_
    refine go_icmp_ge (pc := 20) hF 301 dX11_boundOf_20 (by decide) (by omega) (by omega) (fun bq20 => ?_) (fun bq20 => ?_)
    · exact absurd bq20 (by omega)
    · refine go_aload_n (pc := 23) hF dX11_boundOf_23 3 rfl ?_
      refine go_get (pc := 24) hF fl_X11_19 dX11_boundOf_24 (by omega) zx rfl ?_
      refine go_iload_n (pc := 27) hF dX11_boundOf_27 0 rfl ?_
      refine go_iald (pc := 28) hF dX11_boundOf_28 (by omega) zs (by omega)  ?_
      refine go_istore (pc := 29) hF [(4, vi (sn oo)), (3, vi oo), (2, vi dl), (1, vi 0), (0, vr E 94)] dX11_boundOf_29 rfl (by decide) ?_
      refine go_iload (pc := 31) hF dX11_boundOf_31 0 rfl ?_
      refine go_callSP (pc := 33) hF [vi (sn oo)] [] ms_X11_168 dX11_boundOf_33 (show CP E M_X11_isLook 2 [vi (sn oo)] N ρ 0 from (by have h := c_X11_isLook E N ρ (sn oo) (by omega); rw [bI_f (by omega)] at h; exact h)) rfl rfl (Nat.le_of_ble_eq_true rfl) (by decide) ⟨Nat.zero_le _, Nat.zero_le _⟩ ?_
      refine go_if_eq (pc := 36) hF 104 dX11_boundOf_36 (by decide) ⟨by decide, by decide⟩ (fun bq36 => ?_) (fun bq36 => ?_)
      · refine go_iload (pc := 104) hF dX11_boundOf_104 0 rfl ?_
        refine go_bipush (pc := 106) hF dX11_boundOf_106 (by decide) ?_
        refine go_icmp_ne (pc := 108) hF 124 dX11_boundOf_108 (by decide) (by omega) ⟨by decide, by decide⟩ (fun bq108 => ?_) (fun bq108 => ?_)
        · refine go_iload (pc := 124) hF dX11_boundOf_124 0 rfl ?_
          refine go_bipush (pc := 126) hF dX11_boundOf_126 (by decide) ?_
          refine go_icmp_eq (pc := 128) hF 139 dX11_boundOf_128 (by decide) (by omega) ⟨by decide, by decide⟩ (fun bq128 => ?_) (fun bq128 => ?_)
          · exact absurd bq128 (by omega)
          · refine go_iload (pc := 131) hF dX11_boundOf_131 0 rfl ?_
            refine go_callSP (pc := 133) hF [vi (sn oo)] [] ms_X11_171 dX11_boundOf_133 (show CP E M_X11_isFigure 2 [vi (sn oo)] N ρ 1 from (by have h := c_X11_isFigure E N ρ (sn oo) (by omega); rw [bI_t (by omega)] at h; exact h)) rfl rfl (Nat.le_of_ble_eq_true rfl) (by decide) ⟨Nat.zero_le _, Nat.zero_le _⟩ ?_
            refine go_if_eq (pc := 136) hF 152 dX11_boundOf_136 (by decide) ⟨by decide, by decide⟩ (fun bq136 => ?_) (fun bq136 => ?_)
            · exact absurd bq136 (by decide)
            · refine go_iinc (pc := 139) hF [(2, vi (dl + 1)), (4, vi (sn oo)), (3, vi oo), (1, vi 0), (0, vr E 94)] dX11_boundOf_139 2 rfl rfl (by decide) ?_
              refine go_aload_n (pc := 142) hF dX11_boundOf_142 4 rfl ?_
              refine go_get (pc := 143) hF fl_X11_56 dX11_boundOf_143 (by omega) zx rfl ?_
              refine go_iload_n (pc := 146) hF dX11_boundOf_146 0 rfl ?_
              refine go_iconst (pc := 147) hF dX11_boundOf_147 ?_
              refine go_iast (pc := 148) hF dX11_boundOf_148 (by omega) w1₉ (by omega) (fun s7 u_s7 f_s7 => ?_)
              have x_s7 := (f_s7 94 (by omega)).trans zx
              have nw_s7 := (f_s7 95 (by omega)).trans zn
              have sn_s7 := (f_s7 98 (by omega)).trans zs
              have eo_s7 := (f_s7 99 (by omega)).trans ze
              have mustAt_s7 := (f_s7 108 (by omega)).trans zm
              have mayAt_s7 := (f_s7 109 (by omega)).trans zy
              have sumsFirst_s7 := (f_s7 111 (by omega)).trans w2₉
              refine go_goto (pc := 149) hF 295 dX11_boundOf_149 (by decide) ?_
              refine go_iinc (pc := 295) hF [(3, vi (oo + 1)), (2, vi (dl + 1)), (4, vi (sn oo)), (1, vi 0), (0, vr E 94)] dX11_boundOf_295 2 rfl rfl (by decide) ?_
              refine go_goto (pc := 298) hF 15 dX11_boundOf_298 (by decide) ?_
              refine go_lv [(3, vi (oo + 1)), (2, vi (dl + 1)), (1, vi 0), (0, vr E 94)] [0, 1, 3, 4] rfl ?_
              exact hK₉ _ ⟨u_s7, sumsFirst_s7, (fun jj hjj => by rw [f_s7 jj (by omega), fr₉ jj (by omega)])⟩
        · exact absurd bq108 (by omega)
      · exact absurd bq36 (by decide)
  have s_bar : ∀ (oo dl : Int) (sm₉ sf : Int → Int) (ρ : Nat → va_E), bW E s2₉ ρ sm₉ sf → 0 ≤ oo ∧ oo < (tLen t₉ : Int) → 0 ≤ dl ∧ dl ≤ 2 → sn oo = 124 → (∀ ρ', bW E s2₉ ρ' (up sm₉ (dl + 1) 0) (up sf (dl + 1) (sm₉ (dl + 1))) → Go E p e R s m args below meth c Q 7 (0, 0) N ρ' [(3, vi (oo + 1)), (2, vi (dl + 1)), (1, vi 0), (0, vr E 94)] [] 15) → Go E p e R s m args below meth c Q 7 (0, 0) N ρ [(3, vi oo), (2, vi (dl + 1)), (1, vi 0), (0, vr E 94)] [] 15 := by
    intro oo dl sm₉ sf ρ hW ho hd₉ hc₉ hK₉
    obtain ⟨w1₉, w2₉, fr₉⟩ := hW
    have zx := (fr₉ 94 (by omega)).trans x_s2
    have zn := (fr₉ 95 (by omega)).trans nw_s2
    have zs := (fr₉ 98 (by omega)).trans sn_s2
    have ze := (fr₉ 99 (by omega)).trans eo_s2
    have zm := (fr₉ 108 (by omega)).trans mustAt_s2
    have zy := (fr₉ 109 (by omega)).trans mayAt_s2
    refine go_iload_n (pc := 15) hF dX11_boundOf_15 0 rfl ?_
    refine go_aload_n (pc := 16) hF dX11_boundOf_16 3 rfl ?_
    refine go_get (pc := 17) hF fl_X11_177 dX11_boundOf_17 (by omega) zx rfl ?_
    refine go_icmp_ge (pc := 20) hF 301 dX11_boundOf_20 (by decide) (by omega) (by omega) (fun bq20 => ?_) (fun bq20 => ?_)
    · exact absurd bq20 (by omega)
    · refine go_aload_n (pc := 23) hF dX11_boundOf_23 3 rfl ?_
      refine go_get (pc := 24) hF fl_X11_19 dX11_boundOf_24 (by omega) zx rfl ?_
      refine go_iload_n (pc := 27) hF dX11_boundOf_27 0 rfl ?_
      refine go_iald (pc := 28) hF dX11_boundOf_28 (by omega) zs (by omega)  ?_
      rw [hc₉]
      refine go_istore (pc := 29) hF [(4, vi 124), (3, vi oo), (2, vi (dl + 1)), (1, vi 0), (0, vr E 94)] dX11_boundOf_29 rfl (by decide) ?_
      refine go_iload (pc := 31) hF dX11_boundOf_31 0 rfl ?_
      refine go_callSP (pc := 33) hF [vi 124] [] ms_X11_168 dX11_boundOf_33 (show CP E M_X11_isLook 2 [vi 124] N ρ 0 from (by have h := c_X11_isLook E N ρ 124 (by omega); rw [bI_f (by omega)] at h; exact h)) rfl rfl (Nat.le_of_ble_eq_true rfl) (by decide) ⟨Nat.zero_le _, Nat.zero_le _⟩ ?_
      refine go_if_eq (pc := 36) hF 104 dX11_boundOf_36 (by decide) ⟨by decide, by decide⟩ (fun bq36 => ?_) (fun bq36 => ?_)
      · refine go_iload (pc := 104) hF dX11_boundOf_104 0 rfl ?_
        refine go_bipush (pc := 106) hF dX11_boundOf_106 (by decide) ?_
        refine go_icmp_ne (pc := 108) hF 124 dX11_boundOf_108 (by decide) ⟨by decide, by decide⟩ ⟨by decide, by decide⟩ (fun bq108 => ?_) (fun bq108 => ?_)
        · refine go_iload (pc := 124) hF dX11_boundOf_124 0 rfl ?_
          refine go_bipush (pc := 126) hF dX11_boundOf_126 (by decide) ?_
          refine go_icmp_eq (pc := 128) hF 139 dX11_boundOf_128 (by decide) ⟨by decide, by decide⟩ ⟨by decide, by decide⟩ (fun bq128 => ?_) (fun bq128 => ?_)
          · exact absurd bq128 (by decide)
          · refine go_iload (pc := 131) hF dX11_boundOf_131 0 rfl ?_
            refine go_callSP (pc := 133) hF [vi 124] [] ms_X11_171 dX11_boundOf_133 (show CP E M_X11_isFigure 2 [vi 124] N ρ 0 from (by have h := c_X11_isFigure E N ρ 124 (by omega); rw [bI_f (by omega)] at h; exact h)) rfl rfl (Nat.le_of_ble_eq_true rfl) (by decide) ⟨Nat.zero_le _, Nat.zero_le _⟩ ?_
            refine go_if_eq (pc := 136) hF 152 dX11_boundOf_136 (by decide) ⟨by decide, by decide⟩ (fun bq136 => ?_) (fun bq136 => ?_)
            · refine go_iload (pc := 152) hF dX11_boundOf_152 0 rfl ?_
              refine go_bipush (pc := 154) hF dX11_boundOf_154 (by decide) ?_
              refine go_icmp_ne (pc := 156) hF 181 dX11_boundOf_156 (by decide) ⟨by decide, by decide⟩ ⟨by decide, by decide⟩ (fun bq156 => ?_) (fun bq156 => ?_)
              · exact absurd bq156 (by decide)
              · refine go_aload_n (pc := 159) hF dX11_boundOf_159 4 rfl ?_
                refine go_get (pc := 160) hF fl_X11_59 dX11_boundOf_160 (by omega) zx rfl ?_
                refine go_iload_n (pc := 163) hF dX11_boundOf_163 2 rfl ?_
                refine go_aload_n (pc := 164) hF dX11_boundOf_164 4 rfl ?_
                refine go_get (pc := 165) hF fl_X11_56 dX11_boundOf_165 (by omega) zx rfl ?_
                refine go_iload_n (pc := 168) hF dX11_boundOf_168 2 rfl ?_
                refine go_iald (pc := 169) hF dX11_boundOf_169 (by omega) w1₉ (by omega)  ?_
                refine go_iast (pc := 170) hF dX11_boundOf_170 (by omega) w2₉ (by omega) (fun s8 u_s8 f_s8 => ?_)
                have x_s8 := (f_s8 94 (by omega)).trans zx
                have nw_s8 := (f_s8 95 (by omega)).trans zn
                have sn_s8 := (f_s8 98 (by omega)).trans zs
                have eo_s8 := (f_s8 99 (by omega)).trans ze
                have mustAt_s8 := (f_s8 108 (by omega)).trans zm
                have mayAt_s8 := (f_s8 109 (by omega)).trans zy
                have sums_s8 := (f_s8 110 (by omega)).trans w1₉
                refine go_aload_n (pc := 171) hF dX11_boundOf_171 4 rfl ?_
                refine go_get (pc := 172) hF fl_X11_56 dX11_boundOf_172 (by omega) x_s8 rfl ?_
                refine go_iload_n (pc := 175) hF dX11_boundOf_175 2 rfl ?_
                refine go_iconst (pc := 176) hF dX11_boundOf_176 ?_
                refine go_iast (pc := 177) hF dX11_boundOf_177 (by omega) sums_s8 (by omega) (fun s9 u_s9 f_s9 => ?_)
                have x_s9 := (f_s9 94 (by omega)).trans x_s8
                have nw_s9 := (f_s9 95 (by omega)).trans nw_s8
                have sn_s9 := (f_s9 98 (by omega)).trans sn_s8
                have eo_s9 := (f_s9 99 (by omega)).trans eo_s8
                have mustAt_s9 := (f_s9 108 (by omega)).trans mustAt_s8
                have mayAt_s9 := (f_s9 109 (by omega)).trans mayAt_s8
                have sumsFirst_s9 := (f_s9 111 (by omega)).trans u_s8
                refine go_goto (pc := 178) hF 295 dX11_boundOf_178 (by decide) ?_
                refine go_iinc (pc := 295) hF [(3, vi (oo + 1)), (4, vi 124), (2, vi (dl + 1)), (1, vi 0), (0, vr E 94)] dX11_boundOf_295 1 rfl rfl (by decide) ?_
                refine go_goto (pc := 298) hF 15 dX11_boundOf_298 (by decide) ?_
                refine go_lv [(3, vi (oo + 1)), (2, vi (dl + 1)), (1, vi 0), (0, vr E 94)] [0, 2, 3, 4] rfl ?_
                exact hK₉ _ ⟨u_s9, sumsFirst_s9, (fun jj hjj => by rw [f_s9 jj (by omega), f_s8 jj (by omega), fr₉ jj (by omega)])⟩
            · exact absurd bq136 (by decide)
        · exact absurd bq108 (by decide)
      · exact absurd bq36 (by decide)
  have s_close : ∀ (oo dl : Int) (sm₉ sf : Int → Int) (ρ : Nat → va_E), bW E s2₉ ρ sm₉ sf → 0 ≤ oo ∧ oo < (tLen t₉ : Int) → 0 ≤ dl ∧ dl ≤ 2 → sn oo = 41 → rg (sm₉ (dl + 1)) → rg (sf (dl + 1)) → (∀ ρ', bW E s2₉ ρ' (up sm₉ dl (sm₉ dl + min (sf (dl + 1)) (sm₉ (dl + 1)))) sf → Go E p e R s m args below meth c Q 7 (0, 0) N ρ' [(3, vi (oo + 1)), (2, vi dl), (1, vi 0), (0, vr E 94)] [] 15) → Go E p e R s m args below meth c Q 7 (0, 0) N ρ [(3, vi oo), (2, vi (dl + 1)), (1, vi 0), (0, vr E 94)] [] 15 := by
    intro oo dl sm₉ sf ρ hW ho hd₉ hc₉ hr1 hr2 hK₉
    obtain ⟨w1₉, w2₉, fr₉⟩ := hW
    have zx := (fr₉ 94 (by omega)).trans x_s2
    have zn := (fr₉ 95 (by omega)).trans nw_s2
    have zs := (fr₉ 98 (by omega)).trans sn_s2
    have ze := (fr₉ 99 (by omega)).trans eo_s2
    have zm := (fr₉ 108 (by omega)).trans mustAt_s2
    have zy := (fr₉ 109 (by omega)).trans mayAt_s2
    refine go_iload_n (pc := 15) hF dX11_boundOf_15 0 rfl ?_
    refine go_aload_n (pc := 16) hF dX11_boundOf_16 3 rfl ?_
    refine go_get (pc := 17) hF fl_X11_177 dX11_boundOf_17 (by omega) zx rfl ?_
    refine go_icmp_ge (pc := 20) hF 301 dX11_boundOf_20 (by decide) (by omega) (by omega) (fun bq20 => ?_) (fun bq20 => ?_)
    · exact absurd bq20 (by omega)
    · refine go_aload_n (pc := 23) hF dX11_boundOf_23 3 rfl ?_
      refine go_get (pc := 24) hF fl_X11_19 dX11_boundOf_24 (by omega) zx rfl ?_
      refine go_iload_n (pc := 27) hF dX11_boundOf_27 0 rfl ?_
      refine go_iald (pc := 28) hF dX11_boundOf_28 (by omega) zs (by omega)  ?_
      rw [hc₉]
      refine go_istore (pc := 29) hF [(4, vi 41), (3, vi oo), (2, vi (dl + 1)), (1, vi 0), (0, vr E 94)] dX11_boundOf_29 rfl (by decide) ?_
      refine go_iload (pc := 31) hF dX11_boundOf_31 0 rfl ?_
      refine go_callSP (pc := 33) hF [vi 41] [] ms_X11_168 dX11_boundOf_33 (show CP E M_X11_isLook 2 [vi 41] N ρ 0 from (by have h := c_X11_isLook E N ρ 41 (by omega); rw [bI_f (by omega)] at h; exact h)) rfl rfl (Nat.le_of_ble_eq_true rfl) (by decide) ⟨Nat.zero_le _, Nat.zero_le _⟩ ?_
      refine go_if_eq (pc := 36) hF 104 dX11_boundOf_36 (by decide) ⟨by decide, by decide⟩ (fun bq36 => ?_) (fun bq36 => ?_)
      · refine go_iload (pc := 104) hF dX11_boundOf_104 0 rfl ?_
        refine go_bipush (pc := 106) hF dX11_boundOf_106 (by decide) ?_
        refine go_icmp_ne (pc := 108) hF 124 dX11_boundOf_108 (by decide) ⟨by decide, by decide⟩ ⟨by decide, by decide⟩ (fun bq108 => ?_) (fun bq108 => ?_)
        · refine go_iload (pc := 124) hF dX11_boundOf_124 0 rfl ?_
          refine go_bipush (pc := 126) hF dX11_boundOf_126 (by decide) ?_
          refine go_icmp_eq (pc := 128) hF 139 dX11_boundOf_128 (by decide) ⟨by decide, by decide⟩ ⟨by decide, by decide⟩ (fun bq128 => ?_) (fun bq128 => ?_)
          · exact absurd bq128 (by decide)
          · refine go_iload (pc := 131) hF dX11_boundOf_131 0 rfl ?_
            refine go_callSP (pc := 133) hF [vi 41] [] ms_X11_171 dX11_boundOf_133 (show CP E M_X11_isFigure 2 [vi 41] N ρ 0 from (by have h := c_X11_isFigure E N ρ 41 (by omega); rw [bI_f (by omega)] at h; exact h)) rfl rfl (Nat.le_of_ble_eq_true rfl) (by decide) ⟨Nat.zero_le _, Nat.zero_le _⟩ ?_
            refine go_if_eq (pc := 136) hF 152 dX11_boundOf_136 (by decide) ⟨by decide, by decide⟩ (fun bq136 => ?_) (fun bq136 => ?_)
            · refine go_iload (pc := 152) hF dX11_boundOf_152 0 rfl ?_
              refine go_bipush (pc := 154) hF dX11_boundOf_154 (by decide) ?_
              refine go_icmp_ne (pc := 156) hF 181 dX11_boundOf_156 (by decide) ⟨by decide, by decide⟩ ⟨by decide, by decide⟩ (fun bq156 => ?_) (fun bq156 => ?_)
              · refine go_iload (pc := 181) hF dX11_boundOf_181 0 rfl ?_
                refine go_bipush (pc := 183) hF dX11_boundOf_183 (by decide) ?_
                refine go_icmp_ne (pc := 185) hF 250 dX11_boundOf_185 (by decide) ⟨by decide, by decide⟩ ⟨by decide, by decide⟩ (fun bq185 => ?_) (fun bq185 => ?_)
                · exact absurd bq185 (by decide)
                · refine go_aload_n (pc := 188) hF dX11_boundOf_188 4 rfl ?_
                  refine go_get (pc := 189) hF fl_X11_56 dX11_boundOf_189 (by omega) zx rfl ?_
                  refine go_iload_n (pc := 192) hF dX11_boundOf_192 2 rfl ?_
                  refine go_iald (pc := 193) hF dX11_boundOf_193 (by omega) w1₉ (by omega)  ?_
                  refine go_aload_n (pc := 194) hF dX11_boundOf_194 4 rfl ?_
                  refine go_get (pc := 195) hF fl_X11_59 dX11_boundOf_195 (by omega) zx rfl ?_
                  refine go_iload_n (pc := 198) hF dX11_boundOf_198 2 rfl ?_
                  refine go_iald (pc := 199) hF dX11_boundOf_199 (by omega) w2₉ (by omega)  ?_
                  refine go_icmp_le (pc := 200) hF 207 dX11_boundOf_200 (by decide) (by omega) (by omega) (fun bq200 => ?_) (fun bq200 => ?_)
                  · refine go_iconst (pc := 207) hF dX11_boundOf_207 ?_
                    refine go_istore (pc := 208) hF [(5, vi 0), (4, vi 41), (3, vi oo), (2, vi (dl + 1)), (1, vi 0), (0, vr E 94)] dX11_boundOf_208 rfl (by decide) ?_
                    refine go_iload (pc := 210) hF dX11_boundOf_210 0 rfl ?_
                    refine go_iload_n (pc := 212) hF dX11_boundOf_212 4 rfl ?_
                    refine go_icmp_ne (pc := 213) hF 225 dX11_boundOf_213 (by decide) ⟨by decide, by decide⟩ ⟨by decide, by decide⟩ (fun bq213 => ?_) (fun bq213 => ?_)
                    · exact absurd bq213 (by decide)
                    · refine go_aload_n (pc := 216) hF dX11_boundOf_216 5 rfl ?_
                      refine go_get (pc := 217) hF fl_X11_56 dX11_boundOf_217 (by omega) zx rfl ?_
                      refine go_iload_n (pc := 220) hF dX11_boundOf_220 3 rfl ?_
                      refine go_iald (pc := 221) hF dX11_boundOf_221 (by omega) w1₉ (by omega)  ?_
                      refine go_goto (pc := 222) hF 231 dX11_boundOf_222 (by decide) ?_
                      refine go_istore (pc := 231) hF [(6, vi (sm₉ (dl + 1))), (5, vi 0), (4, vi 41), (3, vi oo), (2, vi (dl + 1)), (1, vi 0), (0, vr E 94)] dX11_boundOf_231 rfl (by decide) ?_
                      refine go_iinc (pc := 233) hF [(2, vi ((dl + 1) + (-1))), (6, vi (sm₉ (dl + 1))), (5, vi 0), (4, vi 41), (3, vi oo), (1, vi 0), (0, vr E 94)] dX11_boundOf_233 4 rfl rfl (by decide) ?_
                      refine go_lvE [(2, vi dl), (6, vi (sm₉ (dl + 1))), (5, vi 0), (4, vi 41), (3, vi oo), (1, vi 0), (0, vr E 94)] (by rw [show (dl + 1) + (-1) = dl by omega]) ?_
                      refine go_aload_n (pc := 236) hF dX11_boundOf_236 6 rfl ?_
                      refine go_get (pc := 237) hF fl_X11_56 dX11_boundOf_237 (by omega) zx rfl ?_
                      refine go_iload_n (pc := 240) hF dX11_boundOf_240 0 rfl ?_
                      refine go_dup2 (pc := 241) hF dX11_boundOf_241 rfl rfl ?_
                      refine go_iald (pc := 242) hF dX11_boundOf_242 (by omega) w1₉ (by omega)  ?_
                      refine go_iload (pc := 243) hF dX11_boundOf_243 1 rfl ?_
                      refine go_iadd (pc := 245) hF dX11_boundOf_245 ?_
                      refine go_iast (pc := 246) hF dX11_boundOf_246 (by omega) w1₉ (by omega) (fun s10 u_s10 f_s10 => ?_)
                      have x_s10 := (f_s10 94 (by omega)).trans zx
                      have nw_s10 := (f_s10 95 (by omega)).trans zn
                      have sn_s10 := (f_s10 98 (by omega)).trans zs
                      have eo_s10 := (f_s10 99 (by omega)).trans ze
                      have mustAt_s10 := (f_s10 108 (by omega)).trans zm
                      have mayAt_s10 := (f_s10 109 (by omega)).trans zy
                      have sumsFirst_s10 := (f_s10 111 (by omega)).trans w2₉
                      refine go_goto (pc := 247) hF 295 dX11_boundOf_247 (by decide) ?_
                      refine go_iinc (pc := 295) hF [(3, vi (oo + 1)), (2, vi dl), (6, vi (sm₉ (dl + 1))), (5, vi 0), (4, vi 41), (1, vi 0), (0, vr E 94)] dX11_boundOf_295 4 rfl rfl (by decide) ?_
                      refine go_goto (pc := 298) hF 15 dX11_boundOf_298 (by decide) ?_
                      refine go_lv [(3, vi (oo + 1)), (2, vi dl), (1, vi 0), (0, vr E 94)] [0, 1, 5, 6] rfl ?_
                      rw [show min (sf (dl + 1)) (sm₉ (dl + 1)) = sm₉ (dl + 1) by omega] at hK₉
                      exact hK₉ _ ⟨u_s10, sumsFirst_s10, (fun jj hjj => by rw [f_s10 jj (by omega), fr₉ jj (by omega)])⟩
                  · refine go_iconst (pc := 203) hF dX11_boundOf_203 ?_
                    refine go_goto (pc := 204) hF 208 dX11_boundOf_204 (by decide) ?_
                    refine go_istore (pc := 208) hF [(5, vi 1), (4, vi 41), (3, vi oo), (2, vi (dl + 1)), (1, vi 0), (0, vr E 94)] dX11_boundOf_208 rfl (by decide) ?_
                    refine go_iload (pc := 210) hF dX11_boundOf_210 0 rfl ?_
                    refine go_iload_n (pc := 212) hF dX11_boundOf_212 4 rfl ?_
                    refine go_icmp_ne (pc := 213) hF 225 dX11_boundOf_213 (by decide) ⟨by decide, by decide⟩ ⟨by decide, by decide⟩ (fun bq213 => ?_) (fun bq213 => ?_)
                    · refine go_aload_n (pc := 225) hF dX11_boundOf_225 5 rfl ?_
                      refine go_get (pc := 226) hF fl_X11_59 dX11_boundOf_226 (by omega) zx rfl ?_
                      refine go_iload_n (pc := 229) hF dX11_boundOf_229 3 rfl ?_
                      refine go_iald (pc := 230) hF dX11_boundOf_230 (by omega) w2₉ (by omega)  ?_
                      refine go_istore (pc := 231) hF [(6, vi (sf (dl + 1))), (5, vi 1), (4, vi 41), (3, vi oo), (2, vi (dl + 1)), (1, vi 0), (0, vr E 94)] dX11_boundOf_231 rfl (by decide) ?_
                      refine go_iinc (pc := 233) hF [(2, vi ((dl + 1) + (-1))), (6, vi (sf (dl + 1))), (5, vi 1), (4, vi 41), (3, vi oo), (1, vi 0), (0, vr E 94)] dX11_boundOf_233 4 rfl rfl (by decide) ?_
                      refine go_lvE [(2, vi dl), (6, vi (sf (dl + 1))), (5, vi 1), (4, vi 41), (3, vi oo), (1, vi 0), (0, vr E 94)] (by rw [show (dl + 1) + (-1) = dl by omega]) ?_
                      refine go_aload_n (pc := 236) hF dX11_boundOf_236 6 rfl ?_
                      refine go_get (pc := 237) hF fl_X11_56 dX11_boundOf_237 (by omega) zx rfl ?_
                      refine go_iload_n (pc := 240) hF dX11_boundOf_240 0 rfl ?_
                      refine go_dup2 (pc := 241) hF dX11_boundOf_241 rfl rfl ?_
                      refine go_iald (pc := 242) hF dX11_boundOf_242 (by omega) w1₉ (by omega)  ?_
                      refine go_iload (pc := 243) hF dX11_boundOf_243 1 rfl ?_
                      refine go_iadd (pc := 245) hF dX11_boundOf_245 ?_
                      refine go_iast (pc := 246) hF dX11_boundOf_246 (by omega) w1₉ (by omega) (fun s11 u_s11 f_s11 => ?_)
                      have x_s11 := (f_s11 94 (by omega)).trans zx
                      have nw_s11 := (f_s11 95 (by omega)).trans zn
                      have sn_s11 := (f_s11 98 (by omega)).trans zs
                      have eo_s11 := (f_s11 99 (by omega)).trans ze
                      have mustAt_s11 := (f_s11 108 (by omega)).trans zm
                      have mayAt_s11 := (f_s11 109 (by omega)).trans zy
                      have sumsFirst_s11 := (f_s11 111 (by omega)).trans w2₉
                      refine go_goto (pc := 247) hF 295 dX11_boundOf_247 (by decide) ?_
                      refine go_iinc (pc := 295) hF [(3, vi (oo + 1)), (2, vi dl), (6, vi (sf (dl + 1))), (5, vi 1), (4, vi 41), (1, vi 0), (0, vr E 94)] dX11_boundOf_295 4 rfl rfl (by decide) ?_
                      refine go_goto (pc := 298) hF 15 dX11_boundOf_298 (by decide) ?_
                      refine go_lv [(3, vi (oo + 1)), (2, vi dl), (1, vi 0), (0, vr E 94)] [0, 1, 5, 6] rfl ?_
                      rw [show min (sf (dl + 1)) (sm₉ (dl + 1)) = sf (dl + 1) by omega] at hK₉
                      exact hK₉ _ ⟨u_s11, sumsFirst_s11, (fun jj hjj => by rw [f_s11 jj (by omega), fr₉ jj (by omega)])⟩
                    · exact absurd bq213 (by decide)
              · exact absurd bq156 (by decide)
            · exact absurd bq136 (by decide)
        · exact absurd bq108 (by decide)
      · exact absurd bq36 (by decide)
  have s_back : ∀ (oo dl o1 : Int) (n9 : Nat) (sm₉ sf : Int → Int) (ρ : Nat → va_E), bW E s2₉ ρ sm₉ sf → 0 ≤ oo ∧ oo < (tLen t₉ : Int) → 0 ≤ dl ∧ dl ≤ 2 → sn oo = 93 → eo oo = o1 → 0 ≤ o1 ∧ o1 < (tLen t₉ : Int) → sn o1 = 48 + (n9 : Int) → (∀ ρ', bW E s2₉ ρ' (up sm₉ dl (sm₉ dl + 0)) sf → Go E p e R s m args below meth c Q 7 (0, 0) N ρ' [(3, vi (oo + 1)), (2, vi dl), (1, vi 0), (0, vr E 94)] [] 15) → Go E p e R s m args below meth c Q 7 (0, 0) N ρ [(3, vi oo), (2, vi (dl + 1)), (1, vi 0), (0, vr E 94)] [] 15 := by
    intro oo dl o1 n9 sm₉ sf ρ hW ho hd₉ hc₉ he ho1 hn9 hK₉
    obtain ⟨w1₉, w2₉, fr₉⟩ := hW
    have zx := (fr₉ 94 (by omega)).trans x_s2
    have zn := (fr₉ 95 (by omega)).trans nw_s2
    have zs := (fr₉ 98 (by omega)).trans sn_s2
    have ze := (fr₉ 99 (by omega)).trans eo_s2
    have zm := (fr₉ 108 (by omega)).trans mustAt_s2
    have zy := (fr₉ 109 (by omega)).trans mayAt_s2
    refine go_iload_n (pc := 15) hF dX11_boundOf_15 0 rfl ?_
    refine go_aload_n (pc := 16) hF dX11_boundOf_16 3 rfl ?_
    refine go_get (pc := 17) hF fl_X11_177 dX11_boundOf_17 (by omega) zx rfl ?_
    refine go_icmp_ge (pc := 20) hF 301 dX11_boundOf_20 (by decide) (by omega) (by omega) (fun bq20 => ?_) (fun bq20 => ?_)
    · exact absurd bq20 (by omega)
    · refine go_aload_n (pc := 23) hF dX11_boundOf_23 3 rfl ?_
      refine go_get (pc := 24) hF fl_X11_19 dX11_boundOf_24 (by omega) zx rfl ?_
      refine go_iload_n (pc := 27) hF dX11_boundOf_27 0 rfl ?_
      refine go_iald (pc := 28) hF dX11_boundOf_28 (by omega) zs (by omega)  ?_
      rw [hc₉]
      refine go_istore (pc := 29) hF [(4, vi 93), (3, vi oo), (2, vi (dl + 1)), (1, vi 0), (0, vr E 94)] dX11_boundOf_29 rfl (by decide) ?_
      refine go_iload (pc := 31) hF dX11_boundOf_31 0 rfl ?_
      refine go_callSP (pc := 33) hF [vi 93] [] ms_X11_168 dX11_boundOf_33 (show CP E M_X11_isLook 2 [vi 93] N ρ 0 from (by have h := c_X11_isLook E N ρ 93 (by omega); rw [bI_f (by omega)] at h; exact h)) rfl rfl (Nat.le_of_ble_eq_true rfl) (by decide) ⟨Nat.zero_le _, Nat.zero_le _⟩ ?_
      refine go_if_eq (pc := 36) hF 104 dX11_boundOf_36 (by decide) ⟨by decide, by decide⟩ (fun bq36 => ?_) (fun bq36 => ?_)
      · refine go_iload (pc := 104) hF dX11_boundOf_104 0 rfl ?_
        refine go_bipush (pc := 106) hF dX11_boundOf_106 (by decide) ?_
        refine go_icmp_ne (pc := 108) hF 124 dX11_boundOf_108 (by decide) ⟨by decide, by decide⟩ ⟨by decide, by decide⟩ (fun bq108 => ?_) (fun bq108 => ?_)
        · refine go_iload (pc := 124) hF dX11_boundOf_124 0 rfl ?_
          refine go_bipush (pc := 126) hF dX11_boundOf_126 (by decide) ?_
          refine go_icmp_eq (pc := 128) hF 139 dX11_boundOf_128 (by decide) ⟨by decide, by decide⟩ ⟨by decide, by decide⟩ (fun bq128 => ?_) (fun bq128 => ?_)
          · exact absurd bq128 (by decide)
          · refine go_iload (pc := 131) hF dX11_boundOf_131 0 rfl ?_
            refine go_callSP (pc := 133) hF [vi 93] [] ms_X11_171 dX11_boundOf_133 (show CP E M_X11_isFigure 2 [vi 93] N ρ 0 from (by have h := c_X11_isFigure E N ρ 93 (by omega); rw [bI_f (by omega)] at h; exact h)) rfl rfl (Nat.le_of_ble_eq_true rfl) (by decide) ⟨Nat.zero_le _, Nat.zero_le _⟩ ?_
            refine go_if_eq (pc := 136) hF 152 dX11_boundOf_136 (by decide) ⟨by decide, by decide⟩ (fun bq136 => ?_) (fun bq136 => ?_)
            · refine go_iload (pc := 152) hF dX11_boundOf_152 0 rfl ?_
              refine go_bipush (pc := 154) hF dX11_boundOf_154 (by decide) ?_
              refine go_icmp_ne (pc := 156) hF 181 dX11_boundOf_156 (by decide) ⟨by decide, by decide⟩ ⟨by decide, by decide⟩ (fun bq156 => ?_) (fun bq156 => ?_)
              · refine go_iload (pc := 181) hF dX11_boundOf_181 0 rfl ?_
                refine go_bipush (pc := 183) hF dX11_boundOf_183 (by decide) ?_
                refine go_icmp_ne (pc := 185) hF 250 dX11_boundOf_185 (by decide) ⟨by decide, by decide⟩ ⟨by decide, by decide⟩ (fun bq185 => ?_) (fun bq185 => ?_)
                · refine go_iload_n (pc := 250) hF dX11_boundOf_250 3 rfl ?_
                  refine go_if_eq (pc := 251) hF 278 dX11_boundOf_251 (by decide) ⟨by decide, by decide⟩ (fun bq251 => ?_) (fun bq251 => ?_)
                  · refine go_iconst (pc := 278) hF dX11_boundOf_278 ?_
                    refine go_istore (pc := 279) hF [(5, vi 0), (4, vi 93), (3, vi oo), (2, vi (dl + 1)), (1, vi 0), (0, vr E 94)] dX11_boundOf_279 rfl (by decide) ?_
                    refine go_iinc (pc := 281) hF [(2, vi ((dl + 1) + (-1))), (5, vi 0), (4, vi 93), (3, vi oo), (1, vi 0), (0, vr E 94)] dX11_boundOf_281 3 rfl rfl (by decide) ?_
                    refine go_lvE [(2, vi dl), (5, vi 0), (4, vi 93), (3, vi oo), (1, vi 0), (0, vr E 94)] (by rw [show (dl + 1) + (-1) = dl by omega]) ?_
                    refine go_aload_n (pc := 284) hF dX11_boundOf_284 5 rfl ?_
                    refine go_get (pc := 285) hF fl_X11_56 dX11_boundOf_285 (by omega) zx rfl ?_
                    refine go_iload_n (pc := 288) hF dX11_boundOf_288 0 rfl ?_
                    refine go_dup2 (pc := 289) hF dX11_boundOf_289 rfl rfl ?_
                    refine go_iald (pc := 290) hF dX11_boundOf_290 (by omega) w1₉ (by omega)  ?_
                    refine go_iload (pc := 291) hF dX11_boundOf_291 1 rfl ?_
                    refine go_iadd (pc := 293) hF dX11_boundOf_293 ?_
                    refine go_iast (pc := 294) hF dX11_boundOf_294 (by omega) w1₉ (by omega) (fun s12 u_s12 f_s12 => ?_)
                    have x_s12 := (f_s12 94 (by omega)).trans zx
                    have nw_s12 := (f_s12 95 (by omega)).trans zn
                    have sn_s12 := (f_s12 98 (by omega)).trans zs
                    have eo_s12 := (f_s12 99 (by omega)).trans ze
                    have mustAt_s12 := (f_s12 108 (by omega)).trans zm
                    have mayAt_s12 := (f_s12 109 (by omega)).trans zy
                    have sumsFirst_s12 := (f_s12 111 (by omega)).trans w2₉
                    refine go_iinc (pc := 295) hF [(3, vi (oo + 1)), (2, vi dl), (5, vi 0), (4, vi 93), (1, vi 0), (0, vr E 94)] dX11_boundOf_295 3 rfl rfl (by decide) ?_
                    refine go_goto (pc := 298) hF 15 dX11_boundOf_298 (by decide) ?_
                    refine go_lv [(3, vi (oo + 1)), (2, vi dl), (1, vi 0), (0, vr E 94)] [0, 1, 4, 5] rfl ?_
                    exact hK₉ _ ⟨u_s12, sumsFirst_s12, (fun jj hjj => by rw [f_s12 jj (by omega), fr₉ jj (by omega)])⟩
                  · exact absurd bq251 (by decide)
                · exact absurd bq185 (by decide)
              · exact absurd bq156 (by decide)
            · exact absurd bq136 (by decide)
        · exact absurd bq108 (by decide)
      · exact absurd bq36 (by decide)
  have s_end : ∀ (sm₉ sf : Int → Int) (ρ : Nat → va_E), bW E s2₉ ρ sm₉ sf → sm₉ 0 = loB₉ (soT t₉ u₉) pr t₉ 0 → Go E p e R s m args below meth c Q 7 (0, 0) N ρ [(3, vi (0 + (tLen t₉ : Int))), (2, vi 0), (1, vi 0), (0, vr E 94)] [] 15 := by
    intro sm₉ sf ρ hW hv9
    obtain ⟨w1₉, w2₉, fr₉⟩ := hW
    have zx := (fr₉ 94 (by omega)).trans x_s2
    have zn := (fr₉ 95 (by omega)).trans nw_s2
    have zs := (fr₉ 98 (by omega)).trans sn_s2
    have ze := (fr₉ 99 (by omega)).trans eo_s2
    have zm := (fr₉ 108 (by omega)).trans mustAt_s2
    have zy := (fr₉ 109 (by omega)).trans mayAt_s2
    refine go_iload_n (pc := 15) hF dX11_boundOf_15 0 rfl ?_
    refine go_aload_n (pc := 16) hF dX11_boundOf_16 3 rfl ?_
    refine go_get (pc := 17) hF fl_X11_177 dX11_boundOf_17 (by omega) zx rfl ?_
    refine go_icmp_ge (pc := 20) hF 301 dX11_boundOf_20 (by decide) (by omega) (by omega) (fun bq20 => ?_) (fun bq20 => ?_)
    · refine go_aload_n (pc := 301) hF dX11_boundOf_301 3 rfl ?_
      refine go_get (pc := 302) hF fl_X11_56 dX11_boundOf_302 (by omega) zx rfl ?_
      refine go_iconst (pc := 305) hF dX11_boundOf_305 ?_
      refine go_iald (pc := 306) hF dX11_boundOf_306 (by omega) w1₉ (by omega)  ?_
      exact go_iretQ hF hr hlk hQ dX11_boundOf_307 ⟨hv9, ⟨_, _, _, _, _, _, _, _, _, _, _, _, _, ((fr₉ 94 (by omega)).trans x_s2), ((fr₉ 95 (by omega)).trans nw_s2), ((fr₉ 96 (by omega)).trans pa_s2), ((fr₉ 97 (by omega)).trans rf_s2), ((fr₉ 98 (by omega)).trans sn_s2), ((fr₉ 99 (by omega)).trans eo_s2), ((fr₉ 100 (by omega)).trans bo_s2), ((fr₉ 101 (by omega)).trans tx_s2), ((fr₉ 119 (by omega)).trans rr_s2), ⟨⟨_, ((fr₉ 102 (by omega)).trans readSign_s2)⟩, ⟨_, ((fr₉ 103 (by omega)).trans open_s2)⟩, ⟨_, ((fr₉ 104 (by omega)).trans isBarred_s2)⟩, ⟨_, ((fr₉ 105 (by omega)).trans ages_s2)⟩, ⟨_, ((fr₉ 106 (by omega)).trans entered_s2)⟩, ⟨_, ((fr₉ 107 (by omega)).trans first_s2)⟩, ⟨_, ((fr₉ 108 (by omega)).trans mustAt_s2)⟩, ⟨_, ((fr₉ 109 (by omega)).trans mayAt_s2)⟩, ⟨_, w1₉⟩, ⟨_, w2₉⟩, ⟨_, ((fr₉ 112 (by omega)).trans took_s2)⟩, ⟨_, ((fr₉ 113 (by omega)).trans next_s2)⟩, ⟨_, ((fr₉ 114 (by omega)).trans inOf_s2)⟩, ⟨_, ((fr₉ 115 (by omega)).trans firstOf_s2)⟩, ⟨_, ((fr₉ 116 (by omega)).trans rounds_s2)⟩, ⟨_, ((fr₉ 117 (by omega)).trans counts_s2)⟩, ⟨_, ((fr₉ 118 (by omega)).trans countsFirst_s2)⟩⟩, hnw, hpa, hrf, hrr, hMA⟩, (fun jj hjj => by rw [fr₉ jj (by omega), f_s2 jj (by omega), f_s1 jj (by omega)])⟩
    · exact absurd bq20 (by omega)
  refine go_lv [(3, vi 0), (2, vi 0), (1, vi 0), (0, vr E 94)] [0, 1, 3, 2] rfl ?_
  exact bo_walk (bo := bo) (E := E) (by omega) (loB₉ (soT t₉ u₉) pr) (fun k₉ => if soT t₉ u₉ k₉ = 2 then pr else 1) min (fun _ _ => 0) (fun _ => rfl) (fun _ _ _ => rfl) (fun _ _ _ _ => rfl) (fun _ _ _ _ => (Int.zero_add _).symm) (fun t' h1 h2 h3 k₉ => by have q₉ := loB_rg (soT t₉ u₉) hpr t' h1 k₉; have q2₉ := ten3 h2 h3; exact ⟨by omega, by omega⟩) (fun ρ o d₉ => Go E p e R s m args below meth c Q 7 (0, 0) N ρ [(3, vi o), (2, vi d₉), (1, vi 0), (0, vr E 94)] [] 15) s_dot s_look (fun oo dl sm₉ sf ρ hW ho hd₉ hc₉ hK₉ => hc₉.elim (fun hc₉ => s_opA oo dl sm₉ sf ρ hW ho hd₉ hc₉ hK₉) (fun hc₉ => s_opB oo dl sm₉ sf ρ hW ho hd₉ hc₉ hK₉)) s_bar s_close s_back t₉ hwf 0 0 0 (up g117 0 0) g118 s2₉ (by omega) (by omega) (kN_0 sn) hMA ⟨u_s2, sumsFirst_s2, fun _ _ => rfl⟩ (fun sm₉ sf ρ hW e9₉ _ => s_end sm₉ sf ρ hW (by rw [e9₉, up_self, Int.zero_add]))
set_option maxHeartbeats 4000000 in
set_option maxRecDepth 100000 in
theorem c_X11_lower (E : En) (N : Nat) (σ : Nat → va_E) (r₉ u₉ kd pr : Int) (yr yw yk yp : Int → Int) (hs : Int) (tx : Int → Int) (tl : Int) (t₉ : Tr) (xb xn xf q1₉ q2₉ q3₉ : Int) (hN₉ : 120 ≤ N) (hO : okS r₉ u₉ kd pr yr yw yk yp hs tx tl t₉ xb xn xf q1₉ q2₉ q3₉) (hS₉ : mdS E σ r₉ u₉ kd pr yr yw yk yp hs tx tl t₉ xb xn xf q1₉ q2₉ q3₉) : CI E M_X11_lower 16 [vr E 94] N σ (fun y₉ σ' => y₉ = loB₉ (soT t₉ u₉) pr t₉ 0 ∧ mdS E σ' r₉ u₉ kd pr yr yw yk yp hs tx tl t₉ xb xn xf q1₉ q2₉ q3₉ ∧ ∀ q₉, q₉ < 94 → σ' q₉ = σ q₉) := by
  refine CT.of2 (own := RX11) (by decide) rfl (Nat.le_of_ble_eq_true rfl) ?_
  intro p e R s m args below meth c Q hF hr hlk hnm hz hR hQ
  obtain ⟨_, _, _, _, _, _, _, _, _, _, _, _, _, hob, -⟩ := id hS₉
  refine go_aload_n (pc := 0) hF dX11_lower_0 0 rfl ?_
  refine go_iconst (pc := 1) hF dX11_lower_1 ?_
  refine go_callVI (pc := 2) hF [vi 0] [] mv_X11_225 dX11_lower_2 (by omega) hob (c_X11_boundOf_lo E N σ r₉ u₉ kd pr yr yw yk yp hs tx tl t₉ xb xn xf q1₉ q2₉ q3₉ hN₉ hO hS₉) rfl rfl (Nat.le_of_ble_eq_true rfl) (by decide) ⟨Nat.zero_le _, Nat.zero_le _⟩ (fun r_s1 s1₉ h_s1 => ?_)
  obtain ⟨rfl, hS2, f_s1⟩ := h_s1
  exact go_iretQ hF hr hlk hQ dX11_lower_5 ⟨rfl, hS2, f_s1⟩
