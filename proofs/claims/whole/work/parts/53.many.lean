/-! The reference₉: many₉. -/
set_option maxHeartbeats 4000000 in
set_option maxRecDepth 100000 in
theorem c_X11_many (E : En) (N : Nat) (σ : Nat → va_E) (r₉ u₉ kd pr : Int) (yr yw yk yp : Int → Int) (hs : Int) (tx : Int → Int) (tl : Int) (t₉ : Tr) (xb xn xf q1₉ q2₉ q3₉ : Int) (hN₉ : 120 ≤ N) (hO : okS r₉ u₉ kd pr yr yw yk yp hs tx tl t₉ xb xn xf q1₉ q2₉ q3₉) (hS₉ : mdS E σ r₉ u₉ kd pr yr yw yk yp hs tx tl t₉ xb xn xf q1₉ q2₉ q3₉) : CI E M_X11_many 16 [vr E 94] N σ (fun y₉ σ' => y₉ = wyB t₉ 1 ∧ mdS E σ' r₉ u₉ kd pr yr yw yk yp hs tx tl t₉ xb xn xf q1₉ q2₉ q3₉ ∧ ∀ q₉, q₉ < 94 → σ' q₉ = σ q₉) := by
  refine CT.of2 (own := RX11) (by decide) rfl (Nat.le_of_ble_eq_true rfl) ?_
  intro p e R s m args below meth c Q hF hr hlk hnm hz hR hQ
  obtain ⟨nw, pa, rf, sn, eo, bo, rr, rz, hi₉, mi, ak, rt, cn, z101, z102, z103, z104, z105, z106, z107, z108, z126, ⟨⟨g109, z109⟩, ⟨g110, z110⟩, ⟨g111, z111⟩, ⟨g112, z112⟩, ⟨g113, z113⟩, ⟨g114, z114⟩, ⟨g115, z115⟩, ⟨g116, z116⟩, ⟨g117, z117⟩, ⟨g118, z118⟩, ⟨g119, z119⟩, ⟨g120, z120⟩, ⟨g121, z121⟩, ⟨g122, z122⟩, ⟨g123, z123⟩, ⟨g124, z124⟩, ⟨g125, z125⟩⟩, hnw, hpa, hrf, hrr, hMA⟩ := hS₉
  obtain ⟨⟨hrw, hu, hkd, hpr⟩, hhs, hyy, htl, htx, hxb, hxn, hxf, hq1, hq2, hq3, hwf, hdp3, hl80, hl24⟩ := hO
  have hrw3 := vrow_up hrw (show u₉ ≤ 3 by omega)
  have hrr0 := hrw.1
  obtain ⟨n0₉, n1₉, n2₉, n3₉, n4₉, n5₉, n6₉⟩ := id hnw
  have gl := mLong_rg r₉
  have hsg0 := MA_sg t₉ hwf 0 hMA
  have hsg : ∀ p : Int, 0 ≤ p → p < (tLen t₉ : Int) → 40 ≤ sn p ∧ sn p ≤ 124 := fun p a₉ b₉ => hsg0 p a₉ (by omega)
  refine go_iconst (pc := 0) hF dX11_many_0 ?_
  refine go_istore_n (pc := 1) hF [(1, vi 0), (0, vr E 94)] dX11_many_1 rfl (by decide) ?_
  refine go_aload_n (pc := 2) hF dX11_many_2 1 rfl ?_
  refine go_get (pc := 3) hF fl_X11_77 dX11_many_3 (by omega) z101 rfl ?_
  refine go_iconst (pc := 6) hF dX11_many_6 ?_
  refine go_lconst (pc := 7) (v := 1) hF dX11_many_7 (by decide) ?_
  refine go_last (pc := 8) hF dX11_many_8 (by omega) z124 (by omega) (fun s1₉ u_s1 f_s1 => ?_)
  have x_s1 := (f_s1 94 (by omega)).trans z101
  have nw_s1 := (f_s1 95 (by omega)).trans z102
  have pa_s1 := (f_s1 96 (by omega)).trans z103
  have rf_s1 := (f_s1 97 (by omega)).trans z104
  have sn_s1 := (f_s1 98 (by omega)).trans z105
  have eo_s1 := (f_s1 99 (by omega)).trans z106
  have bo_s1 := (f_s1 100 (by omega)).trans z107
  have tx_s1 := (f_s1 101 (by omega)).trans z108
  have rr_s1 := (f_s1 119 (by omega)).trans z126
  have readSign_s1 := (f_s1 102 (by omega)).trans z109
  have open_s1 := (f_s1 103 (by omega)).trans z110
  have isBarred_s1 := (f_s1 104 (by omega)).trans z111
  have ages_s1 := (f_s1 105 (by omega)).trans z112
  have entered_s1 := (f_s1 106 (by omega)).trans z113
  have first_s1 := (f_s1 107 (by omega)).trans z114
  have mustAt_s1 := (f_s1 108 (by omega)).trans z115
  have mayAt_s1 := (f_s1 109 (by omega)).trans z116
  have sums_s1 := (f_s1 110 (by omega)).trans z117
  have sumsFirst_s1 := (f_s1 111 (by omega)).trans z118
  have took_s1 := (f_s1 112 (by omega)).trans z119
  have next_s1 := (f_s1 113 (by omega)).trans z120
  have inOf_s1 := (f_s1 114 (by omega)).trans z121
  have firstOf_s1 := (f_s1 115 (by omega)).trans z122
  have rounds_s1 := (f_s1 116 (by omega)).trans z123
  have countsFirst_s1 := (f_s1 118 (by omega)).trans z125
  refine go_iconst (pc := 9) hF dX11_many_9 ?_
  refine go_istore_n (pc := 10) hF [(2, vi 0), (1, vi 0), (0, vr E 94)] dX11_many_10 rfl (by decide) ?_
  have s_dot : ∀ (oo dl : Int) (sm₉ sf : Int → Int) (ρ : Nat → va_E), yW E s1₉ ρ sm₉ sf → 0 ≤ oo ∧ oo < (tLen t₉ : Int) → 0 ≤ dl ∧ dl ≤ 3 → sn oo = 46 → (Go E p e R s m args below meth c Q 6 (0, 0) N ρ [(2, vi (oo + 1)), (1, vi dl), (0, vr E 94)] [] 11) → Go E p e R s m args below meth c Q 6 (0, 0) N ρ [(2, vi oo), (1, vi dl), (0, vr E 94)] [] 11 := by
    intro oo dl sm₉ sf ρ hW ho hd₉ hc₉ hK₉
    obtain ⟨w1₉, w2₉, fr₉⟩ := hW
    have zx := (fr₉ 94 (by omega)).trans x_s1
    have zs := (fr₉ 98 (by omega)).trans sn_s1
    have ze := (fr₉ 99 (by omega)).trans eo_s1
    refine go_iload_n (pc := 11) hF dX11_many_11 0 rfl ?_
    refine go_aload_n (pc := 12) hF dX11_many_12 2 rfl ?_
    refine go_get (pc := 13) hF fl_X11_177 dX11_many_13 (by omega) zx rfl ?_
    refine go_icmp_ge (pc := 16) hF 169 dX11_many_16 (by decide) (by omega) (by omega) (fun bq16 => ?_) (fun bq16 => ?_)
    · exact absurd bq16 (by omega)
    · refine go_aload_n (pc := 19) hF dX11_many_19 2 rfl ?_
      refine go_get (pc := 20) hF fl_X11_19 dX11_many_20 (by omega) zx rfl ?_
      refine go_iload_n (pc := 23) hF dX11_many_23 0 rfl ?_
      refine go_iald (pc := 24) hF dX11_many_24 (by omega) zs (by omega)  ?_
      rw [hc₉]
      refine go_istore_n (pc := 25) hF [(3, vi 46), (2, vi oo), (1, vi dl), (0, vr E 94)] dX11_many_25 rfl (by decide) ?_
      refine go_iload_n (pc := 26) hF dX11_many_26 0 rfl ?_
      refine go_bipush (pc := 27) hF dX11_many_27 (by decide) ?_
      refine go_icmp_eq (pc := 29) hF 39 dX11_many_29 (by decide) ⟨by decide, by decide⟩ ⟨by decide, by decide⟩ (fun bq29 => ?_) (fun bq29 => ?_)
      · exact absurd bq29 (by decide)
      · refine go_iload_n (pc := 32) hF dX11_many_32 0 rfl ?_
        refine go_callSP (pc := 33) hF [vi 46] [] ms_X11_171 dX11_many_33 (show CP E M_X11_isFigure 2 [vi 46] N ρ 0 from (by have h := c_X11_isFigure E N ρ 46 (by omega); rw [bI_f (by omega)] at h; exact h)) rfl rfl (Nat.le_of_ble_eq_true rfl) (by decide) ⟨Nat.zero_le _, Nat.zero_le _⟩ ?_
        refine go_if_eq (pc := 36) hF 52 dX11_many_36 (by decide) ⟨by decide, by decide⟩ (fun bq36 => ?_) (fun bq36 => ?_)
        · refine go_iload_n (pc := 52) hF dX11_many_52 0 rfl ?_
          refine go_bipush (pc := 53) hF dX11_many_53 (by decide) ?_
          refine go_icmp_ne (pc := 55) hF 80 dX11_many_55 (by decide) ⟨by decide, by decide⟩ ⟨by decide, by decide⟩ (fun bq55 => ?_) (fun bq55 => ?_)
          · refine go_iload_n (pc := 80) hF dX11_many_80 0 rfl ?_
            refine go_bipush (pc := 81) hF dX11_many_81 (by decide) ?_
            refine go_icmp_eq (pc := 83) hF 92 dX11_many_83 (by decide) ⟨by decide, by decide⟩ ⟨by decide, by decide⟩ (fun bq83 => ?_) (fun bq83 => ?_)
            · exact absurd bq83 (by decide)
            · refine go_iload_n (pc := 86) hF dX11_many_86 0 rfl ?_
              refine go_bipush (pc := 87) hF dX11_many_87 (by decide) ?_
              refine go_icmp_ne (pc := 89) hF 163 dX11_many_89 (by decide) ⟨by decide, by decide⟩ ⟨by decide, by decide⟩ (fun bq89 => ?_) (fun bq89 => ?_)
              · refine go_iinc (pc := 163) hF [(2, vi (oo + 1)), (3, vi 46), (1, vi dl), (0, vr E 94)] dX11_many_163 1 rfl rfl (by decide) ?_
                refine go_goto (pc := 166) hF 11 dX11_many_166 (by decide) ?_
                refine go_lv [(2, vi (oo + 1)), (1, vi dl), (0, vr E 94)] [0, 2, 3] rfl ?_
                exact hK₉
              · exact absurd bq89 (by decide)
          · exact absurd bq55 (by decide)
        · exact absurd bq36 (by decide)
  have s_look : ∀ (oo dl : Int) (sm₉ sf : Int → Int) (ρ : Nat → va_E), yW E s1₉ ρ sm₉ sf → 0 ≤ oo ∧ oo < (tLen t₉ : Int) → 0 ≤ dl ∧ dl ≤ 3 → 97 ≤ sn oo ∧ sn oo ≤ 102 → (Go E p e R s m args below meth c Q 6 (0, 0) N ρ [(2, vi (oo + 1)), (1, vi dl), (0, vr E 94)] [] 11) → Go E p e R s m args below meth c Q 6 (0, 0) N ρ [(2, vi oo), (1, vi dl), (0, vr E 94)] [] 11 := by
    intro oo dl sm₉ sf ρ hW ho hd₉ hc₉ hK₉
    obtain ⟨w1₉, w2₉, fr₉⟩ := hW
    have zx := (fr₉ 94 (by omega)).trans x_s1
    have zs := (fr₉ 98 (by omega)).trans sn_s1
    have ze := (fr₉ 99 (by omega)).trans eo_s1
    refine go_iload_n (pc := 11) hF dX11_many_11 0 rfl ?_
    refine go_aload_n (pc := 12) hF dX11_many_12 2 rfl ?_
    refine go_get (pc := 13) hF fl_X11_177 dX11_many_13 (by omega) zx rfl ?_
    refine go_icmp_ge (pc := 16) hF 169 dX11_many_16 (by decide) (by omega) (by omega) (fun bq16 => ?_) (fun bq16 => ?_)
    · exact absurd bq16 (by omega)
    · refine go_aload_n (pc := 19) hF dX11_many_19 2 rfl ?_
      refine go_get (pc := 20) hF fl_X11_19 dX11_many_20 (by omega) zx rfl ?_
      refine go_iload_n (pc := 23) hF dX11_many_23 0 rfl ?_
      refine go_iald (pc := 24) hF dX11_many_24 (by omega) zs (by omega)  ?_
      refine go_istore_n (pc := 25) hF [(3, vi (sn oo)), (2, vi oo), (1, vi dl), (0, vr E 94)] dX11_many_25 rfl (by decide) ?_
      refine go_iload_n (pc := 26) hF dX11_many_26 0 rfl ?_
      refine go_bipush (pc := 27) hF dX11_many_27 (by decide) ?_
      refine go_icmp_eq (pc := 29) hF 39 dX11_many_29 (by decide) (by omega) ⟨by decide, by decide⟩ (fun bq29 => ?_) (fun bq29 => ?_)
      · exact absurd bq29 (by omega)
      · refine go_iload_n (pc := 32) hF dX11_many_32 0 rfl ?_
        refine go_callSP (pc := 33) hF [vi (sn oo)] [] ms_X11_171 dX11_many_33 (show CP E M_X11_isFigure 2 [vi (sn oo)] N ρ 0 from (by have h := c_X11_isFigure E N ρ (sn oo) (by omega); rw [bI_f (by omega)] at h; exact h)) rfl rfl (Nat.le_of_ble_eq_true rfl) (by decide) ⟨Nat.zero_le _, Nat.zero_le _⟩ ?_
        refine go_if_eq (pc := 36) hF 52 dX11_many_36 (by decide) ⟨by decide, by decide⟩ (fun bq36 => ?_) (fun bq36 => ?_)
        · refine go_iload_n (pc := 52) hF dX11_many_52 0 rfl ?_
          refine go_bipush (pc := 53) hF dX11_many_53 (by decide) ?_
          refine go_icmp_ne (pc := 55) hF 80 dX11_many_55 (by decide) (by omega) ⟨by decide, by decide⟩ (fun bq55 => ?_) (fun bq55 => ?_)
          · refine go_iload_n (pc := 80) hF dX11_many_80 0 rfl ?_
            refine go_bipush (pc := 81) hF dX11_many_81 (by decide) ?_
            refine go_icmp_eq (pc := 83) hF 92 dX11_many_83 (by decide) (by omega) ⟨by decide, by decide⟩ (fun bq83 => ?_) (fun bq83 => ?_)
            · exact absurd bq83 (by omega)
            · refine go_iload_n (pc := 86) hF dX11_many_86 0 rfl ?_
              refine go_bipush (pc := 87) hF dX11_many_87 (by decide) ?_
              refine go_icmp_ne (pc := 89) hF 163 dX11_many_89 (by decide) (by omega) ⟨by decide, by decide⟩ (fun bq89 => ?_) (fun bq89 => ?_)
              · refine go_iinc (pc := 163) hF [(2, vi (oo + 1)), (3, vi (sn oo)), (1, vi dl), (0, vr E 94)] dX11_many_163 1 rfl rfl (by decide) ?_
                refine go_goto (pc := 166) hF 11 dX11_many_166 (by decide) ?_
                refine go_lv [(2, vi (oo + 1)), (1, vi dl), (0, vr E 94)] [0, 2, 3] rfl ?_
                exact hK₉
              · exact absurd bq89 (by omega)
          · exact absurd bq55 (by omega)
        · exact absurd bq36 (by decide)
  have s_opA : ∀ (oo dl : Int) (sm₉ sf : Int → Int) (ρ : Nat → va_E), yW E s1₉ ρ sm₉ sf → 0 ≤ oo ∧ oo < (tLen t₉ : Int) → 0 ≤ dl ∧ dl ≤ 2 → sn oo = 40 → (∀ ρ', yW E s1₉ ρ' (up sm₉ (dl + 1) 1) sf → Go E p e R s m args below meth c Q 6 (0, 0) N ρ' [(2, vi (oo + 1)), (1, vi (dl + 1)), (0, vr E 94)] [] 11) → Go E p e R s m args below meth c Q 6 (0, 0) N ρ [(2, vi oo), (1, vi dl), (0, vr E 94)] [] 11 := by
    intro oo dl sm₉ sf ρ hW ho hd₉ hc₉ hK₉
    obtain ⟨w1₉, w2₉, fr₉⟩ := hW
    have zx := (fr₉ 94 (by omega)).trans x_s1
    have zs := (fr₉ 98 (by omega)).trans sn_s1
    have ze := (fr₉ 99 (by omega)).trans eo_s1
    refine go_iload_n (pc := 11) hF dX11_many_11 0 rfl ?_
    refine go_aload_n (pc := 12) hF dX11_many_12 2 rfl ?_
    refine go_get (pc := 13) hF fl_X11_177 dX11_many_13 (by omega) zx rfl ?_
    refine go_icmp_ge (pc := 16) hF 169 dX11_many_16 (by decide) (by omega) (by omega) (fun bq16 => ?_) (fun bq16 => ?_)
    · exact absurd bq16 (by omega)
    · refine go_aload_n (pc := 19) hF dX11_many_19 2 rfl ?_
      refine go_get (pc := 20) hF fl_X11_19 dX11_many_20 (by omega) zx rfl ?_
      refine go_iload_n (pc := 23) hF dX11_many_23 0 rfl ?_
      refine go_iald (pc := 24) hF dX11_many_24 (by omega) zs (by omega)  ?_
      rw [hc₉]
      refine go_istore_n (pc := 25) hF [(3, vi 40), (2, vi oo), (1, vi dl), (0, vr E 94)] dX11_many_25 rfl (by decide) ?_
      refine go_iload_n (pc := 26) hF dX11_many_26 0 rfl ?_
      refine go_bipush (pc := 27) hF dX11_many_27 (by decide) ?_
      refine go_icmp_eq (pc := 29) hF 39 dX11_many_29 (by decide) ⟨by decide, by decide⟩ ⟨by decide, by decide⟩ (fun bq29 => ?_) (fun bq29 => ?_)
      · refine go_iinc (pc := 39) hF [(1, vi (dl + 1)), (3, vi 40), (2, vi oo), (0, vr E 94)] dX11_many_39 2 rfl rfl (by decide) ?_
        refine go_aload_n (pc := 42) hF dX11_many_42 3 rfl ?_
        refine go_get (pc := 43) hF fl_X11_77 dX11_many_43 (by omega) zx rfl ?_
        refine go_iload_n (pc := 46) hF dX11_many_46 0 rfl ?_
        refine go_lconst (pc := 47) (v := 1) hF dX11_many_47 (by decide) ?_
        refine go_last (pc := 48) hF dX11_many_48 (by omega) w1₉ (by omega) (fun s2₉ u_s2 f_s2 => ?_)
        have x_s2 := (f_s2 94 (by omega)).trans zx
        have sn_s2 := (f_s2 98 (by omega)).trans zs
        have eo_s2 := (f_s2 99 (by omega)).trans ze
        have countsFirst_s2 := (f_s2 118 (by omega)).trans w2₉
        refine go_goto (pc := 49) hF 163 dX11_many_49 (by decide) ?_
        refine go_iinc (pc := 163) hF [(2, vi (oo + 1)), (1, vi (dl + 1)), (3, vi 40), (0, vr E 94)] dX11_many_163 2 rfl rfl (by decide) ?_
        refine go_goto (pc := 166) hF 11 dX11_many_166 (by decide) ?_
        refine go_lv [(2, vi (oo + 1)), (1, vi (dl + 1)), (0, vr E 94)] [0, 1, 3] rfl ?_
        exact hK₉ _ ⟨u_s2, countsFirst_s2, (fun jj hjj => by rw [f_s2 jj (by omega), fr₉ jj (by omega)])⟩
      · exact absurd bq29 (by decide)
  have s_opB : ∀ (oo dl : Int) (sm₉ sf : Int → Int) (ρ : Nat → va_E), yW E s1₉ ρ sm₉ sf → 0 ≤ oo ∧ oo < (tLen t₉ : Int) → 0 ≤ dl ∧ dl ≤ 2 → 49 ≤ sn oo ∧ sn oo ≤ 57 → (∀ ρ', yW E s1₉ ρ' (up sm₉ (dl + 1) 1) sf → Go E p e R s m args below meth c Q 6 (0, 0) N ρ' [(2, vi (oo + 1)), (1, vi (dl + 1)), (0, vr E 94)] [] 11) → Go E p e R s m args below meth c Q 6 (0, 0) N ρ [(2, vi oo), (1, vi dl), (0, vr E 94)] [] 11 := by
    intro oo dl sm₉ sf ρ hW ho hd₉ hc₉ hK₉
    obtain ⟨w1₉, w2₉, fr₉⟩ := hW
    have zx := (fr₉ 94 (by omega)).trans x_s1
    have zs := (fr₉ 98 (by omega)).trans sn_s1
    have ze := (fr₉ 99 (by omega)).trans eo_s1
    refine go_iload_n (pc := 11) hF dX11_many_11 0 rfl ?_
    refine go_aload_n (pc := 12) hF dX11_many_12 2 rfl ?_
    refine go_get (pc := 13) hF fl_X11_177 dX11_many_13 (by omega) zx rfl ?_
    refine go_icmp_ge (pc := 16) hF 169 dX11_many_16 (by decide) (by omega) (by omega) (fun bq16 => ?_) (fun bq16 => ?_)
    · exact absurd bq16 (by omega)
    · refine go_aload_n (pc := 19) hF dX11_many_19 2 rfl ?_
      refine go_get (pc := 20) hF fl_X11_19 dX11_many_20 (by omega) zx rfl ?_
      refine go_iload_n (pc := 23) hF dX11_many_23 0 rfl ?_
      refine go_iald (pc := 24) hF dX11_many_24 (by omega) zs (by omega)  ?_
      refine go_istore_n (pc := 25) hF [(3, vi (sn oo)), (2, vi oo), (1, vi dl), (0, vr E 94)] dX11_many_25 rfl (by decide) ?_
      refine go_iload_n (pc := 26) hF dX11_many_26 0 rfl ?_
      refine go_bipush (pc := 27) hF dX11_many_27 (by decide) ?_
      refine go_icmp_eq (pc := 29) hF 39 dX11_many_29 (by decide) (by omega) ⟨by decide, by decide⟩ (fun bq29 => ?_) (fun bq29 => ?_)
      · exact absurd bq29 (by omega)
      · refine go_iload_n (pc := 32) hF dX11_many_32 0 rfl ?_
        refine go_callSP (pc := 33) hF [vi (sn oo)] [] ms_X11_171 dX11_many_33 (show CP E M_X11_isFigure 2 [vi (sn oo)] N ρ 1 from (by have h := c_X11_isFigure E N ρ (sn oo) (by omega); rw [bI_t (by omega)] at h; exact h)) rfl rfl (Nat.le_of_ble_eq_true rfl) (by decide) ⟨Nat.zero_le _, Nat.zero_le _⟩ ?_
        refine go_if_eq (pc := 36) hF 52 dX11_many_36 (by decide) ⟨by decide, by decide⟩ (fun bq36 => ?_) (fun bq36 => ?_)
        · exact absurd bq36 (by decide)
        · refine go_iinc (pc := 39) hF [(1, vi (dl + 1)), (3, vi (sn oo)), (2, vi oo), (0, vr E 94)] dX11_many_39 2 rfl rfl (by decide) ?_
          refine go_aload_n (pc := 42) hF dX11_many_42 3 rfl ?_
          refine go_get (pc := 43) hF fl_X11_77 dX11_many_43 (by omega) zx rfl ?_
          refine go_iload_n (pc := 46) hF dX11_many_46 0 rfl ?_
          refine go_lconst (pc := 47) (v := 1) hF dX11_many_47 (by decide) ?_
          refine go_last (pc := 48) hF dX11_many_48 (by omega) w1₉ (by omega) (fun s3₉ u_s3 f_s3 => ?_)
          have x_s3 := (f_s3 94 (by omega)).trans zx
          have sn_s3 := (f_s3 98 (by omega)).trans zs
          have eo_s3 := (f_s3 99 (by omega)).trans ze
          have countsFirst_s3 := (f_s3 118 (by omega)).trans w2₉
          refine go_goto (pc := 49) hF 163 dX11_many_49 (by decide) ?_
          refine go_iinc (pc := 163) hF [(2, vi (oo + 1)), (1, vi (dl + 1)), (3, vi (sn oo)), (0, vr E 94)] dX11_many_163 2 rfl rfl (by decide) ?_
          refine go_goto (pc := 166) hF 11 dX11_many_166 (by decide) ?_
          refine go_lv [(2, vi (oo + 1)), (1, vi (dl + 1)), (0, vr E 94)] [0, 1, 3] rfl ?_
          exact hK₉ _ ⟨u_s3, countsFirst_s3, (fun jj hjj => by rw [f_s3 jj (by omega), fr₉ jj (by omega)])⟩
  have s_bar : ∀ (oo dl : Int) (sm₉ sf : Int → Int) (ρ : Nat → va_E), yW E s1₉ ρ sm₉ sf → 0 ≤ oo ∧ oo < (tLen t₉ : Int) → 0 ≤ dl ∧ dl ≤ 2 → sn oo = 124 → (∀ ρ', yW E s1₉ ρ' (up sm₉ (dl + 1) 1) (up sf (dl + 1) (sm₉ (dl + 1))) → Go E p e R s m args below meth c Q 6 (0, 0) N ρ' [(2, vi (oo + 1)), (1, vi (dl + 1)), (0, vr E 94)] [] 11) → Go E p e R s m args below meth c Q 6 (0, 0) N ρ [(2, vi oo), (1, vi (dl + 1)), (0, vr E 94)] [] 11 := by
    intro oo dl sm₉ sf ρ hW ho hd₉ hc₉ hK₉
    obtain ⟨w1₉, w2₉, fr₉⟩ := hW
    have zx := (fr₉ 94 (by omega)).trans x_s1
    have zs := (fr₉ 98 (by omega)).trans sn_s1
    have ze := (fr₉ 99 (by omega)).trans eo_s1
    refine go_iload_n (pc := 11) hF dX11_many_11 0 rfl ?_
    refine go_aload_n (pc := 12) hF dX11_many_12 2 rfl ?_
    refine go_get (pc := 13) hF fl_X11_177 dX11_many_13 (by omega) zx rfl ?_
    refine go_icmp_ge (pc := 16) hF 169 dX11_many_16 (by decide) (by omega) (by omega) (fun bq16 => ?_) (fun bq16 => ?_)
    · exact absurd bq16 (by omega)
    · refine go_aload_n (pc := 19) hF dX11_many_19 2 rfl ?_
      refine go_get (pc := 20) hF fl_X11_19 dX11_many_20 (by omega) zx rfl ?_
      refine go_iload_n (pc := 23) hF dX11_many_23 0 rfl ?_
      refine go_iald (pc := 24) hF dX11_many_24 (by omega) zs (by omega)  ?_
      rw [hc₉]
      refine go_istore_n (pc := 25) hF [(3, vi 124), (2, vi oo), (1, vi (dl + 1)), (0, vr E 94)] dX11_many_25 rfl (by decide) ?_
      refine go_iload_n (pc := 26) hF dX11_many_26 0 rfl ?_
      refine go_bipush (pc := 27) hF dX11_many_27 (by decide) ?_
      refine go_icmp_eq (pc := 29) hF 39 dX11_many_29 (by decide) ⟨by decide, by decide⟩ ⟨by decide, by decide⟩ (fun bq29 => ?_) (fun bq29 => ?_)
      · exact absurd bq29 (by decide)
      · refine go_iload_n (pc := 32) hF dX11_many_32 0 rfl ?_
        refine go_callSP (pc := 33) hF [vi 124] [] ms_X11_171 dX11_many_33 (show CP E M_X11_isFigure 2 [vi 124] N ρ 0 from (by have h := c_X11_isFigure E N ρ 124 (by omega); rw [bI_f (by omega)] at h; exact h)) rfl rfl (Nat.le_of_ble_eq_true rfl) (by decide) ⟨Nat.zero_le _, Nat.zero_le _⟩ ?_
        refine go_if_eq (pc := 36) hF 52 dX11_many_36 (by decide) ⟨by decide, by decide⟩ (fun bq36 => ?_) (fun bq36 => ?_)
        · refine go_iload_n (pc := 52) hF dX11_many_52 0 rfl ?_
          refine go_bipush (pc := 53) hF dX11_many_53 (by decide) ?_
          refine go_icmp_ne (pc := 55) hF 80 dX11_many_55 (by decide) ⟨by decide, by decide⟩ ⟨by decide, by decide⟩ (fun bq55 => ?_) (fun bq55 => ?_)
          · exact absurd bq55 (by decide)
          · refine go_aload_n (pc := 58) hF dX11_many_58 3 rfl ?_
            refine go_get (pc := 59) hF fl_X11_81 dX11_many_59 (by omega) zx rfl ?_
            refine go_iload_n (pc := 62) hF dX11_many_62 2 rfl ?_
            refine go_aload_n (pc := 63) hF dX11_many_63 3 rfl ?_
            refine go_get (pc := 64) hF fl_X11_77 dX11_many_64 (by omega) zx rfl ?_
            refine go_iload_n (pc := 67) hF dX11_many_67 2 rfl ?_
            refine go_lald (pc := 68) hF dX11_many_68 (by omega) w1₉ (by omega)  ?_
            refine go_last (pc := 69) hF dX11_many_69 (by omega) w2₉ (by omega) (fun s4₉ u_s4 f_s4 => ?_)
            have x_s4 := (f_s4 94 (by omega)).trans zx
            have sn_s4 := (f_s4 98 (by omega)).trans zs
            have eo_s4 := (f_s4 99 (by omega)).trans ze
            have counts_s4 := (f_s4 117 (by omega)).trans w1₉
            refine go_aload_n (pc := 70) hF dX11_many_70 3 rfl ?_
            refine go_get (pc := 71) hF fl_X11_77 dX11_many_71 (by omega) x_s4 rfl ?_
            refine go_iload_n (pc := 74) hF dX11_many_74 2 rfl ?_
            refine go_lconst (pc := 75) (v := 1) hF dX11_many_75 (by decide) ?_
            refine go_last (pc := 76) hF dX11_many_76 (by omega) counts_s4 (by omega) (fun s5 u_s5 f_s5 => ?_)
            have x_s5 := (f_s5 94 (by omega)).trans x_s4
            have sn_s5 := (f_s5 98 (by omega)).trans sn_s4
            have eo_s5 := (f_s5 99 (by omega)).trans eo_s4
            have countsFirst_s5 := (f_s5 118 (by omega)).trans u_s4
            refine go_goto (pc := 77) hF 163 dX11_many_77 (by decide) ?_
            refine go_iinc (pc := 163) hF [(2, vi (oo + 1)), (3, vi 124), (1, vi (dl + 1)), (0, vr E 94)] dX11_many_163 1 rfl rfl (by decide) ?_
            refine go_goto (pc := 166) hF 11 dX11_many_166 (by decide) ?_
            refine go_lv [(2, vi (oo + 1)), (1, vi (dl + 1)), (0, vr E 94)] [0, 2, 3] rfl ?_
            exact hK₉ _ ⟨u_s5, countsFirst_s5, (fun jj hjj => by rw [f_s5 jj (by omega), f_s4 jj (by omega), fr₉ jj (by omega)])⟩
        · exact absurd bq36 (by decide)
  have s_close : ∀ (oo dl : Int) (sm₉ sf : Int → Int) (ρ : Nat → va_E), yW E s1₉ ρ sm₉ sf → 0 ≤ oo ∧ oo < (tLen t₉ : Int) → 0 ≤ dl ∧ dl ≤ 2 → sn oo = 41 → okM (sm₉ dl) → okM (sm₉ (dl + 1)) → okM (sf (dl + 1)) → (∀ ρ', yW E s1₉ ρ' (up sm₉ dl (min (sm₉ dl * min (sf (dl + 1) + sm₉ (dl + 1)) 1000000000) 1000000000)) sf → Go E p e R s m args below meth c Q 6 (0, 0) N ρ' [(2, vi (oo + 1)), (1, vi dl), (0, vr E 94)] [] 11) → Go E p e R s m args below meth c Q 6 (0, 0) N ρ [(2, vi oo), (1, vi (dl + 1)), (0, vr E 94)] [] 11 := by
    intro oo dl sm₉ sf ρ hW ho hd₉ hc₉ hr0 hr1 hr2 hK₉
    obtain ⟨w1₉, w2₉, fr₉⟩ := hW
    have zx := (fr₉ 94 (by omega)).trans x_s1
    have zs := (fr₉ 98 (by omega)).trans sn_s1
    have ze := (fr₉ 99 (by omega)).trans eo_s1
    have g0 : 1 ≤ sm₉ dl ∧ sm₉ dl ≤ 1000000000 := hr0
    have g1 : 1 ≤ sm₉ (dl + 1) ∧ sm₉ (dl + 1) ≤ 1000000000 := hr1
    have g2 : 1 ≤ sf (dl + 1) ∧ sf (dl + 1) ≤ 1000000000 := hr2
    refine go_iload_n (pc := 11) hF dX11_many_11 0 rfl ?_
    refine go_aload_n (pc := 12) hF dX11_many_12 2 rfl ?_
    refine go_get (pc := 13) hF fl_X11_177 dX11_many_13 (by omega) zx rfl ?_
    refine go_icmp_ge (pc := 16) hF 169 dX11_many_16 (by decide) (by omega) (by omega) (fun bq16 => ?_) (fun bq16 => ?_)
    · exact absurd bq16 (by omega)
    · refine go_aload_n (pc := 19) hF dX11_many_19 2 rfl ?_
      refine go_get (pc := 20) hF fl_X11_19 dX11_many_20 (by omega) zx rfl ?_
      refine go_iload_n (pc := 23) hF dX11_many_23 0 rfl ?_
      refine go_iald (pc := 24) hF dX11_many_24 (by omega) zs (by omega)  ?_
      rw [hc₉]
      refine go_istore_n (pc := 25) hF [(3, vi 41), (2, vi oo), (1, vi (dl + 1)), (0, vr E 94)] dX11_many_25 rfl (by decide) ?_
      refine go_iload_n (pc := 26) hF dX11_many_26 0 rfl ?_
      refine go_bipush (pc := 27) hF dX11_many_27 (by decide) ?_
      refine go_icmp_eq (pc := 29) hF 39 dX11_many_29 (by decide) ⟨by decide, by decide⟩ ⟨by decide, by decide⟩ (fun bq29 => ?_) (fun bq29 => ?_)
      · exact absurd bq29 (by decide)
      · refine go_iload_n (pc := 32) hF dX11_many_32 0 rfl ?_
        refine go_callSP (pc := 33) hF [vi 41] [] ms_X11_171 dX11_many_33 (show CP E M_X11_isFigure 2 [vi 41] N ρ 0 from (by have h := c_X11_isFigure E N ρ 41 (by omega); rw [bI_f (by omega)] at h; exact h)) rfl rfl (Nat.le_of_ble_eq_true rfl) (by decide) ⟨Nat.zero_le _, Nat.zero_le _⟩ ?_
        refine go_if_eq (pc := 36) hF 52 dX11_many_36 (by decide) ⟨by decide, by decide⟩ (fun bq36 => ?_) (fun bq36 => ?_)
        · refine go_iload_n (pc := 52) hF dX11_many_52 0 rfl ?_
          refine go_bipush (pc := 53) hF dX11_many_53 (by decide) ?_
          refine go_icmp_ne (pc := 55) hF 80 dX11_many_55 (by decide) ⟨by decide, by decide⟩ ⟨by decide, by decide⟩ (fun bq55 => ?_) (fun bq55 => ?_)
          · refine go_iload_n (pc := 80) hF dX11_many_80 0 rfl ?_
            refine go_bipush (pc := 81) hF dX11_many_81 (by decide) ?_
            refine go_icmp_eq (pc := 83) hF 92 dX11_many_83 (by decide) ⟨by decide, by decide⟩ ⟨by decide, by decide⟩ (fun bq83 => ?_) (fun bq83 => ?_)
            · refine go_iload_n (pc := 92) hF dX11_many_92 0 rfl ?_
              refine go_bipush (pc := 93) hF dX11_many_93 (by decide) ?_
              refine go_icmp_ne (pc := 95) hF 114 dX11_many_95 (by decide) ⟨by decide, by decide⟩ ⟨by decide, by decide⟩ (fun bq95 => ?_) (fun bq95 => ?_)
              · exact absurd bq95 (by decide)
              · refine go_aload_n (pc := 98) hF dX11_many_98 3 rfl ?_
                refine go_get (pc := 99) hF fl_X11_81 dX11_many_99 (by omega) zx rfl ?_
                refine go_iload_n (pc := 102) hF dX11_many_102 2 rfl ?_
                refine go_lald (pc := 103) hF dX11_many_103 (by omega) w2₉ (by omega)  ?_
                refine go_aload_n (pc := 104) hF dX11_many_104 3 rfl ?_
                refine go_get (pc := 105) hF fl_X11_77 dX11_many_105 (by omega) zx rfl ?_
                refine go_iload_n (pc := 108) hF dX11_many_108 2 rfl ?_
                refine go_lald (pc := 109) hF dX11_many_109 (by omega) w1₉ (by omega)  ?_
                refine go_ladd (pc := 110) hF dX11_many_110 ?_
                refine go_goto (pc := 111) hF 137 dX11_many_111 (by decide) ?_
                refine go_lstore (pc := 137) hF [(4, vl ((sf (dl + 1)) + (sm₉ (dl + 1)))), (3, vi 41), (2, vi oo), (1, vi (dl + 1)), (0, vr E 94)] dX11_many_137 rfl (by decide) ?_
                refine go_iinc (pc := 139) hF [(1, vi ((dl + 1) + (-1))), (4, vl ((sf (dl + 1)) + (sm₉ (dl + 1)))), (3, vi 41), (2, vi oo), (0, vr E 94)] dX11_many_139 3 rfl rfl (by decide) ?_
                refine go_lvE [(1, vi dl), (4, vl ((sf (dl + 1)) + (sm₉ (dl + 1)))), (3, vi 41), (2, vi oo), (0, vr E 94)] (by rw [show (dl + 1) + (-1) = dl by omega]) ?_
                refine go_aload_n (pc := 142) hF dX11_many_142 4 rfl ?_
                refine go_get (pc := 143) hF fl_X11_77 dX11_many_143 (by omega) zx rfl ?_
                refine go_iload_n (pc := 146) hF dX11_many_146 0 rfl ?_
                refine go_aload_n (pc := 147) hF dX11_many_147 4 rfl ?_
                refine go_get (pc := 148) hF fl_X11_77 dX11_many_148 (by omega) zx rfl ?_
                refine go_iload_n (pc := 151) hF dX11_many_151 0 rfl ?_
                refine go_lald (pc := 152) hF dX11_many_152 (by omega) w1₉ (by omega)  ?_
                refine go_lload (pc := 153) hF dX11_many_153 1 rfl ?_
                refine go_callSPL (pc := 155) hF [vl ((sf (dl + 1)) + (sm₉ (dl + 1)))] [vl (sm₉ dl), vi dl, vr E 117] ms_X11_264 dX11_many_155 (c_X11_capped E N ρ ((sf (dl + 1)) + (sm₉ (dl + 1))) (by omega)) rfl rfl (Nat.le_of_ble_eq_true rfl) (by decide) ⟨Nat.zero_le _, Nat.zero_le _⟩ ?_
                have hmm := mul_M (a₉ := sm₉ dl) (b₉ := min (sf (dl + 1) + sm₉ (dl + 1)) 1000000000) (by omega) (by omega)
                refine go_lmul (pc := 158) hF dX11_many_158 ?_
                refine go_callSPL (pc := 159) hF [vl ((sm₉ dl) * (min ((sf (dl + 1)) + (sm₉ (dl + 1))) 1000000000))] [vi dl, vr E 117] ms_X11_264 dX11_many_159 (c_X11_capped E N ρ ((sm₉ dl) * (min ((sf (dl + 1)) + (sm₉ (dl + 1))) 1000000000)) (by omega)) rfl rfl (Nat.le_of_ble_eq_true rfl) (by decide) ⟨Nat.zero_le _, Nat.zero_le _⟩ ?_
                refine go_last (pc := 162) hF dX11_many_162 (by omega) w1₉ (by omega) (fun s6₉ u_s6 f_s6 => ?_)
                have x_s6 := (f_s6 94 (by omega)).trans zx
                have sn_s6 := (f_s6 98 (by omega)).trans zs
                have eo_s6 := (f_s6 99 (by omega)).trans ze
                have countsFirst_s6 := (f_s6 118 (by omega)).trans w2₉
                refine go_iinc (pc := 163) hF [(2, vi (oo + 1)), (1, vi dl), (4, vl ((sf (dl + 1)) + (sm₉ (dl + 1)))), (3, vi 41), (0, vr E 94)] dX11_many_163 3 rfl rfl (by decide) ?_
                refine go_goto (pc := 166) hF 11 dX11_many_166 (by decide) ?_
                refine go_lv [(2, vi (oo + 1)), (1, vi dl), (0, vr E 94)] [0, 1, 4] rfl ?_
                exact hK₉ _ ⟨u_s6, countsFirst_s6, (fun jj hjj => by rw [f_s6 jj (by omega), fr₉ jj (by omega)])⟩
            · exact absurd bq83 (by decide)
          · exact absurd bq55 (by decide)
        · exact absurd bq36 (by decide)
  have s_back : ∀ (oo dl o1 : Int) (n9 : Nat) (sm₉ sf : Int → Int) (ρ : Nat → va_E), yW E s1₉ ρ sm₉ sf → 0 ≤ oo ∧ oo < (tLen t₉ : Int) → 0 ≤ dl ∧ dl ≤ 2 → sn oo = 93 → eo oo = o1 → 0 ≤ o1 ∧ o1 < (tLen t₉ : Int) → sn o1 = 48 + (n9 : Int) → 1 ≤ n9 ∧ n9 ≤ 9 → okM (sm₉ dl) → okM (sm₉ (dl + 1)) → (∀ ρ', yW E s1₉ ρ' (up sm₉ dl (min (sm₉ dl * min (pws (sm₉ (dl + 1)) n9).1 1000000000) 1000000000)) sf → Go E p e R s m args below meth c Q 6 (0, 0) N ρ' [(2, vi (oo + 1)), (1, vi dl), (0, vr E 94)] [] 11) → Go E p e R s m args below meth c Q 6 (0, 0) N ρ [(2, vi oo), (1, vi (dl + 1)), (0, vr E 94)] [] 11 := by
    intro oo dl o1 n9 sm₉ sf ρ hW ho hd₉ hc₉ he ho1 hn9 hn hr0 hr1 hK₉
    obtain ⟨w1₉, w2₉, fr₉⟩ := hW
    have zx := (fr₉ 94 (by omega)).trans x_s1
    have zs := (fr₉ 98 (by omega)).trans sn_s1
    have ze := (fr₉ 99 (by omega)).trans eo_s1
    have g0 : 1 ≤ sm₉ dl ∧ sm₉ dl ≤ 1000000000 := hr0
    have g1 : 1 ≤ sm₉ (dl + 1) ∧ sm₉ (dl + 1) ≤ 1000000000 := hr1
    have gp := (pws_rg hr1 n9).1
    refine go_iload_n (pc := 11) hF dX11_many_11 0 rfl ?_
    refine go_aload_n (pc := 12) hF dX11_many_12 2 rfl ?_
    refine go_get (pc := 13) hF fl_X11_177 dX11_many_13 (by omega) zx rfl ?_
    refine go_icmp_ge (pc := 16) hF 169 dX11_many_16 (by decide) (by omega) (by omega) (fun bq16 => ?_) (fun bq16 => ?_)
    · exact absurd bq16 (by omega)
    · refine go_aload_n (pc := 19) hF dX11_many_19 2 rfl ?_
      refine go_get (pc := 20) hF fl_X11_19 dX11_many_20 (by omega) zx rfl ?_
      refine go_iload_n (pc := 23) hF dX11_many_23 0 rfl ?_
      refine go_iald (pc := 24) hF dX11_many_24 (by omega) zs (by omega)  ?_
      rw [hc₉]
      refine go_istore_n (pc := 25) hF [(3, vi 93), (2, vi oo), (1, vi (dl + 1)), (0, vr E 94)] dX11_many_25 rfl (by decide) ?_
      refine go_iload_n (pc := 26) hF dX11_many_26 0 rfl ?_
      refine go_bipush (pc := 27) hF dX11_many_27 (by decide) ?_
      refine go_icmp_eq (pc := 29) hF 39 dX11_many_29 (by decide) ⟨by decide, by decide⟩ ⟨by decide, by decide⟩ (fun bq29 => ?_) (fun bq29 => ?_)
      · exact absurd bq29 (by decide)
      · refine go_iload_n (pc := 32) hF dX11_many_32 0 rfl ?_
        refine go_callSP (pc := 33) hF [vi 93] [] ms_X11_171 dX11_many_33 (show CP E M_X11_isFigure 2 [vi 93] N ρ 0 from (by have h := c_X11_isFigure E N ρ 93 (by omega); rw [bI_f (by omega)] at h; exact h)) rfl rfl (Nat.le_of_ble_eq_true rfl) (by decide) ⟨Nat.zero_le _, Nat.zero_le _⟩ ?_
        refine go_if_eq (pc := 36) hF 52 dX11_many_36 (by decide) ⟨by decide, by decide⟩ (fun bq36 => ?_) (fun bq36 => ?_)
        · refine go_iload_n (pc := 52) hF dX11_many_52 0 rfl ?_
          refine go_bipush (pc := 53) hF dX11_many_53 (by decide) ?_
          refine go_icmp_ne (pc := 55) hF 80 dX11_many_55 (by decide) ⟨by decide, by decide⟩ ⟨by decide, by decide⟩ (fun bq55 => ?_) (fun bq55 => ?_)
          · refine go_iload_n (pc := 80) hF dX11_many_80 0 rfl ?_
            refine go_bipush (pc := 81) hF dX11_many_81 (by decide) ?_
            refine go_icmp_eq (pc := 83) hF 92 dX11_many_83 (by decide) ⟨by decide, by decide⟩ ⟨by decide, by decide⟩ (fun bq83 => ?_) (fun bq83 => ?_)
            · exact absurd bq83 (by decide)
            · refine go_iload_n (pc := 86) hF dX11_many_86 0 rfl ?_
              refine go_bipush (pc := 87) hF dX11_many_87 (by decide) ?_
              refine go_icmp_ne (pc := 89) hF 163 dX11_many_89 (by decide) ⟨by decide, by decide⟩ ⟨by decide, by decide⟩ (fun bq89 => ?_) (fun bq89 => ?_)
              · exact absurd bq89 (by decide)
              · refine go_iload_n (pc := 92) hF dX11_many_92 0 rfl ?_
                refine go_bipush (pc := 93) hF dX11_many_93 (by decide) ?_
                refine go_icmp_ne (pc := 95) hF 114 dX11_many_95 (by decide) ⟨by decide, by decide⟩ ⟨by decide, by decide⟩ (fun bq95 => ?_) (fun bq95 => ?_)
                · refine go_aload_n (pc := 114) hF dX11_many_114 3 rfl ?_
                  refine go_get (pc := 115) hF fl_X11_77 dX11_many_115 (by omega) zx rfl ?_
                  refine go_iload_n (pc := 118) hF dX11_many_118 2 rfl ?_
                  refine go_lald (pc := 119) hF dX11_many_119 (by omega) w1₉ (by omega)  ?_
                  refine go_aload_n (pc := 120) hF dX11_many_120 3 rfl ?_
                  refine go_get (pc := 121) hF fl_X11_19 dX11_many_121 (by omega) zx rfl ?_
                  refine go_aload_n (pc := 124) hF dX11_many_124 3 rfl ?_
                  refine go_get (pc := 125) hF fl_X11_22 dX11_many_125 (by omega) zx rfl ?_
                  refine go_iload_n (pc := 128) hF dX11_many_128 1 rfl ?_
                  refine go_iald (pc := 129) hF dX11_many_129 (by omega) ze (by omega)  ?_
                  rw [he]
                  refine go_iald (pc := 130) hF dX11_many_130 (by omega) zs (by omega)  ?_
                  rw [hn9]
                  refine go_bipush (pc := 131) hF dX11_many_131 (by decide) ?_
                  refine go_isub (pc := 133) hF dX11_many_133 ?_
                  rw [show 48 + (n9 : Int) - 48 = (n9 : Int) by omega]
                  refine go_callSPL (pc := 134) hF [vl (sm₉ (dl + 1)), vi (n9 : Int)] [] ms_X11_260 dX11_many_134 (show CPL E M_X11_powers 3 [vl (sm₉ (dl + 1)), vi (n9 : Int)] N ρ (pws (sm₉ (dl + 1)) n9).1 from (by have h := c_X11_powers E N ρ (sm₉ (dl + 1)) (n9 : Int) hr1 (by omega); rw [Int.toNat_natCast] at h; exact h)) rfl rfl (Nat.le_of_ble_eq_true rfl) (by decide) ⟨Nat.zero_le _, Nat.zero_le _⟩ ?_
                  refine go_lstore (pc := 137) hF [(4, vl ((pws (sm₉ (dl + 1)) n9).1)), (3, vi 93), (2, vi oo), (1, vi (dl + 1)), (0, vr E 94)] dX11_many_137 rfl (by decide) ?_
                  refine go_iinc (pc := 139) hF [(1, vi ((dl + 1) + (-1))), (4, vl ((pws (sm₉ (dl + 1)) n9).1)), (3, vi 93), (2, vi oo), (0, vr E 94)] dX11_many_139 3 rfl rfl (by decide) ?_
                  refine go_lvE [(1, vi dl), (4, vl ((pws (sm₉ (dl + 1)) n9).1)), (3, vi 93), (2, vi oo), (0, vr E 94)] (by rw [show (dl + 1) + (-1) = dl by omega]) ?_
                  refine go_aload_n (pc := 142) hF dX11_many_142 4 rfl ?_
                  refine go_get (pc := 143) hF fl_X11_77 dX11_many_143 (by omega) zx rfl ?_
                  refine go_iload_n (pc := 146) hF dX11_many_146 0 rfl ?_
                  refine go_aload_n (pc := 147) hF dX11_many_147 4 rfl ?_
                  refine go_get (pc := 148) hF fl_X11_77 dX11_many_148 (by omega) zx rfl ?_
                  refine go_iload_n (pc := 151) hF dX11_many_151 0 rfl ?_
                  refine go_lald (pc := 152) hF dX11_many_152 (by omega) w1₉ (by omega)  ?_
                  refine go_lload (pc := 153) hF dX11_many_153 1 rfl ?_
                  refine go_callSPL (pc := 155) hF [vl ((pws (sm₉ (dl + 1)) n9).1)] [vl (sm₉ dl), vi dl, vr E 117] ms_X11_264 dX11_many_155 (c_X11_capped E N ρ ((pws (sm₉ (dl + 1)) n9).1) (by omega)) rfl rfl (Nat.le_of_ble_eq_true rfl) (by decide) ⟨Nat.zero_le _, Nat.zero_le _⟩ ?_
                  have hmm := mul_M (a₉ := sm₉ dl) (b₉ := min ((pws (sm₉ (dl + 1)) n9).1) 1000000000) (by omega) (by omega)
                  refine go_lmul (pc := 158) hF dX11_many_158 ?_
                  refine go_callSPL (pc := 159) hF [vl ((sm₉ dl) * (min ((pws (sm₉ (dl + 1)) n9).1) 1000000000))] [vi dl, vr E 117] ms_X11_264 dX11_many_159 (c_X11_capped E N ρ ((sm₉ dl) * (min ((pws (sm₉ (dl + 1)) n9).1) 1000000000)) (by omega)) rfl rfl (Nat.le_of_ble_eq_true rfl) (by decide) ⟨Nat.zero_le _, Nat.zero_le _⟩ ?_
                  refine go_last (pc := 162) hF dX11_many_162 (by omega) w1₉ (by omega) (fun s7 u_s7 f_s7 => ?_)
                  have x_s7 := (f_s7 94 (by omega)).trans zx
                  have sn_s7 := (f_s7 98 (by omega)).trans zs
                  have eo_s7 := (f_s7 99 (by omega)).trans ze
                  have countsFirst_s7 := (f_s7 118 (by omega)).trans w2₉
                  refine go_iinc (pc := 163) hF [(2, vi (oo + 1)), (1, vi dl), (4, vl ((pws (sm₉ (dl + 1)) n9).1)), (3, vi 93), (0, vr E 94)] dX11_many_163 3 rfl rfl (by decide) ?_
                  refine go_goto (pc := 166) hF 11 dX11_many_166 (by decide) ?_
                  refine go_lv [(2, vi (oo + 1)), (1, vi dl), (0, vr E 94)] [0, 1, 4] rfl ?_
                  exact hK₉ _ ⟨u_s7, countsFirst_s7, (fun jj hjj => by rw [f_s7 jj (by omega), fr₉ jj (by omega)])⟩
                · exact absurd bq95 (by decide)
          · exact absurd bq55 (by decide)
        · exact absurd bq36 (by decide)
  have s_end : ∀ (sm₉ sf : Int → Int) (ρ : Nat → va_E), yW E s1₉ ρ sm₉ sf → sm₉ 0 = wyB t₉ 1 → Go E p e R s m args below meth c Q 6 (0, 0) N ρ [(2, vi (0 + (tLen t₉ : Int))), (1, vi 0), (0, vr E 94)] [] 11 := by
    intro sm₉ sf ρ hW hv9
    obtain ⟨w1₉, w2₉, fr₉⟩ := hW
    have zx := (fr₉ 94 (by omega)).trans x_s1
    have zs := (fr₉ 98 (by omega)).trans sn_s1
    have ze := (fr₉ 99 (by omega)).trans eo_s1
    refine go_iload_n (pc := 11) hF dX11_many_11 0 rfl ?_
    refine go_aload_n (pc := 12) hF dX11_many_12 2 rfl ?_
    refine go_get (pc := 13) hF fl_X11_177 dX11_many_13 (by omega) zx rfl ?_
    refine go_icmp_ge (pc := 16) hF 169 dX11_many_16 (by decide) (by omega) (by omega) (fun bq16 => ?_) (fun bq16 => ?_)
    · refine go_aload_n (pc := 169) hF dX11_many_169 2 rfl ?_
      refine go_get (pc := 170) hF fl_X11_77 dX11_many_170 (by omega) zx rfl ?_
      refine go_iconst (pc := 173) hF dX11_many_173 ?_
      refine go_lald (pc := 174) hF dX11_many_174 (by omega) w1₉ (by omega)  ?_
      refine go_l2i (pc := 175) hF dX11_many_175 ?_
      exact go_iretQ hF hr hlk hQ dX11_many_176 ⟨hv9, ⟨_, _, _, _, _, _, _, _, _, _, _, _, _, ((fr₉ 94 (by omega)).trans x_s1), ((fr₉ 95 (by omega)).trans nw_s1), ((fr₉ 96 (by omega)).trans pa_s1), ((fr₉ 97 (by omega)).trans rf_s1), ((fr₉ 98 (by omega)).trans sn_s1), ((fr₉ 99 (by omega)).trans eo_s1), ((fr₉ 100 (by omega)).trans bo_s1), ((fr₉ 101 (by omega)).trans tx_s1), ((fr₉ 119 (by omega)).trans rr_s1), ⟨⟨_, ((fr₉ 102 (by omega)).trans readSign_s1)⟩, ⟨_, ((fr₉ 103 (by omega)).trans open_s1)⟩, ⟨_, ((fr₉ 104 (by omega)).trans isBarred_s1)⟩, ⟨_, ((fr₉ 105 (by omega)).trans ages_s1)⟩, ⟨_, ((fr₉ 106 (by omega)).trans entered_s1)⟩, ⟨_, ((fr₉ 107 (by omega)).trans first_s1)⟩, ⟨_, ((fr₉ 108 (by omega)).trans mustAt_s1)⟩, ⟨_, ((fr₉ 109 (by omega)).trans mayAt_s1)⟩, ⟨_, ((fr₉ 110 (by omega)).trans sums_s1)⟩, ⟨_, ((fr₉ 111 (by omega)).trans sumsFirst_s1)⟩, ⟨_, ((fr₉ 112 (by omega)).trans took_s1)⟩, ⟨_, ((fr₉ 113 (by omega)).trans next_s1)⟩, ⟨_, ((fr₉ 114 (by omega)).trans inOf_s1)⟩, ⟨_, ((fr₉ 115 (by omega)).trans firstOf_s1)⟩, ⟨_, ((fr₉ 116 (by omega)).trans rounds_s1)⟩, ⟨_, w1₉⟩, ⟨_, w2₉⟩⟩, hnw, hpa, hrf, hrr, hMA⟩, (fun jj hjj => by rw [fr₉ jj (by omega), f_s1 jj (by omega)])⟩
    · exact absurd bq16 (by omega)
  refine go_lv [(2, vi 0), (1, vi 0), (0, vr E 94)] [0, 1, 2] rfl ?_
  exact wy_walk (bo := bo) (E := E) (fun ρ o d₉ => Go E p e R s m args below meth c Q 6 (0, 0) N ρ [(2, vi o), (1, vi d₉), (0, vr E 94)] [] 11) (fun oo dl sm₉ sf ρ hW ho hd₉ hc₉ hK₉ => hc₉.elim (fun hc₉ => s_dot oo dl sm₉ sf ρ hW ho hd₉ hc₉ hK₉) (fun hc₉ => s_look oo dl sm₉ sf ρ hW ho hd₉ hc₉ hK₉)) (fun oo dl sm₉ sf ρ hW ho hd₉ hc₉ hK₉ => hc₉.elim (fun hc₉ => s_opA oo dl sm₉ sf ρ hW ho hd₉ hc₉ hK₉) (fun hc₉ => s_opB oo dl sm₉ sf ρ hW ho hd₉ hc₉ hK₉)) s_bar s_close s_back t₉ hwf 0 0 (up g124 0 1) g125 s1₉ (by omega) (by omega) hMA (by rw [up_self]; exact ⟨by decide, by decide⟩) ⟨u_s1, countsFirst_s1, fun _ _ => rfl⟩ (fun sm₉ sf ρ hW e9₉ _ => s_end sm₉ sf ρ hW (by rw [e9₉, up_self]))
