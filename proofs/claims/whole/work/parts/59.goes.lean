/-! The reference₉: goes₉. -/
set_option maxHeartbeats 4000000 in
set_option maxRecDepth 100000 in
theorem c_X11_goes (E : En) (N : Nat) (σ : Nat → va_E) {un tl rz hi₉ mi ak rt cn : Int} {t₉ : Tr} {nw sn eo bo g119 g120 g121 g122 g123 : Int → Int} (hN₉ : 120 ≤ N) (z101 : σ 94 = mOb E un (tLen t₉ : Int) tl rz hi₉ mi ak rt cn) (z102 : σ 95 = ai E 7 nw) (z105 : σ 98 = ai E 80 sn) (z106 : σ 99 = ai E 80 eo) (z119 : σ 112 = ai E 686 g119) (z120 : σ 113 = ai E 686 g120) (z121 : σ 114 = ai E 2058 g121) (z122 : σ 115 = ai E 2058 g122) (z123 : σ 116 = ai E 3 g123) (hwf : wf t₉) (hMA : MA₉ sn eo bo t₉ 0) (hl80 : tLen t₉ ≤ 80) (hdp3 : tDep t₉ ≤ 3) (r₉ u₉ kd pr : Int) (n5₉ : nw 5 = kd) (n6₉ : nw 6 = pr) (hu : 1 ≤ u₉ ∧ u₉ ≤ 3) (hkd : 0 ≤ kd ∧ kd ≤ 3) (hpr : 2 ≤ pr ∧ pr ≤ 99) (hrw : vrow u₉ r₉) : CV E M_X11_goes 5 [vr E 94, vi r₉, vi u₉] N σ (fun σ' => ∃ tk inn fi ro, gW E σ σ' tk inn fi ro ∧ TK₉ tk (ex₉ u₉ kd pr t₉ (S0₉ r₉)) (cB₉ t₉ : Int)) := by
  refine CT.of2 (own := RX11) (by decide) rfl (Nat.le_of_ble_eq_true rfl) ?_
  intro p e R s m args below meth c Q hF hr hlk hnm hz hR hQ
  have hsg0 := MA_sg t₉ hwf 0 hMA
  have hsg : ∀ p : Int, 0 ≤ p → p < (tLen t₉ : Int) → 40 ≤ sn p ∧ sn p ≤ 124 := fun p a₉ b₉ => hsg0 p a₉ (by omega)
  refine go_iconst (pc := 0) hF dX11_goes_0 ?_
  refine go_istore_n (pc := 1) hF [(3, vi 0), (0, vr E 94), (1, vi r₉), (2, vi u₉)] dX11_goes_1 rfl (by decide) ?_
  refine go_aload_n (pc := 2) hF dX11_goes_2 1 rfl ?_
  refine go_callVV (pc := 3) hF [] [] mv_X11_233 dX11_goes_3 (by omega) z101 (c_X11_clears E N σ hN₉ z101 z120) rfl rfl (Nat.le_of_ble_eq_true rfl) (by decide) ⟨Nat.zero_le _, Nat.zero_le _⟩ (fun s1₉ h_s1 => ?_)
  obtain ⟨nx_s1, u_s1, hn_s1, f_s1⟩ := h_s1
  have x_s1 := (f_s1 94 (by omega)).trans z101
  have nw_s1 := (f_s1 95 (by omega)).trans z102
  have sn_s1 := (f_s1 98 (by omega)).trans z105
  have eo_s1 := (f_s1 99 (by omega)).trans z106
  have took_s1 := (f_s1 112 (by omega)).trans z119
  have inOf_s1 := (f_s1 114 (by omega)).trans z121
  have firstOf_s1 := (f_s1 115 (by omega)).trans z122
  have rounds_s1 := (f_s1 116 (by omega)).trans z123
  refine go_aload_n (pc := 6) hF dX11_goes_6 1 rfl ?_
  refine go_callVV (pc := 7) hF [] [] mv_X11_236 dX11_goes_7 (by omega) x_s1 (c_X11_nextIsNow E N s1₉ hN₉ x_s1 u_s1 took_s1) rfl rfl (Nat.le_of_ble_eq_true rfl) (by decide) ⟨Nat.zero_le _, Nat.zero_le _⟩ (fun s2₉ h_s2 => ?_)
  obtain ⟨tk_s2, u_s2, ht_s2, f_s2⟩ := h_s2
  have htn : ∀ z₉ : Int, 0 ≤ z₉ → z₉ < 686 → tk_s2 z₉ = -1 := fun z₉ z0 z1 => by rw [ht_s2 z₉ z0 z1]; exact hn_s1 z₉ z0 z1
  have x_s2 := (f_s2 94 (by omega)).trans x_s1
  have nw_s2 := (f_s2 95 (by omega)).trans nw_s1
  have sn_s2 := (f_s2 98 (by omega)).trans sn_s1
  have eo_s2 := (f_s2 99 (by omega)).trans eo_s1
  have next_s2 := (f_s2 113 (by omega)).trans u_s1
  have inOf_s2 := (f_s2 114 (by omega)).trans inOf_s1
  have firstOf_s2 := (f_s2 115 (by omega)).trans firstOf_s1
  have rounds_s2 := (f_s2 116 (by omega)).trans rounds_s1
  refine go_aload_n (pc := 10) hF dX11_goes_10 1 rfl ?_
  refine go_get (pc := 11) hF fl_X11_62 dX11_goes_11 (by omega) x_s2 rfl ?_
  refine go_iconst (pc := 14) hF dX11_goes_14 ?_
  refine go_iload_n (pc := 15) hF dX11_goes_15 2 rfl ?_
  refine go_iconst (pc := 16) hF dX11_goes_16 ?_
  refine go_iconst (pc := 17) hF dX11_goes_17 ?_
  refine go_callSV (pc := 18) hF [vr E 112, vi 0, vi r₉, vi 0, vi 0] [] ms_X11_229 dX11_goes_18 (c_X11_comes E N s2₉ 112 686 (by omega) (by decide) u_s2 0 r₉ 0 0 (by omega) hrw.1 (by rw [Int.zero_add, htn r₉ hrw.1.1 (by have := hrw.1; omega)]; exact ⟨by decide, by decide⟩) (fun h => by rw [Int.zero_add, htn r₉ hrw.1.1 (by have := hrw.1; omega)] at h; exact absurd h (by decide)) ⟨by decide, by decide⟩ ⟨by decide, by decide⟩) rfl rfl (Nat.le_of_ble_eq_true rfl) (by decide) ⟨Nat.zero_le _, Nat.zero_le _⟩ (fun s3₉ h_s3 => ?_)
  obtain ⟨u_s3, f_s3⟩ := h_s3
  have x_s3 := (f_s3 94 (by omega)).trans x_s2
  have nw_s3 := (f_s3 95 (by omega)).trans nw_s2
  have sn_s3 := (f_s3 98 (by omega)).trans sn_s2
  have eo_s3 := (f_s3 99 (by omega)).trans eo_s2
  have next_s3 := (f_s3 113 (by omega)).trans next_s2
  have inOf_s3 := (f_s3 114 (by omega)).trans inOf_s2
  have firstOf_s3 := (f_s3 115 (by omega)).trans firstOf_s2
  have rounds_s3 := (f_s3 116 (by omega)).trans rounds_s2
  refine go_iconst (pc := 21) hF dX11_goes_21 ?_
  refine go_istore (pc := 22) hF [(4, vi 0), (3, vi 0), (0, vr E 94), (1, vi r₉), (2, vi u₉)] dX11_goes_22 rfl (by decide) ?_
  have s_dot : ∀ (oo dl B₉ : Int) (S₉ : XS) (tk inn fi ro : Int → Int) (ρ : Nat → va_E), gW E s3₉ ρ tk inn fi ro → 0 ≤ oo ∧ oo < (tLen t₉ : Int) → 0 ≤ dl ∧ dl ≤ 3 → sn oo = 46 → vS u₉ S₉ → 0 ≤ B₉ ∧ B₉ ≤ 1000000000 → TK₉ tk S₉ B₉ → (∀ tk' ρ', gW E s3₉ ρ' tk' inn fi ro → TK₉ tk' (xLook u₉ kd pr (sn oo) S₉) (B₉ + 99) → Go E p e R s m args below meth c Q 7 (0, 0) N ρ' [(4, vi (oo + 1)), (3, vi dl), (2, vi u₉), (0, vr E 94)] [] 24) → Go E p e R s m args below meth c Q 7 (0, 0) N ρ [(4, vi oo), (3, vi dl), (2, vi u₉), (0, vr E 94)] [] 24 := by
    intro oo dl B₉ S₉ tk inn fi ro ρ hW ho hd₉ hc₉ hv hB₉ hT₉ hK₉
    obtain ⟨w1₉, ⟨nx, w2₉⟩, w3₉, w4₉, w5, fr₉⟩ := hW
    have zx := (fr₉ 94 (by omega)).trans x_s3
    have zn := (fr₉ 95 (by omega)).trans nw_s3
    have zs := (fr₉ 98 (by omega)).trans sn_s3
    have ze := (fr₉ 99 (by omega)).trans eo_s3
    refine go_iload (pc := 24) hF dX11_goes_24 0 rfl ?_
    refine go_aload_n (pc := 26) hF dX11_goes_26 3 rfl ?_
    refine go_get (pc := 27) hF fl_X11_177 dX11_goes_27 (by omega) zx rfl ?_
    refine go_icmp_ge (pc := 30) hF 255 dX11_goes_30 (by decide) (by omega) (by omega) (fun bq30 => ?_) (fun bq30 => ?_)
    · exact absurd bq30 (by omega)
    · refine go_aload_n (pc := 33) hF dX11_goes_33 3 rfl ?_
      refine go_get (pc := 34) hF fl_X11_19 dX11_goes_34 (by omega) zx rfl ?_
      refine go_iload (pc := 37) hF dX11_goes_37 0 rfl ?_
      refine go_iald (pc := 39) hF dX11_goes_39 (by omega) zs (by omega)  ?_
      rw [hc₉]
      refine go_istore (pc := 40) hF [(5, vi 46), (4, vi oo), (3, vi dl), (2, vi u₉), (0, vr E 94)] dX11_goes_40 rfl (by decide) ?_
      refine go_iload (pc := 42) hF dX11_goes_42 1 rfl ?_
      refine go_iconst (pc := 44) hF dX11_goes_44 ?_
      refine go_iadd (pc := 45) hF dX11_goes_45 ?_
      refine go_istore (pc := 46) hF [(6, vi (oo + 1)), (5, vi 46), (4, vi oo), (3, vi dl), (2, vi u₉), (0, vr E 94)] dX11_goes_46 rfl (by decide) ?_
      refine go_iload (pc := 48) hF dX11_goes_48 1 rfl ?_
      refine go_callSP (pc := 50) hF [vi 46] [] ms_X11_168 dX11_goes_50 (show CP E M_X11_isLook 2 [vi 46] N ρ 0 from (by have h := c_X11_isLook E N ρ 46 (by omega); rw [bI_f (by omega)] at h; exact h)) rfl rfl (Nat.le_of_ble_eq_true rfl) (by decide) ⟨Nat.zero_le _, Nat.zero_le _⟩ ?_
      refine go_if_ne (pc := 53) hF 63 dX11_goes_53 (by decide) ⟨by decide, by decide⟩ (fun bq53 => ?_) (fun bq53 => ?_)
      · exact absurd bq53 (by decide)
      · refine go_iload (pc := 56) hF dX11_goes_56 1 rfl ?_
        refine go_bipush (pc := 58) hF dX11_goes_58 (by decide) ?_
        refine go_icmp_ne (pc := 60) hF 73 dX11_goes_60 (by decide) ⟨by decide, by decide⟩ ⟨by decide, by decide⟩ (fun bq60 => ?_) (fun bq60 => ?_)
        · exact absurd bq60 (by decide)
        · refine go_aload_n (pc := 63) hF dX11_goes_63 5 rfl ?_
          refine go_iload (pc := 64) hF dX11_goes_64 2 rfl ?_
          refine go_iload_n (pc := 66) hF dX11_goes_66 4 rfl ?_
          refine go_callVV (pc := 67) hF [vi oo, vi u₉] [] mv_X11_239 dX11_goes_67 (by omega) zx (c_X11_does_dot E N ρ hN₉ zx zn zs w1₉ w2₉ u₉ kd pr oo B₉ S₉ n5₉ n6₉ hu hkd hpr (by omega) hc₉ hB₉ hv hT₉) rfl rfl (Nat.le_of_ble_eq_true rfl) (by decide) ⟨Nat.zero_le _, Nat.zero_le _⟩ (fun s4₉ h_s4 => ?_)
          obtain ⟨tk_s4, nx_s4, u1_s4, u2_s4, ht_s4, f_s4⟩ := h_s4
          have x_s4 := (f_s4 94 (by omega)).trans zx
          have nw_s4 := (f_s4 95 (by omega)).trans zn
          have sn_s4 := (f_s4 98 (by omega)).trans zs
          have eo_s4 := (f_s4 99 (by omega)).trans ze
          have inOf_s4 := (f_s4 114 (by omega)).trans w3₉
          have firstOf_s4 := (f_s4 115 (by omega)).trans w4₉
          have rounds_s4 := (f_s4 116 (by omega)).trans w5
          refine go_goto (pc := 70) hF 248 dX11_goes_70 (by decide) ?_
          refine go_iload (pc := 248) hF dX11_goes_248 0 rfl ?_
          refine go_istore (pc := 250) hF [(4, vi (oo + 1)), (6, vi (oo + 1)), (5, vi 46), (3, vi dl), (2, vi u₉), (0, vr E 94)] dX11_goes_250 rfl (by decide) ?_
          refine go_goto (pc := 252) hF 24 dX11_goes_252 (by decide) ?_
          refine go_lv [(4, vi (oo + 1)), (3, vi dl), (2, vi u₉), (0, vr E 94)] [0, 3, 4, 5] rfl ?_
          exact hK₉ _ _ ⟨u1_s4, ⟨_, u2_s4⟩, inOf_s4, firstOf_s4, rounds_s4, (fun jj hjj => by rw [f_s4 jj (by omega), fr₉ jj (by omega)])⟩ ht_s4
  have s_look : ∀ (oo dl B₉ : Int) (S₉ : XS) (tk inn fi ro : Int → Int) (ρ : Nat → va_E), gW E s3₉ ρ tk inn fi ro → 0 ≤ oo ∧ oo < (tLen t₉ : Int) → 0 ≤ dl ∧ dl ≤ 3 → 97 ≤ sn oo ∧ sn oo ≤ 102 → vS u₉ S₉ → 0 ≤ B₉ ∧ B₉ ≤ 1000000000 → TK₉ tk S₉ B₉ → (∀ tk' ρ', gW E s3₉ ρ' tk' inn fi ro → TK₉ tk' (xLook u₉ kd pr (sn oo) S₉) (B₉ + 99) → Go E p e R s m args below meth c Q 7 (0, 0) N ρ' [(4, vi (oo + 1)), (3, vi dl), (2, vi u₉), (0, vr E 94)] [] 24) → Go E p e R s m args below meth c Q 7 (0, 0) N ρ [(4, vi oo), (3, vi dl), (2, vi u₉), (0, vr E 94)] [] 24 := by
    intro oo dl B₉ S₉ tk inn fi ro ρ hW ho hd₉ hc₉ hv hB₉ hT₉ hK₉
    obtain ⟨w1₉, ⟨nx, w2₉⟩, w3₉, w4₉, w5, fr₉⟩ := hW
    have zx := (fr₉ 94 (by omega)).trans x_s3
    have zn := (fr₉ 95 (by omega)).trans nw_s3
    have zs := (fr₉ 98 (by omega)).trans sn_s3
    have ze := (fr₉ 99 (by omega)).trans eo_s3
    refine go_iload (pc := 24) hF dX11_goes_24 0 rfl ?_
    refine go_aload_n (pc := 26) hF dX11_goes_26 3 rfl ?_
    refine go_get (pc := 27) hF fl_X11_177 dX11_goes_27 (by omega) zx rfl ?_
    refine go_icmp_ge (pc := 30) hF 255 dX11_goes_30 (by decide) (by omega) (by omega) (fun bq30 => ?_) (fun bq30 => ?_)
    · exact absurd bq30 (by omega)
    · refine go_aload_n (pc := 33) hF dX11_goes_33 3 rfl ?_
      refine go_get (pc := 34) hF fl_X11_19 dX11_goes_34 (by omega) zx rfl ?_
      refine go_iload (pc := 37) hF dX11_goes_37 0 rfl ?_
      refine go_iald (pc := 39) hF dX11_goes_39 (by omega) zs (by omega)  ?_
      refine go_istore (pc := 40) hF [(5, vi (sn oo)), (4, vi oo), (3, vi dl), (2, vi u₉), (0, vr E 94)] dX11_goes_40 rfl (by decide) ?_
      refine go_iload (pc := 42) hF dX11_goes_42 1 rfl ?_
      refine go_iconst (pc := 44) hF dX11_goes_44 ?_
      refine go_iadd (pc := 45) hF dX11_goes_45 ?_
      refine go_istore (pc := 46) hF [(6, vi (oo + 1)), (5, vi (sn oo)), (4, vi oo), (3, vi dl), (2, vi u₉), (0, vr E 94)] dX11_goes_46 rfl (by decide) ?_
      refine go_iload (pc := 48) hF dX11_goes_48 1 rfl ?_
      refine go_callSP (pc := 50) hF [vi (sn oo)] [] ms_X11_168 dX11_goes_50 (show CP E M_X11_isLook 2 [vi (sn oo)] N ρ 1 from (by have h := c_X11_isLook E N ρ (sn oo) (by omega); rw [bI_t (by omega)] at h; exact h)) rfl rfl (Nat.le_of_ble_eq_true rfl) (by decide) ⟨Nat.zero_le _, Nat.zero_le _⟩ ?_
      refine go_if_ne (pc := 53) hF 63 dX11_goes_53 (by decide) ⟨by decide, by decide⟩ (fun bq53 => ?_) (fun bq53 => ?_)
      · refine go_aload_n (pc := 63) hF dX11_goes_63 5 rfl ?_
        refine go_iload (pc := 64) hF dX11_goes_64 2 rfl ?_
        refine go_iload_n (pc := 66) hF dX11_goes_66 4 rfl ?_
        refine go_callVV (pc := 67) hF [vi oo, vi u₉] [] mv_X11_239 dX11_goes_67 (by omega) zx (c_X11_does_look E N ρ hN₉ zx zn zs w1₉ w2₉ u₉ kd pr oo B₉ S₉ n5₉ n6₉ hu hkd hpr (by omega) hc₉ hB₉ hv hT₉) rfl rfl (Nat.le_of_ble_eq_true rfl) (by decide) ⟨Nat.zero_le _, Nat.zero_le _⟩ (fun s5 h_s5 => ?_)
        obtain ⟨tk_s5, nx_s5, u1_s5, u2_s5, ht_s5, f_s5⟩ := h_s5
        have x_s5 := (f_s5 94 (by omega)).trans zx
        have nw_s5 := (f_s5 95 (by omega)).trans zn
        have sn_s5 := (f_s5 98 (by omega)).trans zs
        have eo_s5 := (f_s5 99 (by omega)).trans ze
        have inOf_s5 := (f_s5 114 (by omega)).trans w3₉
        have firstOf_s5 := (f_s5 115 (by omega)).trans w4₉
        have rounds_s5 := (f_s5 116 (by omega)).trans w5
        refine go_goto (pc := 70) hF 248 dX11_goes_70 (by decide) ?_
        refine go_iload (pc := 248) hF dX11_goes_248 0 rfl ?_
        refine go_istore (pc := 250) hF [(4, vi (oo + 1)), (6, vi (oo + 1)), (5, vi (sn oo)), (3, vi dl), (2, vi u₉), (0, vr E 94)] dX11_goes_250 rfl (by decide) ?_
        refine go_goto (pc := 252) hF 24 dX11_goes_252 (by decide) ?_
        refine go_lv [(4, vi (oo + 1)), (3, vi dl), (2, vi u₉), (0, vr E 94)] [0, 3, 4, 5] rfl ?_
        exact hK₉ _ _ ⟨u1_s5, ⟨_, u2_s5⟩, inOf_s5, firstOf_s5, rounds_s5, (fun jj hjj => by rw [f_s5 jj (by omega), fr₉ jj (by omega)])⟩ ht_s5
      · exact absurd bq53 (by decide)
  have s_opA : ∀ (oo dl B₉ : Int) (S₉ : XS) (tk inn fi ro : Int → Int) (ρ : Nat → va_E), gW E s3₉ ρ tk inn fi ro → 0 ≤ oo ∧ oo < (tLen t₉ : Int) → 0 ≤ dl ∧ dl ≤ 2 → sn oo = 40 → TK₉ tk S₉ B₉ → (∀ inn' ρ', gW E s3₉ ρ' tk inn' fi (up ro dl 0) → lvG inn' dl S₉ B₉ → lowG dl inn fi ro inn' fi (up ro dl 0) → Go E p e R s m args below meth c Q 7 (0, 0) N ρ' [(4, vi (oo + 1)), (3, vi (dl + 1)), (2, vi u₉), (0, vr E 94)] [] 24) → Go E p e R s m args below meth c Q 7 (0, 0) N ρ [(4, vi oo), (3, vi dl), (2, vi u₉), (0, vr E 94)] [] 24 := by
    intro oo dl B₉ S₉ tk inn fi ro ρ hW ho hd₉ hc₉ hT₉ hK₉
    obtain ⟨w1₉, ⟨nx, w2₉⟩, w3₉, w4₉, w5, fr₉⟩ := hW
    have zx := (fr₉ 94 (by omega)).trans x_s3
    have zn := (fr₉ 95 (by omega)).trans nw_s3
    have zs := (fr₉ 98 (by omega)).trans sn_s3
    have ze := (fr₉ 99 (by omega)).trans eo_s3
    refine go_iload (pc := 24) hF dX11_goes_24 0 rfl ?_
    refine go_aload_n (pc := 26) hF dX11_goes_26 3 rfl ?_
    refine go_get (pc := 27) hF fl_X11_177 dX11_goes_27 (by omega) zx rfl ?_
    refine go_icmp_ge (pc := 30) hF 255 dX11_goes_30 (by decide) (by omega) (by omega) (fun bq30 => ?_) (fun bq30 => ?_)
    · exact absurd bq30 (by omega)
    · refine go_aload_n (pc := 33) hF dX11_goes_33 3 rfl ?_
      refine go_get (pc := 34) hF fl_X11_19 dX11_goes_34 (by omega) zx rfl ?_
      refine go_iload (pc := 37) hF dX11_goes_37 0 rfl ?_
      refine go_iald (pc := 39) hF dX11_goes_39 (by omega) zs (by omega)  ?_
      rw [hc₉]
      refine go_istore (pc := 40) hF [(5, vi 40), (4, vi oo), (3, vi dl), (2, vi u₉), (0, vr E 94)] dX11_goes_40 rfl (by decide) ?_
      refine go_iload (pc := 42) hF dX11_goes_42 1 rfl ?_
      refine go_iconst (pc := 44) hF dX11_goes_44 ?_
      refine go_iadd (pc := 45) hF dX11_goes_45 ?_
      refine go_istore (pc := 46) hF [(6, vi (oo + 1)), (5, vi 40), (4, vi oo), (3, vi dl), (2, vi u₉), (0, vr E 94)] dX11_goes_46 rfl (by decide) ?_
      refine go_iload (pc := 48) hF dX11_goes_48 1 rfl ?_
      refine go_callSP (pc := 50) hF [vi 40] [] ms_X11_168 dX11_goes_50 (show CP E M_X11_isLook 2 [vi 40] N ρ 0 from (by have h := c_X11_isLook E N ρ 40 (by omega); rw [bI_f (by omega)] at h; exact h)) rfl rfl (Nat.le_of_ble_eq_true rfl) (by decide) ⟨Nat.zero_le _, Nat.zero_le _⟩ ?_
      refine go_if_ne (pc := 53) hF 63 dX11_goes_53 (by decide) ⟨by decide, by decide⟩ (fun bq53 => ?_) (fun bq53 => ?_)
      · exact absurd bq53 (by decide)
      · refine go_iload (pc := 56) hF dX11_goes_56 1 rfl ?_
        refine go_bipush (pc := 58) hF dX11_goes_58 (by decide) ?_
        refine go_icmp_ne (pc := 60) hF 73 dX11_goes_60 (by decide) ⟨by decide, by decide⟩ ⟨by decide, by decide⟩ (fun bq60 => ?_) (fun bq60 => ?_)
        · refine go_iload (pc := 73) hF dX11_goes_73 1 rfl ?_
          refine go_bipush (pc := 75) hF dX11_goes_75 (by decide) ?_
          refine go_icmp_eq (pc := 77) hF 88 dX11_goes_77 (by decide) ⟨by decide, by decide⟩ ⟨by decide, by decide⟩ (fun bq77 => ?_) (fun bq77 => ?_)
          · refine go_aload_n (pc := 88) hF dX11_goes_88 5 rfl ?_
            refine go_aload_n (pc := 89) hF dX11_goes_89 5 rfl ?_
            refine go_get (pc := 90) hF fl_X11_68 dX11_goes_90 (by omega) zx rfl ?_
            refine go_iload_n (pc := 93) hF dX11_goes_93 3 rfl ?_
            refine go_callVV (pc := 94) hF [vr E 114, vi dl] [] mv_X11_243 dX11_goes_94 (by omega) zx (c_X11_savesTook_121 E N ρ hN₉ zx w1₉ w3₉ dl (by omega)) rfl rfl (Nat.le_of_ble_eq_true rfl) (by decide) ⟨Nat.zero_le _, Nat.zero_le _⟩ (fun s6₉ h_s6 => ?_)
            obtain ⟨g_s6, u_s6, h1_s6, h2_s6, f_s6⟩ := h_s6
            have x_s6 := (f_s6 94 (by omega)).trans zx
            have nw_s6 := (f_s6 95 (by omega)).trans zn
            have sn_s6 := (f_s6 98 (by omega)).trans zs
            have eo_s6 := (f_s6 99 (by omega)).trans ze
            have took_s6 := (f_s6 112 (by omega)).trans w1₉
            have next_s6 := (f_s6 113 (by omega)).trans w2₉
            have firstOf_s6 := (f_s6 115 (by omega)).trans w4₉
            have rounds_s6 := (f_s6 116 (by omega)).trans w5
            refine go_aload_n (pc := 97) hF dX11_goes_97 5 rfl ?_
            refine go_get (pc := 98) hF fl_X11_74 dX11_goes_98 (by omega) x_s6 rfl ?_
            refine go_iload_n (pc := 101) hF dX11_goes_101 3 rfl ?_
            refine go_iconst (pc := 102) hF dX11_goes_102 ?_
            refine go_iast (pc := 103) hF dX11_goes_103 (by omega) rounds_s6 (by omega) (fun s7 u_s7 f_s7 => ?_)
            have x_s7 := (f_s7 94 (by omega)).trans x_s6
            have nw_s7 := (f_s7 95 (by omega)).trans nw_s6
            have sn_s7 := (f_s7 98 (by omega)).trans sn_s6
            have eo_s7 := (f_s7 99 (by omega)).trans eo_s6
            have took_s7 := (f_s7 112 (by omega)).trans took_s6
            have next_s7 := (f_s7 113 (by omega)).trans next_s6
            have inOf_s7 := (f_s7 114 (by omega)).trans u_s6
            have firstOf_s7 := (f_s7 115 (by omega)).trans firstOf_s6
            refine go_iinc (pc := 104) hF [(3, vi (dl + 1)), (6, vi (oo + 1)), (5, vi 40), (4, vi oo), (2, vi u₉), (0, vr E 94)] dX11_goes_104 3 rfl rfl (by decide) ?_
            refine go_goto (pc := 107) hF 248 dX11_goes_107 (by decide) ?_
            refine go_iload (pc := 248) hF dX11_goes_248 1 rfl ?_
            refine go_istore (pc := 250) hF [(4, vi (oo + 1)), (3, vi (dl + 1)), (6, vi (oo + 1)), (5, vi 40), (2, vi u₉), (0, vr E 94)] dX11_goes_250 rfl (by decide) ?_
            refine go_goto (pc := 252) hF 24 dX11_goes_252 (by decide) ?_
            refine go_lv [(4, vi (oo + 1)), (3, vi (dl + 1)), (2, vi u₉), (0, vr E 94)] [0, 1, 4, 5] rfl ?_
            exact hK₉ _ _ ⟨took_s7, ⟨_, next_s7⟩, inOf_s7, firstOf_s7, u_s7, (fun jj hjj => by rw [f_s7 jj (by omega), f_s6 jj (by omega), fr₉ jj (by omega)])⟩ (hT₉.ext (fun z₉ z0 z1 => h1_s6 z₉ z0 z1)) (fun z₉ z0 => ⟨fun h => ⟨h2_s6 z₉ z0 (by omega) (Or.inl h), rfl⟩, fun h => up_ne _ _ (by omega)⟩)
          · exact absurd bq77 (by decide)
        · exact absurd bq60 (by decide)
  have s_opB : ∀ (oo dl B₉ : Int) (S₉ : XS) (tk inn fi ro : Int → Int) (ρ : Nat → va_E), gW E s3₉ ρ tk inn fi ro → 0 ≤ oo ∧ oo < (tLen t₉ : Int) → 0 ≤ dl ∧ dl ≤ 2 → 49 ≤ sn oo ∧ sn oo ≤ 57 → TK₉ tk S₉ B₉ → (∀ inn' ρ', gW E s3₉ ρ' tk inn' fi (up ro dl 0) → lvG inn' dl S₉ B₉ → lowG dl inn fi ro inn' fi (up ro dl 0) → Go E p e R s m args below meth c Q 7 (0, 0) N ρ' [(4, vi (oo + 1)), (3, vi (dl + 1)), (2, vi u₉), (0, vr E 94)] [] 24) → Go E p e R s m args below meth c Q 7 (0, 0) N ρ [(4, vi oo), (3, vi dl), (2, vi u₉), (0, vr E 94)] [] 24 := by
    intro oo dl B₉ S₉ tk inn fi ro ρ hW ho hd₉ hc₉ hT₉ hK₉
    obtain ⟨w1₉, ⟨nx, w2₉⟩, w3₉, w4₉, w5, fr₉⟩ := hW
    have zx := (fr₉ 94 (by omega)).trans x_s3
    have zn := (fr₉ 95 (by omega)).trans nw_s3
    have zs := (fr₉ 98 (by omega)).trans sn_s3
    have ze := (fr₉ 99 (by omega)).trans eo_s3
    refine go_iload (pc := 24) hF dX11_goes_24 0 rfl ?_
    refine go_aload_n (pc := 26) hF dX11_goes_26 3 rfl ?_
    refine go_get (pc := 27) hF fl_X11_177 dX11_goes_27 (by omega) zx rfl ?_
    refine go_icmp_ge (pc := 30) hF 255 dX11_goes_30 (by decide) (by omega) (by omega) (fun bq30 => ?_) (fun bq30 => ?_)
    · exact absurd bq30 (by omega)
    · refine go_aload_n (pc := 33) hF dX11_goes_33 3 rfl ?_
      refine go_get (pc := 34) hF fl_X11_19 dX11_goes_34 (by omega) zx rfl ?_
      refine go_iload (pc := 37) hF dX11_goes_37 0 rfl ?_
      refine go_iald (pc := 39) hF dX11_goes_39 (by omega) zs (by omega)  ?_
      refine go_istore (pc := 40) hF [(5, vi (sn oo)), (4, vi oo), (3, vi dl), (2, vi u₉), (0, vr E 94)] dX11_goes_40 rfl (by decide) ?_
      refine go_iload (pc := 42) hF dX11_goes_42 1 rfl ?_
      refine go_iconst (pc := 44) hF dX11_goes_44 ?_
      refine go_iadd (pc := 45) hF dX11_goes_45 ?_
      refine go_istore (pc := 46) hF [(6, vi (oo + 1)), (5, vi (sn oo)), (4, vi oo), (3, vi dl), (2, vi u₉), (0, vr E 94)] dX11_goes_46 rfl (by decide) ?_
      refine go_iload (pc := 48) hF dX11_goes_48 1 rfl ?_
      refine go_callSP (pc := 50) hF [vi (sn oo)] [] ms_X11_168 dX11_goes_50 (show CP E M_X11_isLook 2 [vi (sn oo)] N ρ 0 from (by have h := c_X11_isLook E N ρ (sn oo) (by omega); rw [bI_f (by omega)] at h; exact h)) rfl rfl (Nat.le_of_ble_eq_true rfl) (by decide) ⟨Nat.zero_le _, Nat.zero_le _⟩ ?_
      refine go_if_ne (pc := 53) hF 63 dX11_goes_53 (by decide) ⟨by decide, by decide⟩ (fun bq53 => ?_) (fun bq53 => ?_)
      · exact absurd bq53 (by decide)
      · refine go_iload (pc := 56) hF dX11_goes_56 1 rfl ?_
        refine go_bipush (pc := 58) hF dX11_goes_58 (by decide) ?_
        refine go_icmp_ne (pc := 60) hF 73 dX11_goes_60 (by decide) (by omega) ⟨by decide, by decide⟩ (fun bq60 => ?_) (fun bq60 => ?_)
        · refine go_iload (pc := 73) hF dX11_goes_73 1 rfl ?_
          refine go_bipush (pc := 75) hF dX11_goes_75 (by decide) ?_
          refine go_icmp_eq (pc := 77) hF 88 dX11_goes_77 (by decide) (by omega) ⟨by decide, by decide⟩ (fun bq77 => ?_) (fun bq77 => ?_)
          · exact absurd bq77 (by omega)
          · refine go_iload (pc := 80) hF dX11_goes_80 1 rfl ?_
            refine go_callSP (pc := 82) hF [vi (sn oo)] [] ms_X11_171 dX11_goes_82 (show CP E M_X11_isFigure 2 [vi (sn oo)] N ρ 1 from (by have h := c_X11_isFigure E N ρ (sn oo) (by omega); rw [bI_t (by omega)] at h; exact h)) rfl rfl (Nat.le_of_ble_eq_true rfl) (by decide) ⟨Nat.zero_le _, Nat.zero_le _⟩ ?_
            refine go_if_eq (pc := 85) hF 110 dX11_goes_85 (by decide) ⟨by decide, by decide⟩ (fun bq85 => ?_) (fun bq85 => ?_)
            · exact absurd bq85 (by decide)
            · refine go_aload_n (pc := 88) hF dX11_goes_88 5 rfl ?_
              refine go_aload_n (pc := 89) hF dX11_goes_89 5 rfl ?_
              refine go_get (pc := 90) hF fl_X11_68 dX11_goes_90 (by omega) zx rfl ?_
              refine go_iload_n (pc := 93) hF dX11_goes_93 3 rfl ?_
              refine go_callVV (pc := 94) hF [vr E 114, vi dl] [] mv_X11_243 dX11_goes_94 (by omega) zx (c_X11_savesTook_121 E N ρ hN₉ zx w1₉ w3₉ dl (by omega)) rfl rfl (Nat.le_of_ble_eq_true rfl) (by decide) ⟨Nat.zero_le _, Nat.zero_le _⟩ (fun s8 h_s8 => ?_)
              obtain ⟨g_s8, u_s8, h1_s8, h2_s8, f_s8⟩ := h_s8
              have x_s8 := (f_s8 94 (by omega)).trans zx
              have nw_s8 := (f_s8 95 (by omega)).trans zn
              have sn_s8 := (f_s8 98 (by omega)).trans zs
              have eo_s8 := (f_s8 99 (by omega)).trans ze
              have took_s8 := (f_s8 112 (by omega)).trans w1₉
              have next_s8 := (f_s8 113 (by omega)).trans w2₉
              have firstOf_s8 := (f_s8 115 (by omega)).trans w4₉
              have rounds_s8 := (f_s8 116 (by omega)).trans w5
              refine go_aload_n (pc := 97) hF dX11_goes_97 5 rfl ?_
              refine go_get (pc := 98) hF fl_X11_74 dX11_goes_98 (by omega) x_s8 rfl ?_
              refine go_iload_n (pc := 101) hF dX11_goes_101 3 rfl ?_
              refine go_iconst (pc := 102) hF dX11_goes_102 ?_
              refine go_iast (pc := 103) hF dX11_goes_103 (by omega) rounds_s8 (by omega) (fun s9 u_s9 f_s9 => ?_)
              have x_s9 := (f_s9 94 (by omega)).trans x_s8
              have nw_s9 := (f_s9 95 (by omega)).trans nw_s8
              have sn_s9 := (f_s9 98 (by omega)).trans sn_s8
              have eo_s9 := (f_s9 99 (by omega)).trans eo_s8
              have took_s9 := (f_s9 112 (by omega)).trans took_s8
              have next_s9 := (f_s9 113 (by omega)).trans next_s8
              have inOf_s9 := (f_s9 114 (by omega)).trans u_s8
              have firstOf_s9 := (f_s9 115 (by omega)).trans firstOf_s8
              refine go_iinc (pc := 104) hF [(3, vi (dl + 1)), (6, vi (oo + 1)), (5, vi (sn oo)), (4, vi oo), (2, vi u₉), (0, vr E 94)] dX11_goes_104 3 rfl rfl (by decide) ?_
              refine go_goto (pc := 107) hF 248 dX11_goes_107 (by decide) ?_
              refine go_iload (pc := 248) hF dX11_goes_248 1 rfl ?_
              refine go_istore (pc := 250) hF [(4, vi (oo + 1)), (3, vi (dl + 1)), (6, vi (oo + 1)), (5, vi (sn oo)), (2, vi u₉), (0, vr E 94)] dX11_goes_250 rfl (by decide) ?_
              refine go_goto (pc := 252) hF 24 dX11_goes_252 (by decide) ?_
              refine go_lv [(4, vi (oo + 1)), (3, vi (dl + 1)), (2, vi u₉), (0, vr E 94)] [0, 1, 4, 5] rfl ?_
              exact hK₉ _ _ ⟨took_s9, ⟨_, next_s9⟩, inOf_s9, firstOf_s9, u_s9, (fun jj hjj => by rw [f_s9 jj (by omega), f_s8 jj (by omega), fr₉ jj (by omega)])⟩ (hT₉.ext (fun z₉ z0 z1 => h1_s8 z₉ z0 z1)) (fun z₉ z0 => ⟨fun h => ⟨h2_s8 z₉ z0 (by omega) (Or.inl h), rfl⟩, fun h => up_ne _ _ (by omega)⟩)
        · exact absurd bq60 (by omega)
  have s_bar : ∀ (oo dl B0 B1 : Int) (S₉ A₉ : XS) (tk inn fi ro : Int → Int) (ρ : Nat → va_E), gW E s3₉ ρ tk inn fi ro → 0 ≤ oo ∧ oo < (tLen t₉ : Int) → 0 ≤ dl ∧ dl ≤ 2 → sn oo = 124 → TK₉ tk A₉ B1 → lvG inn dl S₉ B0 → (∀ tk' fi' ρ', gW E s3₉ ρ' tk' inn fi' ro → lvG fi' dl A₉ B1 → TK₉ tk' S₉ B0 → lowG dl inn fi ro inn fi' ro → Go E p e R s m args below meth c Q 7 (0, 0) N ρ' [(4, vi (oo + 1)), (3, vi (dl + 1)), (2, vi u₉), (0, vr E 94)] [] 24) → Go E p e R s m args below meth c Q 7 (0, 0) N ρ [(4, vi oo), (3, vi (dl + 1)), (2, vi u₉), (0, vr E 94)] [] 24 := by
    intro oo dl B0 B1 S₉ A₉ tk inn fi ro ρ hW ho hd₉ hc₉ hT₉ hl hK₉
    obtain ⟨w1₉, ⟨nx, w2₉⟩, w3₉, w4₉, w5, fr₉⟩ := hW
    have zx := (fr₉ 94 (by omega)).trans x_s3
    have zn := (fr₉ 95 (by omega)).trans nw_s3
    have zs := (fr₉ 98 (by omega)).trans sn_s3
    have ze := (fr₉ 99 (by omega)).trans eo_s3
    refine go_iload (pc := 24) hF dX11_goes_24 0 rfl ?_
    refine go_aload_n (pc := 26) hF dX11_goes_26 3 rfl ?_
    refine go_get (pc := 27) hF fl_X11_177 dX11_goes_27 (by omega) zx rfl ?_
    refine go_icmp_ge (pc := 30) hF 255 dX11_goes_30 (by decide) (by omega) (by omega) (fun bq30 => ?_) (fun bq30 => ?_)
    · exact absurd bq30 (by omega)
    · refine go_aload_n (pc := 33) hF dX11_goes_33 3 rfl ?_
      refine go_get (pc := 34) hF fl_X11_19 dX11_goes_34 (by omega) zx rfl ?_
      refine go_iload (pc := 37) hF dX11_goes_37 0 rfl ?_
      refine go_iald (pc := 39) hF dX11_goes_39 (by omega) zs (by omega)  ?_
      rw [hc₉]
      refine go_istore (pc := 40) hF [(5, vi 124), (4, vi oo), (3, vi (dl + 1)), (2, vi u₉), (0, vr E 94)] dX11_goes_40 rfl (by decide) ?_
      refine go_iload (pc := 42) hF dX11_goes_42 1 rfl ?_
      refine go_iconst (pc := 44) hF dX11_goes_44 ?_
      refine go_iadd (pc := 45) hF dX11_goes_45 ?_
      refine go_istore (pc := 46) hF [(6, vi (oo + 1)), (5, vi 124), (4, vi oo), (3, vi (dl + 1)), (2, vi u₉), (0, vr E 94)] dX11_goes_46 rfl (by decide) ?_
      refine go_iload (pc := 48) hF dX11_goes_48 1 rfl ?_
      refine go_callSP (pc := 50) hF [vi 124] [] ms_X11_168 dX11_goes_50 (show CP E M_X11_isLook 2 [vi 124] N ρ 0 from (by have h := c_X11_isLook E N ρ 124 (by omega); rw [bI_f (by omega)] at h; exact h)) rfl rfl (Nat.le_of_ble_eq_true rfl) (by decide) ⟨Nat.zero_le _, Nat.zero_le _⟩ ?_
      refine go_if_ne (pc := 53) hF 63 dX11_goes_53 (by decide) ⟨by decide, by decide⟩ (fun bq53 => ?_) (fun bq53 => ?_)
      · exact absurd bq53 (by decide)
      · refine go_iload (pc := 56) hF dX11_goes_56 1 rfl ?_
        refine go_bipush (pc := 58) hF dX11_goes_58 (by decide) ?_
        refine go_icmp_ne (pc := 60) hF 73 dX11_goes_60 (by decide) ⟨by decide, by decide⟩ ⟨by decide, by decide⟩ (fun bq60 => ?_) (fun bq60 => ?_)
        · refine go_iload (pc := 73) hF dX11_goes_73 1 rfl ?_
          refine go_bipush (pc := 75) hF dX11_goes_75 (by decide) ?_
          refine go_icmp_eq (pc := 77) hF 88 dX11_goes_77 (by decide) ⟨by decide, by decide⟩ ⟨by decide, by decide⟩ (fun bq77 => ?_) (fun bq77 => ?_)
          · exact absurd bq77 (by decide)
          · refine go_iload (pc := 80) hF dX11_goes_80 1 rfl ?_
            refine go_callSP (pc := 82) hF [vi 124] [] ms_X11_171 dX11_goes_82 (show CP E M_X11_isFigure 2 [vi 124] N ρ 0 from (by have h := c_X11_isFigure E N ρ 124 (by omega); rw [bI_f (by omega)] at h; exact h)) rfl rfl (Nat.le_of_ble_eq_true rfl) (by decide) ⟨Nat.zero_le _, Nat.zero_le _⟩ ?_
            refine go_if_eq (pc := 85) hF 110 dX11_goes_85 (by decide) ⟨by decide, by decide⟩ (fun bq85 => ?_) (fun bq85 => ?_)
            · refine go_iload (pc := 110) hF dX11_goes_110 1 rfl ?_
              refine go_bipush (pc := 112) hF dX11_goes_112 (by decide) ?_
              refine go_icmp_ne (pc := 114) hF 142 dX11_goes_114 (by decide) ⟨by decide, by decide⟩ ⟨by decide, by decide⟩ (fun bq114 => ?_) (fun bq114 => ?_)
              · exact absurd bq114 (by decide)
              · refine go_aload_n (pc := 117) hF dX11_goes_117 5 rfl ?_
                refine go_aload_n (pc := 118) hF dX11_goes_118 5 rfl ?_
                refine go_get (pc := 119) hF fl_X11_71 dX11_goes_119 (by omega) zx rfl ?_
                refine go_iload_n (pc := 122) hF dX11_goes_122 3 rfl ?_
                refine go_iconst (pc := 123) hF dX11_goes_123 ?_
                refine go_isub (pc := 124) hF dX11_goes_124 ?_
                rw [show dl + 1 - 1 = dl by omega]
                refine go_callVV (pc := 125) hF [vr E 115, vi dl] [] mv_X11_243 dX11_goes_125 (by omega) zx (c_X11_savesTook_122 E N ρ hN₉ zx w1₉ w4₉ dl (by omega)) rfl rfl (Nat.le_of_ble_eq_true rfl) (by decide) ⟨Nat.zero_le _, Nat.zero_le _⟩ (fun s10 h_s10 => ?_)
                obtain ⟨g_s10, u_s10, h1_s10, h2_s10, f_s10⟩ := h_s10
                have x_s10 := (f_s10 94 (by omega)).trans zx
                have nw_s10 := (f_s10 95 (by omega)).trans zn
                have sn_s10 := (f_s10 98 (by omega)).trans zs
                have eo_s10 := (f_s10 99 (by omega)).trans ze
                have took_s10 := (f_s10 112 (by omega)).trans w1₉
                have next_s10 := (f_s10 113 (by omega)).trans w2₉
                have inOf_s10 := (f_s10 114 (by omega)).trans w3₉
                have rounds_s10 := (f_s10 116 (by omega)).trans w5
                refine go_aload_n (pc := 128) hF dX11_goes_128 5 rfl ?_
                refine go_aload_n (pc := 129) hF dX11_goes_129 5 rfl ?_
                refine go_get (pc := 130) hF fl_X11_68 dX11_goes_130 (by omega) x_s10 rfl ?_
                refine go_iload_n (pc := 133) hF dX11_goes_133 3 rfl ?_
                refine go_iconst (pc := 134) hF dX11_goes_134 ?_
                refine go_isub (pc := 135) hF dX11_goes_135 ?_
                rw [show dl + 1 - 1 = dl by omega]
                refine go_callVV (pc := 136) hF [vr E 114, vi dl] [] mv_X11_246 dX11_goes_136 (by omega) x_s10 (c_X11_bringsTook_121 E N s10 hN₉ x_s10 took_s10 inOf_s10 dl (by omega)) rfl rfl (Nat.le_of_ble_eq_true rfl) (by decide) ⟨Nat.zero_le _, Nat.zero_le _⟩ (fun s11 h_s11 => ?_)
                obtain ⟨b_s11, u_s11, hb_s11, f_s11⟩ := h_s11
                have x_s11 := (f_s11 94 (by omega)).trans x_s10
                have nw_s11 := (f_s11 95 (by omega)).trans nw_s10
                have sn_s11 := (f_s11 98 (by omega)).trans sn_s10
                have eo_s11 := (f_s11 99 (by omega)).trans eo_s10
                have next_s11 := (f_s11 113 (by omega)).trans next_s10
                have inOf_s11 := (f_s11 114 (by omega)).trans inOf_s10
                have firstOf_s11 := (f_s11 115 (by omega)).trans u_s10
                have rounds_s11 := (f_s11 116 (by omega)).trans rounds_s10
                refine go_goto (pc := 139) hF 248 dX11_goes_139 (by decide) ?_
                refine go_iload (pc := 248) hF dX11_goes_248 0 rfl ?_
                refine go_istore (pc := 250) hF [(4, vi (oo + 1)), (6, vi (oo + 1)), (5, vi 124), (3, vi (dl + 1)), (2, vi u₉), (0, vr E 94)] dX11_goes_250 rfl (by decide) ?_
                refine go_goto (pc := 252) hF 24 dX11_goes_252 (by decide) ?_
                refine go_lv [(4, vi (oo + 1)), (3, vi (dl + 1)), (2, vi u₉), (0, vr E 94)] [0, 3, 4, 5] rfl ?_
                exact hK₉ _ _ _ ⟨u_s11, ⟨_, next_s11⟩, inOf_s11, firstOf_s11, rounds_s11, (fun jj hjj => by rw [f_s11 jj (by omega), f_s10 jj (by omega), fr₉ jj (by omega)])⟩ (hT₉.ext (fun z₉ z0 z1 => h1_s10 z₉ z0 z1)) (TK₉.ext hl hb_s11) (fun z₉ z0 => ⟨fun h => ⟨rfl, h2_s10 z₉ z0 (by omega) (Or.inl h)⟩, fun _ => rfl⟩)
            · exact absurd bq85 (by decide)
        · exact absurd bq60 (by decide)
  have s_close : ∀ (oo dl B₉ : Int) (S₉ A₉ : XS) (tk inn fi ro : Int → Int) (ρ : Nat → va_E), gW E s3₉ ρ tk inn fi ro → 0 ≤ oo ∧ oo < (tLen t₉ : Int) → 0 ≤ dl ∧ dl ≤ 2 → sn oo = 41 → 0 ≤ B₉ ∧ B₉ ≤ 1000000000 → TK₉ tk S₉ B₉ → lvG fi dl A₉ B₉ → (∀ tk' fi' ρ', gW E s3₉ ρ' tk' inn fi' ro → TK₉ tk' (fun r₉ c => A₉ r₉ c ∨ S₉ r₉ c) B₉ → lowG dl inn fi ro inn fi' ro → Go E p e R s m args below meth c Q 7 (0, 0) N ρ' [(4, vi (oo + 1)), (3, vi dl), (2, vi u₉), (0, vr E 94)] [] 24) → Go E p e R s m args below meth c Q 7 (0, 0) N ρ [(4, vi oo), (3, vi (dl + 1)), (2, vi u₉), (0, vr E 94)] [] 24 := by
    intro oo dl B₉ S₉ A₉ tk inn fi ro ρ hW ho hd₉ hc₉ hB₉ hT₉ hl hK₉
    obtain ⟨w1₉, ⟨nx, w2₉⟩, w3₉, w4₉, w5, fr₉⟩ := hW
    have zx := (fr₉ 94 (by omega)).trans x_s3
    have zn := (fr₉ 95 (by omega)).trans nw_s3
    have zs := (fr₉ 98 (by omega)).trans sn_s3
    have ze := (fr₉ 99 (by omega)).trans eo_s3
    refine go_iload (pc := 24) hF dX11_goes_24 0 rfl ?_
    refine go_aload_n (pc := 26) hF dX11_goes_26 3 rfl ?_
    refine go_get (pc := 27) hF fl_X11_177 dX11_goes_27 (by omega) zx rfl ?_
    refine go_icmp_ge (pc := 30) hF 255 dX11_goes_30 (by decide) (by omega) (by omega) (fun bq30 => ?_) (fun bq30 => ?_)
    · exact absurd bq30 (by omega)
    · refine go_aload_n (pc := 33) hF dX11_goes_33 3 rfl ?_
      refine go_get (pc := 34) hF fl_X11_19 dX11_goes_34 (by omega) zx rfl ?_
      refine go_iload (pc := 37) hF dX11_goes_37 0 rfl ?_
      refine go_iald (pc := 39) hF dX11_goes_39 (by omega) zs (by omega)  ?_
      rw [hc₉]
      refine go_istore (pc := 40) hF [(5, vi 41), (4, vi oo), (3, vi (dl + 1)), (2, vi u₉), (0, vr E 94)] dX11_goes_40 rfl (by decide) ?_
      refine go_iload (pc := 42) hF dX11_goes_42 1 rfl ?_
      refine go_iconst (pc := 44) hF dX11_goes_44 ?_
      refine go_iadd (pc := 45) hF dX11_goes_45 ?_
      refine go_istore (pc := 46) hF [(6, vi (oo + 1)), (5, vi 41), (4, vi oo), (3, vi (dl + 1)), (2, vi u₉), (0, vr E 94)] dX11_goes_46 rfl (by decide) ?_
      refine go_iload (pc := 48) hF dX11_goes_48 1 rfl ?_
      refine go_callSP (pc := 50) hF [vi 41] [] ms_X11_168 dX11_goes_50 (show CP E M_X11_isLook 2 [vi 41] N ρ 0 from (by have h := c_X11_isLook E N ρ 41 (by omega); rw [bI_f (by omega)] at h; exact h)) rfl rfl (Nat.le_of_ble_eq_true rfl) (by decide) ⟨Nat.zero_le _, Nat.zero_le _⟩ ?_
      refine go_if_ne (pc := 53) hF 63 dX11_goes_53 (by decide) ⟨by decide, by decide⟩ (fun bq53 => ?_) (fun bq53 => ?_)
      · exact absurd bq53 (by decide)
      · refine go_iload (pc := 56) hF dX11_goes_56 1 rfl ?_
        refine go_bipush (pc := 58) hF dX11_goes_58 (by decide) ?_
        refine go_icmp_ne (pc := 60) hF 73 dX11_goes_60 (by decide) ⟨by decide, by decide⟩ ⟨by decide, by decide⟩ (fun bq60 => ?_) (fun bq60 => ?_)
        · refine go_iload (pc := 73) hF dX11_goes_73 1 rfl ?_
          refine go_bipush (pc := 75) hF dX11_goes_75 (by decide) ?_
          refine go_icmp_eq (pc := 77) hF 88 dX11_goes_77 (by decide) ⟨by decide, by decide⟩ ⟨by decide, by decide⟩ (fun bq77 => ?_) (fun bq77 => ?_)
          · exact absurd bq77 (by decide)
          · refine go_iload (pc := 80) hF dX11_goes_80 1 rfl ?_
            refine go_callSP (pc := 82) hF [vi 41] [] ms_X11_171 dX11_goes_82 (show CP E M_X11_isFigure 2 [vi 41] N ρ 0 from (by have h := c_X11_isFigure E N ρ 41 (by omega); rw [bI_f (by omega)] at h; exact h)) rfl rfl (Nat.le_of_ble_eq_true rfl) (by decide) ⟨Nat.zero_le _, Nat.zero_le _⟩ ?_
            refine go_if_eq (pc := 85) hF 110 dX11_goes_85 (by decide) ⟨by decide, by decide⟩ (fun bq85 => ?_) (fun bq85 => ?_)
            · refine go_iload (pc := 110) hF dX11_goes_110 1 rfl ?_
              refine go_bipush (pc := 112) hF dX11_goes_112 (by decide) ?_
              refine go_icmp_ne (pc := 114) hF 142 dX11_goes_114 (by decide) ⟨by decide, by decide⟩ ⟨by decide, by decide⟩ (fun bq114 => ?_) (fun bq114 => ?_)
              · refine go_iload (pc := 142) hF dX11_goes_142 1 rfl ?_
                refine go_bipush (pc := 144) hF dX11_goes_144 (by decide) ?_
                refine go_icmp_ne (pc := 146) hF 173 dX11_goes_146 (by decide) ⟨by decide, by decide⟩ ⟨by decide, by decide⟩ (fun bq146 => ?_) (fun bq146 => ?_)
                · exact absurd bq146 (by decide)
                · refine go_iinc (pc := 149) hF [(3, vi ((dl + 1) + (-1))), (6, vi (oo + 1)), (5, vi 41), (4, vi oo), (2, vi u₉), (0, vr E 94)] dX11_goes_149 3 rfl rfl (by decide) ?_
                  refine go_lvE [(3, vi dl), (6, vi (oo + 1)), (5, vi 41), (4, vi oo), (2, vi u₉), (0, vr E 94)] (by rw [show (dl + 1) + (-1) = dl by omega]) ?_
                  refine go_aload_n (pc := 152) hF dX11_goes_152 5 rfl ?_
                  refine go_aload_n (pc := 153) hF dX11_goes_153 5 rfl ?_
                  refine go_get (pc := 154) hF fl_X11_71 dX11_goes_154 (by omega) zx rfl ?_
                  refine go_iload_n (pc := 157) hF dX11_goes_157 0 rfl ?_
                  refine go_callVV (pc := 158) hF [vr E 115, vi dl] [] mv_X11_249 dX11_goes_158 (by omega) zx (c_X11_joins_122 E N ρ hN₉ zx w1₉ w4₉ dl (by omega) A₉ S₉ B₉ hB₉ hT₉ hl) rfl rfl (Nat.le_of_ble_eq_true rfl) (by decide) ⟨Nat.zero_le _, Nat.zero_le _⟩ (fun s12 h_s12 => ?_)
                  obtain ⟨j_s12, u_s12, hj_s12, hk_s12, f_s12⟩ := h_s12
                  have x_s12 := (f_s12 94 (by omega)).trans zx
                  have nw_s12 := (f_s12 95 (by omega)).trans zn
                  have sn_s12 := (f_s12 98 (by omega)).trans zs
                  have eo_s12 := (f_s12 99 (by omega)).trans ze
                  have took_s12 := (f_s12 112 (by omega)).trans w1₉
                  have next_s12 := (f_s12 113 (by omega)).trans w2₉
                  have inOf_s12 := (f_s12 114 (by omega)).trans w3₉
                  have rounds_s12 := (f_s12 116 (by omega)).trans w5
                  refine go_aload_n (pc := 161) hF dX11_goes_161 5 rfl ?_
                  refine go_aload_n (pc := 162) hF dX11_goes_162 5 rfl ?_
                  refine go_get (pc := 163) hF fl_X11_71 dX11_goes_163 (by omega) x_s12 rfl ?_
                  refine go_iload_n (pc := 166) hF dX11_goes_166 0 rfl ?_
                  refine go_callVV (pc := 167) hF [vr E 115, vi dl] [] mv_X11_246 dX11_goes_167 (by omega) x_s12 (c_X11_bringsTook_122 E N s12 hN₉ x_s12 took_s12 u_s12 dl (by omega)) rfl rfl (Nat.le_of_ble_eq_true rfl) (by decide) ⟨Nat.zero_le _, Nat.zero_le _⟩ (fun s13 h_s13 => ?_)
                  obtain ⟨b_s13, u_s13, hb_s13, f_s13⟩ := h_s13
                  have x_s13 := (f_s13 94 (by omega)).trans x_s12
                  have nw_s13 := (f_s13 95 (by omega)).trans nw_s12
                  have sn_s13 := (f_s13 98 (by omega)).trans sn_s12
                  have eo_s13 := (f_s13 99 (by omega)).trans eo_s12
                  have next_s13 := (f_s13 113 (by omega)).trans next_s12
                  have inOf_s13 := (f_s13 114 (by omega)).trans inOf_s12
                  have firstOf_s13 := (f_s13 115 (by omega)).trans u_s12
                  have rounds_s13 := (f_s13 116 (by omega)).trans rounds_s12
                  refine go_goto (pc := 170) hF 248 dX11_goes_170 (by decide) ?_
                  refine go_iload (pc := 248) hF dX11_goes_248 1 rfl ?_
                  refine go_istore (pc := 250) hF [(4, vi (oo + 1)), (3, vi dl), (6, vi (oo + 1)), (5, vi 41), (2, vi u₉), (0, vr E 94)] dX11_goes_250 rfl (by decide) ?_
                  refine go_goto (pc := 252) hF 24 dX11_goes_252 (by decide) ?_
                  refine go_lv [(4, vi (oo + 1)), (3, vi dl), (2, vi u₉), (0, vr E 94)] [0, 1, 4, 5] rfl ?_
                  exact hK₉ _ _ _ ⟨u_s13, ⟨_, next_s13⟩, inOf_s13, firstOf_s13, rounds_s13, (fun jj hjj => by rw [f_s13 jj (by omega), f_s12 jj (by omega), fr₉ jj (by omega)])⟩ (TK₉.ext hj_s12 hb_s13) (fun z₉ z0 => ⟨fun h => ⟨rfl, hk_s12 z₉ z0 (Or.inl h)⟩, fun _ => rfl⟩)
              · exact absurd bq114 (by decide)
            · exact absurd bq85 (by decide)
        · exact absurd bq60 (by decide)
  have s_back : ∀ (oo dl o1 B₉ : Int) (n9 : Nat) (Z₉ Y : XS) (tk inn fi ro : Int → Int) (ρ : Nat → va_E), gW E s3₉ ρ tk inn fi ro → 0 ≤ oo ∧ oo < (tLen t₉ : Int) → 0 ≤ dl ∧ dl ≤ 2 → sn oo = 93 → eo oo = o1 → 0 ≤ o1 ∧ o1 < (tLen t₉ : Int) → sn o1 = 48 + (n9 : Int) → 1 ≤ n9 ∧ n9 ≤ 9 → 0 ≤ ro dl ∧ ro dl ≤ 9 → 0 ≤ B₉ ∧ B₉ ≤ 1000000000 → TK₉ tk Z₉ B₉ → lvG inn dl Y B₉ → (ro dl + 1 < n9 → ∀ inn' ρ', gW E s3₉ ρ' tk inn' fi (up ro dl (ro dl + 1)) → lvG inn' dl (fun r₉ c => Y r₉ c ∨ Z₉ r₉ c) B₉ → lowG dl inn fi ro inn' fi (up ro dl (ro dl + 1)) → Go E p e R s m args below meth c Q 7 (0, 0) N ρ' [(4, vi (o1 + 1)), (3, vi (dl + 1)), (2, vi u₉), (0, vr E 94)] [] 24) → (n9 ≤ ro dl + 1 → ∀ tk' inn' ρ', gW E s3₉ ρ' tk' inn' fi (up ro dl (ro dl + 1)) → TK₉ tk' (fun r₉ c => Y r₉ c ∨ Z₉ r₉ c) B₉ → lowG dl inn fi ro inn' fi (up ro dl (ro dl + 1)) → Go E p e R s m args below meth c Q 7 (0, 0) N ρ' [(4, vi (oo + 1)), (3, vi dl), (2, vi u₉), (0, vr E 94)] [] 24) → Go E p e R s m args below meth c Q 7 (0, 0) N ρ [(4, vi oo), (3, vi (dl + 1)), (2, vi u₉), (0, vr E 94)] [] 24 := by
    intro oo dl o1 B₉ n9 Z₉ Y tk inn fi ro ρ hW ho hd₉ hc₉ he ho1 hn9 hn hro hB₉ hT₉ hl hK1 hK0
    obtain ⟨w1₉, ⟨nx, w2₉⟩, w3₉, w4₉, w5, fr₉⟩ := hW
    have zx := (fr₉ 94 (by omega)).trans x_s3
    have zn := (fr₉ 95 (by omega)).trans nw_s3
    have zs := (fr₉ 98 (by omega)).trans sn_s3
    have ze := (fr₉ 99 (by omega)).trans eo_s3
    refine go_iload (pc := 24) hF dX11_goes_24 0 rfl ?_
    refine go_aload_n (pc := 26) hF dX11_goes_26 3 rfl ?_
    refine go_get (pc := 27) hF fl_X11_177 dX11_goes_27 (by omega) zx rfl ?_
    refine go_icmp_ge (pc := 30) hF 255 dX11_goes_30 (by decide) (by omega) (by omega) (fun bq30 => ?_) (fun bq30 => ?_)
    · exact absurd bq30 (by omega)
    · refine go_aload_n (pc := 33) hF dX11_goes_33 3 rfl ?_
      refine go_get (pc := 34) hF fl_X11_19 dX11_goes_34 (by omega) zx rfl ?_
      refine go_iload (pc := 37) hF dX11_goes_37 0 rfl ?_
      refine go_iald (pc := 39) hF dX11_goes_39 (by omega) zs (by omega)  ?_
      rw [hc₉]
      refine go_istore (pc := 40) hF [(5, vi 93), (4, vi oo), (3, vi (dl + 1)), (2, vi u₉), (0, vr E 94)] dX11_goes_40 rfl (by decide) ?_
      refine go_iload (pc := 42) hF dX11_goes_42 1 rfl ?_
      refine go_iconst (pc := 44) hF dX11_goes_44 ?_
      refine go_iadd (pc := 45) hF dX11_goes_45 ?_
      refine go_istore (pc := 46) hF [(6, vi (oo + 1)), (5, vi 93), (4, vi oo), (3, vi (dl + 1)), (2, vi u₉), (0, vr E 94)] dX11_goes_46 rfl (by decide) ?_
      refine go_iload (pc := 48) hF dX11_goes_48 1 rfl ?_
      refine go_callSP (pc := 50) hF [vi 93] [] ms_X11_168 dX11_goes_50 (show CP E M_X11_isLook 2 [vi 93] N ρ 0 from (by have h := c_X11_isLook E N ρ 93 (by omega); rw [bI_f (by omega)] at h; exact h)) rfl rfl (Nat.le_of_ble_eq_true rfl) (by decide) ⟨Nat.zero_le _, Nat.zero_le _⟩ ?_
      refine go_if_ne (pc := 53) hF 63 dX11_goes_53 (by decide) ⟨by decide, by decide⟩ (fun bq53 => ?_) (fun bq53 => ?_)
      · exact absurd bq53 (by decide)
      · refine go_iload (pc := 56) hF dX11_goes_56 1 rfl ?_
        refine go_bipush (pc := 58) hF dX11_goes_58 (by decide) ?_
        refine go_icmp_ne (pc := 60) hF 73 dX11_goes_60 (by decide) ⟨by decide, by decide⟩ ⟨by decide, by decide⟩ (fun bq60 => ?_) (fun bq60 => ?_)
        · refine go_iload (pc := 73) hF dX11_goes_73 1 rfl ?_
          refine go_bipush (pc := 75) hF dX11_goes_75 (by decide) ?_
          refine go_icmp_eq (pc := 77) hF 88 dX11_goes_77 (by decide) ⟨by decide, by decide⟩ ⟨by decide, by decide⟩ (fun bq77 => ?_) (fun bq77 => ?_)
          · exact absurd bq77 (by decide)
          · refine go_iload (pc := 80) hF dX11_goes_80 1 rfl ?_
            refine go_callSP (pc := 82) hF [vi 93] [] ms_X11_171 dX11_goes_82 (show CP E M_X11_isFigure 2 [vi 93] N ρ 0 from (by have h := c_X11_isFigure E N ρ 93 (by omega); rw [bI_f (by omega)] at h; exact h)) rfl rfl (Nat.le_of_ble_eq_true rfl) (by decide) ⟨Nat.zero_le _, Nat.zero_le _⟩ ?_
            refine go_if_eq (pc := 85) hF 110 dX11_goes_85 (by decide) ⟨by decide, by decide⟩ (fun bq85 => ?_) (fun bq85 => ?_)
            · refine go_iload (pc := 110) hF dX11_goes_110 1 rfl ?_
              refine go_bipush (pc := 112) hF dX11_goes_112 (by decide) ?_
              refine go_icmp_ne (pc := 114) hF 142 dX11_goes_114 (by decide) ⟨by decide, by decide⟩ ⟨by decide, by decide⟩ (fun bq114 => ?_) (fun bq114 => ?_)
              · refine go_iload (pc := 142) hF dX11_goes_142 1 rfl ?_
                refine go_bipush (pc := 144) hF dX11_goes_144 (by decide) ?_
                refine go_icmp_ne (pc := 146) hF 173 dX11_goes_146 (by decide) ⟨by decide, by decide⟩ ⟨by decide, by decide⟩ (fun bq146 => ?_) (fun bq146 => ?_)
                · refine go_aload_n (pc := 173) hF dX11_goes_173 5 rfl ?_
                  refine go_aload_n (pc := 174) hF dX11_goes_174 5 rfl ?_
                  refine go_get (pc := 175) hF fl_X11_68 dX11_goes_175 (by omega) zx rfl ?_
                  refine go_iload_n (pc := 178) hF dX11_goes_178 3 rfl ?_
                  refine go_iconst (pc := 179) hF dX11_goes_179 ?_
                  refine go_isub (pc := 180) hF dX11_goes_180 ?_
                  rw [show dl + 1 - 1 = dl by omega]
                  refine go_callVV (pc := 181) hF [vr E 114, vi dl] [] mv_X11_249 dX11_goes_181 (by omega) zx (c_X11_joins_121 E N ρ hN₉ zx w1₉ w3₉ dl (by omega) Y Z₉ B₉ hB₉ hT₉ hl) rfl rfl (Nat.le_of_ble_eq_true rfl) (by decide) ⟨Nat.zero_le _, Nat.zero_le _⟩ (fun s14 h_s14 => ?_)
                  obtain ⟨j_s14, u_s14, hj_s14, hk_s14, f_s14⟩ := h_s14
                  have x_s14 := (f_s14 94 (by omega)).trans zx
                  have nw_s14 := (f_s14 95 (by omega)).trans zn
                  have sn_s14 := (f_s14 98 (by omega)).trans zs
                  have eo_s14 := (f_s14 99 (by omega)).trans ze
                  have took_s14 := (f_s14 112 (by omega)).trans w1₉
                  have next_s14 := (f_s14 113 (by omega)).trans w2₉
                  have firstOf_s14 := (f_s14 115 (by omega)).trans w4₉
                  have rounds_s14 := (f_s14 116 (by omega)).trans w5
                  refine go_aload_n (pc := 184) hF dX11_goes_184 5 rfl ?_
                  refine go_get (pc := 185) hF fl_X11_74 dX11_goes_185 (by omega) x_s14 rfl ?_
                  refine go_iload_n (pc := 188) hF dX11_goes_188 3 rfl ?_
                  refine go_iconst (pc := 189) hF dX11_goes_189 ?_
                  refine go_isub (pc := 190) hF dX11_goes_190 ?_
                  rw [show dl + 1 - 1 = dl by omega]
                  refine go_dup2 (pc := 191) hF dX11_goes_191 rfl rfl ?_
                  refine go_iald (pc := 192) hF dX11_goes_192 (by omega) rounds_s14 (by omega)  ?_
                  refine go_iconst (pc := 193) hF dX11_goes_193 ?_
                  refine go_iadd (pc := 194) hF dX11_goes_194 ?_
                  refine go_iast (pc := 195) hF dX11_goes_195 (by omega) rounds_s14 (by omega) (fun s15 u_s15 f_s15 => ?_)
                  have x_s15 := (f_s15 94 (by omega)).trans x_s14
                  have nw_s15 := (f_s15 95 (by omega)).trans nw_s14
                  have sn_s15 := (f_s15 98 (by omega)).trans sn_s14
                  have eo_s15 := (f_s15 99 (by omega)).trans eo_s14
                  have took_s15 := (f_s15 112 (by omega)).trans took_s14
                  have next_s15 := (f_s15 113 (by omega)).trans next_s14
                  have inOf_s15 := (f_s15 114 (by omega)).trans u_s14
                  have firstOf_s15 := (f_s15 115 (by omega)).trans firstOf_s14
                  refine go_aload_n (pc := 196) hF dX11_goes_196 5 rfl ?_
                  refine go_get (pc := 197) hF fl_X11_74 dX11_goes_197 (by omega) x_s15 rfl ?_
                  refine go_iload_n (pc := 200) hF dX11_goes_200 3 rfl ?_
                  refine go_iconst (pc := 201) hF dX11_goes_201 ?_
                  refine go_isub (pc := 202) hF dX11_goes_202 ?_
                  rw [show dl + 1 - 1 = dl by omega]
                  refine go_iald (pc := 203) hF dX11_goes_203 (by omega) u_s15 (by omega)  ?_
                  rw [up_self]
                  refine go_aload_n (pc := 204) hF dX11_goes_204 5 rfl ?_
                  refine go_get (pc := 205) hF fl_X11_19 dX11_goes_205 (by omega) x_s15 rfl ?_
                  refine go_aload_n (pc := 208) hF dX11_goes_208 5 rfl ?_
                  refine go_get (pc := 209) hF fl_X11_22 dX11_goes_209 (by omega) x_s15 rfl ?_
                  refine go_iload (pc := 212) hF dX11_goes_212 2 rfl ?_
                  refine go_iald (pc := 214) hF dX11_goes_214 (by omega) eo_s15 (by omega)  ?_
                  rw [he]
                  refine go_iald (pc := 215) hF dX11_goes_215 (by omega) sn_s15 (by omega)  ?_
                  rw [hn9]
                  refine go_bipush (pc := 216) hF dX11_goes_216 (by decide) ?_
                  refine go_isub (pc := 218) hF dX11_goes_218 ?_
                  rw [show 48 + (n9 : Int) - 48 = (n9 : Int) by omega]
                  refine go_icmp_ge (pc := 219) hF 236 dX11_goes_219 (by decide) (by omega) (by omega) (fun bq219 => ?_) (fun bq219 => ?_)
                  · refine go_iinc (pc := 236) hF [(3, vi ((dl + 1) + (-1))), (6, vi (oo + 1)), (5, vi 93), (4, vi oo), (2, vi u₉), (0, vr E 94)] dX11_goes_236 3 rfl rfl (by decide) ?_
                    refine go_lvE [(3, vi dl), (6, vi (oo + 1)), (5, vi 93), (4, vi oo), (2, vi u₉), (0, vr E 94)] (by rw [show (dl + 1) + (-1) = dl by omega]) ?_
                    refine go_aload_n (pc := 239) hF dX11_goes_239 5 rfl ?_
                    refine go_aload_n (pc := 240) hF dX11_goes_240 5 rfl ?_
                    refine go_get (pc := 241) hF fl_X11_68 dX11_goes_241 (by omega) x_s15 rfl ?_
                    refine go_iload_n (pc := 244) hF dX11_goes_244 0 rfl ?_
                    refine go_callVV (pc := 245) hF [vr E 114, vi dl] [] mv_X11_246 dX11_goes_245 (by omega) x_s15 (c_X11_bringsTook_121 E N s15 hN₉ x_s15 took_s15 inOf_s15 dl (by omega)) rfl rfl (Nat.le_of_ble_eq_true rfl) (by decide) ⟨Nat.zero_le _, Nat.zero_le _⟩ (fun s16 h_s16 => ?_)
                    obtain ⟨b_s16, u_s16, hb_s16, f_s16⟩ := h_s16
                    have x_s16 := (f_s16 94 (by omega)).trans x_s15
                    have nw_s16 := (f_s16 95 (by omega)).trans nw_s15
                    have sn_s16 := (f_s16 98 (by omega)).trans sn_s15
                    have eo_s16 := (f_s16 99 (by omega)).trans eo_s15
                    have next_s16 := (f_s16 113 (by omega)).trans next_s15
                    have inOf_s16 := (f_s16 114 (by omega)).trans inOf_s15
                    have firstOf_s16 := (f_s16 115 (by omega)).trans firstOf_s15
                    have rounds_s16 := (f_s16 116 (by omega)).trans u_s15
                    refine go_iload (pc := 248) hF dX11_goes_248 1 rfl ?_
                    refine go_istore (pc := 250) hF [(4, vi (oo + 1)), (3, vi dl), (6, vi (oo + 1)), (5, vi 93), (2, vi u₉), (0, vr E 94)] dX11_goes_250 rfl (by decide) ?_
                    refine go_goto (pc := 252) hF 24 dX11_goes_252 (by decide) ?_
                    refine go_lv [(4, vi (oo + 1)), (3, vi dl), (2, vi u₉), (0, vr E 94)] [0, 1, 4, 5] rfl ?_
                    exact hK0 (by omega) _ _ _ ⟨u_s16, ⟨_, next_s16⟩, inOf_s16, firstOf_s16, rounds_s16, (fun jj hjj => by rw [f_s16 jj (by omega), f_s15 jj (by omega), f_s14 jj (by omega), fr₉ jj (by omega)])⟩ (TK₉.ext hj_s14 hb_s16) (fun z₉ z0 => ⟨fun h => ⟨hk_s14 z₉ z0 (Or.inl h), rfl⟩, fun h => up_ne _ _ (by omega)⟩)
                  · refine go_aload_n (pc := 222) hF dX11_goes_222 5 rfl ?_
                    refine go_get (pc := 223) hF fl_X11_22 dX11_goes_223 (by omega) x_s15 rfl ?_
                    refine go_iload (pc := 226) hF dX11_goes_226 2 rfl ?_
                    refine go_iald (pc := 228) hF dX11_goes_228 (by omega) eo_s15 (by omega)  ?_
                    rw [he]
                    refine go_iconst (pc := 229) hF dX11_goes_229 ?_
                    refine go_iadd (pc := 230) hF dX11_goes_230 ?_
                    refine go_istore (pc := 231) hF [(6, vi (o1 + 1)), (5, vi 93), (4, vi oo), (3, vi (dl + 1)), (2, vi u₉), (0, vr E 94)] dX11_goes_231 rfl (by decide) ?_
                    refine go_goto (pc := 233) hF 248 dX11_goes_233 (by decide) ?_
                    refine go_iload (pc := 248) hF dX11_goes_248 0 rfl ?_
                    refine go_istore (pc := 250) hF [(4, vi (o1 + 1)), (6, vi (o1 + 1)), (5, vi 93), (3, vi (dl + 1)), (2, vi u₉), (0, vr E 94)] dX11_goes_250 rfl (by decide) ?_
                    refine go_goto (pc := 252) hF 24 dX11_goes_252 (by decide) ?_
                    refine go_lv [(4, vi (o1 + 1)), (3, vi (dl + 1)), (2, vi u₉), (0, vr E 94)] [0, 3, 4, 5] rfl ?_
                    exact hK1 (by omega) _ _ ⟨took_s15, ⟨_, next_s15⟩, inOf_s15, firstOf_s15, u_s15, (fun jj hjj => by rw [f_s15 jj (by omega), f_s14 jj (by omega), fr₉ jj (by omega)])⟩ hj_s14 (fun z₉ z0 => ⟨fun h => ⟨hk_s14 z₉ z0 (Or.inl h), rfl⟩, fun h => up_ne _ _ (by omega)⟩)
                · exact absurd bq146 (by decide)
              · exact absurd bq114 (by decide)
            · exact absurd bq85 (by decide)
        · exact absurd bq60 (by decide)
  have s_end : ∀ (tk inn fi ro : Int → Int) (ρ : Nat → va_E), gW E s3₉ ρ tk inn fi ro → TK₉ tk (ex₉ u₉ kd pr t₉ (S0₉ r₉)) (cB₉ t₉ : Int) → Go E p e R s m args below meth c Q 7 (0, 0) N ρ [(4, vi (0 + (tLen t₉ : Int))), (3, vi 0), (2, vi u₉), (0, vr E 94)] [] 24 := by
    intro tk inn fi ro ρ hW hT₉
    obtain ⟨w1₉, ⟨nx, w2₉⟩, w3₉, w4₉, w5, fr₉⟩ := hW
    have zx := (fr₉ 94 (by omega)).trans x_s3
    have zn := (fr₉ 95 (by omega)).trans nw_s3
    have zs := (fr₉ 98 (by omega)).trans sn_s3
    have ze := (fr₉ 99 (by omega)).trans eo_s3
    refine go_iload (pc := 24) hF dX11_goes_24 0 rfl ?_
    refine go_aload_n (pc := 26) hF dX11_goes_26 3 rfl ?_
    refine go_get (pc := 27) hF fl_X11_177 dX11_goes_27 (by omega) zx rfl ?_
    refine go_icmp_ge (pc := 30) hF 255 dX11_goes_30 (by decide) (by omega) (by omega) (fun bq30 => ?_) (fun bq30 => ?_)
    · exact go_vretQ hF hr hlk hQ dX11_goes_255 ⟨_, _, _, _, ⟨w1₉, ⟨_, w2₉⟩, w3₉, w4₉, w5, (fun jj hjj => by rw [fr₉ jj (by omega), f_s3 jj (by omega), f_s2 jj (by omega), f_s1 jj (by omega)])⟩, hT₉⟩
    · exact absurd bq30 (by omega)
  refine go_lv [(4, vi 0), (3, vi 0), (2, vi u₉), (0, vr E 94)] [0, 1, 4, 2] rfl ?_
  have hT0 : TK₉ (cmF tk_s2 0 r₉ 0 0) (S0₉ r₉) 0 := (cm_TK0 (Pq := fun c => c = 0) (TK_none htn) hrw.1 ⟨by omega, by omega⟩ rfl rfl (fun c hc₉ => by omega)).iff (fun x₉ c => ⟨fun h => h.elim (fun z₉ => z₉.elim) id, Or.inr⟩)
  exact ge_walk (bo := bo) (E := E) (pr := pr) hu hkd (fun ρ o d₉ => Go E p e R s m args below meth c Q 7 (0, 0) N ρ [(4, vi o), (3, vi d₉), (2, vi u₉), (0, vr E 94)] [] 24) (fun oo dl B₉ S₉ tk inn fi ro ρ hW ho hd₉ hc₉ hv hB₉ hT₉ hK₉ => hc₉.elim (fun hc₉ => s_dot oo dl B₉ S₉ tk inn fi ro ρ hW ho hd₉ hc₉ hv hB₉ hT₉ hK₉) (fun hc₉ => s_look oo dl B₉ S₉ tk inn fi ro ρ hW ho hd₉ hc₉ hv hB₉ hT₉ hK₉)) (fun oo dl B₉ S₉ tk inn fi ro ρ hW ho hd₉ hc₉ hT₉ hK₉ => hc₉.elim (fun hc₉ => s_opA oo dl B₉ S₉ tk inn fi ro ρ hW ho hd₉ hc₉ hT₉ hK₉) (fun hc₉ => s_opB oo dl B₉ S₉ tk inn fi ro ρ hW ho hd₉ hc₉ hT₉ hK₉)) s_bar s_close s_back t₉ hwf 0 0 0 (S0₉ r₉) (cmF tk_s2 0 r₉ 0 0) g121 g122 g123 s3₉ (by omega) (by omega) hMA (fun x₉ c h => by rw [h.1]; exact hrw) ⟨Int.le_refl _, by have q₉ := cB_max hwf hdp3 hl80; omega⟩ ⟨u_s3, ⟨_, next_s3⟩, inOf_s3, firstOf_s3, rounds_s3, fun _ _ => rfl⟩ hT0 (fun tk inn fi ro ρ hW hT₉ _ => s_end tk inn fi ro ρ hW (by rw [Int.zero_add] at hT₉; exact hT₉))
