/-! The reference₉: follows. -/
def chI (ag eg : Int → Int) (dl ch₉ j₉ : Int) : Prop := (ch₉ = 0 ∧ ∀ z₉ : Int, 0 ≤ z₉ → z₉ < j₉ → tgF ag (fun z₉ : Int => eg (12 * dl + z₉)) z₉ = eg (12 * dl + z₉)) ∨ (ch₉ = 1 ∧ ¬ ∀ z₉ : Int, 0 ≤ z₉ → z₉ < j₉ → tgF ag (fun z₉ : Int => eg (12 * dl + z₉)) z₉ = eg (12 * dl + z₉))
theorem chI_01 {ag eg : Int → Int} {dl ch₉ j₉ : Int} (h : chI ag eg dl ch₉ j₉) : 0 ≤ ch₉ ∧ ch₉ ≤ 1 := by rcases h with h | h <;> omega
theorem chI_a {ag eg : Int → Int} {dl ch₉ : Int} {j₉ : Nat} (h : chI ag eg dl ch₉ j₉) (e : ¬ ch₉ = 0) : chI ag eg dl 1 ((j₉ + 1 : Nat) : Int) := Or.inr ⟨rfl, fun q₉ => by
  rcases h with h | h
  · exact e h.1
  · exact h.2 (fun z₉ z0 z1 => q₉ z₉ z0 (by omega))⟩
theorem chI_b {ag eg : Int → Int} {dl : Int} {j₉ : Nat} (e : ¬ tgF ag (fun z₉ : Int => eg (12 * dl + z₉)) j₉ = eg (12 * dl + j₉)) : chI ag eg dl 1 ((j₉ + 1 : Nat) : Int) := Or.inr ⟨rfl, fun q₉ => e (q₉ j₉ (by omega) (by omega))⟩
theorem chI_c {ag eg : Int → Int} {dl ch₉ : Int} {j₉ : Nat} (h : chI ag eg dl ch₉ j₉) (e : ch₉ = 0) (e2₉ : tgF ag (fun z₉ : Int => eg (12 * dl + z₉)) j₉ = eg (12 * dl + j₉)) : chI ag eg dl 0 ((j₉ + 1 : Nat) : Int) := Or.inl ⟨rfl, fun z₉ z0 z1 => by
  rcases h with h | h
  · by_cases q₉ : z₉ = j₉
    · subst q₉; exact e2₉
    · exact h.2 z₉ z0 (by omega)
  · exact absurd e (by omega)⟩
theorem chI_all {ag eg : Int → Int} {dl ch₉ j₉ : Int} (h : chI ag eg dl ch₉ j₉) (e : ch₉ = 0) : ∀ z₉ : Int, 0 ≤ z₉ → z₉ < j₉ → tgF ag (fun z₉ : Int => eg (12 * dl + z₉)) z₉ = eg (12 * dl + z₉) := by
  rcases h with h | h
  · exact h.2
  · exact absurd e (by omega)
theorem chI_no {ag eg : Int → Int} {dl ch₉ j₉ : Int} (h : chI ag eg dl ch₉ j₉) (e : ¬ ch₉ = 0) : ¬ ∀ z₉ : Int, 0 ≤ z₉ → z₉ < j₉ → tgF ag (fun z₉ : Int => eg (12 * dl + z₉)) z₉ = eg (12 * dl + z₉) := by
  rcases h with h | h
  · exact absurd h.1 e
  · exact h.2

set_option maxHeartbeats 4000000 in
set_option maxRecDepth 100000 in
theorem c_X11_follows (E : En) (N : Nat) (σ : Nat → va_E) {un tl rz hi₉ mi ak rt cn : Int} {t₉ : Tr} {nw sn eo bo g112 g113 g114 g115 g116 : Int → Int} (hN₉ : 120 ≤ N) (z101 : σ 94 = mOb E un (tLen t₉ : Int) tl rz hi₉ mi ak rt cn) (z102 : σ 95 = ai E 7 nw) (z105 : σ 98 = ai E 80 sn) (z106 : σ 99 = ai E 80 eo) (z112 : σ 105 = ai E 12 g112) (z113 : σ 106 = ai E 48 g113) (z114 : σ 107 = ai E 48 g114) (z115 : σ 108 = ai E 80 g115) (z116 : σ 109 = ai E 80 g116) (hwf : wf t₉) (hMA : MA₉ sn eo bo t₉ 0) (hl80 : tLen t₉ ≤ 80) (hdp3 : tDep t₉ ≤ 3) (hv : 1 ≤ nw 4 ∧ nw 4 ≤ 3) : CV E M_X11_follows 3 [vr E 94] N σ (fun σ' => ∃ ag eg fg ma my, foW E σ σ' ag eg fg ma my ∧ agOK ag (fa (nw 4) t₉ (A0 (nw 4))) ∧ (lpos t₉ 0).map (fun p => (ma p, my p)) = fRec (nw 4) t₉ (A0 (nw 4))) := by
  refine CT.of2 (own := RX11) (by decide) rfl (Nat.le_of_ble_eq_true rfl) ?_
  intro p e R s m args below meth c Q hF hr hlk hnm hz hR hQ
  have s_dot : ∀ (oo dl : Int) (ag eg fg ma my : Int → Int) (ρ : Nat → va_E), foW E σ ρ ag eg fg ma my → 0 ≤ oo ∧ oo < (tLen t₉ : Int) → 0 ≤ dl ∧ dl ≤ 3 → sn oo = 46 → (Go E p e R s m args below meth c Q 8 (0, 0) N ρ [(2, vi (oo + 1)), (1, vi dl), (0, vr E 94)] [] 30) → Go E p e R s m args below meth c Q 8 (0, 0) N ρ [(2, vi oo), (1, vi dl), (0, vr E 94)] [] 30 := by
    intro oo dl ag eg fg ma my ρ hW ho hd₉ hc₉ hK₉
    obtain ⟨w1₉, w2₉, w3₉, w4₉, w5, fr₉⟩ := hW
    have zx := (fr₉ 94 (by omega)).trans z101
    have zn := (fr₉ 95 (by omega)).trans z102
    have zs := (fr₉ 98 (by omega)).trans z105
    have ze := (fr₉ 99 (by omega)).trans z106
    refine go_iload_n (pc := 30) hF dX11_follows_30 0 rfl ?_
    refine go_aload_n (pc := 31) hF dX11_follows_31 2 rfl ?_
    refine go_get (pc := 32) hF fl_X11_177 dX11_follows_32 (by omega) zx rfl ?_
    refine go_icmp_ge (pc := 35) hF 307 dX11_follows_35 (by decide) (by omega) (by omega) (fun bq35 => ?_) (fun bq35 => ?_)
    · exact absurd bq35 (by omega)
    · refine go_aload_n (pc := 38) hF dX11_follows_38 2 rfl ?_
      refine go_get (pc := 39) hF fl_X11_19 dX11_follows_39 (by omega) zx rfl ?_
      refine go_iload_n (pc := 42) hF dX11_follows_42 0 rfl ?_
      refine go_iald (pc := 43) hF dX11_follows_43 (by omega) zs (by omega)  ?_
      rw [hc₉]
      refine go_istore_n (pc := 44) hF [(3, vi 46), (2, vi oo), (1, vi dl), (0, vr E 94)] dX11_follows_44 rfl (by decide) ?_
      refine go_iload_n (pc := 45) hF dX11_follows_45 1 rfl ?_
      refine go_iconst (pc := 46) hF dX11_follows_46 ?_
      refine go_iadd (pc := 47) hF dX11_follows_47 ?_
      refine go_istore (pc := 48) hF [(4, vi (oo + 1)), (3, vi 46), (2, vi oo), (1, vi dl), (0, vr E 94)] dX11_follows_48 rfl (by decide) ?_
      refine go_iload_n (pc := 50) hF dX11_follows_50 1 rfl ?_
      refine go_callSP (pc := 51) hF [vi 46] [] ms_X11_168 dX11_follows_51 (show CP E M_X11_isLook 2 [vi 46] N ρ 0 from (by have h := c_X11_isLook E N ρ 46 (by omega); rw [bI_f (by omega)] at h; exact h)) rfl rfl (Nat.le_of_ble_eq_true rfl) (by decide) ⟨Nat.zero_le _, Nat.zero_le _⟩ ?_
      refine go_if_eq (pc := 54) hF 65 dX11_follows_54 (by decide) ⟨by decide, by decide⟩ (fun bq54 => ?_) (fun bq54 => ?_)
      · refine go_iload_n (pc := 65) hF dX11_follows_65 1 rfl ?_
        refine go_bipush (pc := 66) hF dX11_follows_66 (by decide) ?_
        refine go_icmp_eq (pc := 68) hF 78 dX11_follows_68 (by decide) ⟨by decide, by decide⟩ ⟨by decide, by decide⟩ (fun bq68 => ?_) (fun bq68 => ?_)
        · exact absurd bq68 (by decide)
        · refine go_iload_n (pc := 71) hF dX11_follows_71 1 rfl ?_
          refine go_callSP (pc := 72) hF [vi 46] [] ms_X11_171 dX11_follows_72 (show CP E M_X11_isFigure 2 [vi 46] N ρ 0 from (by have h := c_X11_isFigure E N ρ 46 (by omega); rw [bI_f (by omega)] at h; exact h)) rfl rfl (Nat.le_of_ble_eq_true rfl) (by decide) ⟨Nat.zero_le _, Nat.zero_le _⟩ ?_
          refine go_if_eq (pc := 75) hF 93 dX11_follows_75 (by decide) ⟨by decide, by decide⟩ (fun bq75 => ?_) (fun bq75 => ?_)
          · refine go_iload_n (pc := 93) hF dX11_follows_93 1 rfl ?_
            refine go_bipush (pc := 94) hF dX11_follows_94 (by decide) ?_
            refine go_icmp_ne (pc := 96) hF 124 dX11_follows_96 (by decide) ⟨by decide, by decide⟩ ⟨by decide, by decide⟩ (fun bq96 => ?_) (fun bq96 => ?_)
            · refine go_iload_n (pc := 124) hF dX11_follows_124 1 rfl ?_
              refine go_bipush (pc := 125) hF dX11_follows_125 (by decide) ?_
              refine go_icmp_ne (pc := 127) hF 183 dX11_follows_127 (by decide) ⟨by decide, by decide⟩ ⟨by decide, by decide⟩ (fun bq127 => ?_) (fun bq127 => ?_)
              · refine go_iload_n (pc := 183) hF dX11_follows_183 1 rfl ?_
                refine go_bipush (pc := 184) hF dX11_follows_184 (by decide) ?_
                refine go_icmp_ne (pc := 186) hF 301 dX11_follows_186 (by decide) ⟨by decide, by decide⟩ ⟨by decide, by decide⟩ (fun bq186 => ?_) (fun bq186 => ?_)
                · refine go_iload (pc := 301) hF dX11_follows_301 0 rfl ?_
                  refine go_istore_n (pc := 303) hF [(2, vi (oo + 1)), (4, vi (oo + 1)), (3, vi 46), (1, vi dl), (0, vr E 94)] dX11_follows_303 rfl (by decide) ?_
                  refine go_goto (pc := 304) hF 30 dX11_follows_304 (by decide) ?_
                  refine go_lv [(2, vi (oo + 1)), (1, vi dl), (0, vr E 94)] [0, 3, 4] rfl ?_
                  exact hK₉
                · exact absurd bq186 (by decide)
              · exact absurd bq127 (by decide)
            · exact absurd bq96 (by decide)
          · exact absurd bq75 (by decide)
      · exact absurd bq54 (by decide)
  have s_look : ∀ (oo dl : Int) (A₉ : AG₉) (ag eg fg ma my : Int → Int) (ρ : Nat → va_E), foW E σ ρ ag eg fg ma my → 0 ≤ oo ∧ oo < (tLen t₉ : Int) → 0 ≤ dl ∧ dl ≤ 3 → 97 ≤ sn oo ∧ sn oo ≤ 102 → rgV (nw 4) A₉ → agOK ag A₉ → (∀ ag' ρ', foW E σ ρ' ag' eg fg (up ma oo (A₉.1 (sn oo - 97))) (up my oo (A₉.2 (sn oo - 97))) → agOK ag' (aLook (nw 4) (sn oo) A₉) → Go E p e R s m args below meth c Q 8 (0, 0) N ρ' [(2, vi (oo + 1)), (1, vi dl), (0, vr E 94)] [] 30) → Go E p e R s m args below meth c Q 8 (0, 0) N ρ [(2, vi oo), (1, vi dl), (0, vr E 94)] [] 30 := by
    intro oo dl A₉ ag eg fg ma my ρ hW ho hd₉ hc₉ hA hag hK₉
    obtain ⟨w1₉, w2₉, w3₉, w4₉, w5, fr₉⟩ := hW
    have zx := (fr₉ 94 (by omega)).trans z101
    have zn := (fr₉ 95 (by omega)).trans z102
    have zs := (fr₉ 98 (by omega)).trans z105
    have ze := (fr₉ 99 (by omega)).trans z106
    refine go_iload_n (pc := 30) hF dX11_follows_30 0 rfl ?_
    refine go_aload_n (pc := 31) hF dX11_follows_31 2 rfl ?_
    refine go_get (pc := 32) hF fl_X11_177 dX11_follows_32 (by omega) zx rfl ?_
    refine go_icmp_ge (pc := 35) hF 307 dX11_follows_35 (by decide) (by omega) (by omega) (fun bq35 => ?_) (fun bq35 => ?_)
    · exact absurd bq35 (by omega)
    · refine go_aload_n (pc := 38) hF dX11_follows_38 2 rfl ?_
      refine go_get (pc := 39) hF fl_X11_19 dX11_follows_39 (by omega) zx rfl ?_
      refine go_iload_n (pc := 42) hF dX11_follows_42 0 rfl ?_
      refine go_iald (pc := 43) hF dX11_follows_43 (by omega) zs (by omega)  ?_
      refine go_istore_n (pc := 44) hF [(3, vi (sn oo)), (2, vi oo), (1, vi dl), (0, vr E 94)] dX11_follows_44 rfl (by decide) ?_
      refine go_iload_n (pc := 45) hF dX11_follows_45 1 rfl ?_
      refine go_iconst (pc := 46) hF dX11_follows_46 ?_
      refine go_iadd (pc := 47) hF dX11_follows_47 ?_
      refine go_istore (pc := 48) hF [(4, vi (oo + 1)), (3, vi (sn oo)), (2, vi oo), (1, vi dl), (0, vr E 94)] dX11_follows_48 rfl (by decide) ?_
      refine go_iload_n (pc := 50) hF dX11_follows_50 1 rfl ?_
      refine go_callSP (pc := 51) hF [vi (sn oo)] [] ms_X11_168 dX11_follows_51 (show CP E M_X11_isLook 2 [vi (sn oo)] N ρ 1 from (by have h := c_X11_isLook E N ρ (sn oo) (by omega); rw [bI_t (by omega)] at h; exact h)) rfl rfl (Nat.le_of_ble_eq_true rfl) (by decide) ⟨Nat.zero_le _, Nat.zero_le _⟩ ?_
      refine go_if_eq (pc := 54) hF 65 dX11_follows_54 (by decide) ⟨by decide, by decide⟩ (fun bq54 => ?_) (fun bq54 => ?_)
      · exact absurd bq54 (by decide)
      · refine go_aload_n (pc := 57) hF dX11_follows_57 4 rfl ?_
        refine go_iload_n (pc := 58) hF dX11_follows_58 2 rfl ?_
        refine go_callVV (pc := 59) hF [vi oo] [] mv_X11_194 dX11_follows_59 (by omega) zx (c_X11_looksAt E N ρ hN₉ zx zn zs w1₉ w4₉ w5 oo (by omega) hc₉ hv hag hA) rfl rfl (Nat.le_of_ble_eq_true rfl) (by decide) ⟨Nat.zero_le _, Nat.zero_le _⟩ (fun s1₉ h_s1 => ?_)
        obtain ⟨ag_s1, u1_s1, ha_s1, u2_s1, u3_s1, f_s1⟩ := h_s1
        have x_s1 := (f_s1 94 (by omega)).trans zx
        have nw_s1 := (f_s1 95 (by omega)).trans zn
        have sn_s1 := (f_s1 98 (by omega)).trans zs
        have eo_s1 := (f_s1 99 (by omega)).trans ze
        have eg_s1 := (f_s1 106 (by omega)).trans w2₉
        have fg_s1 := (f_s1 107 (by omega)).trans w3₉
        refine go_goto (pc := 62) hF 301 dX11_follows_62 (by decide) ?_
        refine go_iload (pc := 301) hF dX11_follows_301 0 rfl ?_
        refine go_istore_n (pc := 303) hF [(2, vi (oo + 1)), (4, vi (oo + 1)), (3, vi (sn oo)), (1, vi dl), (0, vr E 94)] dX11_follows_303 rfl (by decide) ?_
        refine go_goto (pc := 304) hF 30 dX11_follows_304 (by decide) ?_
        refine go_lv [(2, vi (oo + 1)), (1, vi dl), (0, vr E 94)] [0, 3, 4] rfl ?_
        exact hK₉ _ _ ⟨u1_s1, eg_s1, fg_s1, u2_s1, u3_s1, (fun jj hjj => by rw [f_s1 jj (by omega), fr₉ jj (by omega)])⟩ ha_s1
  have s_opA : ∀ (oo dl : Int) (A₉ : AG₉) (ag eg fg ma my : Int → Int) (ρ : Nat → va_E), foW E σ ρ ag eg fg ma my → 0 ≤ oo ∧ oo < (tLen t₉ : Int) → 0 ≤ dl ∧ dl ≤ 2 → sn oo = 40 → agOK ag A₉ → (∀ eg' ρ', foW E σ ρ' ag eg' fg ma my → lvOK eg' dl A₉ → lowE dl eg fg eg' fg → Go E p e R s m args below meth c Q 8 (0, 0) N ρ' [(2, vi (oo + 1)), (1, vi (dl + 1)), (0, vr E 94)] [] 30) → Go E p e R s m args below meth c Q 8 (0, 0) N ρ [(2, vi oo), (1, vi dl), (0, vr E 94)] [] 30 := by
    intro oo dl A₉ ag eg fg ma my ρ hW ho hd₉ hc₉ hag hK₉
    obtain ⟨w1₉, w2₉, w3₉, w4₉, w5, fr₉⟩ := hW
    have zx := (fr₉ 94 (by omega)).trans z101
    have zn := (fr₉ 95 (by omega)).trans z102
    have zs := (fr₉ 98 (by omega)).trans z105
    have ze := (fr₉ 99 (by omega)).trans z106
    refine go_iload_n (pc := 30) hF dX11_follows_30 0 rfl ?_
    refine go_aload_n (pc := 31) hF dX11_follows_31 2 rfl ?_
    refine go_get (pc := 32) hF fl_X11_177 dX11_follows_32 (by omega) zx rfl ?_
    refine go_icmp_ge (pc := 35) hF 307 dX11_follows_35 (by decide) (by omega) (by omega) (fun bq35 => ?_) (fun bq35 => ?_)
    · exact absurd bq35 (by omega)
    · refine go_aload_n (pc := 38) hF dX11_follows_38 2 rfl ?_
      refine go_get (pc := 39) hF fl_X11_19 dX11_follows_39 (by omega) zx rfl ?_
      refine go_iload_n (pc := 42) hF dX11_follows_42 0 rfl ?_
      refine go_iald (pc := 43) hF dX11_follows_43 (by omega) zs (by omega)  ?_
      rw [hc₉]
      refine go_istore_n (pc := 44) hF [(3, vi 40), (2, vi oo), (1, vi dl), (0, vr E 94)] dX11_follows_44 rfl (by decide) ?_
      refine go_iload_n (pc := 45) hF dX11_follows_45 1 rfl ?_
      refine go_iconst (pc := 46) hF dX11_follows_46 ?_
      refine go_iadd (pc := 47) hF dX11_follows_47 ?_
      refine go_istore (pc := 48) hF [(4, vi (oo + 1)), (3, vi 40), (2, vi oo), (1, vi dl), (0, vr E 94)] dX11_follows_48 rfl (by decide) ?_
      refine go_iload_n (pc := 50) hF dX11_follows_50 1 rfl ?_
      refine go_callSP (pc := 51) hF [vi 40] [] ms_X11_168 dX11_follows_51 (show CP E M_X11_isLook 2 [vi 40] N ρ 0 from (by have h := c_X11_isLook E N ρ 40 (by omega); rw [bI_f (by omega)] at h; exact h)) rfl rfl (Nat.le_of_ble_eq_true rfl) (by decide) ⟨Nat.zero_le _, Nat.zero_le _⟩ ?_
      refine go_if_eq (pc := 54) hF 65 dX11_follows_54 (by decide) ⟨by decide, by decide⟩ (fun bq54 => ?_) (fun bq54 => ?_)
      · refine go_iload_n (pc := 65) hF dX11_follows_65 1 rfl ?_
        refine go_bipush (pc := 66) hF dX11_follows_66 (by decide) ?_
        refine go_icmp_eq (pc := 68) hF 78 dX11_follows_68 (by decide) ⟨by decide, by decide⟩ ⟨by decide, by decide⟩ (fun bq68 => ?_) (fun bq68 => ?_)
        · refine go_aload_n (pc := 78) hF dX11_follows_78 4 rfl ?_
          refine go_aload_n (pc := 79) hF dX11_follows_79 4 rfl ?_
          refine go_get (pc := 80) hF fl_X11_44 dX11_follows_80 (by omega) zx rfl ?_
          refine go_iload_n (pc := 83) hF dX11_follows_83 3 rfl ?_
          refine go_callVV (pc := 84) hF [vr E 106, vi dl] [] mv_X11_197 dX11_follows_84 (by omega) zx (c_X11_saves_113 E N ρ hN₉ zx w1₉ w2₉ dl (by omega)) rfl rfl (Nat.le_of_ble_eq_true rfl) (by decide) ⟨Nat.zero_le _, Nat.zero_le _⟩ (fun s2₉ h_s2 => ?_)
          obtain ⟨g_s2, u_s2, h1_s2, h2_s2, f_s2⟩ := h_s2
          have x_s2 := (f_s2 94 (by omega)).trans zx
          have nw_s2 := (f_s2 95 (by omega)).trans zn
          have sn_s2 := (f_s2 98 (by omega)).trans zs
          have eo_s2 := (f_s2 99 (by omega)).trans ze
          have ag_s2 := (f_s2 105 (by omega)).trans w1₉
          have fg_s2 := (f_s2 107 (by omega)).trans w3₉
          have ma_s2 := (f_s2 108 (by omega)).trans w4₉
          have my_s2 := (f_s2 109 (by omega)).trans w5
          refine go_iinc (pc := 87) hF [(1, vi (dl + 1)), (4, vi (oo + 1)), (3, vi 40), (2, vi oo), (0, vr E 94)] dX11_follows_87 3 rfl rfl (by decide) ?_
          refine go_goto (pc := 90) hF 301 dX11_follows_90 (by decide) ?_
          refine go_iload (pc := 301) hF dX11_follows_301 1 rfl ?_
          refine go_istore_n (pc := 303) hF [(2, vi (oo + 1)), (1, vi (dl + 1)), (4, vi (oo + 1)), (3, vi 40), (0, vr E 94)] dX11_follows_303 rfl (by decide) ?_
          refine go_goto (pc := 304) hF 30 dX11_follows_304 (by decide) ?_
          refine go_lv [(2, vi (oo + 1)), (1, vi (dl + 1)), (0, vr E 94)] [0, 1, 4] rfl ?_
          exact hK₉ _ _ ⟨ag_s2, u_s2, fg_s2, ma_s2, my_s2, (fun jj hjj => by rw [f_s2 jj (by omega), fr₉ jj (by omega)])⟩ (fun z₉ z0 z1 => by rw [h1_s2 z₉ z0 (by omega), h1_s2 (6 + z₉) (by omega) (by omega)]; exact hag z₉ z0 z1) (fun z₉ z0 z1 => ⟨h2_s2 z₉ z0 (by omega) (Or.inl z1), rfl⟩)
        · exact absurd bq68 (by decide)
      · exact absurd bq54 (by decide)
  have s_opB : ∀ (oo dl : Int) (A₉ : AG₉) (ag eg fg ma my : Int → Int) (ρ : Nat → va_E), foW E σ ρ ag eg fg ma my → 0 ≤ oo ∧ oo < (tLen t₉ : Int) → 0 ≤ dl ∧ dl ≤ 2 → 49 ≤ sn oo ∧ sn oo ≤ 57 → agOK ag A₉ → (∀ eg' ρ', foW E σ ρ' ag eg' fg ma my → lvOK eg' dl A₉ → lowE dl eg fg eg' fg → Go E p e R s m args below meth c Q 8 (0, 0) N ρ' [(2, vi (oo + 1)), (1, vi (dl + 1)), (0, vr E 94)] [] 30) → Go E p e R s m args below meth c Q 8 (0, 0) N ρ [(2, vi oo), (1, vi dl), (0, vr E 94)] [] 30 := by
    intro oo dl A₉ ag eg fg ma my ρ hW ho hd₉ hc₉ hag hK₉
    obtain ⟨w1₉, w2₉, w3₉, w4₉, w5, fr₉⟩ := hW
    have zx := (fr₉ 94 (by omega)).trans z101
    have zn := (fr₉ 95 (by omega)).trans z102
    have zs := (fr₉ 98 (by omega)).trans z105
    have ze := (fr₉ 99 (by omega)).trans z106
    refine go_iload_n (pc := 30) hF dX11_follows_30 0 rfl ?_
    refine go_aload_n (pc := 31) hF dX11_follows_31 2 rfl ?_
    refine go_get (pc := 32) hF fl_X11_177 dX11_follows_32 (by omega) zx rfl ?_
    refine go_icmp_ge (pc := 35) hF 307 dX11_follows_35 (by decide) (by omega) (by omega) (fun bq35 => ?_) (fun bq35 => ?_)
    · exact absurd bq35 (by omega)
    · refine go_aload_n (pc := 38) hF dX11_follows_38 2 rfl ?_
      refine go_get (pc := 39) hF fl_X11_19 dX11_follows_39 (by omega) zx rfl ?_
      refine go_iload_n (pc := 42) hF dX11_follows_42 0 rfl ?_
      refine go_iald (pc := 43) hF dX11_follows_43 (by omega) zs (by omega)  ?_
      refine go_istore_n (pc := 44) hF [(3, vi (sn oo)), (2, vi oo), (1, vi dl), (0, vr E 94)] dX11_follows_44 rfl (by decide) ?_
      refine go_iload_n (pc := 45) hF dX11_follows_45 1 rfl ?_
      refine go_iconst (pc := 46) hF dX11_follows_46 ?_
      refine go_iadd (pc := 47) hF dX11_follows_47 ?_
      refine go_istore (pc := 48) hF [(4, vi (oo + 1)), (3, vi (sn oo)), (2, vi oo), (1, vi dl), (0, vr E 94)] dX11_follows_48 rfl (by decide) ?_
      refine go_iload_n (pc := 50) hF dX11_follows_50 1 rfl ?_
      refine go_callSP (pc := 51) hF [vi (sn oo)] [] ms_X11_168 dX11_follows_51 (show CP E M_X11_isLook 2 [vi (sn oo)] N ρ 0 from (by have h := c_X11_isLook E N ρ (sn oo) (by omega); rw [bI_f (by omega)] at h; exact h)) rfl rfl (Nat.le_of_ble_eq_true rfl) (by decide) ⟨Nat.zero_le _, Nat.zero_le _⟩ ?_
      refine go_if_eq (pc := 54) hF 65 dX11_follows_54 (by decide) ⟨by decide, by decide⟩ (fun bq54 => ?_) (fun bq54 => ?_)
      · refine go_iload_n (pc := 65) hF dX11_follows_65 1 rfl ?_
        refine go_bipush (pc := 66) hF dX11_follows_66 (by decide) ?_
        refine go_icmp_eq (pc := 68) hF 78 dX11_follows_68 (by decide) (by omega) ⟨by decide, by decide⟩ (fun bq68 => ?_) (fun bq68 => ?_)
        · exact absurd bq68 (by omega)
        · refine go_iload_n (pc := 71) hF dX11_follows_71 1 rfl ?_
          refine go_callSP (pc := 72) hF [vi (sn oo)] [] ms_X11_171 dX11_follows_72 (show CP E M_X11_isFigure 2 [vi (sn oo)] N ρ 1 from (by have h := c_X11_isFigure E N ρ (sn oo) (by omega); rw [bI_t (by omega)] at h; exact h)) rfl rfl (Nat.le_of_ble_eq_true rfl) (by decide) ⟨Nat.zero_le _, Nat.zero_le _⟩ ?_
          refine go_if_eq (pc := 75) hF 93 dX11_follows_75 (by decide) ⟨by decide, by decide⟩ (fun bq75 => ?_) (fun bq75 => ?_)
          · exact absurd bq75 (by decide)
          · refine go_aload_n (pc := 78) hF dX11_follows_78 4 rfl ?_
            refine go_aload_n (pc := 79) hF dX11_follows_79 4 rfl ?_
            refine go_get (pc := 80) hF fl_X11_44 dX11_follows_80 (by omega) zx rfl ?_
            refine go_iload_n (pc := 83) hF dX11_follows_83 3 rfl ?_
            refine go_callVV (pc := 84) hF [vr E 106, vi dl] [] mv_X11_197 dX11_follows_84 (by omega) zx (c_X11_saves_113 E N ρ hN₉ zx w1₉ w2₉ dl (by omega)) rfl rfl (Nat.le_of_ble_eq_true rfl) (by decide) ⟨Nat.zero_le _, Nat.zero_le _⟩ (fun s3₉ h_s3 => ?_)
            obtain ⟨g_s3, u_s3, h1_s3, h2_s3, f_s3⟩ := h_s3
            have x_s3 := (f_s3 94 (by omega)).trans zx
            have nw_s3 := (f_s3 95 (by omega)).trans zn
            have sn_s3 := (f_s3 98 (by omega)).trans zs
            have eo_s3 := (f_s3 99 (by omega)).trans ze
            have ag_s3 := (f_s3 105 (by omega)).trans w1₉
            have fg_s3 := (f_s3 107 (by omega)).trans w3₉
            have ma_s3 := (f_s3 108 (by omega)).trans w4₉
            have my_s3 := (f_s3 109 (by omega)).trans w5
            refine go_iinc (pc := 87) hF [(1, vi (dl + 1)), (4, vi (oo + 1)), (3, vi (sn oo)), (2, vi oo), (0, vr E 94)] dX11_follows_87 3 rfl rfl (by decide) ?_
            refine go_goto (pc := 90) hF 301 dX11_follows_90 (by decide) ?_
            refine go_iload (pc := 301) hF dX11_follows_301 1 rfl ?_
            refine go_istore_n (pc := 303) hF [(2, vi (oo + 1)), (1, vi (dl + 1)), (4, vi (oo + 1)), (3, vi (sn oo)), (0, vr E 94)] dX11_follows_303 rfl (by decide) ?_
            refine go_goto (pc := 304) hF 30 dX11_follows_304 (by decide) ?_
            refine go_lv [(2, vi (oo + 1)), (1, vi (dl + 1)), (0, vr E 94)] [0, 1, 4] rfl ?_
            exact hK₉ _ _ ⟨ag_s3, u_s3, fg_s3, ma_s3, my_s3, (fun jj hjj => by rw [f_s3 jj (by omega), fr₉ jj (by omega)])⟩ (fun z₉ z0 z1 => by rw [h1_s3 z₉ z0 (by omega), h1_s3 (6 + z₉) (by omega) (by omega)]; exact hag z₉ z0 z1) (fun z₉ z0 z1 => ⟨h2_s3 z₉ z0 (by omega) (Or.inl z1), rfl⟩)
      · exact absurd bq54 (by decide)
  have s_bar : ∀ (oo dl : Int) (A₉ B₉ : AG₉) (ag eg fg ma my : Int → Int) (ρ : Nat → va_E), foW E σ ρ ag eg fg ma my → 0 ≤ oo ∧ oo < (tLen t₉ : Int) → 0 ≤ dl ∧ dl ≤ 2 → sn oo = 124 → agOK ag A₉ → lvOK eg dl B₉ → (∀ ag' fg' ρ', foW E σ ρ' ag' eg fg' ma my → lvOK fg' dl A₉ → agOK ag' B₉ → lowE dl eg fg eg fg' → Go E p e R s m args below meth c Q 8 (0, 0) N ρ' [(2, vi (oo + 1)), (1, vi (dl + 1)), (0, vr E 94)] [] 30) → Go E p e R s m args below meth c Q 8 (0, 0) N ρ [(2, vi oo), (1, vi (dl + 1)), (0, vr E 94)] [] 30 := by
    intro oo dl A₉ B₉ ag eg fg ma my ρ hW ho hd₉ hc₉ hag hl hK₉
    obtain ⟨w1₉, w2₉, w3₉, w4₉, w5, fr₉⟩ := hW
    have zx := (fr₉ 94 (by omega)).trans z101
    have zn := (fr₉ 95 (by omega)).trans z102
    have zs := (fr₉ 98 (by omega)).trans z105
    have ze := (fr₉ 99 (by omega)).trans z106
    refine go_iload_n (pc := 30) hF dX11_follows_30 0 rfl ?_
    refine go_aload_n (pc := 31) hF dX11_follows_31 2 rfl ?_
    refine go_get (pc := 32) hF fl_X11_177 dX11_follows_32 (by omega) zx rfl ?_
    refine go_icmp_ge (pc := 35) hF 307 dX11_follows_35 (by decide) (by omega) (by omega) (fun bq35 => ?_) (fun bq35 => ?_)
    · exact absurd bq35 (by omega)
    · refine go_aload_n (pc := 38) hF dX11_follows_38 2 rfl ?_
      refine go_get (pc := 39) hF fl_X11_19 dX11_follows_39 (by omega) zx rfl ?_
      refine go_iload_n (pc := 42) hF dX11_follows_42 0 rfl ?_
      refine go_iald (pc := 43) hF dX11_follows_43 (by omega) zs (by omega)  ?_
      rw [hc₉]
      refine go_istore_n (pc := 44) hF [(3, vi 124), (2, vi oo), (1, vi (dl + 1)), (0, vr E 94)] dX11_follows_44 rfl (by decide) ?_
      refine go_iload_n (pc := 45) hF dX11_follows_45 1 rfl ?_
      refine go_iconst (pc := 46) hF dX11_follows_46 ?_
      refine go_iadd (pc := 47) hF dX11_follows_47 ?_
      refine go_istore (pc := 48) hF [(4, vi (oo + 1)), (3, vi 124), (2, vi oo), (1, vi (dl + 1)), (0, vr E 94)] dX11_follows_48 rfl (by decide) ?_
      refine go_iload_n (pc := 50) hF dX11_follows_50 1 rfl ?_
      refine go_callSP (pc := 51) hF [vi 124] [] ms_X11_168 dX11_follows_51 (show CP E M_X11_isLook 2 [vi 124] N ρ 0 from (by have h := c_X11_isLook E N ρ 124 (by omega); rw [bI_f (by omega)] at h; exact h)) rfl rfl (Nat.le_of_ble_eq_true rfl) (by decide) ⟨Nat.zero_le _, Nat.zero_le _⟩ ?_
      refine go_if_eq (pc := 54) hF 65 dX11_follows_54 (by decide) ⟨by decide, by decide⟩ (fun bq54 => ?_) (fun bq54 => ?_)
      · refine go_iload_n (pc := 65) hF dX11_follows_65 1 rfl ?_
        refine go_bipush (pc := 66) hF dX11_follows_66 (by decide) ?_
        refine go_icmp_eq (pc := 68) hF 78 dX11_follows_68 (by decide) ⟨by decide, by decide⟩ ⟨by decide, by decide⟩ (fun bq68 => ?_) (fun bq68 => ?_)
        · exact absurd bq68 (by decide)
        · refine go_iload_n (pc := 71) hF dX11_follows_71 1 rfl ?_
          refine go_callSP (pc := 72) hF [vi 124] [] ms_X11_171 dX11_follows_72 (show CP E M_X11_isFigure 2 [vi 124] N ρ 0 from (by have h := c_X11_isFigure E N ρ 124 (by omega); rw [bI_f (by omega)] at h; exact h)) rfl rfl (Nat.le_of_ble_eq_true rfl) (by decide) ⟨Nat.zero_le _, Nat.zero_le _⟩ ?_
          refine go_if_eq (pc := 75) hF 93 dX11_follows_75 (by decide) ⟨by decide, by decide⟩ (fun bq75 => ?_) (fun bq75 => ?_)
          · refine go_iload_n (pc := 93) hF dX11_follows_93 1 rfl ?_
            refine go_bipush (pc := 94) hF dX11_follows_94 (by decide) ?_
            refine go_icmp_ne (pc := 96) hF 124 dX11_follows_96 (by decide) ⟨by decide, by decide⟩ ⟨by decide, by decide⟩ (fun bq96 => ?_) (fun bq96 => ?_)
            · exact absurd bq96 (by decide)
            · refine go_aload_n (pc := 99) hF dX11_follows_99 4 rfl ?_
              refine go_aload_n (pc := 100) hF dX11_follows_100 4 rfl ?_
              refine go_get (pc := 101) hF fl_X11_47 dX11_follows_101 (by omega) zx rfl ?_
              refine go_iload_n (pc := 104) hF dX11_follows_104 3 rfl ?_
              refine go_iconst (pc := 105) hF dX11_follows_105 ?_
              refine go_isub (pc := 106) hF dX11_follows_106 ?_
              rw [show dl + 1 - 1 = dl by omega]
              refine go_callVV (pc := 107) hF [vr E 107, vi dl] [] mv_X11_197 dX11_follows_107 (by omega) zx (c_X11_saves_114 E N ρ hN₉ zx w1₉ w3₉ dl (by omega)) rfl rfl (Nat.le_of_ble_eq_true rfl) (by decide) ⟨Nat.zero_le _, Nat.zero_le _⟩ (fun s4₉ h_s4 => ?_)
              obtain ⟨g_s4, u_s4, h1_s4, h2_s4, f_s4⟩ := h_s4
              have x_s4 := (f_s4 94 (by omega)).trans zx
              have nw_s4 := (f_s4 95 (by omega)).trans zn
              have sn_s4 := (f_s4 98 (by omega)).trans zs
              have eo_s4 := (f_s4 99 (by omega)).trans ze
              have ag_s4 := (f_s4 105 (by omega)).trans w1₉
              have eg_s4 := (f_s4 106 (by omega)).trans w2₉
              have ma_s4 := (f_s4 108 (by omega)).trans w4₉
              have my_s4 := (f_s4 109 (by omega)).trans w5
              refine go_aload_n (pc := 110) hF dX11_follows_110 4 rfl ?_
              refine go_aload_n (pc := 111) hF dX11_follows_111 4 rfl ?_
              refine go_get (pc := 112) hF fl_X11_44 dX11_follows_112 (by omega) x_s4 rfl ?_
              refine go_iload_n (pc := 115) hF dX11_follows_115 3 rfl ?_
              refine go_iconst (pc := 116) hF dX11_follows_116 ?_
              refine go_isub (pc := 117) hF dX11_follows_117 ?_
              rw [show dl + 1 - 1 = dl by omega]
              refine go_callVV (pc := 118) hF [vr E 106, vi dl] [] mv_X11_201 dX11_follows_118 (by omega) x_s4 (c_X11_brings E N s4₉ hN₉ x_s4 ag_s4 eg_s4 dl (by omega)) rfl rfl (Nat.le_of_ble_eq_true rfl) (by decide) ⟨Nat.zero_le _, Nat.zero_le _⟩ (fun s5 h_s5 => ?_)
              obtain ⟨b_s5, u_s5, h1_s5, f_s5⟩ := h_s5
              have x_s5 := (f_s5 94 (by omega)).trans x_s4
              have nw_s5 := (f_s5 95 (by omega)).trans nw_s4
              have sn_s5 := (f_s5 98 (by omega)).trans sn_s4
              have eo_s5 := (f_s5 99 (by omega)).trans eo_s4
              have eg_s5 := (f_s5 106 (by omega)).trans eg_s4
              have fg_s5 := (f_s5 107 (by omega)).trans u_s4
              have ma_s5 := (f_s5 108 (by omega)).trans ma_s4
              have my_s5 := (f_s5 109 (by omega)).trans my_s4
              refine go_goto (pc := 121) hF 301 dX11_follows_121 (by decide) ?_
              refine go_iload (pc := 301) hF dX11_follows_301 0 rfl ?_
              refine go_istore_n (pc := 303) hF [(2, vi (oo + 1)), (4, vi (oo + 1)), (3, vi 124), (1, vi (dl + 1)), (0, vr E 94)] dX11_follows_303 rfl (by decide) ?_
              refine go_goto (pc := 304) hF 30 dX11_follows_304 (by decide) ?_
              refine go_lv [(2, vi (oo + 1)), (1, vi (dl + 1)), (0, vr E 94)] [0, 3, 4] rfl ?_
              exact hK₉ _ _ _ ⟨u_s5, eg_s5, fg_s5, ma_s5, my_s5, (fun jj hjj => by rw [f_s5 jj (by omega), f_s4 jj (by omega), fr₉ jj (by omega)])⟩ (fun z₉ z0 z1 => by rw [h1_s4 z₉ z0 (by omega), h1_s4 (6 + z₉) (by omega) (by omega)]; exact hag z₉ z0 z1) (fun z₉ z0 z1 => by rw [h1_s5 z₉ z0 (by omega), h1_s5 (6 + z₉) (by omega) (by omega)]; exact hl z₉ z0 z1) (fun z₉ z0 z1 => ⟨rfl, h2_s4 z₉ z0 (by omega) (Or.inl z1)⟩)
          · exact absurd bq75 (by decide)
      · exact absurd bq54 (by decide)
  have s_close : ∀ (oo dl : Int) (A₉ B₉ : AG₉) (ag eg fg ma my : Int → Int) (ρ : Nat → va_E), foW E σ ρ ag eg fg ma my → 0 ≤ oo ∧ oo < (tLen t₉ : Int) → 0 ≤ dl ∧ dl ≤ 2 → sn oo = 41 → rgV (nw 4) A₉ → rgV (nw 4) B₉ → agOK ag B₉ → lvOK fg dl A₉ → (∀ ag' ρ', foW E σ ρ' ag' eg fg ma my → agOK ag' (aJoin A₉ B₉) → Go E p e R s m args below meth c Q 8 (0, 0) N ρ' [(2, vi (oo + 1)), (1, vi dl), (0, vr E 94)] [] 30) → Go E p e R s m args below meth c Q 8 (0, 0) N ρ [(2, vi oo), (1, vi (dl + 1)), (0, vr E 94)] [] 30 := by
    intro oo dl A₉ B₉ ag eg fg ma my ρ hW ho hd₉ hc₉ hA hB₉ hag hl hK₉
    obtain ⟨w1₉, w2₉, w3₉, w4₉, w5, fr₉⟩ := hW
    have zx := (fr₉ 94 (by omega)).trans z101
    have zn := (fr₉ 95 (by omega)).trans z102
    have zs := (fr₉ 98 (by omega)).trans z105
    have ze := (fr₉ 99 (by omega)).trans z106
    have hrg := hag.rg hB₉
    have hrf := lvOK.rg hl hA
    refine go_iload_n (pc := 30) hF dX11_follows_30 0 rfl ?_
    refine go_aload_n (pc := 31) hF dX11_follows_31 2 rfl ?_
    refine go_get (pc := 32) hF fl_X11_177 dX11_follows_32 (by omega) zx rfl ?_
    refine go_icmp_ge (pc := 35) hF 307 dX11_follows_35 (by decide) (by omega) (by omega) (fun bq35 => ?_) (fun bq35 => ?_)
    · exact absurd bq35 (by omega)
    · refine go_aload_n (pc := 38) hF dX11_follows_38 2 rfl ?_
      refine go_get (pc := 39) hF fl_X11_19 dX11_follows_39 (by omega) zx rfl ?_
      refine go_iload_n (pc := 42) hF dX11_follows_42 0 rfl ?_
      refine go_iald (pc := 43) hF dX11_follows_43 (by omega) zs (by omega)  ?_
      rw [hc₉]
      refine go_istore_n (pc := 44) hF [(3, vi 41), (2, vi oo), (1, vi (dl + 1)), (0, vr E 94)] dX11_follows_44 rfl (by decide) ?_
      refine go_iload_n (pc := 45) hF dX11_follows_45 1 rfl ?_
      refine go_iconst (pc := 46) hF dX11_follows_46 ?_
      refine go_iadd (pc := 47) hF dX11_follows_47 ?_
      refine go_istore (pc := 48) hF [(4, vi (oo + 1)), (3, vi 41), (2, vi oo), (1, vi (dl + 1)), (0, vr E 94)] dX11_follows_48 rfl (by decide) ?_
      refine go_iload_n (pc := 50) hF dX11_follows_50 1 rfl ?_
      refine go_callSP (pc := 51) hF [vi 41] [] ms_X11_168 dX11_follows_51 (show CP E M_X11_isLook 2 [vi 41] N ρ 0 from (by have h := c_X11_isLook E N ρ 41 (by omega); rw [bI_f (by omega)] at h; exact h)) rfl rfl (Nat.le_of_ble_eq_true rfl) (by decide) ⟨Nat.zero_le _, Nat.zero_le _⟩ ?_
      refine go_if_eq (pc := 54) hF 65 dX11_follows_54 (by decide) ⟨by decide, by decide⟩ (fun bq54 => ?_) (fun bq54 => ?_)
      · refine go_iload_n (pc := 65) hF dX11_follows_65 1 rfl ?_
        refine go_bipush (pc := 66) hF dX11_follows_66 (by decide) ?_
        refine go_icmp_eq (pc := 68) hF 78 dX11_follows_68 (by decide) ⟨by decide, by decide⟩ ⟨by decide, by decide⟩ (fun bq68 => ?_) (fun bq68 => ?_)
        · exact absurd bq68 (by decide)
        · refine go_iload_n (pc := 71) hF dX11_follows_71 1 rfl ?_
          refine go_callSP (pc := 72) hF [vi 41] [] ms_X11_171 dX11_follows_72 (show CP E M_X11_isFigure 2 [vi 41] N ρ 0 from (by have h := c_X11_isFigure E N ρ 41 (by omega); rw [bI_f (by omega)] at h; exact h)) rfl rfl (Nat.le_of_ble_eq_true rfl) (by decide) ⟨Nat.zero_le _, Nat.zero_le _⟩ ?_
          refine go_if_eq (pc := 75) hF 93 dX11_follows_75 (by decide) ⟨by decide, by decide⟩ (fun bq75 => ?_) (fun bq75 => ?_)
          · refine go_iload_n (pc := 93) hF dX11_follows_93 1 rfl ?_
            refine go_bipush (pc := 94) hF dX11_follows_94 (by decide) ?_
            refine go_icmp_ne (pc := 96) hF 124 dX11_follows_96 (by decide) ⟨by decide, by decide⟩ ⟨by decide, by decide⟩ (fun bq96 => ?_) (fun bq96 => ?_)
            · refine go_iload_n (pc := 124) hF dX11_follows_124 1 rfl ?_
              refine go_bipush (pc := 125) hF dX11_follows_125 (by decide) ?_
              refine go_icmp_ne (pc := 127) hF 183 dX11_follows_127 (by decide) ⟨by decide, by decide⟩ ⟨by decide, by decide⟩ (fun bq127 => ?_) (fun bq127 => ?_)
              · exact absurd bq127 (by decide)
              · refine go_iinc (pc := 130) hF [(1, vi ((dl + 1) + (-1))), (4, vi (oo + 1)), (3, vi 41), (2, vi oo), (0, vr E 94)] dX11_follows_130 3 rfl rfl (by decide) ?_
                refine go_lvE [(1, vi dl), (4, vi (oo + 1)), (3, vi 41), (2, vi oo), (0, vr E 94)] (by rw [show (dl + 1) + (-1) = dl by omega]) ?_
                refine go_iconst (pc := 133) hF dX11_follows_133 ?_
                refine go_istore (pc := 134) hF [(5, vi 0), (1, vi dl), (4, vi (oo + 1)), (3, vi 41), (2, vi oo), (0, vr E 94)] dX11_follows_134 rfl (by decide) ?_
                have loop₉ : ∀ (n₉ : Nat) (j₉ : Nat) (g₉ : Int → Int) (τ : Nat → va_E), j₉ + n₉ = 14 → (j₉ : Int) ≤ 12 → (∀ z₉ : Int, 0 ≤ z₉ → z₉ < 12 → g₉ z₉ = if z₉ < (j₉ : Int) then tgF ag (fun z₉ : Int => fg (12 * dl + z₉)) z₉ else ag z₉) → τ 105 = ai E 12 g₉ → (∀ jj : Nat, jj ≠ 105 → τ jj = ρ jj) → Go E p e R s m args below meth c Q 8 (0, 0) N τ [(5, vi (j₉ : Int)), (1, vi dl), (4, vi (oo + 1)), (2, vi oo), (0, vr E 94)] [] 136 := by
                  intro n₉
                  induction n₉ with
                  | zero => intro j₉ g₉ τ hfu hj hg c_ag_loop fr_loop; exfalso; omega
                  | succ n₉ ih₉ =>
                    intro j₉ g₉ τ hfu hj hg c_ag_loop fr_loop
                    have x_loop := (fr_loop 94 (by omega)).trans zx
                    have nw_loop := (fr_loop 95 (by omega)).trans zn
                    have sn_loop := (fr_loop 98 (by omega)).trans zs
                    have eo_loop := (fr_loop 99 (by omega)).trans ze
                    have eg_loop := (fr_loop 106 (by omega)).trans w2₉
                    have fg_loop := (fr_loop 107 (by omega)).trans w3₉
                    have ma_loop := (fr_loop 108 (by omega)).trans w4₉
                    have my_loop := (fr_loop 109 (by omega)).trans w5
                    refine go_iload (pc := 136) hF dX11_follows_136 0 rfl ?_
                    refine go_bipush (pc := 138) hF dX11_follows_138 (by decide) ?_
                    refine go_icmp_ge (pc := 140) hF 180 dX11_follows_140 (by decide) (by omega) ⟨by decide, by decide⟩ (fun bq140 => ?_) (fun bq140 => ?_)
                    · refine go_goto (pc := 180) hF 301 dX11_follows_180 (by decide) ?_
                      refine go_iload (pc := 301) hF dX11_follows_301 2 rfl ?_
                      refine go_istore_n (pc := 303) hF [(2, vi (oo + 1)), (5, vi (j₉ : Int)), (1, vi dl), (4, vi (oo + 1)), (0, vr E 94)] dX11_follows_303 rfl (by decide) ?_
                      refine go_goto (pc := 304) hF 30 dX11_follows_304 (by decide) ?_
                      refine go_lv [(2, vi (oo + 1)), (1, vi dl), (0, vr E 94)] [0, 2, 4] rfl ?_
                      have ej : j₉ = 12 := by omega
                      subst ej
                      exact hK₉ _ _ ⟨c_ag_loop, eg_loop, fg_loop, ma_loop, my_loop, (fun jj hjj => by rw [fr_loop jj (by omega), fr₉ jj (by omega)])⟩ (agOK.ext (tg_join hag hl) (fun z₉ z0 z1 => by rw [hg z₉ z0 z1, if_pos (by omega)]))
                    · have gj : g₉ (j₉ : Int) = ag j₉ := by rw [hg j₉ (by omega) (by omega), if_neg (by omega)]
                      have rj := hrg j₉ (by omega) (by omega)
                      have rf := hrf j₉ (by omega) (by omega)
                      refine go_aload_n (pc := 143) hF dX11_follows_143 4 rfl ?_
                      refine go_get (pc := 144) hF fl_X11_41 dX11_follows_144 (by omega) x_loop rfl ?_
                      refine go_iload (pc := 147) hF dX11_follows_147 0 rfl ?_
                      refine go_iload (pc := 149) hF dX11_follows_149 0 rfl ?_
                      refine go_aload_n (pc := 151) hF dX11_follows_151 4 rfl ?_
                      refine go_get (pc := 152) hF fl_X11_41 dX11_follows_152 (by omega) x_loop rfl ?_
                      refine go_iload (pc := 155) hF dX11_follows_155 0 rfl ?_
                      refine go_iald (pc := 157) hF dX11_follows_157 (by omega) c_ag_loop (by omega)  ?_
                      rw [gj]
                      refine go_aload_n (pc := 158) hF dX11_follows_158 4 rfl ?_
                      refine go_get (pc := 159) hF fl_X11_47 dX11_follows_159 (by omega) x_loop rfl ?_
                      refine go_bipush (pc := 162) hF dX11_follows_162 (by decide) ?_
                      refine go_iload_n (pc := 164) hF dX11_follows_164 1 rfl ?_
                      refine go_imul (pc := 165) hF dX11_follows_165 ?_
                      refine go_iload (pc := 166) hF dX11_follows_166 0 rfl ?_
                      refine go_iadd (pc := 168) hF dX11_follows_168 ?_
                      refine go_iald (pc := 169) hF dX11_follows_169 (by omega) fg_loop (by omega)  ?_
                      refine go_callSP (pc := 170) hF [vi (j₉ : Int), vi (ag (j₉ : Int)), vi (fg ((12 * dl) + (j₉ : Int)))] [vi (j₉ : Int), vr E 105] ms_X11_204 dX11_follows_170 (c_X11_together E N τ (j₉ : Int) (ag (j₉ : Int)) (fg ((12 * dl) + (j₉ : Int))) (by omega) (by omega) (by omega)) rfl rfl (Nat.le_of_ble_eq_true rfl) (by decide) ⟨Nat.zero_le _, Nat.zero_le _⟩ ?_
                      refine go_iast (pc := 173) hF dX11_follows_173 (by omega) c_ag_loop (by omega) (fun s6₉ u_s6 f_s6 => ?_)
                      have x_s6 := (f_s6 94 (by omega)).trans x_loop
                      have nw_s6 := (f_s6 95 (by omega)).trans nw_loop
                      have sn_s6 := (f_s6 98 (by omega)).trans sn_loop
                      have eo_s6 := (f_s6 99 (by omega)).trans eo_loop
                      have eg_s6 := (f_s6 106 (by omega)).trans eg_loop
                      have fg_s6 := (f_s6 107 (by omega)).trans fg_loop
                      have ma_s6 := (f_s6 108 (by omega)).trans ma_loop
                      have my_s6 := (f_s6 109 (by omega)).trans my_loop
                      refine go_iinc (pc := 174) hF [(5, vi ((j₉ : Int) + 1)), (1, vi dl), (4, vi (oo + 1)), (2, vi oo), (0, vr E 94)] dX11_follows_174 0 rfl rfl (by decide) ?_
                      refine go_goto (pc := 177) hF 136 dX11_follows_177 (by decide) ?_
                      exact ih₉ (j₉ + 1) _ s6₉ (by omega) (by omega) (map_step hg rfl) u_s6 (fun jj hjj => by rw [f_s6 jj (by omega), fr_loop jj (by omega)])
                refine go_lv [(5, vi 0), (1, vi dl), (4, vi (oo + 1)), (2, vi oo), (0, vr E 94)] [0, 1, 2, 4, 5] rfl ?_
                exact loop₉ 14 0 ag ρ rfl (by omega) (fun z₉ z0 z1 => by rw [if_neg (by omega)]) w1₉ (fun _ _ => rfl)
            · exact absurd bq96 (by decide)
          · exact absurd bq75 (by decide)
      · exact absurd bq54 (by decide)
  have s_back : ∀ (oo dl o1 : Int) (A₉ B₉ : AG₉) (ag eg fg ma my : Int → Int) (ρ : Nat → va_E), foW E σ ρ ag eg fg ma my → 0 ≤ oo ∧ oo < (tLen t₉ : Int) → 0 ≤ dl ∧ dl ≤ 2 → sn oo = 93 → eo oo = o1 → rgV (nw 4) A₉ → rgV (nw 4) B₉ → agOK ag B₉ → lvOK eg dl A₉ → (¬ aSame A₉ B₉ → ∀ ag' eg' ρ', foW E σ ρ' ag' eg' fg ma my → agOK ag' (aJoin A₉ B₉) → lvOK eg' dl (aJoin A₉ B₉) → lowE dl eg fg eg' fg → Go E p e R s m args below meth c Q 8 (0, 0) N ρ' [(2, vi (o1 + 1)), (1, vi (dl + 1)), (0, vr E 94)] [] 30) → (aSame A₉ B₉ → ∀ ag' ρ', foW E σ ρ' ag' eg fg ma my → agOK ag' A₉ → Go E p e R s m args below meth c Q 8 (0, 0) N ρ' [(2, vi (oo + 1)), (1, vi dl), (0, vr E 94)] [] 30) → Go E p e R s m args below meth c Q 8 (0, 0) N ρ [(2, vi oo), (1, vi (dl + 1)), (0, vr E 94)] [] 30 := by
    intro oo dl o1 A₉ B₉ ag eg fg ma my ρ hW ho hd₉ hc₉ he hA hB₉ hag hl hK1 hK2
    obtain ⟨w1₉, w2₉, w3₉, w4₉, w5, fr₉⟩ := hW
    have zx := (fr₉ 94 (by omega)).trans z101
    have zn := (fr₉ 95 (by omega)).trans z102
    have zs := (fr₉ 98 (by omega)).trans z105
    have ze := (fr₉ 99 (by omega)).trans z106
    have hrg := hag.rg hB₉
    have hrf := lvOK.rg hl hA
    refine go_iload_n (pc := 30) hF dX11_follows_30 0 rfl ?_
    refine go_aload_n (pc := 31) hF dX11_follows_31 2 rfl ?_
    refine go_get (pc := 32) hF fl_X11_177 dX11_follows_32 (by omega) zx rfl ?_
    refine go_icmp_ge (pc := 35) hF 307 dX11_follows_35 (by decide) (by omega) (by omega) (fun bq35 => ?_) (fun bq35 => ?_)
    · exact absurd bq35 (by omega)
    · refine go_aload_n (pc := 38) hF dX11_follows_38 2 rfl ?_
      refine go_get (pc := 39) hF fl_X11_19 dX11_follows_39 (by omega) zx rfl ?_
      refine go_iload_n (pc := 42) hF dX11_follows_42 0 rfl ?_
      refine go_iald (pc := 43) hF dX11_follows_43 (by omega) zs (by omega)  ?_
      rw [hc₉]
      refine go_istore_n (pc := 44) hF [(3, vi 93), (2, vi oo), (1, vi (dl + 1)), (0, vr E 94)] dX11_follows_44 rfl (by decide) ?_
      refine go_iload_n (pc := 45) hF dX11_follows_45 1 rfl ?_
      refine go_iconst (pc := 46) hF dX11_follows_46 ?_
      refine go_iadd (pc := 47) hF dX11_follows_47 ?_
      refine go_istore (pc := 48) hF [(4, vi (oo + 1)), (3, vi 93), (2, vi oo), (1, vi (dl + 1)), (0, vr E 94)] dX11_follows_48 rfl (by decide) ?_
      refine go_iload_n (pc := 50) hF dX11_follows_50 1 rfl ?_
      refine go_callSP (pc := 51) hF [vi 93] [] ms_X11_168 dX11_follows_51 (show CP E M_X11_isLook 2 [vi 93] N ρ 0 from (by have h := c_X11_isLook E N ρ 93 (by omega); rw [bI_f (by omega)] at h; exact h)) rfl rfl (Nat.le_of_ble_eq_true rfl) (by decide) ⟨Nat.zero_le _, Nat.zero_le _⟩ ?_
      refine go_if_eq (pc := 54) hF 65 dX11_follows_54 (by decide) ⟨by decide, by decide⟩ (fun bq54 => ?_) (fun bq54 => ?_)
      · refine go_iload_n (pc := 65) hF dX11_follows_65 1 rfl ?_
        refine go_bipush (pc := 66) hF dX11_follows_66 (by decide) ?_
        refine go_icmp_eq (pc := 68) hF 78 dX11_follows_68 (by decide) ⟨by decide, by decide⟩ ⟨by decide, by decide⟩ (fun bq68 => ?_) (fun bq68 => ?_)
        · exact absurd bq68 (by decide)
        · refine go_iload_n (pc := 71) hF dX11_follows_71 1 rfl ?_
          refine go_callSP (pc := 72) hF [vi 93] [] ms_X11_171 dX11_follows_72 (show CP E M_X11_isFigure 2 [vi 93] N ρ 0 from (by have h := c_X11_isFigure E N ρ 93 (by omega); rw [bI_f (by omega)] at h; exact h)) rfl rfl (Nat.le_of_ble_eq_true rfl) (by decide) ⟨Nat.zero_le _, Nat.zero_le _⟩ ?_
          refine go_if_eq (pc := 75) hF 93 dX11_follows_75 (by decide) ⟨by decide, by decide⟩ (fun bq75 => ?_) (fun bq75 => ?_)
          · refine go_iload_n (pc := 93) hF dX11_follows_93 1 rfl ?_
            refine go_bipush (pc := 94) hF dX11_follows_94 (by decide) ?_
            refine go_icmp_ne (pc := 96) hF 124 dX11_follows_96 (by decide) ⟨by decide, by decide⟩ ⟨by decide, by decide⟩ (fun bq96 => ?_) (fun bq96 => ?_)
            · refine go_iload_n (pc := 124) hF dX11_follows_124 1 rfl ?_
              refine go_bipush (pc := 125) hF dX11_follows_125 (by decide) ?_
              refine go_icmp_ne (pc := 127) hF 183 dX11_follows_127 (by decide) ⟨by decide, by decide⟩ ⟨by decide, by decide⟩ (fun bq127 => ?_) (fun bq127 => ?_)
              · refine go_iload_n (pc := 183) hF dX11_follows_183 1 rfl ?_
                refine go_bipush (pc := 184) hF dX11_follows_184 (by decide) ?_
                refine go_icmp_ne (pc := 186) hF 301 dX11_follows_186 (by decide) ⟨by decide, by decide⟩ ⟨by decide, by decide⟩ (fun bq186 => ?_) (fun bq186 => ?_)
                · exact absurd bq186 (by decide)
                · refine go_iconst (pc := 189) hF dX11_follows_189 ?_
                  refine go_istore (pc := 190) hF [(5, vi 0), (4, vi (oo + 1)), (3, vi 93), (2, vi oo), (1, vi (dl + 1)), (0, vr E 94)] dX11_follows_190 rfl (by decide) ?_
                  refine go_iconst (pc := 192) hF dX11_follows_192 ?_
                  refine go_istore (pc := 193) hF [(6, vi 0), (5, vi 0), (4, vi (oo + 1)), (3, vi 93), (2, vi oo), (1, vi (dl + 1)), (0, vr E 94)] dX11_follows_193 rfl (by decide) ?_
                  have loop₉ : ∀ (n₉ : Nat) (j₉ : Nat) (g₉ : Int → Int) (ch₉ : Int) (τ : Nat → va_E), j₉ + n₉ = 14 → (j₉ : Int) ≤ 12 → (∀ z₉ : Int, 0 ≤ z₉ → z₉ < 12 → g₉ z₉ = if z₉ < (j₉ : Int) then tgF ag (fun z₉ : Int => eg (12 * dl + z₉)) z₉ else ag z₉) → chI ag eg dl ch₉ (j₉ : Int) → τ 105 = ai E 12 g₉ → (∀ jj : Nat, jj ≠ 105 → τ jj = ρ jj) → Go E p e R s m args below meth c Q 8 (0, 0) N τ [(6, vi (j₉ : Int)), (5, vi ch₉), (4, vi (oo + 1)), (2, vi oo), (1, vi (dl + 1)), (0, vr E 94)] [] 195 := by
                    intro n₉
                    induction n₉ with
                    | zero => intro j₉ g₉ ch₉ τ hfu hj hg hch c_ag_loop fr_loop; exfalso; omega
                    | succ n₉ ih₉ =>
                      intro j₉ g₉ ch₉ τ hfu hj hg hch c_ag_loop fr_loop
                      have x_loop := (fr_loop 94 (by omega)).trans zx
                      have nw_loop := (fr_loop 95 (by omega)).trans zn
                      have sn_loop := (fr_loop 98 (by omega)).trans zs
                      have eo_loop := (fr_loop 99 (by omega)).trans ze
                      have eg_loop := (fr_loop 106 (by omega)).trans w2₉
                      have fg_loop := (fr_loop 107 (by omega)).trans w3₉
                      have ma_loop := (fr_loop 108 (by omega)).trans w4₉
                      have my_loop := (fr_loop 109 (by omega)).trans w5
                      refine go_iload (pc := 195) hF dX11_follows_195 0 rfl ?_
                      refine go_bipush (pc := 197) hF dX11_follows_197 (by decide) ?_
                      refine go_icmp_ge (pc := 199) hF 269 dX11_follows_199 (by decide) (by omega) ⟨by decide, by decide⟩ (fun bq199 => ?_) (fun bq199 => ?_)
                      · have c01 := chI_01 hch
                        refine go_iload (pc := 269) hF dX11_follows_269 1 rfl ?_
                        refine go_if_eq (pc := 271) hF 298 dX11_follows_271 (by decide) (by omega) (fun bq271 => ?_) (fun bq271 => ?_)
                        · refine go_iinc (pc := 298) hF [(1, vi ((dl + 1) + (-1))), (6, vi (j₉ : Int)), (5, vi ch₉), (4, vi (oo + 1)), (2, vi oo), (0, vr E 94)] dX11_follows_298 4 rfl rfl (by decide) ?_
                          refine go_lvE [(1, vi dl), (6, vi (j₉ : Int)), (5, vi ch₉), (4, vi (oo + 1)), (2, vi oo), (0, vr E 94)] (by rw [show (dl + 1) + (-1) = dl by omega]) ?_
                          refine go_iload (pc := 301) hF dX11_follows_301 3 rfl ?_
                          refine go_istore_n (pc := 303) hF [(2, vi (oo + 1)), (1, vi dl), (6, vi (j₉ : Int)), (5, vi ch₉), (4, vi (oo + 1)), (0, vr E 94)] dX11_follows_303 rfl (by decide) ?_
                          refine go_goto (pc := 304) hF 30 dX11_follows_304 (by decide) ?_
                          refine go_lv [(2, vi (oo + 1)), (1, vi dl), (0, vr E 94)] [0, 1, 5] rfl ?_
                          have ej : j₉ = 12 := by omega
                          subst ej
                          have hall := chI_all hch bq271
                          exact hK2 ((tg_same hag hl).mp (fun z₉ z0 z1 => hall z₉ z0 (by omega))) _ _ ⟨c_ag_loop, eg_loop, fg_loop, ma_loop, my_loop, (fun jj hjj => by rw [fr_loop jj (by omega), fr₉ jj (by omega)])⟩ (fun z₉ z0 z1 => by rw [hg z₉ z0 (by omega), hg (6 + z₉) (by omega) (by omega), if_pos (by omega), if_pos (by omega), hall z₉ z0 (by omega), hall (6 + z₉) (by omega) (by omega)]; exact hl z₉ z0 z1)
                        · refine go_aload_n (pc := 274) hF dX11_follows_274 5 rfl ?_
                          refine go_aload_n (pc := 275) hF dX11_follows_275 5 rfl ?_
                          refine go_get (pc := 276) hF fl_X11_44 dX11_follows_276 (by omega) x_loop rfl ?_
                          refine go_iload_n (pc := 279) hF dX11_follows_279 4 rfl ?_
                          refine go_iconst (pc := 280) hF dX11_follows_280 ?_
                          refine go_isub (pc := 281) hF dX11_follows_281 ?_
                          rw [show dl + 1 - 1 = dl by omega]
                          refine go_callVV (pc := 282) hF [vr E 106, vi dl] [] mv_X11_197 dX11_follows_282 (by omega) x_loop (c_X11_saves_113 E N τ hN₉ x_loop c_ag_loop eg_loop dl (by omega)) rfl rfl (Nat.le_of_ble_eq_true rfl) (by decide) ⟨Nat.zero_le _, Nat.zero_le _⟩ (fun s7 h_s7 => ?_)
                          obtain ⟨g_s7, u_s7, h1_s7, h2_s7, f_s7⟩ := h_s7
                          have x_s7 := (f_s7 94 (by omega)).trans x_loop
                          have nw_s7 := (f_s7 95 (by omega)).trans nw_loop
                          have sn_s7 := (f_s7 98 (by omega)).trans sn_loop
                          have eo_s7 := (f_s7 99 (by omega)).trans eo_loop
                          have ag_s7 := (f_s7 105 (by omega)).trans c_ag_loop
                          have fg_s7 := (f_s7 107 (by omega)).trans fg_loop
                          have ma_s7 := (f_s7 108 (by omega)).trans ma_loop
                          have my_s7 := (f_s7 109 (by omega)).trans my_loop
                          refine go_aload_n (pc := 285) hF dX11_follows_285 5 rfl ?_
                          refine go_get (pc := 286) hF fl_X11_22 dX11_follows_286 (by omega) x_s7 rfl ?_
                          refine go_iload_n (pc := 289) hF dX11_follows_289 3 rfl ?_
                          refine go_iald (pc := 290) hF dX11_follows_290 (by omega) eo_s7 (by omega)  ?_
                          rw [he]
                          refine go_iconst (pc := 291) hF dX11_follows_291 ?_
                          refine go_iadd (pc := 292) hF dX11_follows_292 ?_
                          refine go_istore (pc := 293) hF [(4, vi (o1 + 1)), (6, vi (j₉ : Int)), (5, vi ch₉), (2, vi oo), (1, vi (dl + 1)), (0, vr E 94)] dX11_follows_293 rfl (by decide) ?_
                          refine go_goto (pc := 295) hF 301 dX11_follows_295 (by decide) ?_
                          refine go_iload (pc := 301) hF dX11_follows_301 0 rfl ?_
                          refine go_istore_n (pc := 303) hF [(2, vi (o1 + 1)), (4, vi (o1 + 1)), (6, vi (j₉ : Int)), (5, vi ch₉), (1, vi (dl + 1)), (0, vr E 94)] dX11_follows_303 rfl (by decide) ?_
                          refine go_goto (pc := 304) hF 30 dX11_follows_304 (by decide) ?_
                          refine go_lv [(2, vi (o1 + 1)), (1, vi (dl + 1)), (0, vr E 94)] [0, 4, 5] rfl ?_
                          have ej : j₉ = 12 := by omega
                          subst ej
                          have hj9 : agOK g₉ (aJoin A₉ B₉) := agOK.ext (tg_join hag hl) (fun z₉ z0 z1 => by rw [hg z₉ z0 z1, if_pos (by omega)])
                          exact hK1 (fun hs => chI_no hch bq271 (fun z₉ z0 z1 => (tg_same hag hl).mpr hs z₉ z0 (by omega))) _ _ _ ⟨ag_s7, u_s7, fg_s7, ma_s7, my_s7, (fun jj hjj => by rw [f_s7 jj (by omega), fr_loop jj (by omega), fr₉ jj (by omega)])⟩ hj9 (fun z₉ z0 z1 => by rw [h1_s7 z₉ z0 (by omega), h1_s7 (6 + z₉) (by omega) (by omega)]; exact hj9 z₉ z0 z1) (fun z₉ z0 z1 => ⟨h2_s7 z₉ z0 (by omega) (Or.inl z1), rfl⟩)
                      · have gj : g₉ (j₉ : Int) = ag j₉ := by rw [hg j₉ (by omega) (by omega), if_neg (by omega)]
                        have rj := hrg j₉ (by omega) (by omega)
                        have rf := hrf j₉ (by omega) (by omega)
                        have c01 := chI_01 hch
                        have gV : 0 ≤ (if ((j₉ : Int) < 6 ↔ (eg ((12 * dl) + (j₉ : Int))) < (ag (j₉ : Int))) then (ag (j₉ : Int)) else (eg ((12 * dl) + (j₉ : Int)))) ∧ (if ((j₉ : Int) < 6 ↔ (eg ((12 * dl) + (j₉ : Int))) < (ag (j₉ : Int))) then (ag (j₉ : Int)) else (eg ((12 * dl) + (j₉ : Int)))) ≤ 3 := by split <;> omega
                        refine go_aload_n (pc := 202) hF dX11_follows_202 5 rfl ?_
                        refine go_get (pc := 203) hF fl_X11_44 dX11_follows_203 (by omega) x_loop rfl ?_
                        refine go_bipush (pc := 206) hF dX11_follows_206 (by decide) ?_
                        refine go_iload_n (pc := 208) hF dX11_follows_208 4 rfl ?_
                        refine go_iconst (pc := 209) hF dX11_follows_209 ?_
                        refine go_isub (pc := 210) hF dX11_follows_210 ?_
                        rw [show dl + 1 - 1 = dl by omega]
                        refine go_imul (pc := 211) hF dX11_follows_211 ?_
                        refine go_iload (pc := 212) hF dX11_follows_212 0 rfl ?_
                        refine go_iadd (pc := 214) hF dX11_follows_214 ?_
                        refine go_iald (pc := 215) hF dX11_follows_215 (by omega) eg_loop (by omega)  ?_
                        refine go_istore (pc := 216) hF [(7, vi (eg ((12 * dl) + (j₉ : Int)))), (6, vi (j₉ : Int)), (5, vi ch₉), (4, vi (oo + 1)), (2, vi oo), (1, vi (dl + 1)), (0, vr E 94)] dX11_follows_216 rfl (by decide) ?_
                        refine go_aload_n (pc := 218) hF dX11_follows_218 6 rfl ?_
                        refine go_get (pc := 219) hF fl_X11_41 dX11_follows_219 (by omega) x_loop rfl ?_
                        refine go_iload (pc := 222) hF dX11_follows_222 1 rfl ?_
                        refine go_iload (pc := 224) hF dX11_follows_224 1 rfl ?_
                        refine go_aload_n (pc := 226) hF dX11_follows_226 6 rfl ?_
                        refine go_get (pc := 227) hF fl_X11_41 dX11_follows_227 (by omega) x_loop rfl ?_
                        refine go_iload (pc := 230) hF dX11_follows_230 1 rfl ?_
                        refine go_iald (pc := 232) hF dX11_follows_232 (by omega) c_ag_loop (by omega)  ?_
                        rw [gj]
                        refine go_iload (pc := 233) hF dX11_follows_233 0 rfl ?_
                        refine go_callSP (pc := 235) hF [vi (j₉ : Int), vi (ag (j₉ : Int)), vi (eg ((12 * dl) + (j₉ : Int)))] [vi (j₉ : Int), vr E 105] ms_X11_204 dX11_follows_235 (c_X11_together E N τ (j₉ : Int) (ag (j₉ : Int)) (eg ((12 * dl) + (j₉ : Int))) (by omega) (by omega) (by omega)) rfl rfl (Nat.le_of_ble_eq_true rfl) (by decide) ⟨Nat.zero_le _, Nat.zero_le _⟩ ?_
                        refine go_iast (pc := 238) hF dX11_follows_238 (by omega) c_ag_loop (by omega) (fun s8 u_s8 f_s8 => ?_)
                        have x_s8 := (f_s8 94 (by omega)).trans x_loop
                        have nw_s8 := (f_s8 95 (by omega)).trans nw_loop
                        have sn_s8 := (f_s8 98 (by omega)).trans sn_loop
                        have eo_s8 := (f_s8 99 (by omega)).trans eo_loop
                        have eg_s8 := (f_s8 106 (by omega)).trans eg_loop
                        have fg_s8 := (f_s8 107 (by omega)).trans fg_loop
                        have ma_s8 := (f_s8 108 (by omega)).trans ma_loop
                        have my_s8 := (f_s8 109 (by omega)).trans my_loop
                        refine go_iload (pc := 239) hF dX11_follows_239 2 rfl ?_
                        refine go_if_ne (pc := 241) hF 256 dX11_follows_241 (by decide) (by omega) (fun bq241 => ?_) (fun bq241 => ?_)
                        · refine go_iconst (pc := 256) hF dX11_follows_256 ?_
                          refine go_goto (pc := 257) hF 261 dX11_follows_257 (by decide) ?_
                          refine go_istore (pc := 261) hF [(5, vi 1), (7, vi (eg ((12 * dl) + (j₉ : Int)))), (6, vi (j₉ : Int)), (4, vi (oo + 1)), (2, vi oo), (1, vi (dl + 1)), (0, vr E 94)] dX11_follows_261 rfl (by decide) ?_
                          refine go_iinc (pc := 263) hF [(6, vi ((j₉ : Int) + 1)), (5, vi 1), (7, vi (eg ((12 * dl) + (j₉ : Int)))), (4, vi (oo + 1)), (2, vi oo), (1, vi (dl + 1)), (0, vr E 94)] dX11_follows_263 2 rfl rfl (by decide) ?_
                          refine go_goto (pc := 266) hF 195 dX11_follows_266 (by decide) ?_
                          refine go_lv [(6, vi ((j₉ : Int) + 1)), (5, vi 1), (4, vi (oo + 1)), (2, vi oo), (1, vi (dl + 1)), (0, vr E 94)] [0, 1, 3, 4, 5, 6] rfl ?_
                          exact ih₉ (j₉ + 1) _ 1 s8 (by omega) (by omega) (map_step hg rfl) (chI_a hch bq241) u_s8 (fun jj hjj => by rw [f_s8 jj (by omega), fr_loop jj (by omega)])
                        · refine go_aload_n (pc := 244) hF dX11_follows_244 6 rfl ?_
                          refine go_get (pc := 245) hF fl_X11_41 dX11_follows_245 (by omega) x_s8 rfl ?_
                          refine go_iload (pc := 248) hF dX11_follows_248 1 rfl ?_
                          refine go_iald (pc := 250) hF dX11_follows_250 (by omega) u_s8 (by omega)  ?_
                          rw [up_self]
                          refine go_iload (pc := 251) hF dX11_follows_251 0 rfl ?_
                          refine go_icmp_eq (pc := 253) hF 260 dX11_follows_253 (by decide) (by omega) (by omega) (fun bq253 => ?_) (fun bq253 => ?_)
                          · refine go_iconst (pc := 260) hF dX11_follows_260 ?_
                            refine go_istore (pc := 261) hF [(5, vi 0), (7, vi (eg ((12 * dl) + (j₉ : Int)))), (6, vi (j₉ : Int)), (4, vi (oo + 1)), (2, vi oo), (1, vi (dl + 1)), (0, vr E 94)] dX11_follows_261 rfl (by decide) ?_
                            refine go_iinc (pc := 263) hF [(6, vi ((j₉ : Int) + 1)), (5, vi 0), (7, vi (eg ((12 * dl) + (j₉ : Int)))), (4, vi (oo + 1)), (2, vi oo), (1, vi (dl + 1)), (0, vr E 94)] dX11_follows_263 2 rfl rfl (by decide) ?_
                            refine go_goto (pc := 266) hF 195 dX11_follows_266 (by decide) ?_
                            refine go_lv [(6, vi ((j₉ : Int) + 1)), (5, vi 0), (4, vi (oo + 1)), (2, vi oo), (1, vi (dl + 1)), (0, vr E 94)] [0, 1, 3, 4, 5, 6] rfl ?_
                            exact ih₉ (j₉ + 1) _ 0 s8 (by omega) (by omega) (map_step hg rfl) (chI_c hch bq241 bq253) u_s8 (fun jj hjj => by rw [f_s8 jj (by omega), fr_loop jj (by omega)])
                          · refine go_iconst (pc := 256) hF dX11_follows_256 ?_
                            refine go_goto (pc := 257) hF 261 dX11_follows_257 (by decide) ?_
                            refine go_istore (pc := 261) hF [(5, vi 1), (7, vi (eg ((12 * dl) + (j₉ : Int)))), (6, vi (j₉ : Int)), (4, vi (oo + 1)), (2, vi oo), (1, vi (dl + 1)), (0, vr E 94)] dX11_follows_261 rfl (by decide) ?_
                            refine go_iinc (pc := 263) hF [(6, vi ((j₉ : Int) + 1)), (5, vi 1), (7, vi (eg ((12 * dl) + (j₉ : Int)))), (4, vi (oo + 1)), (2, vi oo), (1, vi (dl + 1)), (0, vr E 94)] dX11_follows_263 2 rfl rfl (by decide) ?_
                            refine go_goto (pc := 266) hF 195 dX11_follows_266 (by decide) ?_
                            refine go_lv [(6, vi ((j₉ : Int) + 1)), (5, vi 1), (4, vi (oo + 1)), (2, vi oo), (1, vi (dl + 1)), (0, vr E 94)] [0, 1, 3, 4, 5, 6] rfl ?_
                            exact ih₉ (j₉ + 1) _ 1 s8 (by omega) (by omega) (map_step hg rfl) (chI_b bq253) u_s8 (fun jj hjj => by rw [f_s8 jj (by omega), fr_loop jj (by omega)])
                  refine go_lv [(6, vi 0), (5, vi 0), (4, vi (oo + 1)), (2, vi oo), (1, vi (dl + 1)), (0, vr E 94)] [0, 1, 2, 4, 5, 6] rfl ?_
                  exact loop₉ 14 0 ag 0 ρ rfl (by omega) (fun z₉ z0 z1 => by rw [if_neg (by omega)]) (Or.inl ⟨rfl, fun z₉ z0 z1 => absurd z1 (by omega)⟩) w1₉ (fun _ _ => rfl)
              · exact absurd bq127 (by decide)
            · exact absurd bq96 (by decide)
          · exact absurd bq75 (by decide)
      · exact absurd bq54 (by decide)
  have s_end : ∀ (ag eg fg ma my : Int → Int) (ρ : Nat → va_E), foW E σ ρ ag eg fg ma my → agOK ag (fa (nw 4) t₉ (A0 (nw 4))) → (lpos t₉ 0).map (fun p => (ma p, my p)) = fRec (nw 4) t₉ (A0 (nw 4)) → Go E p e R s m args below meth c Q 8 (0, 0) N ρ [(2, vi (0 + (tLen t₉ : Int))), (1, vi 0), (0, vr E 94)] [] 30 := by
    intro ag eg fg ma my ρ hW hag hrc
    have hW0 := hW
    obtain ⟨w1₉, w2₉, w3₉, w4₉, w5, fr₉⟩ := hW
    have zx := (fr₉ 94 (by omega)).trans z101
    have zn := (fr₉ 95 (by omega)).trans z102
    have zs := (fr₉ 98 (by omega)).trans z105
    have ze := (fr₉ 99 (by omega)).trans z106
    refine go_iload_n (pc := 30) hF dX11_follows_30 0 rfl ?_
    refine go_aload_n (pc := 31) hF dX11_follows_31 2 rfl ?_
    refine go_get (pc := 32) hF fl_X11_177 dX11_follows_32 (by omega) zx rfl ?_
    refine go_icmp_ge (pc := 35) hF 307 dX11_follows_35 (by decide) (by omega) (by omega) (fun bq35 => ?_) (fun bq35 => ?_)
    · exact go_vretQ hF hr hlk hQ dX11_follows_307 ⟨ag, eg, fg, ma, my, hW0, hag, hrc⟩
    · exact absurd bq35 (by omega)
  refine go_iconst (pc := 0) hF dX11_follows_0 ?_
  refine go_istore_n (pc := 1) hF [(1, vi 0), (0, vr E 94)] dX11_follows_1 rfl (by decide) ?_
  refine go_iconst (pc := 2) hF dX11_follows_2 ?_
  refine go_istore_n (pc := 3) hF [(2, vi 0), (1, vi 0), (0, vr E 94)] dX11_follows_3 rfl (by decide) ?_
  have loop₉ : ∀ (n₉ : Nat) (j₉ : Nat) (g₉ : Int → Int) (τ : Nat → va_E), j₉ + n₉ = 14 → (j₉ : Int) ≤ 12 → (∀ z₉ : Int, 0 ≤ z₉ → z₉ < 12 → g₉ z₉ = if z₉ < (j₉ : Int) then (fun _ : Int => nw 4) z₉ else g112 z₉) → τ 105 = ai E 12 g₉ → (∀ jj : Nat, jj ≠ 105 → τ jj = σ jj) → Go E p e R s m args below meth c Q 8 (0, 0) N τ [(2, vi (j₉ : Int)), (1, vi 0), (0, vr E 94)] [] 4 := by
    intro n₉
    induction n₉ with
    | zero => intro j₉ g₉ τ hfu hj hg c_ag_loop fr_loop; exfalso; omega
    | succ n₉ ih₉ =>
      intro j₉ g₉ τ hfu hj hg c_ag_loop fr_loop
      have x_loop := (fr_loop 94 (by omega)).trans z101
      have nw_loop := (fr_loop 95 (by omega)).trans z102
      have sn_loop := (fr_loop 98 (by omega)).trans z105
      have eo_loop := (fr_loop 99 (by omega)).trans z106
      have eg_loop := (fr_loop 106 (by omega)).trans z113
      have fg_loop := (fr_loop 107 (by omega)).trans z114
      have ma_loop := (fr_loop 108 (by omega)).trans z115
      have my_loop := (fr_loop 109 (by omega)).trans z116
      refine go_iload_n (pc := 4) hF dX11_follows_4 0 rfl ?_
      refine go_bipush (pc := 5) hF dX11_follows_5 (by decide) ?_
      refine go_icmp_ge (pc := 7) hF 28 dX11_follows_7 (by decide) (by omega) ⟨by decide, by decide⟩ (fun bq7 => ?_) (fun bq7 => ?_)
      · refine go_iconst (pc := 28) hF dX11_follows_28 ?_
        refine go_istore_n (pc := 29) hF [(2, vi 0), (1, vi 0), (0, vr E 94)] dX11_follows_29 rfl (by decide) ?_
        have ej : j₉ = 12 := by omega
        subst ej
        refine go_lv [(2, vi 0), (1, vi 0), (0, vr E 94)] [0, 1, 2] rfl ?_
        exact fo_walk (bo := bo) (E := E) hv (fun ρ o d₉ => Go E p e R s m args below meth c Q 8 (0, 0) N ρ [(2, vi o), (1, vi d₉), (0, vr E 94)] [] 30) s_dot s_look (fun oo dl A₉ ag eg fg ma my ρ hW ho hd₉ hc₉ hag hK₉ => hc₉.elim (fun hc₉ => s_opA oo dl A₉ ag eg fg ma my ρ hW ho hd₉ hc₉ hag hK₉) (fun hc₉ => s_opB oo dl A₉ ag eg fg ma my ρ hW ho hd₉ hc₉ hag hK₉)) s_bar s_close s_back t₉ hwf 0 0 (A0 (nw 4)) g₉ g113 g114 g115 g116 τ (by omega) (by omega) hMA (rgV_A0 hv.1) ⟨c_ag_loop, eg_loop, fg_loop, ma_loop, my_loop, (fun jj hjj => by rw [fr_loop jj (by omega)])⟩ (fun z₉ z0 z1 => ⟨by rw [hg z₉ z0 (by omega), if_pos (by omega)]; rfl, by rw [hg (6 + z₉) (by omega) (by omega), if_pos (by omega)]; rfl⟩) (fun ag eg fg ma my ρ hW hag hrc _ _ => s_end ag eg fg ma my ρ hW hag hrc)
      · refine go_aload_n (pc := 10) hF dX11_follows_10 2 rfl ?_
        refine go_get (pc := 11) hF fl_X11_41 dX11_follows_11 (by omega) x_loop rfl ?_
        refine go_iload_n (pc := 14) hF dX11_follows_14 0 rfl ?_
        refine go_aload_n (pc := 15) hF dX11_follows_15 2 rfl ?_
        refine go_get (pc := 16) hF fl_X11_7 dX11_follows_16 (by omega) x_loop rfl ?_
        refine go_iconst (pc := 19) hF dX11_follows_19 ?_
        refine go_iald (pc := 20) hF dX11_follows_20 (by omega) nw_loop (by omega)  ?_
        refine go_iast (pc := 21) hF dX11_follows_21 (by omega) c_ag_loop (by omega) (fun s9 u_s9 f_s9 => ?_)
        have x_s9 := (f_s9 94 (by omega)).trans x_loop
        have nw_s9 := (f_s9 95 (by omega)).trans nw_loop
        have sn_s9 := (f_s9 98 (by omega)).trans sn_loop
        have eo_s9 := (f_s9 99 (by omega)).trans eo_loop
        have eg_s9 := (f_s9 106 (by omega)).trans eg_loop
        have fg_s9 := (f_s9 107 (by omega)).trans fg_loop
        have ma_s9 := (f_s9 108 (by omega)).trans ma_loop
        have my_s9 := (f_s9 109 (by omega)).trans my_loop
        refine go_iinc (pc := 22) hF [(2, vi ((j₉ : Int) + 1)), (1, vi 0), (0, vr E 94)] dX11_follows_22 0 rfl rfl (by decide) ?_
        refine go_goto (pc := 25) hF 4 dX11_follows_25 (by decide) ?_
        exact ih₉ (j₉ + 1) _ s9 (by omega) (by omega) (map_step hg rfl) u_s9 (fun jj hjj => by rw [f_s9 jj (by omega), fr_loop jj (by omega)])
  exact loop₉ 14 0 g112 σ rfl (by omega) (fun z₉ z0 z1 => by rw [if_neg (by omega)]) z112 (fun _ _ => rfl)
