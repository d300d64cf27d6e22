/-! CacheBounds: the last₉ of₉ the calls. -/
set_option maxHeartbeats 4000000 in
set_option maxRecDepth 100000 in
theorem c_X10_sure_ok (E : En) (N : Nat) (σ : Nat → va_E) (r₉ u₉ kd pr : Int) (yr yw yk yp : Int → Int) (hs : Int) (tx : Int → Int) (tl : Int) (t₉ : Tr) (xb xn xf q1₉ q2₉ q3₉ : Int) (hN₉ : 101 ≤ N) (hO : okS r₉ u₉ kd pr yr yw yk yp hs tx tl t₉ xb xn xf q1₉ q2₉ q3₉) (hS₉ : clS E σ r₉ u₉ kd pr yr yw yk yp hs tx tl t₉ xb xn xf q1₉ q2₉ q3₉) (x₉ : Int) (hx : 0 ≤ x₉ ∧ x₉ ≤ 3) : CI E M_X10_sure 16 [vr E 0, vi x₉] N σ (fun y₉ σ' => y₉ = suT t₉ u₉ x₉ (tLks t₉) ∧ clS E σ' r₉ u₉ kd pr yr yw yk yp hs tx tl t₉ xb xn xf q1₉ q2₉ q3₉ ∧ ∀ q₉, 94 ≤ q₉ → σ' q₉ = σ q₉) := by
  refine CT.of2 (own := RX10) (by decide) rfl (Nat.le_of_ble_eq_true rfl) ?_
  intro p e R s m args below meth c Q hF hr hlk hnm hz hR hQ
  obtain ⟨z0, z1, ⟨a1₉, a2, a3, a4, z2⟩, zh, z13₉, zrd, ⟨sg, vl, mt₉, lw, ll, la, sz₉, lk₉, chs, lps, dp, ln, zp, hT₉⟩, zfo, zex, ⟨b1, b2, z99⟩, ⟨d1₉, d2₉, d3₉, d4₉, d5₉, z100⟩⟩ := hS₉
  obtain ⟨⟨hrw, hu, hkd, hpr⟩, hhs, hyy, htl, htx, hxb, hxn, hxf, hq1, hq2, hq3, hwf, hdp3, hl80, hl24⟩ := hO
  have eg := en_rg hrw.1
  obtain ⟨-, -, hpa0, htl9, htk9, hch9, hlp9, hdp9, hln9, ho⟩ := hT₉
  have hT₉ : prT t₉ sg vl mt₉ lw ll la sz₉ lk₉ chs lps dp ln := ⟨hwf, hdp3, hpa0, htl9, htk9, hch9, hlp9, hdp9, hln9, ho⟩
  have hlk0 := ho.2.1
  refine go_iload_n (pc := 0) hF dX10_sure_0 1 rfl ?_
  refine go_iconst (pc := 1) hF dX10_sure_1 ?_
  refine go_iconst (pc := 2) hF dX10_sure_2 ?_
  refine go_callSP (pc := 3) hF [vi x₉, vi 0, vi 3] [] ms_X10_81 dX10_sure_3 (c_X10_isWithin E N σ x₉ 0 3 (by omega) ⟨by decide, by decide⟩ ⟨by decide, by decide⟩) rfl rfl (Nat.le_of_ble_eq_true rfl) (by decide) ⟨Nat.zero_le _, Nat.zero_le _⟩ ?_
  refine go_if_ne (pc := 6) hF 14 dX10_sure_6 (by decide) (bI_rg _) (fun bq6 => ?_) (fun bq6 => ?_)
  · refine go_aload_n (pc := 14) hF dX10_sure_14 0 rfl ?_
    refine go_get (pc := 15) hF fl_X10_51 dX10_sure_15 (by omega) z0 rfl ?_
    refine go_aload_n (pc := 18) hF dX10_sure_18 0 rfl ?_
    refine go_get (pc := 19) hF fl_X10_44 dX10_sure_19 (by omega) z0 rfl ?_
    refine go_aload_n (pc := 22) hF dX10_sure_22 0 rfl ?_
    refine go_get (pc := 23) hF fl_X10_10 dX10_sure_23 (by omega) z0 rfl ?_
    refine go_get (pc := 26) hF fl_X10_93 dX10_sure_26 (by omega) z1 rfl ?_
    obtain ⟨v9, kn9, hv9, hfs9⟩ := id zfo
    refine go_callVV (pc := 29) hF [vr E 23, vi u₉] [] mv_X10_146 dX10_sure_29 (by omega) zfo.cell.choose_spec (c_X3_follow E N σ t₉ sg vl mt₉ lw ll la sz₉ lk₉ chs lps dp ln v9 kn9 u₉ hN₉ zp ho hwf hdp3 hpa0 htl9 htk9 hu hv9 hfs9) rfl rfl (Nat.le_of_ble_eq_true rfl) (by decide) ⟨Nat.zero_le _, Nat.zero_le _⟩ (fun s1₉ h_s1 => ?_)
    obtain ⟨uf_s1, f_s1⟩ := h_s1
    have fo_n : foC E s1₉ t₉ := ⟨u₉, 1, by omega, uf_s1⟩
    obtain ⟨mm, my, hf, hA, hmy, hRR⟩ := fol_use hwf hu uf_s1
    have x_s1 := (f_s1 0 (by omega)).trans z0
    have c_s1 := (f_s1 1 (by omega)).trans z1
    have d_s1 := (f_s1 2 (by omega)).trans z2
    have h_s1 := zh.keep (fun jj h1 h2 => f_s1 jj (by omega))
    have tx_s1 := (f_s1 13 (by omega)).trans z13₉
    have rd_s1 := zrd.keep (fun jj h1 h2 => f_s1 jj (by omega))
    have ex_s1 := zex.keep (fun jj h1 h2 => f_s1 jj (by omega))
    have lr_s1 := (f_s1 92 (by omega)).trans z99
    have dr_s1 := (f_s1 93 (by omega)).trans z100
    have pg_s1 := zp.keep (fun jj h1 h2 => f_s1 jj (by omega))
    refine go_iconst (pc := 32) hF dX10_sure_32 ?_
    refine go_istore_n (pc := 33) hF [(2, vi 0), (0, vr E 0), (1, vi x₉)] dX10_sure_33 rfl (by decide) ?_
    refine go_iconst (pc := 34) hF dX10_sure_34 ?_
    refine go_istore_n (pc := 35) hF [(3, vi 0), (2, vi 0), (0, vr E 0), (1, vi x₉)] dX10_sure_35 rfl (by decide) ?_
    have loop₉ : ∀ (n₉ : Nat) (j₉ : Nat), j₉ + n₉ = 26 → (j₉ : Int) ≤ lk₉ → Go E p e R s m args below meth c Q 5 (0, 0) N s1₉ [(3, vi (j₉ : Int)), (2, vi (suT t₉ u₉ x₉ j₉)), (0, vr E 0), (1, vi x₉)] [] 36 := by
      intro n₉
      induction n₉ with
      | zero => intro j₉ hfu hj; exfalso; omega
      | succ n₉ ih₉ =>
        intro j₉ hfu hj
        refine go_iload_n (pc := 36) hF dX10_sure_36 0 rfl ?_
        refine go_aload_n (pc := 37) hF dX10_sure_37 2 rfl ?_
        refine go_get (pc := 38) hF fl_X10_44 dX10_sure_38 (by omega) x_s1 rfl ?_
        refine go_get (pc := 41) hF fl_X10_140 dX10_sure_41 (by omega) pg_s1.1 rfl ?_
        refine go_icmp_ge (pc := 44) hF 105 dX10_sure_44 (by decide) (by omega) (by omega) (fun bq44 => ?_) (fun bq44 => ?_)
        · refine go_iload_n (pc := 105) hF dX10_sure_105 1 rfl ?_
          have ej : j₉ = tLks t₉ := by omega
          subst ej
          exact go_iretQ hF hr hlk hQ dX10_sure_106 ⟨rfl, ⟨x_s1, c_s1, ⟨_, _, _, _, d_s1⟩, h_s1, tx_s1, rd_s1, ⟨sg, vl, mt₉, lw, ll, la, sz₉, lk₉, chs, lps, dp, ln, pg_s1, hT₉⟩, fo_n, ex_s1, ⟨_, _, lr_s1⟩, ⟨_, _, _, _, _, dr_s1⟩⟩, (fun jj hjj => by rw [f_s1 jj (by omega)])⟩
        · have zs : 0 ≤ soA u₉ mm my j₉ ∧ soA u₉ mm my j₉ ≤ 2 := by unfold soA; repeat (first | omega | split)
          refine go_iload_n (pc := 47) hF dX10_sure_47 3 rfl ?_
          refine go_iconst (pc := 48) hF dX10_sure_48 ?_
          refine go_icmp_ne (pc := 49) hF 67 dX10_sure_49 (by decide) (by omega) ⟨by decide, by decide⟩ (fun bq49 => ?_) (fun bq49 => ?_)
          · refine go_aload_n (pc := 67) hF dX10_sure_67 2 rfl ?_
            refine go_get (pc := 68) hF fl_X10_51 dX10_sure_68 (by omega) x_s1 rfl ?_
            refine go_iload_n (pc := 71) hF dX10_sure_71 0 rfl ?_
            refine go_callVP (pc := 72) hF [vi (j₉ : Int)] [] mv_X10_153 dX10_sure_72 (by omega) hf.1 (c_X3_sortOf E N s1₉ mm my u₉ 1 (j₉ : Int) hN₉ hf (by omega) (hmy _ (by omega) (by omega)).1 (hmy _ (by omega) (by omega)).2 (by omega)) rfl rfl (Nat.le_of_ble_eq_true rfl) (by decide) ⟨Nat.zero_le _, Nat.zero_le _⟩ ?_
            refine go_iload_n (pc := 75) hF dX10_sure_75 3 rfl ?_
            refine go_icmp_ne (pc := 76) hF 83 dX10_sure_76 (by decide) (by omega) (by omega) (fun bq76 => ?_) (fun bq76 => ?_)
            · refine go_iconst (pc := 83) hF dX10_sure_83 ?_
              refine go_istore (pc := 84) hF [(4, vi 0), (3, vi (j₉ : Int)), (2, vi (suT t₉ u₉ x₉ j₉)), (0, vr E 0), (1, vi x₉)] dX10_sure_84 rfl (by decide) ?_
              refine go_iload_n (pc := 86) hF dX10_sure_86 2 rfl ?_
              refine go_iload (pc := 87) hF dX10_sure_87 0 rfl ?_
              refine go_if_eq (pc := 89) hF 96 dX10_sure_89 (by decide) ⟨by decide, by decide⟩ (fun bq89 => ?_) (fun bq89 => ?_)
              · refine go_iconst (pc := 96) hF dX10_sure_96 ?_
                refine go_iadd (pc := 97) hF dX10_sure_97 ?_
                refine go_istore_n (pc := 98) hF [(2, vi ((suT t₉ u₉ x₉ j₉) + 0)), (4, vi 0), (3, vi (j₉ : Int)), (0, vr E 0), (1, vi x₉)] dX10_sure_98 rfl (by decide) ?_
                refine go_lv [(2, vi ((suT t₉ u₉ x₉ j₉) + 0)), (3, vi (j₉ : Int)), (0, vr E 0), (1, vi x₉)] [0, 2, 3, 4] rfl ?_
                have eS : suT t₉ u₉ x₉ (j₉ + 1) = (suT t₉ u₉ x₉ j₉) + 0 := by
                  show suT t₉ u₉ x₉ j₉ + suG t₉ u₉ x₉ j₉ = _
                  have hm₉ := hRR j₉ (by omega) (by omega)
                  have hso : soA u₉ mm my j₉ = soT t₉ u₉ j₉ := by unfold soA soT; rw [hm₉.1, hm₉.2]
                  unfold suG; rw [if_neg (by omega), ← hso, bI_f (by omega)]
                rw [← eS]
                refine go_iinc (pc := 99) hF [(3, vi ((j₉ : Int) + 1)), (2, vi (suT t₉ u₉ x₉ (j₉ + 1))), (0, vr E 0), (1, vi x₉)] dX10_sure_99 1 rfl rfl (by decide) ?_
                refine go_goto (pc := 102) hF 36 dX10_sure_102 (by decide) ?_
                exact ih₉ (j₉ + 1) (by omega) (by omega)
              · exact absurd bq89 (by decide)
            · refine go_iconst (pc := 79) hF dX10_sure_79 ?_
              refine go_goto (pc := 80) hF 84 dX10_sure_80 (by decide) ?_
              refine go_istore (pc := 84) hF [(4, vi 1), (3, vi (j₉ : Int)), (2, vi (suT t₉ u₉ x₉ j₉)), (0, vr E 0), (1, vi x₉)] dX10_sure_84 rfl (by decide) ?_
              refine go_iload_n (pc := 86) hF dX10_sure_86 2 rfl ?_
              refine go_iload (pc := 87) hF dX10_sure_87 0 rfl ?_
              refine go_if_eq (pc := 89) hF 96 dX10_sure_89 (by decide) ⟨by decide, by decide⟩ (fun bq89 => ?_) (fun bq89 => ?_)
              · exact absurd bq89 (by decide)
              · refine go_iconst (pc := 92) hF dX10_sure_92 ?_
                refine go_goto (pc := 93) hF 97 dX10_sure_93 (by decide) ?_
                refine go_iadd (pc := 97) hF dX10_sure_97 ?_
                refine go_istore_n (pc := 98) hF [(2, vi ((suT t₉ u₉ x₉ j₉) + 1)), (4, vi 1), (3, vi (j₉ : Int)), (0, vr E 0), (1, vi x₉)] dX10_sure_98 rfl (by decide) ?_
                refine go_lv [(2, vi ((suT t₉ u₉ x₉ j₉) + 1)), (3, vi (j₉ : Int)), (0, vr E 0), (1, vi x₉)] [0, 2, 3, 4] rfl ?_
                have eS : suT t₉ u₉ x₉ (j₉ + 1) = (suT t₉ u₉ x₉ j₉) + 1 := by
                  show suT t₉ u₉ x₉ j₉ + suG t₉ u₉ x₉ j₉ = _
                  have hm₉ := hRR j₉ (by omega) (by omega)
                  have hso : soA u₉ mm my j₉ = soT t₉ u₉ j₉ := by unfold soA soT; rw [hm₉.1, hm₉.2]
                  unfold suG; rw [if_neg (by omega), ← hso, bI_t (by omega)]
                rw [← eS]
                refine go_iinc (pc := 99) hF [(3, vi ((j₉ : Int) + 1)), (2, vi (suT t₉ u₉ x₉ (j₉ + 1))), (0, vr E 0), (1, vi x₉)] dX10_sure_99 1 rfl rfl (by decide) ?_
                refine go_goto (pc := 102) hF 36 dX10_sure_102 (by decide) ?_
                exact ih₉ (j₉ + 1) (by omega) (by omega)
          · refine go_aload_n (pc := 52) hF dX10_sure_52 2 rfl ?_
            refine go_get (pc := 53) hF fl_X10_51 dX10_sure_53 (by omega) x_s1 rfl ?_
            refine go_aload_n (pc := 56) hF dX10_sure_56 2 rfl ?_
            refine go_get (pc := 57) hF fl_X10_44 dX10_sure_57 (by omega) x_s1 rfl ?_
            refine go_iload_n (pc := 60) hF dX10_sure_60 0 rfl ?_
            refine go_callVP (pc := 61) hF [vr E 23, vi (j₉ : Int)] [] mv_X10_162 dX10_sure_61 (by omega) hf.1 (c_X3_isKept E N s1₉ sg vl mt₉ lw ll la mm my sz₉ lk₉ chs lps dp ln u₉ 1 (j₉ : Int) hN₉ pg_s1 ho hf (by omega) (by omega) (hmy _ (by omega) (by omega)).1 (hmy _ (by omega) (by omega)).2 (by omega)) rfl rfl (Nat.le_of_ble_eq_true rfl) (by decide) ⟨Nat.zero_le _, Nat.zero_le _⟩ ?_
            refine go_goto (pc := 64) hF 84 dX10_sure_64 (by decide) ?_
            refine go_istore (pc := 84) hF [(4, vi (bI (soA u₉ mm my (j₉ : Int) ≠ 1 ∧ la (j₉ : Int) ≠ -1 ∧ gMany lw la sz₉ lk₉ (j₉ : Int) ≤ u₉))), (3, vi (j₉ : Int)), (2, vi (suT t₉ u₉ x₉ j₉)), (0, vr E 0), (1, vi x₉)] dX10_sure_84 rfl (by decide) ?_
            refine go_iload_n (pc := 86) hF dX10_sure_86 2 rfl ?_
            refine go_iload (pc := 87) hF dX10_sure_87 0 rfl ?_
            refine go_if_eq (pc := 89) hF 96 dX10_sure_89 (by decide) (bI_rg _) (fun bq89 => ?_) (fun bq89 => ?_)
            · refine go_iconst (pc := 96) hF dX10_sure_96 ?_
              refine go_iadd (pc := 97) hF dX10_sure_97 ?_
              refine go_istore_n (pc := 98) hF [(2, vi ((suT t₉ u₉ x₉ j₉) + 0)), (4, vi (bI (soA u₉ mm my (j₉ : Int) ≠ 1 ∧ la (j₉ : Int) ≠ -1 ∧ gMany lw la sz₉ lk₉ (j₉ : Int) ≤ u₉))), (3, vi (j₉ : Int)), (0, vr E 0), (1, vi x₉)] dX10_sure_98 rfl (by decide) ?_
              refine go_lv [(2, vi ((suT t₉ u₉ x₉ j₉) + 0)), (3, vi (j₉ : Int)), (0, vr E 0), (1, vi x₉)] [0, 2, 3, 4] rfl ?_
              have eS : suT t₉ u₉ x₉ (j₉ + 1) = (suT t₉ u₉ x₉ j₉) + 0 := by
                show suT t₉ u₉ x₉ j₉ + suG t₉ u₉ x₉ j₉ = _
                have hm₉ := hRR j₉ (by omega) (by omega)
                have hso : soA u₉ mm my j₉ = soT t₉ u₉ j₉ := by unfold soA soT; rw [hm₉.1, hm₉.2]
                have ek := kpT_of hT₉ (k₉ := (j₉ : Int)) (by omega) hm₉
                unfold suG; rw [if_pos (by omega), ← ek, bq89]
              rw [← eS]
              refine go_iinc (pc := 99) hF [(3, vi ((j₉ : Int) + 1)), (2, vi (suT t₉ u₉ x₉ (j₉ + 1))), (0, vr E 0), (1, vi x₉)] dX10_sure_99 1 rfl rfl (by decide) ?_
              refine go_goto (pc := 102) hF 36 dX10_sure_102 (by decide) ?_
              exact ih₉ (j₉ + 1) (by omega) (by omega)
            · refine go_iconst (pc := 92) hF dX10_sure_92 ?_
              refine go_goto (pc := 93) hF 97 dX10_sure_93 (by decide) ?_
              refine go_iadd (pc := 97) hF dX10_sure_97 ?_
              refine go_istore_n (pc := 98) hF [(2, vi ((suT t₉ u₉ x₉ j₉) + 1)), (4, vi (bI (soA u₉ mm my (j₉ : Int) ≠ 1 ∧ la (j₉ : Int) ≠ -1 ∧ gMany lw la sz₉ lk₉ (j₉ : Int) ≤ u₉))), (3, vi (j₉ : Int)), (0, vr E 0), (1, vi x₉)] dX10_sure_98 rfl (by decide) ?_
              refine go_lv [(2, vi ((suT t₉ u₉ x₉ j₉) + 1)), (3, vi (j₉ : Int)), (0, vr E 0), (1, vi x₉)] [0, 2, 3, 4] rfl ?_
              have eS : suT t₉ u₉ x₉ (j₉ + 1) = (suT t₉ u₉ x₉ j₉) + 1 := by
                show suT t₉ u₉ x₉ j₉ + suG t₉ u₉ x₉ j₉ = _
                have hm₉ := hRR j₉ (by omega) (by omega)
                have hso : soA u₉ mm my j₉ = soT t₉ u₉ j₉ := by unfold soA soT; rw [hm₉.1, hm₉.2]
                have ek := kpT_of hT₉ (k₉ := (j₉ : Int)) (by omega) hm₉
                unfold suG; rw [if_pos (by omega), ← ek, bI_t (Decidable.not_not.mp (fun z₉ => bq89 ((bI_0 _).mpr z₉)))]
              rw [← eS]
              refine go_iinc (pc := 99) hF [(3, vi ((j₉ : Int) + 1)), (2, vi (suT t₉ u₉ x₉ (j₉ + 1))), (0, vr E 0), (1, vi x₉)] dX10_sure_99 1 rfl rfl (by decide) ?_
              refine go_goto (pc := 102) hF 36 dX10_sure_102 (by decide) ?_
              exact ih₉ (j₉ + 1) (by omega) (by omega)
    exact loop₉ 26 0 rfl (by omega) 
  · exact absurd ((bI_0 _).mp bq6) (by omega)
set_option maxHeartbeats 4000000 in
set_option maxRecDepth 100000 in
theorem c_X10_runs_ok (E : En) (N : Nat) (σ : Nat → va_E) (r₉ u₉ kd pr : Int) (yr yw yk yp : Int → Int) (hs : Int) (tx : Int → Int) (tl : Int) (t₉ : Tr) (xb xn xf q1₉ q2₉ q3₉ : Int) (hN₉ : 101 ≤ N) (hO : okS r₉ u₉ kd pr yr yw yk yp hs tx tl t₉ xb xn xf q1₉ q2₉ q3₉) (hS₉ : clS E σ r₉ u₉ kd pr yr yw yk yp hs tx tl t₉ xb xn xf q1₉ q2₉ q3₉) (x₉ : Int) (hx : 0 ≤ x₉ ∧ x₉ ≤ 1048575) : CI E M_X10_runs 16 [vr E 0, vi x₉] N σ (fun y₉ σ' => y₉ = (rn u₉ kd pr x₉ t₉ (r₉, 0, 0, 0, 0)).2.1 ∧ clS E σ' ((rn u₉ kd pr x₉ t₉ (r₉, 0, 0, 0, 0)).1) u₉ kd pr (psh yr r₉) (psh yw u₉) (psh yk kd) (psh yp pr) (min (hs + 1) 8) tx tl t₉ xb xn xf (wr₉ (rn u₉ kd pr x₉ t₉ (r₉, 0, 0, 0, 0)).2.2.1) (wr₉ (rn u₉ kd pr x₉ t₉ (r₉, 0, 0, 0, 0)).2.2.2.1) (wr₉ (rn u₉ kd pr x₉ t₉ (r₉, 0, 0, 0, 0)).2.2.2.2) ∧ ∀ q₉, 94 ≤ q₉ → σ' q₉ = σ q₉) := by
  refine CT.of2 (own := RX10) (by decide) rfl (Nat.le_of_ble_eq_true rfl) ?_
  intro p e R s m args below meth c Q hF hr hlk hnm hz hR hQ
  obtain ⟨z0, z1, ⟨a1₉, a2, a3, a4, z2⟩, zh, z13₉, zrd, ⟨sg, vl, mt₉, lw, ll, la, sz₉, lk₉, chs, lps, dp, ln, zp, hT₉⟩, zfo, zex, ⟨b1, b2, z99⟩, ⟨d1₉, d2₉, d3₉, d4₉, d5₉, z100⟩⟩ := hS₉
  obtain ⟨⟨hrw, hu, hkd, hpr⟩, hhs, hyy, htl, htx, hxb, hxn, hxf, hq1, hq2, hq3, hwf, hdp3, hl80, hl24⟩ := hO
  have eg := en_rg hrw.1
  obtain ⟨-, -, hpa0, htl9, htk9, hch9, hlp9, hdp9, hln9, ho⟩ := hT₉
  have hT₉ : prT t₉ sg vl mt₉ lw ll la sz₉ lk₉ chs lps dp ln := ⟨hwf, hdp3, hpa0, htl9, htk9, hch9, hlp9, hdp9, hln9, ho⟩
  refine go_iload_n (pc := 0) hF dX10_runs_0 1 rfl ?_
  refine go_iconst (pc := 1) hF dX10_runs_1 ?_
  refine go_ldc (pc := 2) hF kc_X10_201 dX10_runs_2 ?_
  refine go_callSP (pc := 4) hF [vi x₉, vi 0, vi 1048575] [] ms_X10_81 dX10_runs_4 (c_X10_isWithin E N σ x₉ 0 1048575 (by omega) ⟨by decide, by decide⟩ ⟨by decide, by decide⟩) rfl rfl (Nat.le_of_ble_eq_true rfl) (by decide) ⟨Nat.zero_le _, Nat.zero_le _⟩ ?_
  refine go_if_ne (pc := 7) hF 15 dX10_runs_7 (by decide) (bI_rg _) (fun bq7 => ?_) (fun bq7 => ?_)
  · refine go_aload_n (pc := 15) hF dX10_runs_15 0 rfl ?_
    refine go_get (pc := 16) hF fl_X10_22 dX10_runs_16 (by omega) z0 rfl ?_
    refine go_aload_n (pc := 19) hF dX10_runs_19 0 rfl ?_
    refine go_get (pc := 20) hF fl_X10_10 dX10_runs_20 (by omega) z0 rfl ?_
    refine go_callVV (pc := 23) hF [vr E 1] [] mv_X10_89 dX10_runs_23 (by omega) zh.cell.choose_spec (zh.remember hN₉ hhs z1) rfl rfl (Nat.le_of_ble_eq_true rfl) (by decide) ⟨Nat.zero_le _, Nat.zero_le _⟩ (fun s1₉ h_s1 => ?_)
    obtain ⟨uh_s1, f_s1⟩ := h_s1
    have x_s1 := (f_s1 0 (by omega)).trans z0
    have c_s1 := (f_s1 1 (by omega)).trans z1
    have d_s1 := (f_s1 2 (by omega)).trans z2
    have tx_s1 := (f_s1 13 (by omega)).trans z13₉
    have rd_s1 := zrd.keep (fun jj h1 h2 => f_s1 jj (by omega))
    have fo_s1 := zfo.keep (fun jj h1 h2 => f_s1 jj (by omega))
    have ex_s1 := zex.keep (fun jj h1 h2 => f_s1 jj (by omega))
    have lr_s1 := (f_s1 92 (by omega)).trans z99
    have dr_s1 := (f_s1 93 (by omega)).trans z100
    have pg_s1 := zp.keep (fun jj h1 h2 => f_s1 jj (by omega))
    refine go_aload_n (pc := 26) hF dX10_runs_26 0 rfl ?_
    refine go_get (pc := 27) hF fl_X10_65 dX10_runs_27 (by omega) x_s1 rfl ?_
    refine go_aload_n (pc := 30) hF dX10_runs_30 0 rfl ?_
    refine go_get (pc := 31) hF fl_X10_44 dX10_runs_31 (by omega) x_s1 rfl ?_
    refine go_aload_n (pc := 34) hF dX10_runs_34 0 rfl ?_
    refine go_get (pc := 35) hF fl_X10_10 dX10_runs_35 (by omega) x_s1 rfl ?_
    refine go_iload_n (pc := 38) hF dX10_runs_38 1 rfl ?_
    refine go_callVI (pc := 39) hF [vr E 23, vr E 1, vi x₉] [] mv_X10_202 dX10_runs_39 (by omega) lr_s1 (c_X9_run E N s1₉ 92 1 sg vl mt₉ lw ll la sz₉ lk₉ chs lps dp ln x₉ b1 b2 q1₉ q2₉ q3₉ r₉ u₉ kd pr t₉ hN₉ (by omega) (by omega) (by omega) (by omega) (by omega) pg_s1 ho hwf hdp3 hpa0 htl9 (by omega) (Nat.le_trans (tAsk_max hwf hdp3 hl80) (by decide)) (by omega) hrw hu hkd lr_s1 c_s1) rfl rfl (Nat.le_of_ble_eq_true rfl) (by decide) ⟨Nat.zero_le _, Nat.zero_le _⟩ (fun y_s2 s2₉ h_s2 => ?_)
    obtain ⟨ey_s2, ur_s2, uc_s2, f_s2⟩ := h_s2
    subst ey_s2
    have x_s2 := (f_s2 0 (by omega)).trans x_s1
    have d_s2 := (f_s2 2 (by omega)).trans d_s1
    have h_s2 := uh_s1.keep (fun jj h1 h2 => f_s2 jj (by omega))
    have tx_s2 := (f_s2 13 (by omega)).trans tx_s1
    have rd_s2 := rd_s1.keep (fun jj h1 h2 => f_s2 jj (by omega))
    have fo_s2 := fo_s1.keep (fun jj h1 h2 => f_s2 jj (by omega))
    have ex_s2 := ex_s1.keep (fun jj h1 h2 => f_s2 jj (by omega))
    have dr_s2 := (f_s2 93 (by omega)).trans dr_s1
    have pg_s2 := pg_s1.keep (fun jj h1 h2 => f_s2 jj (by omega))
    exact go_iretQ hF hr hlk hQ dX10_runs_42 ⟨rfl, ⟨x_s2, uc_s2, ⟨_, _, _, _, d_s2⟩, h_s2, tx_s2, rd_s2, ⟨sg, vl, mt₉, lw, ll, la, sz₉, lk₉, chs, lps, dp, ln, pg_s2, hT₉⟩, fo_s2, ex_s2, ⟨x₉, (rn u₉ kd pr x₉ t₉ (r₉, 0, 0, 0, 0)).2.1, by rw [vi_wr, vi_wr, vi_wr]; exact ur_s2⟩, ⟨_, _, _, _, _, dr_s2⟩⟩, (fun jj hjj => by rw [f_s2 jj (by omega), f_s1 jj (by omega)])⟩
  · exact absurd ((bI_0 _).mp bq7) (by omega)
set_option maxHeartbeats 4000000 in
set_option maxRecDepth 100000 in
theorem c_X10_draws_bad (E : En) (N : Nat) (σ : Nat → va_E) (r₉ u₉ kd pr : Int) (yr yw yk yp : Int → Int) (hs : Int) (tx : Int → Int) (tl : Int) (t₉ : Tr) (xb xn xf q1₉ q2₉ q3₉ : Int) (hN₉ : 101 ≤ N) (hO : okS r₉ u₉ kd pr yr yw yk yp hs tx tl t₉ xb xn xf q1₉ q2₉ q3₉) (hS₉ : clS E σ r₉ u₉ kd pr yr yw yk yp hs tx tl t₉ xb xn xf q1₉ q2₉ q3₉) (k9 x₉ : Int) (hk9 : rg k9) (hx : rg x₉) (hno : ¬ ((0 ≤ k9 ∧ k9 ≤ 999999) ∧ 0 ≤ x₉ ∧ x₉ ≤ 20)) : CI E M_X10_draws 16 [vr E 0, vi k9, vi x₉] N σ (fun y₉ σ' => y₉ = (-2) ∧ clS E σ' r₉ u₉ kd pr yr yw yk yp hs tx tl t₉ (wr₉ (xb + 1)) xn xf q1₉ q2₉ q3₉ ∧ ∀ q₉, 94 ≤ q₉ → σ' q₉ = σ q₉) := by
  refine CT.of2 (own := RX10) (by decide) rfl (Nat.le_of_ble_eq_true rfl) ?_
  intro p e R s m args below meth c Q hF hr hlk hnm hz hR hQ
  obtain ⟨z0, z1, ⟨a1₉, a2, a3, a4, z2⟩, zh, z13₉, zrd, ⟨sg, vl, mt₉, lw, ll, la, sz₉, lk₉, chs, lps, dp, ln, zp, hT₉⟩, zfo, zex, ⟨b1, b2, z99⟩, ⟨d1₉, d2₉, d3₉, d4₉, d5₉, z100⟩⟩ := hS₉
  obtain ⟨⟨hrw, hu, hkd, hpr⟩, hhs, hyy, htl, htx, hxb, hxn, hxf, hq1, hq2, hq3, hwf, hdp3, hl80, hl24⟩ := hO
  have eg := en_rg hrw.1
  obtain ⟨-, -, hpa0, htl9, htk9, hch9, hlp9, hdp9, hln9, ho⟩ := hT₉
  have hT₉ : prT t₉ sg vl mt₉ lw ll la sz₉ lk₉ chs lps dp ln := ⟨hwf, hdp3, hpa0, htl9, htk9, hch9, hlp9, hdp9, hln9, ho⟩
  refine go_iload_n (pc := 0) hF dX10_draws_0 1 rfl ?_
  refine go_iconst (pc := 1) hF dX10_draws_1 ?_
  refine go_ldc (pc := 2) hF kc_X10_213 dX10_draws_2 ?_
  refine go_callSP (pc := 4) hF [vi k9, vi 0, vi 999999] [] ms_X10_81 dX10_draws_4 (c_X10_isWithin E N σ k9 0 999999 (by omega) ⟨by decide, by decide⟩ ⟨by decide, by decide⟩) rfl rfl (Nat.le_of_ble_eq_true rfl) (by decide) ⟨Nat.zero_le _, Nat.zero_le _⟩ ?_
  refine go_if_eq (pc := 7) hF 20 dX10_draws_7 (by decide) (bI_rg _) (fun bq7 => ?_) (fun bq7 => ?_)
  · refine go_aload_n (pc := 20) hF dX10_draws_20 0 rfl ?_
    refine go_callVI (pc := 21) hF [] [] mv_X10_85 dX10_draws_21 (by omega) z0 (c_X10_refuseBad E N σ hN₉ z0) rfl rfl (Nat.le_of_ble_eq_true rfl) (by decide) ⟨Nat.zero_le _, Nat.zero_le _⟩ (fun r_s1 s1₉ h_s1 => ?_)
    obtain ⟨e_s1, u0_s1, f_s1⟩ := h_s1
    have c_s1 := (f_s1 1 (by omega)).trans z1
    have d_s1 := (f_s1 2 (by omega)).trans z2
    have h_s1 := zh.keep (fun jj h1 h2 => f_s1 jj (by omega))
    have tx_s1 := (f_s1 13 (by omega)).trans z13₉
    have rd_s1 := zrd.keep (fun jj h1 h2 => f_s1 jj (by omega))
    have fo_s1 := zfo.keep (fun jj h1 h2 => f_s1 jj (by omega))
    have ex_s1 := zex.keep (fun jj h1 h2 => f_s1 jj (by omega))
    have lr_s1 := (f_s1 92 (by omega)).trans z99
    have dr_s1 := (f_s1 93 (by omega)).trans z100
    have pg_s1 := zp.keep (fun jj h1 h2 => f_s1 jj (by omega))
    subst e_s1
    exact go_iretQ hF hr hlk hQ dX10_draws_24 ⟨rfl, ⟨(by rw [vi_wr]; exact u0_s1), c_s1, ⟨_, _, _, _, d_s1⟩, h_s1, tx_s1, rd_s1, ⟨sg, vl, mt₉, lw, ll, la, sz₉, lk₉, chs, lps, dp, ln, pg_s1, hT₉⟩, fo_s1, ex_s1, ⟨_, _, lr_s1⟩, ⟨_, _, _, _, _, dr_s1⟩⟩, (fun jj hjj => by rw [f_s1 jj (by omega)])⟩
  · refine go_iload_n (pc := 10) hF dX10_draws_10 2 rfl ?_
    refine go_iconst (pc := 11) hF dX10_draws_11 ?_
    refine go_bipush (pc := 12) hF dX10_draws_12 (by decide) ?_
    refine go_callSP (pc := 14) hF [vi x₉, vi 0, vi 20] [] ms_X10_81 dX10_draws_14 (c_X10_isWithin E N σ x₉ 0 20 (by omega) ⟨by decide, by decide⟩ ⟨by decide, by decide⟩) rfl rfl (Nat.le_of_ble_eq_true rfl) (by decide) ⟨Nat.zero_le _, Nat.zero_le _⟩ ?_
    refine go_if_ne (pc := 17) hF 25 dX10_draws_17 (by decide) (bI_rg _) (fun bq17 => ?_) (fun bq17 => ?_)
    · exact absurd ⟨Decidable.not_not.mp (fun z₉ => bq7 ((bI_0 _).mpr z₉)), Decidable.not_not.mp (fun z₉ => bq17 ((bI_0 _).mpr z₉))⟩ hno
    · refine go_aload_n (pc := 20) hF dX10_draws_20 0 rfl ?_
      refine go_callVI (pc := 21) hF [] [] mv_X10_85 dX10_draws_21 (by omega) z0 (c_X10_refuseBad E N σ hN₉ z0) rfl rfl (Nat.le_of_ble_eq_true rfl) (by decide) ⟨Nat.zero_le _, Nat.zero_le _⟩ (fun r_s2 s2₉ h_s2 => ?_)
      obtain ⟨e_s2, u0_s2, f_s2⟩ := h_s2
      have c_s2 := (f_s2 1 (by omega)).trans z1
      have d_s2 := (f_s2 2 (by omega)).trans z2
      have h_s2 := zh.keep (fun jj h1 h2 => f_s2 jj (by omega))
      have tx_s2 := (f_s2 13 (by omega)).trans z13₉
      have rd_s2 := zrd.keep (fun jj h1 h2 => f_s2 jj (by omega))
      have fo_s2 := zfo.keep (fun jj h1 h2 => f_s2 jj (by omega))
      have ex_s2 := zex.keep (fun jj h1 h2 => f_s2 jj (by omega))
      have lr_s2 := (f_s2 92 (by omega)).trans z99
      have dr_s2 := (f_s2 93 (by omega)).trans z100
      have pg_s2 := zp.keep (fun jj h1 h2 => f_s2 jj (by omega))
      subst e_s2
      exact go_iretQ hF hr hlk hQ dX10_draws_24 ⟨rfl, ⟨(by rw [vi_wr]; exact u0_s2), c_s2, ⟨_, _, _, _, d_s2⟩, h_s2, tx_s2, rd_s2, ⟨sg, vl, mt₉, lw, ll, la, sz₉, lk₉, chs, lps, dp, ln, pg_s2, hT₉⟩, fo_s2, ex_s2, ⟨_, _, lr_s2⟩, ⟨_, _, _, _, _, dr_s2⟩⟩, (fun jj hjj => by rw [f_s2 jj (by omega)])⟩
set_option maxHeartbeats 4000000 in
set_option maxRecDepth 100000 in
theorem c_X10_draws_ok (E : En) (N : Nat) (σ : Nat → va_E) (r₉ u₉ kd pr : Int) (yr yw yk yp : Int → Int) (hs : Int) (tx : Int → Int) (tl : Int) (t₉ : Tr) (xb xn xf q1₉ q2₉ q3₉ : Int) (hN₉ : 101 ≤ N) (hO : okS r₉ u₉ kd pr yr yw yk yp hs tx tl t₉ xb xn xf q1₉ q2₉ q3₉) (hS₉ : clS E σ r₉ u₉ kd pr yr yw yk yp hs tx tl t₉ xb xn xf q1₉ q2₉ q3₉) (k9 x₉ : Int) (hk9 : 0 ≤ k9 ∧ k9 ≤ 999999) (hx : 0 ≤ x₉ ∧ x₉ ≤ 20) : CI E M_X10_draws 16 [vr E 0, vi k9, vi x₉] N σ (fun y₉ σ' => y₉ = dw t₉ r₉ u₉ kd pr x₉.toNat k9 0 ∧ clS E σ' r₉ u₉ kd pr yr yw yk yp hs tx tl t₉ xb xn xf q1₉ q2₉ q3₉ ∧ ∀ q₉, 94 ≤ q₉ → σ' q₉ = σ q₉) := by
  refine CT.of2 (own := RX10) (by decide) rfl (Nat.le_of_ble_eq_true rfl) ?_
  intro p e R s m args below meth c Q hF hr hlk hnm hz hR hQ
  obtain ⟨z0, z1, ⟨a1₉, a2, a3, a4, z2⟩, zh, z13₉, zrd, ⟨sg, vls, mt₉, lw, ll, la, sz₉, lk₉, chs, lps, dp, ln, zp, hT₉⟩, zfo, zex, ⟨b1, b2, z99⟩, ⟨d1₉, d2₉, d3₉, d4₉, d5₉, z100⟩⟩ := hS₉
  obtain ⟨⟨hrw, hu, hkd, hpr⟩, hhs, hyy, htl, htx, hxb, hxn, hxf, hq1, hq2, hq3, hwf, hdp3, hl80, hl24⟩ := hO
  have eg := en_rg hrw.1
  obtain ⟨-, -, hpa0, htl9, htk9, hch9, hlp9, hdp9, hln9, ho⟩ := hT₉
  have hT₉ : prT t₉ sg vls mt₉ lw ll la sz₉ lk₉ chs lps dp ln := ⟨hwf, hdp3, hpa0, htl9, htk9, hch9, hlp9, hdp9, hln9, ho⟩
  refine go_iload_n (pc := 0) hF dX10_draws_0 1 rfl ?_
  refine go_iconst (pc := 1) hF dX10_draws_1 ?_
  refine go_ldc (pc := 2) hF kc_X10_213 dX10_draws_2 ?_
  refine go_callSP (pc := 4) hF [vi k9, vi 0, vi 999999] [] ms_X10_81 dX10_draws_4 (c_X10_isWithin E N σ k9 0 999999 (by omega) ⟨by decide, by decide⟩ ⟨by decide, by decide⟩) rfl rfl (Nat.le_of_ble_eq_true rfl) (by decide) ⟨Nat.zero_le _, Nat.zero_le _⟩ ?_
  refine go_if_eq (pc := 7) hF 20 dX10_draws_7 (by decide) (bI_rg _) (fun bq7 => ?_) (fun bq7 => ?_)
  · exact absurd ((bI_0 _).mp bq7) (by omega)
  · refine go_iload_n (pc := 10) hF dX10_draws_10 2 rfl ?_
    refine go_iconst (pc := 11) hF dX10_draws_11 ?_
    refine go_bipush (pc := 12) hF dX10_draws_12 (by decide) ?_
    refine go_callSP (pc := 14) hF [vi x₉, vi 0, vi 20] [] ms_X10_81 dX10_draws_14 (c_X10_isWithin E N σ x₉ 0 20 (by omega) ⟨by decide, by decide⟩ ⟨by decide, by decide⟩) rfl rfl (Nat.le_of_ble_eq_true rfl) (by decide) ⟨Nat.zero_le _, Nat.zero_le _⟩ ?_
    refine go_if_ne (pc := 17) hF 25 dX10_draws_17 (by decide) (bI_rg _) (fun bq17 => ?_) (fun bq17 => ?_)
    · refine go_iload_n (pc := 25) hF dX10_draws_25 1 rfl ?_
      refine go_i2l (pc := 26) hF dX10_draws_26 (by omega) ?_
      refine go_lstore_n (pc := 27) hF [(3, vl k9), (0, vr E 0), (1, vi k9), (2, vi x₉)] dX10_draws_27 rfl (by decide) ?_
      refine go_iconst (pc := 28) hF dX10_draws_28 ?_
      refine go_istore (pc := 29) hF [(5, vi 0), (3, vl k9), (0, vr E 0), (1, vi k9), (2, vi x₉)] dX10_draws_29 rfl (by decide) ?_
      refine go_iconst (pc := 31) hF dX10_draws_31 ?_
      refine go_istore (pc := 32) hF [(6, vi 0), (5, vi 0), (3, vl k9), (0, vr E 0), (1, vi k9), (2, vi x₉)] dX10_draws_32 rfl (by decide) ?_
      have loop₉ : ∀ (n₉ : Nat) (j₉ : Nat) (xx : Int) (mo : Int) (e1₉ : Int) (e2₉ : Int) (e3₉ : Int) (e4₉ : Int) (g1 : Int) (g2 : Int) (g3₉ : Int) (g4 : Int) (g5₉ : Int) (τ : Nat → va_E), j₉ + n₉ = 22 → (j₉ : Int) ≤ x₉ → (0 ≤ xx ∧ xx < 2147483648) → rg mo → dw t₉ r₉ u₉ kd pr (x₉.toNat - j₉) xx mo = dw t₉ r₉ u₉ kd pr x₉.toNat k9 0 → τ 2 = ob 1 [vi e1₉, vi e2₉, vi e3₉, vi e4₉] → τ 93 = ob 8 [vi g1, vi g2, vi g3₉, vi g4, vi g5₉] → (∀ jj : Nat, (jj ≠ 2 ∧ jj ≠ 93) → τ jj = σ jj) → Go E p e R s m args below meth c Q 8 (0, 0) N τ [(6, vi (j₉ : Int)), (5, vi mo), (3, vl xx), (0, vr E 0), (1, vi k9), (2, vi x₉)] [] 34 := by
        intro n₉
        induction n₉ with
        | zero => intro j₉ xx mo e1₉ e2₉ e3₉ e4₉ g1 g2 g3₉ g4 g5₉ τ hfu hj hxx hmo hdw c_d_loop c_dr_loop fr_loop; exfalso; omega
        | succ n₉ ih₉ =>
          intro j₉ xx mo e1₉ e2₉ e3₉ e4₉ g1 g2 g3₉ g4 g5₉ τ hfu hj hxx hmo hdw c_d_loop c_dr_loop fr_loop
          have x_loop := (fr_loop 0 (by omega)).trans z0
          have c_loop := (fr_loop 1 (by omega)).trans z1
          have h_loop := zh.keep (fun jj h1 h2 => fr_loop jj (by omega))
          have tx_loop := (fr_loop 13 (by omega)).trans z13₉
          have rd_loop := zrd.keep (fun jj h1 h2 => fr_loop jj (by omega))
          have fo_loop := zfo.keep (fun jj h1 h2 => fr_loop jj (by omega))
          have ex_loop := zex.keep (fun jj h1 h2 => fr_loop jj (by omega))
          have lr_loop := (fr_loop 92 (by omega)).trans z99
          have pg_loop := zp.keep (fun jj h1 h2 => fr_loop jj (by omega))
          refine go_iload (pc := 34) hF dX10_draws_34 0 rfl ?_
          refine go_iload_n (pc := 36) hF dX10_draws_36 5 rfl ?_
          refine go_icmp_ge (pc := 37) hF 107 dX10_draws_37 (by decide) (by omega) (by omega) (fun bq37 => ?_) (fun bq37 => ?_)
          · refine go_iload (pc := 107) hF dX10_draws_107 1 rfl ?_
            have ej : x₉.toNat - j₉ = 0 := by omega
            rw [ej] at hdw
            exact go_iretQ hF hr hlk hQ dX10_draws_109 ⟨hdw, ⟨x_loop, c_loop, ⟨_, _, _, _, c_d_loop⟩, h_loop, tx_loop, rd_loop, ⟨sg, vls, mt₉, lw, ll, la, sz₉, lk₉, chs, lps, dp, ln, pg_loop, hT₉⟩, fo_loop, ex_loop, ⟨_, _, lr_loop⟩, ⟨_, _, _, _, _, c_dr_loop⟩⟩, (fun jj hjj => by rw [fr_loop jj (by omega)])⟩
          · refine go_lload_n (pc := 40) hF dX10_draws_40 2 rfl ?_
            refine go_ldc2 (pc := 41) hF kc_X10_214 dX10_draws_41 ?_
            refine go_lmul (pc := 44) hF dX10_draws_44 ?_
            refine go_ldc2 (pc := 45) hF kc_X10_216 dX10_draws_45 ?_
            refine go_ladd (pc := 48) hF dX10_draws_48 ?_
            refine go_ldc2 (pc := 49) hF kc_X10_218 dX10_draws_49 ?_
            refine go_lrem (pc := 52) hF dX10_draws_52 (by omega) (by decide) ?_
            have eX : (xx * 1103515245 + 12345) % 2147483648 = dwX xx := rfl
            rw [eX]
            have gX : 0 ≤ dwX xx ∧ dwX xx < 2147483648 := by unfold dwX; omega
            refine go_lstore_n (pc := 53) hF [(3, vl (dwX xx)), (6, vi (j₉ : Int)), (5, vi mo), (0, vr E 0), (1, vi k9), (2, vi x₉)] dX10_draws_53 rfl (by decide) ?_
            refine go_lload_n (pc := 54) hF dX10_draws_54 0 rfl ?_
            refine go_ldc2 (pc := 55) hF kc_X10_220 dX10_draws_55 ?_
            refine go_ldiv (pc := 58) hF dX10_draws_58 (by omega) (by decide) ?_
            refine go_ldc2 (pc := 59) hF kc_X10_222 dX10_draws_59 ?_
            refine go_lrem (pc := 62) hF dX10_draws_62 (by omega) (by decide) ?_
            refine go_l2i (pc := 63) hF dX10_draws_63 ?_
            have eC₉ : dwX xx / 1024 % 1048576 = dwC (dwX xx) := rfl
            rw [eC₉]
            have gC : 0 ≤ dwC (dwX xx) ∧ dwC (dwX xx) < 1048576 := by unfold dwC; omega
            refine go_istore (pc := 64) hF [(7, vi (dwC (dwX xx))), (3, vl (dwX xx)), (6, vi (j₉ : Int)), (5, vi mo), (0, vr E 0), (1, vi k9), (2, vi x₉)] dX10_draws_64 rfl (by decide) ?_
            refine go_aload_n (pc := 66) hF dX10_draws_66 4 rfl ?_
            refine go_get (pc := 67) hF fl_X10_16 dX10_draws_67 (by omega) x_loop rfl ?_
            refine go_aload_n (pc := 70) hF dX10_draws_70 4 rfl ?_
            refine go_get (pc := 71) hF fl_X10_10 dX10_draws_71 (by omega) x_loop rfl ?_
            refine go_callVV (pc := 74) hF [vr E 1] [] mv_X10_224 dX10_draws_74 (by omega) c_d_loop (c_X1_setAs E N τ 2 1 e1₉ e2₉ e3₉ e4₉ (en r₉) u₉ kd pr (by omega) (by omega) (by omega) c_d_loop c_loop) rfl rfl (Nat.le_of_ble_eq_true rfl) (by decide) ⟨Nat.zero_le _, Nat.zero_le _⟩ (fun s1₉ h_s1 => ?_)
            obtain ⟨u0_s1, f_s1⟩ := h_s1
            have x_s1 := (f_s1 0 (by omega)).trans x_loop
            have c_s1 := (f_s1 1 (by omega)).trans c_loop
            have h_s1 := h_loop.keep (fun jj h1 h2 => f_s1 jj (by omega))
            have tx_s1 := (f_s1 13 (by omega)).trans tx_loop
            have rd_s1 := rd_loop.keep (fun jj h1 h2 => f_s1 jj (by omega))
            have fo_s1 := fo_loop.keep (fun jj h1 h2 => f_s1 jj (by omega))
            have ex_s1 := ex_loop.keep (fun jj h1 h2 => f_s1 jj (by omega))
            have lr_s1 := (f_s1 92 (by omega)).trans lr_loop
            have dr_s1 := (f_s1 93 (by omega)).trans c_dr_loop
            have pg_s1 := pg_loop.keep (fun jj h1 h2 => f_s1 jj (by omega))
            refine go_iload (pc := 77) hF dX10_draws_77 3 rfl ?_
            refine go_aload_n (pc := 79) hF dX10_draws_79 4 rfl ?_
            refine go_get (pc := 80) hF fl_X10_69 dX10_draws_80 (by omega) x_s1 rfl ?_
            refine go_aload_n (pc := 83) hF dX10_draws_83 4 rfl ?_
            refine go_get (pc := 84) hF fl_X10_44 dX10_draws_84 (by omega) x_s1 rfl ?_
            refine go_aload_n (pc := 87) hF dX10_draws_87 4 rfl ?_
            refine go_get (pc := 88) hF fl_X10_16 dX10_draws_88 (by omega) x_s1 rfl ?_
            refine go_iload (pc := 91) hF dX10_draws_91 0 rfl ?_
            refine go_callVI (pc := 93) hF [vr E 23, vr E 2, vi (dwC (dwX xx))] [vi mo] mv_X10_202 dX10_draws_93 (by omega) dr_s1 (c_X9_run E N s1₉ 93 2 sg vls mt₉ lw ll la sz₉ lk₉ chs lps dp ln (dwC (dwX xx)) g1 g2 g3₉ g4 g5₉ r₉ u₉ kd pr t₉ hN₉ (by omega) (by omega) (by omega) (by omega) (by omega) pg_s1 ho hwf hdp3 hpa0 htl9 (by omega) (Nat.le_trans (tAsk_max hwf hdp3 hl80) (by decide)) (by omega) hrw hu hkd dr_s1 u0_s1) rfl rfl (Nat.le_of_ble_eq_true rfl) (by decide) ⟨Nat.zero_le _, Nat.zero_le _⟩ (fun y_s2 s2₉ h_s2 => ?_)
            obtain ⟨ey_s2, ur_s2, uc_s2, f_s2⟩ := h_s2
            subst ey_s2
            have x_s2 := (f_s2 0 (by omega)).trans x_s1
            have c_s2 := (f_s2 1 (by omega)).trans c_s1
            have h_s2 := h_s1.keep (fun jj h1 h2 => f_s2 jj (by omega))
            have tx_s2 := (f_s2 13 (by omega)).trans tx_s1
            have rd_s2 := rd_s1.keep (fun jj h1 h2 => f_s2 jj (by omega))
            have fo_s2 := fo_s1.keep (fun jj h1 h2 => f_s2 jj (by omega))
            have ex_s2 := ex_s1.keep (fun jj h1 h2 => f_s2 jj (by omega))
            have lr_s2 := (f_s2 92 (by omega)).trans lr_s1
            have pg_s2 := pg_s1.keep (fun jj h1 h2 => f_s2 jj (by omega))
            have gw := wr_rg ((rn u₉ kd pr (dwC (dwX xx)) t₉ (r₉, 0, 0, 0, 0)).2.1)
            rw [← vi_wr ((rn u₉ kd pr (dwC (dwX xx)) t₉ (r₉, 0, 0, 0, 0)).2.1)]
            refine go_mmax (pc := 96) hF ms_X10_226 dX10_draws_96 (by omega) (by omega) (Nat.le_of_ble_eq_true rfl) (by decide) ⟨Nat.zero_le _, Nat.zero_le _⟩ ?_
            refine go_istore (pc := 99) hF [(5, vi (max mo (wr₉ ((rn u₉ kd pr (dwC (dwX xx)) t₉ (r₉, 0, 0, 0, 0)).2.1)))), (7, vi (dwC (dwX xx))), (3, vl (dwX xx)), (6, vi (j₉ : Int)), (0, vr E 0), (1, vi k9), (2, vi x₉)] dX10_draws_99 rfl (by decide) ?_
            refine go_iinc (pc := 101) hF [(6, vi ((j₉ : Int) + 1)), (5, vi (max mo (wr₉ ((rn u₉ kd pr (dwC (dwX xx)) t₉ (r₉, 0, 0, 0, 0)).2.1)))), (7, vi (dwC (dwX xx))), (3, vl (dwX xx)), (0, vr E 0), (1, vi k9), (2, vi x₉)] dX10_draws_101 3 rfl rfl (by decide) ?_
            refine go_goto (pc := 104) hF 34 dX10_draws_104 (by decide) ?_
            refine go_lv [(6, vi ((j₉ : Int) + 1)), (5, vi (max mo (wr₉ ((rn u₉ kd pr (dwC (dwX xx)) t₉ (r₉, 0, 0, 0, 0)).2.1)))), (3, vl (dwX xx)), (0, vr E 0), (1, vi k9), (2, vi x₉)] [0, 1, 3, 4, 5, 6] rfl ?_
            exact ih₉ (j₉ + 1) (dwX xx) _ _ _ _ _ _ _ _ _ _ s2₉ (by omega) (by omega) gX (by omega) (by rw [← hdw, show x₉.toNat - j₉ = (x₉.toNat - (j₉ + 1)) + 1 by omega]; rfl) uc_s2 ur_s2 (fun jj hjj => by rw [f_s2 jj (by omega), f_s1 jj (by omega), fr_loop jj (by omega)])
      exact loop₉ 22 0 k9 0 a1₉ a2 a3 a4 d1₉ d2₉ d3₉ d4₉ d5₉ σ rfl (by omega) (by omega) (by omega) rfl z2 z100 (fun _ _ => rfl)
    · exact absurd ((bI_0 _).mp bq17) (by omega)
set_option maxHeartbeats 4000000 in
set_option maxRecDepth 100000 in
theorem c_X10_countOf (E : En) (N : Nat) (σ : Nat → va_E) (r₉ u₉ kd pr : Int) (yr yw yk yp : Int → Int) (hs : Int) (tx : Int → Int) (tl : Int) (t₉ : Tr) (xb xn xf q1₉ q2₉ q3₉ : Int) (hN₉ : 101 ≤ N) (hO : okS r₉ u₉ kd pr yr yw yk yp hs tx tl t₉ xb xn xf q1₉ q2₉ q3₉) (hS₉ : clS E σ r₉ u₉ kd pr yr yw yk yp hs tx tl t₉ xb xn xf q1₉ q2₉ q3₉) (x₉ : Int) (hx : 0 ≤ x₉ ∧ x₉ ≤ 8) : CP E M_X10_countOf 4 [vr E 0, vi x₉] N σ (cntA xb xn xf tl u₉ kd pr (mLong r₉) hs x₉) := by
  refine CT.of2 (own := RX10) (by decide) rfl (Nat.le_of_ble_eq_true rfl) ?_
  intro p e R s m args below meth c Q hF hr hlk hnm hz hR hQ
  obtain ⟨z0, z1, ⟨a1₉, a2, a3, a4, z2⟩, zh, z13₉, zrd, ⟨sg, vl, mt₉, lw, ll, la, sz₉, lk₉, chs, lps, dp, ln, zp, hT₉⟩, zfo, zex, ⟨b1, b2, z99⟩, ⟨d1₉, d2₉, d3₉, d4₉, d5₉, z100⟩⟩ := hS₉
  obtain ⟨⟨hrw, hu, hkd, hpr⟩, hhs, hyy, htl, htx, hxb, hxn, hxf, hq1, hq2, hq3, hwf, hdp3, hl80, hl24⟩ := hO
  have eg := en_rg hrw.1
  obtain ⟨-, -, hpa0, htl9, htk9, hch9, hlp9, hdp9, hln9, ho⟩ := hT₉
  have hT₉ : prT t₉ sg vl mt₉ lw ll la sz₉ lk₉ chs lps dp ln := ⟨hwf, hdp3, hpa0, htl9, htk9, hch9, hlp9, hdp9, hln9, ho⟩
  obtain rfl | rfl | rfl | rfl | rfl | rfl | rfl | rfl | rfl : x₉ = 0 ∨ x₉ = 1 ∨ x₉ = 2 ∨ x₉ = 3 ∨ x₉ = 4 ∨ x₉ = 5 ∨ x₉ = 6 ∨ x₉ = 7 ∨ x₉ = 8 := by omega
  · refine go_iload_n (pc := 0) hF dX10_countOf_0 1 rfl ?_
    refine go_tableIn (pc := 1) hF 48 dX10_countOf_1 ⟨by decide, by decide⟩ (by decide) rfl (by decide) ?_
    refine go_aload_n (pc := 48) hF dX10_countOf_48 0 rfl ?_
    refine go_get (pc := 49) hF fl_X10_72 dX10_countOf_49 (by omega) z0 rfl ?_
    exact go_iretQ hF hr hlk hQ dX10_countOf_52 ⟨rfl, rfl⟩
  · refine go_iload_n (pc := 0) hF dX10_countOf_0 1 rfl ?_
    refine go_tableIn (pc := 1) hF 53 dX10_countOf_1 ⟨by decide, by decide⟩ (by decide) rfl (by decide) ?_
    refine go_aload_n (pc := 53) hF dX10_countOf_53 0 rfl ?_
    refine go_get (pc := 54) hF fl_X10_75 dX10_countOf_54 (by omega) z0 rfl ?_
    exact go_iretQ hF hr hlk hQ dX10_countOf_57 ⟨rfl, rfl⟩
  · refine go_iload_n (pc := 0) hF dX10_countOf_0 1 rfl ?_
    refine go_tableIn (pc := 1) hF 58 dX10_countOf_1 ⟨by decide, by decide⟩ (by decide) rfl (by decide) ?_
    refine go_aload_n (pc := 58) hF dX10_countOf_58 0 rfl ?_
    refine go_get (pc := 59) hF fl_X10_78 dX10_countOf_59 (by omega) z0 rfl ?_
    exact go_iretQ hF hr hlk hQ dX10_countOf_62 ⟨rfl, rfl⟩
  · refine go_iload_n (pc := 0) hF dX10_countOf_0 1 rfl ?_
    refine go_tableIn (pc := 1) hF 63 dX10_countOf_1 ⟨by decide, by decide⟩ (by decide) rfl (by decide) ?_
    refine go_aload_n (pc := 63) hF dX10_countOf_63 0 rfl ?_
    refine go_get (pc := 64) hF fl_X10_30 dX10_countOf_64 (by omega) z0 rfl ?_
    exact go_iretQ hF hr hlk hQ dX10_countOf_67 ⟨rfl, rfl⟩
  · refine go_iload_n (pc := 0) hF dX10_countOf_0 1 rfl ?_
    refine go_tableIn (pc := 1) hF 68 dX10_countOf_1 ⟨by decide, by decide⟩ (by decide) rfl (by decide) ?_
    refine go_aload_n (pc := 68) hF dX10_countOf_68 0 rfl ?_
    refine go_get (pc := 69) hF fl_X10_10 dX10_countOf_69 (by omega) z0 rfl ?_
    refine go_get (pc := 72) hF fl_X10_93 dX10_countOf_72 (by omega) z1 rfl ?_
    exact go_iretQ hF hr hlk hQ dX10_countOf_75 ⟨rfl, rfl⟩
  · refine go_iload_n (pc := 0) hF dX10_countOf_0 1 rfl ?_
    refine go_tableIn (pc := 1) hF 76 dX10_countOf_1 ⟨by decide, by decide⟩ (by decide) rfl (by decide) ?_
    refine go_aload_n (pc := 76) hF dX10_countOf_76 0 rfl ?_
    refine go_get (pc := 77) hF fl_X10_10 dX10_countOf_77 (by omega) z0 rfl ?_
    refine go_get (pc := 80) hF fl_X10_105 dX10_countOf_80 (by omega) z1 rfl ?_
    exact go_iretQ hF hr hlk hQ dX10_countOf_83 ⟨rfl, rfl⟩
  · refine go_iload_n (pc := 0) hF dX10_countOf_0 1 rfl ?_
    refine go_tableIn (pc := 1) hF 84 dX10_countOf_1 ⟨by decide, by decide⟩ (by decide) rfl (by decide) ?_
    refine go_aload_n (pc := 84) hF dX10_countOf_84 0 rfl ?_
    refine go_get (pc := 85) hF fl_X10_10 dX10_countOf_85 (by omega) z0 rfl ?_
    refine go_get (pc := 88) hF fl_X10_108 dX10_countOf_88 (by omega) z1 rfl ?_
    exact go_iretQ hF hr hlk hQ dX10_countOf_91 ⟨rfl, rfl⟩
  · refine go_iload_n (pc := 0) hF dX10_countOf_0 1 rfl ?_
    refine go_tableIn (pc := 1) hF 92 dX10_countOf_1 ⟨by decide, by decide⟩ (by decide) rfl (by decide) ?_
    refine go_aload_n (pc := 92) hF dX10_countOf_92 0 rfl ?_
    refine go_get (pc := 93) hF fl_X10_10 dX10_countOf_93 (by omega) z0 rfl ?_
    refine go_get (pc := 96) hF fl_X10_96 dX10_countOf_96 (by omega) z1 rfl ?_
    refine go_callSP (pc := 99) hF [vi (en r₉)] [] ms_X10_111 dX10_countOf_99 (c_X8_sizeOf E N σ (en r₉) (by omega)) rfl rfl (Nat.le_of_ble_eq_true rfl) (by decide) ⟨Nat.zero_le _, Nat.zero_le _⟩ ?_
    exact go_iretQ hF hr hlk hQ dX10_countOf_102 ⟨(en_ok (vrow_up hrw (by omega)) (w₉ := 1) (by omega)).1.1, rfl⟩
  · refine go_iload_n (pc := 0) hF dX10_countOf_0 1 rfl ?_
    refine go_tableOut (pc := 1) hF 103 dX10_countOf_1 ⟨by decide, by decide⟩ (by decide) (by decide) ?_
    refine go_aload_n (pc := 103) hF dX10_countOf_103 0 rfl ?_
    refine go_get (pc := 104) hF fl_X10_22 dX10_countOf_104 (by omega) z0 rfl ?_
    refine go_get (pc := 107) hF fl_X10_207 dX10_countOf_107 (by omega) zh.cell.choose_spec rfl ?_
    exact go_iretQ hF hr hlk hQ dX10_countOf_110 ⟨rfl, rfl⟩
set_option maxHeartbeats 4000000 in
set_option maxRecDepth 100000 in
theorem c_X10_count_ok (E : En) (N : Nat) (σ : Nat → va_E) (r₉ u₉ kd pr : Int) (yr yw yk yp : Int → Int) (hs : Int) (tx : Int → Int) (tl : Int) (t₉ : Tr) (xb xn xf q1₉ q2₉ q3₉ : Int) (hN₉ : 101 ≤ N) (hO : okS r₉ u₉ kd pr yr yw yk yp hs tx tl t₉ xb xn xf q1₉ q2₉ q3₉) (hS₉ : clS E σ r₉ u₉ kd pr yr yw yk yp hs tx tl t₉ xb xn xf q1₉ q2₉ q3₉) (x₉ : Int) (hx : 0 ≤ x₉ ∧ x₉ ≤ 8) : CI E M_X10_count 16 [vr E 0, vi x₉] N σ (fun y₉ σ' => y₉ = cntA xb xn xf tl u₉ kd pr (mLong r₉) hs x₉ ∧ clS E σ' r₉ u₉ kd pr yr yw yk yp hs tx tl t₉ xb xn xf q1₉ q2₉ q3₉ ∧ ∀ q₉, 94 ≤ q₉ → σ' q₉ = σ q₉) := by
  refine CT.of2 (own := RX10) (by decide) rfl (Nat.le_of_ble_eq_true rfl) ?_
  intro p e R s m args below meth c Q hF hr hlk hnm hz hR hQ
  refine go_iload_n (pc := 0) hF dX10_count_0 1 rfl ?_
  refine go_iconst (pc := 1) hF dX10_count_1 ?_
  refine go_bipush (pc := 2) hF dX10_count_2 (by decide) ?_
  refine go_callSP (pc := 4) hF [vi x₉, vi 0, vi 8] [] ms_X10_81 dX10_count_4 (c_X10_isWithin E N σ x₉ 0 8 (by omega) ⟨by decide, by decide⟩ ⟨by decide, by decide⟩) rfl rfl (Nat.le_of_ble_eq_true rfl) (by decide) ⟨Nat.zero_le _, Nat.zero_le _⟩ ?_
  refine go_if_ne (pc := 7) hF 15 dX10_count_7 (by decide) (bI_rg _) (fun bq7 => ?_) (fun bq7 => ?_)
  · refine go_aload_n (pc := 15) hF dX10_count_15 0 rfl ?_
    refine go_iload_n (pc := 16) hF dX10_count_16 1 rfl ?_
    refine go_callVP (pc := 17) hF [vi x₉] [] mv_X10_231 dX10_count_17 (by omega) hS₉.1 (c_X10_countOf E N σ r₉ u₉ kd pr yr yw yk yp hs tx tl t₉ xb xn xf q1₉ q2₉ q3₉ hN₉ hO hS₉ x₉ (by omega)) rfl rfl (Nat.le_of_ble_eq_true rfl) (by decide) ⟨Nat.zero_le _, Nat.zero_le _⟩ ?_
    exact go_iretQ hF hr hlk hQ dX10_count_20 ⟨rfl, hS₉, fun _ _ => rfl⟩
  · exact absurd ((bI_0 _).mp bq7) (by omega)
set_option maxHeartbeats 4000000 in
set_option maxRecDepth 100000 in
theorem c_X10_digest (E : En) (N : Nat) (σ : Nat → va_E) (r₉ u₉ kd pr : Int) (yr yw yk yp : Int → Int) (hs : Int) (tx : Int → Int) (tl : Int) (t₉ : Tr) (xb xn xf q1₉ q2₉ q3₉ : Int) (hN₉ : 101 ≤ N) (hO : okS r₉ u₉ kd pr yr yw yk yp hs tx tl t₉ xb xn xf q1₉ q2₉ q3₉) (hS₉ : clS E σ r₉ u₉ kd pr yr yw yk yp hs tx tl t₉ xb xn xf q1₉ q2₉ q3₉) : CL E M_X10_digest 16 [vr E 0] N σ (fun y₉ σ' => y₉ = dgS r₉ u₉ kd pr hs tl t₉ xb xn xf q1₉ q2₉ q3₉ ∧ clS E σ' r₉ u₉ kd pr yr yw yk yp hs tx tl t₉ xb xn xf q1₉ q2₉ q3₉ ∧ ∀ q₉, 94 ≤ q₉ → σ' q₉ = σ q₉) := by
  refine CT.of2 (own := RX10) (by decide) rfl (Nat.le_of_ble_eq_true rfl) ?_
  intro p e R s m args below meth c Q hF hr hlk hnm hz hR hQ
  have hS0 := hS₉
  have hO0 := hO
  obtain ⟨z0, z1, ⟨a1₉, a2, a3, a4, z2⟩, zh, z13₉, zrd, ⟨sg, vls, mt₉, lw, ll, la, sz₉, lk₉, chs, lps, dp, ln, zp, hT₉⟩, zfo, zex, ⟨b1, b2, z99⟩, ⟨d1₉, d2₉, d3₉, d4₉, d5₉, z100⟩⟩ := hS₉
  obtain ⟨⟨hrw, hu, hkd, hpr⟩, hhs, hyy, htl, htx, hxb, hxn, hxf, hq1, hq2, hq3, hwf, hdp3, hl80, hl24⟩ := hO
  have eg := en_rg hrw.1
  obtain ⟨-, -, hpa0, htl9, htk9, hch9, hlp9, hdp9, hln9, ho⟩ := hT₉
  have hT₉ : prT t₉ sg vls mt₉ lw ll la sz₉ lk₉ chs lps dp ln := ⟨hwf, hdp3, hpa0, htl9, htk9, hch9, hlp9, hdp9, hln9, ho⟩
  have ek := (en_ok (vrow_up hrw (by omega)) (w₉ := 1) (by omega)).1
  have gl := mLong_rg r₉
  have ga0 := mAt_rg 0 hrw.1.1
  have ga1 := mAt_rg 1 hrw.1.1
  have ga2 := mAt_rg 2 hrw.1.1
  have gp := ho.2
  refine go_ldc2 (pc := 0) hF kc_X10_234 dX10_digest_0 ?_
  refine go_lstore_n (pc := 3) hF [(1, vl 1999), (0, vr E 0)] dX10_digest_3 rfl (by decide) ?_
  refine go_iconst (pc := 4) hF dX10_digest_4 ?_
  refine go_istore_n (pc := 5) hF [(3, vi 0), (1, vl 1999), (0, vr E 0)] dX10_digest_5 rfl (by decide) ?_
  refine go_iload_n (pc := 6) hF dX10_digest_6 0 rfl ?_
  refine go_bipush (pc := 7) hF dX10_digest_7 (by decide) ?_
  refine go_icmp_gt (pc := 9) hF 31 dX10_digest_9 (by decide) ⟨by decide, by decide⟩ ⟨by decide, by decide⟩ (fun bq9 => ?_) (fun bq9 => ?_)
  · exact absurd bq9 (by decide)
  · refine go_ldc2 (pc := 12) hF kc_X10_236 dX10_digest_12 ?_
    refine go_lload_n (pc := 15) hF dX10_digest_15 1 rfl ?_
    refine go_lmul (pc := 16) hF dX10_digest_16 ?_
    refine go_aload_n (pc := 17) hF dX10_digest_17 2 rfl ?_
    refine go_iload_n (pc := 18) hF dX10_digest_18 0 rfl ?_
    refine go_callVP (pc := 19) hF [vi 0] [vl 61969] mv_X10_231 dX10_digest_19 (by omega) z0 (show CP E M_X10_countOf 4 [vr E 0, vi 0] N σ (xb) from c_X10_countOf E N σ r₉ u₉ kd pr yr yw yk yp hs tx tl t₉ xb xn xf q1₉ q2₉ q3₉ hN₉ hO0 hS0 0 (by omega)) rfl rfl (Nat.le_of_ble_eq_true rfl) (by decide) ⟨Nat.zero_le _, Nat.zero_le _⟩ ?_
    refine go_i2l (pc := 22) hF dX10_digest_22 (by omega) ?_
    refine go_ladd (pc := 23) hF dX10_digest_23 ?_
    refine go_lstore_n (pc := 24) hF [(1, vl (61969 + xb)), (3, vi 0), (0, vr E 0)] dX10_digest_24 rfl (by decide) ?_
    refine go_iinc (pc := 25) hF [(3, vi 1), (1, vl (61969 + xb)), (0, vr E 0)] dX10_digest_25 1 rfl rfl (by decide) ?_
    refine go_goto (pc := 28) hF 6 dX10_digest_28 (by decide) ?_
    refine go_iload_n (pc := 6) hF dX10_digest_6 0 rfl ?_
    refine go_bipush (pc := 7) hF dX10_digest_7 (by decide) ?_
    refine go_icmp_gt (pc := 9) hF 31 dX10_digest_9 (by decide) ⟨by decide, by decide⟩ ⟨by decide, by decide⟩ (fun bq9 => ?_) (fun bq9 => ?_)
    · exact absurd bq9 (by decide)
    · refine go_ldc2 (pc := 12) hF kc_X10_236 dX10_digest_12 ?_
      refine go_lload_n (pc := 15) hF dX10_digest_15 1 rfl ?_
      refine go_lmul (pc := 16) hF dX10_digest_16 ?_
      refine go_aload_n (pc := 17) hF dX10_digest_17 2 rfl ?_
      refine go_iload_n (pc := 18) hF dX10_digest_18 0 rfl ?_
      refine go_callVP (pc := 19) hF [vi 1] [vl (31 * (61969 + xb))] mv_X10_231 dX10_digest_19 (by omega) z0 (show CP E M_X10_countOf 4 [vr E 0, vi 1] N σ (xn) from c_X10_countOf E N σ r₉ u₉ kd pr yr yw yk yp hs tx tl t₉ xb xn xf q1₉ q2₉ q3₉ hN₉ hO0 hS0 1 (by omega)) rfl rfl (Nat.le_of_ble_eq_true rfl) (by decide) ⟨Nat.zero_le _, Nat.zero_le _⟩ ?_
      refine go_i2l (pc := 22) hF dX10_digest_22 (by omega) ?_
      refine go_ladd (pc := 23) hF dX10_digest_23 ?_
      refine go_lstore_n (pc := 24) hF [(1, vl ((31 * (61969 + xb)) + xn)), (3, vi 1), (0, vr E 0)] dX10_digest_24 rfl (by decide) ?_
      refine go_iinc (pc := 25) hF [(3, vi 2), (1, vl ((31 * (61969 + xb)) + xn)), (0, vr E 0)] dX10_digest_25 1 rfl rfl (by decide) ?_
      refine go_goto (pc := 28) hF 6 dX10_digest_28 (by decide) ?_
      refine go_iload_n (pc := 6) hF dX10_digest_6 0 rfl ?_
      refine go_bipush (pc := 7) hF dX10_digest_7 (by decide) ?_
      refine go_icmp_gt (pc := 9) hF 31 dX10_digest_9 (by decide) ⟨by decide, by decide⟩ ⟨by decide, by decide⟩ (fun bq9 => ?_) (fun bq9 => ?_)
      · exact absurd bq9 (by decide)
      · refine go_ldc2 (pc := 12) hF kc_X10_236 dX10_digest_12 ?_
        refine go_lload_n (pc := 15) hF dX10_digest_15 1 rfl ?_
        refine go_lmul (pc := 16) hF dX10_digest_16 ?_
        refine go_aload_n (pc := 17) hF dX10_digest_17 2 rfl ?_
        refine go_iload_n (pc := 18) hF dX10_digest_18 0 rfl ?_
        refine go_callVP (pc := 19) hF [vi 2] [vl (31 * ((31 * (61969 + xb)) + xn))] mv_X10_231 dX10_digest_19 (by omega) z0 (show CP E M_X10_countOf 4 [vr E 0, vi 2] N σ (xf) from c_X10_countOf E N σ r₉ u₉ kd pr yr yw yk yp hs tx tl t₉ xb xn xf q1₉ q2₉ q3₉ hN₉ hO0 hS0 2 (by omega)) rfl rfl (Nat.le_of_ble_eq_true rfl) (by decide) ⟨Nat.zero_le _, Nat.zero_le _⟩ ?_
        refine go_i2l (pc := 22) hF dX10_digest_22 (by omega) ?_
        refine go_ladd (pc := 23) hF dX10_digest_23 ?_
        refine go_lstore_n (pc := 24) hF [(1, vl ((31 * ((31 * (61969 + xb)) + xn)) + xf)), (3, vi 2), (0, vr E 0)] dX10_digest_24 rfl (by decide) ?_
        refine go_iinc (pc := 25) hF [(3, vi 3), (1, vl ((31 * ((31 * (61969 + xb)) + xn)) + xf)), (0, vr E 0)] dX10_digest_25 1 rfl rfl (by decide) ?_
        refine go_goto (pc := 28) hF 6 dX10_digest_28 (by decide) ?_
        refine go_iload_n (pc := 6) hF dX10_digest_6 0 rfl ?_
        refine go_bipush (pc := 7) hF dX10_digest_7 (by decide) ?_
        refine go_icmp_gt (pc := 9) hF 31 dX10_digest_9 (by decide) ⟨by decide, by decide⟩ ⟨by decide, by decide⟩ (fun bq9 => ?_) (fun bq9 => ?_)
        · exact absurd bq9 (by decide)
        · refine go_ldc2 (pc := 12) hF kc_X10_236 dX10_digest_12 ?_
          refine go_lload_n (pc := 15) hF dX10_digest_15 1 rfl ?_
          refine go_lmul (pc := 16) hF dX10_digest_16 ?_
          refine go_aload_n (pc := 17) hF dX10_digest_17 2 rfl ?_
          refine go_iload_n (pc := 18) hF dX10_digest_18 0 rfl ?_
          refine go_callVP (pc := 19) hF [vi 3] [vl (31 * ((31 * ((31 * (61969 + xb)) + xn)) + xf))] mv_X10_231 dX10_digest_19 (by omega) z0 (show CP E M_X10_countOf 4 [vr E 0, vi 3] N σ (tl) from c_X10_countOf E N σ r₉ u₉ kd pr yr yw yk yp hs tx tl t₉ xb xn xf q1₉ q2₉ q3₉ hN₉ hO0 hS0 3 (by omega)) rfl rfl (Nat.le_of_ble_eq_true rfl) (by decide) ⟨Nat.zero_le _, Nat.zero_le _⟩ ?_
          refine go_i2l (pc := 22) hF dX10_digest_22 (by omega) ?_
          refine go_ladd (pc := 23) hF dX10_digest_23 ?_
          refine go_lstore_n (pc := 24) hF [(1, vl ((31 * ((31 * ((31 * (61969 + xb)) + xn)) + xf)) + tl)), (3, vi 3), (0, vr E 0)] dX10_digest_24 rfl (by decide) ?_
          refine go_iinc (pc := 25) hF [(3, vi 4), (1, vl ((31 * ((31 * ((31 * (61969 + xb)) + xn)) + xf)) + tl)), (0, vr E 0)] dX10_digest_25 1 rfl rfl (by decide) ?_
          refine go_goto (pc := 28) hF 6 dX10_digest_28 (by decide) ?_
          refine go_iload_n (pc := 6) hF dX10_digest_6 0 rfl ?_
          refine go_bipush (pc := 7) hF dX10_digest_7 (by decide) ?_
          refine go_icmp_gt (pc := 9) hF 31 dX10_digest_9 (by decide) ⟨by decide, by decide⟩ ⟨by decide, by decide⟩ (fun bq9 => ?_) (fun bq9 => ?_)
          · exact absurd bq9 (by decide)
          · refine go_ldc2 (pc := 12) hF kc_X10_236 dX10_digest_12 ?_
            refine go_lload_n (pc := 15) hF dX10_digest_15 1 rfl ?_
            refine go_lmul (pc := 16) hF dX10_digest_16 ?_
            refine go_aload_n (pc := 17) hF dX10_digest_17 2 rfl ?_
            refine go_iload_n (pc := 18) hF dX10_digest_18 0 rfl ?_
            refine go_callVP (pc := 19) hF [vi 4] [vl (31 * ((31 * ((31 * ((31 * (61969 + xb)) + xn)) + xf)) + tl))] mv_X10_231 dX10_digest_19 (by omega) z0 (show CP E M_X10_countOf 4 [vr E 0, vi 4] N σ (u₉) from c_X10_countOf E N σ r₉ u₉ kd pr yr yw yk yp hs tx tl t₉ xb xn xf q1₉ q2₉ q3₉ hN₉ hO0 hS0 4 (by omega)) rfl rfl (Nat.le_of_ble_eq_true rfl) (by decide) ⟨Nat.zero_le _, Nat.zero_le _⟩ ?_
            refine go_i2l (pc := 22) hF dX10_digest_22 (by omega) ?_
            refine go_ladd (pc := 23) hF dX10_digest_23 ?_
            refine go_lstore_n (pc := 24) hF [(1, vl ((31 * ((31 * ((31 * ((31 * (61969 + xb)) + xn)) + xf)) + tl)) + u₉)), (3, vi 4), (0, vr E 0)] dX10_digest_24 rfl (by decide) ?_
            refine go_iinc (pc := 25) hF [(3, vi 5), (1, vl ((31 * ((31 * ((31 * ((31 * (61969 + xb)) + xn)) + xf)) + tl)) + u₉)), (0, vr E 0)] dX10_digest_25 1 rfl rfl (by decide) ?_
            refine go_goto (pc := 28) hF 6 dX10_digest_28 (by decide) ?_
            refine go_iload_n (pc := 6) hF dX10_digest_6 0 rfl ?_
            refine go_bipush (pc := 7) hF dX10_digest_7 (by decide) ?_
            refine go_icmp_gt (pc := 9) hF 31 dX10_digest_9 (by decide) ⟨by decide, by decide⟩ ⟨by decide, by decide⟩ (fun bq9 => ?_) (fun bq9 => ?_)
            · exact absurd bq9 (by decide)
            · refine go_ldc2 (pc := 12) hF kc_X10_236 dX10_digest_12 ?_
              refine go_lload_n (pc := 15) hF dX10_digest_15 1 rfl ?_
              refine go_lmul (pc := 16) hF dX10_digest_16 ?_
              refine go_aload_n (pc := 17) hF dX10_digest_17 2 rfl ?_
              refine go_iload_n (pc := 18) hF dX10_digest_18 0 rfl ?_
              refine go_callVP (pc := 19) hF [vi 5] [vl (31 * ((31 * ((31 * ((31 * ((31 * (61969 + xb)) + xn)) + xf)) + tl)) + u₉))] mv_X10_231 dX10_digest_19 (by omega) z0 (show CP E M_X10_countOf 4 [vr E 0, vi 5] N σ (kd) from c_X10_countOf E N σ r₉ u₉ kd pr yr yw yk yp hs tx tl t₉ xb xn xf q1₉ q2₉ q3₉ hN₉ hO0 hS0 5 (by omega)) rfl rfl (Nat.le_of_ble_eq_true rfl) (by decide) ⟨Nat.zero_le _, Nat.zero_le _⟩ ?_
              refine go_i2l (pc := 22) hF dX10_digest_22 (by omega) ?_
              refine go_ladd (pc := 23) hF dX10_digest_23 ?_
              refine go_lstore_n (pc := 24) hF [(1, vl ((31 * ((31 * ((31 * ((31 * ((31 * (61969 + xb)) + xn)) + xf)) + tl)) + u₉)) + kd)), (3, vi 5), (0, vr E 0)] dX10_digest_24 rfl (by decide) ?_
              refine go_iinc (pc := 25) hF [(3, vi 6), (1, vl ((31 * ((31 * ((31 * ((31 * ((31 * (61969 + xb)) + xn)) + xf)) + tl)) + u₉)) + kd)), (0, vr E 0)] dX10_digest_25 1 rfl rfl (by decide) ?_
              refine go_goto (pc := 28) hF 6 dX10_digest_28 (by decide) ?_
              refine go_iload_n (pc := 6) hF dX10_digest_6 0 rfl ?_
              refine go_bipush (pc := 7) hF dX10_digest_7 (by decide) ?_
              refine go_icmp_gt (pc := 9) hF 31 dX10_digest_9 (by decide) ⟨by decide, by decide⟩ ⟨by decide, by decide⟩ (fun bq9 => ?_) (fun bq9 => ?_)
              · exact absurd bq9 (by decide)
              · refine go_ldc2 (pc := 12) hF kc_X10_236 dX10_digest_12 ?_
                refine go_lload_n (pc := 15) hF dX10_digest_15 1 rfl ?_
                refine go_lmul (pc := 16) hF dX10_digest_16 ?_
                refine go_aload_n (pc := 17) hF dX10_digest_17 2 rfl ?_
                refine go_iload_n (pc := 18) hF dX10_digest_18 0 rfl ?_
                refine go_callVP (pc := 19) hF [vi 6] [vl (31 * ((31 * ((31 * ((31 * ((31 * ((31 * (61969 + xb)) + xn)) + xf)) + tl)) + u₉)) + kd))] mv_X10_231 dX10_digest_19 (by omega) z0 (show CP E M_X10_countOf 4 [vr E 0, vi 6] N σ (pr) from c_X10_countOf E N σ r₉ u₉ kd pr yr yw yk yp hs tx tl t₉ xb xn xf q1₉ q2₉ q3₉ hN₉ hO0 hS0 6 (by omega)) rfl rfl (Nat.le_of_ble_eq_true rfl) (by decide) ⟨Nat.zero_le _, Nat.zero_le _⟩ ?_
                refine go_i2l (pc := 22) hF dX10_digest_22 (by omega) ?_
                refine go_ladd (pc := 23) hF dX10_digest_23 ?_
                refine go_lstore_n (pc := 24) hF [(1, vl ((31 * ((31 * ((31 * ((31 * ((31 * ((31 * (61969 + xb)) + xn)) + xf)) + tl)) + u₉)) + kd)) + pr)), (3, vi 6), (0, vr E 0)] dX10_digest_24 rfl (by decide) ?_
                refine go_iinc (pc := 25) hF [(3, vi 7), (1, vl ((31 * ((31 * ((31 * ((31 * ((31 * ((31 * (61969 + xb)) + xn)) + xf)) + tl)) + u₉)) + kd)) + pr)), (0, vr E 0)] dX10_digest_25 1 rfl rfl (by decide) ?_
                refine go_goto (pc := 28) hF 6 dX10_digest_28 (by decide) ?_
                refine go_iload_n (pc := 6) hF dX10_digest_6 0 rfl ?_
                refine go_bipush (pc := 7) hF dX10_digest_7 (by decide) ?_
                refine go_icmp_gt (pc := 9) hF 31 dX10_digest_9 (by decide) ⟨by decide, by decide⟩ ⟨by decide, by decide⟩ (fun bq9 => ?_) (fun bq9 => ?_)
                · exact absurd bq9 (by decide)
                · refine go_ldc2 (pc := 12) hF kc_X10_236 dX10_digest_12 ?_
                  refine go_lload_n (pc := 15) hF dX10_digest_15 1 rfl ?_
                  refine go_lmul (pc := 16) hF dX10_digest_16 ?_
                  refine go_aload_n (pc := 17) hF dX10_digest_17 2 rfl ?_
                  refine go_iload_n (pc := 18) hF dX10_digest_18 0 rfl ?_
                  refine go_callVP (pc := 19) hF [vi 7] [vl (31 * ((31 * ((31 * ((31 * ((31 * ((31 * ((31 * (61969 + xb)) + xn)) + xf)) + tl)) + u₉)) + kd)) + pr))] mv_X10_231 dX10_digest_19 (by omega) z0 (show CP E M_X10_countOf 4 [vr E 0, vi 7] N σ (mLong r₉) from c_X10_countOf E N σ r₉ u₉ kd pr yr yw yk yp hs tx tl t₉ xb xn xf q1₉ q2₉ q3₉ hN₉ hO0 hS0 7 (by omega)) rfl rfl (Nat.le_of_ble_eq_true rfl) (by decide) ⟨Nat.zero_le _, Nat.zero_le _⟩ ?_
                  refine go_i2l (pc := 22) hF dX10_digest_22 (by omega) ?_
                  refine go_ladd (pc := 23) hF dX10_digest_23 ?_
                  refine go_lstore_n (pc := 24) hF [(1, vl ((31 * ((31 * ((31 * ((31 * ((31 * ((31 * ((31 * (61969 + xb)) + xn)) + xf)) + tl)) + u₉)) + kd)) + pr)) + (mLong r₉))), (3, vi 7), (0, vr E 0)] dX10_digest_24 rfl (by decide) ?_
                  refine go_iinc (pc := 25) hF [(3, vi 8), (1, vl ((31 * ((31 * ((31 * ((31 * ((31 * ((31 * ((31 * (61969 + xb)) + xn)) + xf)) + tl)) + u₉)) + kd)) + pr)) + (mLong r₉))), (0, vr E 0)] dX10_digest_25 1 rfl rfl (by decide) ?_
                  refine go_goto (pc := 28) hF 6 dX10_digest_28 (by decide) ?_
                  refine go_iload_n (pc := 6) hF dX10_digest_6 0 rfl ?_
                  refine go_bipush (pc := 7) hF dX10_digest_7 (by decide) ?_
                  refine go_icmp_gt (pc := 9) hF 31 dX10_digest_9 (by decide) ⟨by decide, by decide⟩ ⟨by decide, by decide⟩ (fun bq9 => ?_) (fun bq9 => ?_)
                  · exact absurd bq9 (by decide)
                  · refine go_ldc2 (pc := 12) hF kc_X10_236 dX10_digest_12 ?_
                    refine go_lload_n (pc := 15) hF dX10_digest_15 1 rfl ?_
                    refine go_lmul (pc := 16) hF dX10_digest_16 ?_
                    refine go_aload_n (pc := 17) hF dX10_digest_17 2 rfl ?_
                    refine go_iload_n (pc := 18) hF dX10_digest_18 0 rfl ?_
                    refine go_callVP (pc := 19) hF [vi 8] [vl (31 * ((31 * ((31 * ((31 * ((31 * ((31 * ((31 * ((31 * (61969 + xb)) + xn)) + xf)) + tl)) + u₉)) + kd)) + pr)) + (mLong r₉)))] mv_X10_231 dX10_digest_19 (by omega) z0 (show CP E M_X10_countOf 4 [vr E 0, vi 8] N σ (hs) from c_X10_countOf E N σ r₉ u₉ kd pr yr yw yk yp hs tx tl t₉ xb xn xf q1₉ q2₉ q3₉ hN₉ hO0 hS0 8 (by omega)) rfl rfl (Nat.le_of_ble_eq_true rfl) (by decide) ⟨Nat.zero_le _, Nat.zero_le _⟩ ?_
                    refine go_i2l (pc := 22) hF dX10_digest_22 (by omega) ?_
                    refine go_ladd (pc := 23) hF dX10_digest_23 ?_
                    refine go_lstore_n (pc := 24) hF [(1, vl ((31 * ((31 * ((31 * ((31 * ((31 * ((31 * ((31 * ((31 * (61969 + xb)) + xn)) + xf)) + tl)) + u₉)) + kd)) + pr)) + (mLong r₉))) + hs)), (3, vi 8), (0, vr E 0)] dX10_digest_24 rfl (by decide) ?_
                    refine go_iinc (pc := 25) hF [(3, vi 9), (1, vl ((31 * ((31 * ((31 * ((31 * ((31 * ((31 * ((31 * ((31 * (61969 + xb)) + xn)) + xf)) + tl)) + u₉)) + kd)) + pr)) + (mLong r₉))) + hs)), (0, vr E 0)] dX10_digest_25 1 rfl rfl (by decide) ?_
                    refine go_goto (pc := 28) hF 6 dX10_digest_28 (by decide) ?_
                    refine go_iload_n (pc := 6) hF dX10_digest_6 0 rfl ?_
                    refine go_bipush (pc := 7) hF dX10_digest_7 (by decide) ?_
                    refine go_icmp_gt (pc := 9) hF 31 dX10_digest_9 (by decide) ⟨by decide, by decide⟩ ⟨by decide, by decide⟩ (fun bq9 => ?_) (fun bq9 => ?_)
                    · refine go_aload_n (pc := 31) hF dX10_digest_31 2 rfl ?_
                      refine go_get (pc := 32) hF fl_X10_10 dX10_digest_32 (by omega) z0 rfl ?_
                      refine go_get (pc := 35) hF fl_X10_96 dX10_digest_35 (by omega) z1 rfl ?_
                      refine go_callSP (pc := 38) hF [vi (en r₉)] [] ms_X10_111 dX10_digest_38 (c_X8_sizeOf E N σ (en r₉) (by omega)) rfl rfl (Nat.le_of_ble_eq_true rfl) (by decide) ⟨Nat.zero_le _, Nat.zero_le _⟩ ?_
                      rw [ek.1]
                      obtain eL | eL | eL | eL : mLong r₉ = 0 ∨ mLong r₉ = 1 ∨ mLong r₉ = 2 ∨ mLong r₉ = 3 := by have := mLong_rg r₉; omega
                      · rw [show vi (mLong r₉) = vi 0 by rw [eL]]
                        refine go_istore_n (pc := 41) hF [(3, vi 0), (1, vl ((31 * ((31 * ((31 * ((31 * ((31 * ((31 * ((31 * ((31 * (61969 + xb)) + xn)) + xf)) + tl)) + u₉)) + kd)) + pr)) + (mLong r₉))) + hs)), (0, vr E 0)] dX10_digest_41 rfl (by decide) ?_
                        refine go_iconst (pc := 42) hF dX10_digest_42 ?_
                        refine go_istore (pc := 43) hF [(4, vi 0), (3, vi 0), (1, vl ((31 * ((31 * ((31 * ((31 * ((31 * ((31 * ((31 * ((31 * (61969 + xb)) + xn)) + xf)) + tl)) + u₉)) + kd)) + pr)) + (mLong r₉))) + hs)), (0, vr E 0)] dX10_digest_43 rfl (by decide) ?_
                        refine go_iload (pc := 45) hF dX10_digest_45 0 rfl ?_
                        refine go_iload_n (pc := 47) hF dX10_digest_47 1 rfl ?_
                        refine go_icmp_ge (pc := 48) hF 77 dX10_digest_48 (by decide) ⟨by decide, by decide⟩ ⟨by decide, by decide⟩ (fun bq48 => ?_) (fun bq48 => ?_)
                        · refine go_iconst (pc := 77) hF dX10_digest_77 ?_
                          refine go_istore (pc := 78) hF [(4, vi 0), (3, vi 0), (1, vl ((31 * ((31 * ((31 * ((31 * ((31 * ((31 * ((31 * ((31 * (61969 + xb)) + xn)) + xf)) + tl)) + u₉)) + kd)) + pr)) + (mLong r₉))) + hs)), (0, vr E 0)] dX10_digest_78 rfl (by decide) ?_
                          refine go_iload (pc := 80) hF dX10_digest_80 0 rfl ?_
                          refine go_iconst (pc := 82) hF dX10_digest_82 ?_
                          refine go_icmp_gt (pc := 83) hF 109 dX10_digest_83 (by decide) ⟨by decide, by decide⟩ ⟨by decide, by decide⟩ (fun bq83 => ?_) (fun bq83 => ?_)
                          · exact absurd bq83 (by decide)
                          · refine go_ldc2 (pc := 86) hF kc_X10_236 dX10_digest_86 ?_
                            refine go_lload_n (pc := 89) hF dX10_digest_89 2 rfl ?_
                            refine go_lmul (pc := 90) hF dX10_digest_90 ?_
                            refine go_aload_n (pc := 91) hF dX10_digest_91 3 rfl ?_
                            refine go_get (pc := 92) hF fl_X10_44 dX10_digest_92 (by omega) z0 rfl ?_
                            refine go_iload (pc := 95) hF dX10_digest_95 0 rfl ?_
                            refine go_callVP (pc := 97) hF [vi 0] [vl (31 * ((31 * ((31 * ((31 * ((31 * ((31 * ((31 * ((31 * ((31 * (61969 + xb)) + xn)) + xf)) + tl)) + u₉)) + kd)) + pr)) + (mLong r₉))) + hs))] mv_X10_143 dX10_digest_97 (by omega) zp.1 (show CP E M_X6_tell 1 [vr E 23, vi 0] N σ (lk₉) from c_X6_tell E N σ 23 (by omega) zp 0 (by omega)) rfl rfl (Nat.le_of_ble_eq_true rfl) (by decide) ⟨Nat.zero_le _, Nat.zero_le _⟩ ?_
                            refine go_i2l (pc := 100) hF dX10_digest_100 (by omega) ?_
                            refine go_ladd (pc := 101) hF dX10_digest_101 ?_
                            refine go_lstore_n (pc := 102) hF [(1, vl ((31 * ((31 * ((31 * ((31 * ((31 * ((31 * ((31 * ((31 * ((31 * (61969 + xb)) + xn)) + xf)) + tl)) + u₉)) + kd)) + pr)) + (mLong r₉))) + hs)) + lk₉)), (4, vi 0), (3, vi 0), (0, vr E 0)] dX10_digest_102 rfl (by decide) ?_
                            refine go_iinc (pc := 103) hF [(4, vi 1), (1, vl ((31 * ((31 * ((31 * ((31 * ((31 * ((31 * ((31 * ((31 * ((31 * (61969 + xb)) + xn)) + xf)) + tl)) + u₉)) + kd)) + pr)) + (mLong r₉))) + hs)) + lk₉)), (3, vi 0), (0, vr E 0)] dX10_digest_103 1 rfl rfl (by decide) ?_
                            refine go_goto (pc := 106) hF 80 dX10_digest_106 (by decide) ?_
                            refine go_iload (pc := 80) hF dX10_digest_80 0 rfl ?_
                            refine go_iconst (pc := 82) hF dX10_digest_82 ?_
                            refine go_icmp_gt (pc := 83) hF 109 dX10_digest_83 (by decide) ⟨by decide, by decide⟩ ⟨by decide, by decide⟩ (fun bq83 => ?_) (fun bq83 => ?_)
                            · exact absurd bq83 (by decide)
                            · refine go_ldc2 (pc := 86) hF kc_X10_236 dX10_digest_86 ?_
                              refine go_lload_n (pc := 89) hF dX10_digest_89 1 rfl ?_
                              refine go_lmul (pc := 90) hF dX10_digest_90 ?_
                              refine go_aload_n (pc := 91) hF dX10_digest_91 3 rfl ?_
                              refine go_get (pc := 92) hF fl_X10_44 dX10_digest_92 (by omega) z0 rfl ?_
                              refine go_iload (pc := 95) hF dX10_digest_95 0 rfl ?_
                              refine go_callVP (pc := 97) hF [vi 1] [vl (31 * ((31 * ((31 * ((31 * ((31 * ((31 * ((31 * ((31 * ((31 * ((31 * (61969 + xb)) + xn)) + xf)) + tl)) + u₉)) + kd)) + pr)) + (mLong r₉))) + hs)) + lk₉))] mv_X10_143 dX10_digest_97 (by omega) zp.1 (show CP E M_X6_tell 1 [vr E 23, vi 1] N σ (chs) from c_X6_tell E N σ 23 (by omega) zp 1 (by omega)) rfl rfl (Nat.le_of_ble_eq_true rfl) (by decide) ⟨Nat.zero_le _, Nat.zero_le _⟩ ?_
                              refine go_i2l (pc := 100) hF dX10_digest_100 (by omega) ?_
                              refine go_ladd (pc := 101) hF dX10_digest_101 ?_
                              refine go_lstore_n (pc := 102) hF [(1, vl ((31 * ((31 * ((31 * ((31 * ((31 * ((31 * ((31 * ((31 * ((31 * ((31 * (61969 + xb)) + xn)) + xf)) + tl)) + u₉)) + kd)) + pr)) + (mLong r₉))) + hs)) + lk₉)) + chs)), (4, vi 1), (3, vi 0), (0, vr E 0)] dX10_digest_102 rfl (by decide) ?_
                              refine go_iinc (pc := 103) hF [(4, vi 2), (1, vl ((31 * ((31 * ((31 * ((31 * ((31 * ((31 * ((31 * ((31 * ((31 * ((31 * (61969 + xb)) + xn)) + xf)) + tl)) + u₉)) + kd)) + pr)) + (mLong r₉))) + hs)) + lk₉)) + chs)), (3, vi 0), (0, vr E 0)] dX10_digest_103 1 rfl rfl (by decide) ?_
                              refine go_goto (pc := 106) hF 80 dX10_digest_106 (by decide) ?_
                              refine go_iload (pc := 80) hF dX10_digest_80 0 rfl ?_
                              refine go_iconst (pc := 82) hF dX10_digest_82 ?_
                              refine go_icmp_gt (pc := 83) hF 109 dX10_digest_83 (by decide) ⟨by decide, by decide⟩ ⟨by decide, by decide⟩ (fun bq83 => ?_) (fun bq83 => ?_)
                              · exact absurd bq83 (by decide)
                              · refine go_ldc2 (pc := 86) hF kc_X10_236 dX10_digest_86 ?_
                                refine go_lload_n (pc := 89) hF dX10_digest_89 1 rfl ?_
                                refine go_lmul (pc := 90) hF dX10_digest_90 ?_
                                refine go_aload_n (pc := 91) hF dX10_digest_91 3 rfl ?_
                                refine go_get (pc := 92) hF fl_X10_44 dX10_digest_92 (by omega) z0 rfl ?_
                                refine go_iload (pc := 95) hF dX10_digest_95 0 rfl ?_
                                refine go_callVP (pc := 97) hF [vi 2] [vl (31 * ((31 * ((31 * ((31 * ((31 * ((31 * ((31 * ((31 * ((31 * ((31 * ((31 * (61969 + xb)) + xn)) + xf)) + tl)) + u₉)) + kd)) + pr)) + (mLong r₉))) + hs)) + lk₉)) + chs))] mv_X10_143 dX10_digest_97 (by omega) zp.1 (show CP E M_X6_tell 1 [vr E 23, vi 2] N σ (lps) from c_X6_tell E N σ 23 (by omega) zp 2 (by omega)) rfl rfl (Nat.le_of_ble_eq_true rfl) (by decide) ⟨Nat.zero_le _, Nat.zero_le _⟩ ?_
                                refine go_i2l (pc := 100) hF dX10_digest_100 (by omega) ?_
                                refine go_ladd (pc := 101) hF dX10_digest_101 ?_
                                refine go_lstore_n (pc := 102) hF [(1, vl ((31 * ((31 * ((31 * ((31 * ((31 * ((31 * ((31 * ((31 * ((31 * ((31 * ((31 * (61969 + xb)) + xn)) + xf)) + tl)) + u₉)) + kd)) + pr)) + (mLong r₉))) + hs)) + lk₉)) + chs)) + lps)), (4, vi 2), (3, vi 0), (0, vr E 0)] dX10_digest_102 rfl (by decide) ?_
                                refine go_iinc (pc := 103) hF [(4, vi 3), (1, vl ((31 * ((31 * ((31 * ((31 * ((31 * ((31 * ((31 * ((31 * ((31 * ((31 * ((31 * (61969 + xb)) + xn)) + xf)) + tl)) + u₉)) + kd)) + pr)) + (mLong r₉))) + hs)) + lk₉)) + chs)) + lps)), (3, vi 0), (0, vr E 0)] dX10_digest_103 1 rfl rfl (by decide) ?_
                                refine go_goto (pc := 106) hF 80 dX10_digest_106 (by decide) ?_
                                refine go_iload (pc := 80) hF dX10_digest_80 0 rfl ?_
                                refine go_iconst (pc := 82) hF dX10_digest_82 ?_
                                refine go_icmp_gt (pc := 83) hF 109 dX10_digest_83 (by decide) ⟨by decide, by decide⟩ ⟨by decide, by decide⟩ (fun bq83 => ?_) (fun bq83 => ?_)
                                · exact absurd bq83 (by decide)
                                · refine go_ldc2 (pc := 86) hF kc_X10_236 dX10_digest_86 ?_
                                  refine go_lload_n (pc := 89) hF dX10_digest_89 1 rfl ?_
                                  refine go_lmul (pc := 90) hF dX10_digest_90 ?_
                                  refine go_aload_n (pc := 91) hF dX10_digest_91 3 rfl ?_
                                  refine go_get (pc := 92) hF fl_X10_44 dX10_digest_92 (by omega) z0 rfl ?_
                                  refine go_iload (pc := 95) hF dX10_digest_95 0 rfl ?_
                                  refine go_callVP (pc := 97) hF [vi 3] [vl (31 * ((31 * ((31 * ((31 * ((31 * ((31 * ((31 * ((31 * ((31 * ((31 * ((31 * ((31 * (61969 + xb)) + xn)) + xf)) + tl)) + u₉)) + kd)) + pr)) + (mLong r₉))) + hs)) + lk₉)) + chs)) + lps))] mv_X10_143 dX10_digest_97 (by omega) zp.1 (show CP E M_X6_tell 1 [vr E 23, vi 3] N σ (dp) from c_X6_tell E N σ 23 (by omega) zp 3 (by omega)) rfl rfl (Nat.le_of_ble_eq_true rfl) (by decide) ⟨Nat.zero_le _, Nat.zero_le _⟩ ?_
                                  refine go_i2l (pc := 100) hF dX10_digest_100 (by omega) ?_
                                  refine go_ladd (pc := 101) hF dX10_digest_101 ?_
                                  refine go_lstore_n (pc := 102) hF [(1, vl ((31 * ((31 * ((31 * ((31 * ((31 * ((31 * ((31 * ((31 * ((31 * ((31 * ((31 * ((31 * (61969 + xb)) + xn)) + xf)) + tl)) + u₉)) + kd)) + pr)) + (mLong r₉))) + hs)) + lk₉)) + chs)) + lps)) + dp)), (4, vi 3), (3, vi 0), (0, vr E 0)] dX10_digest_102 rfl (by decide) ?_
                                  refine go_iinc (pc := 103) hF [(4, vi 4), (1, vl ((31 * ((31 * ((31 * ((31 * ((31 * ((31 * ((31 * ((31 * ((31 * ((31 * ((31 * ((31 * (61969 + xb)) + xn)) + xf)) + tl)) + u₉)) + kd)) + pr)) + (mLong r₉))) + hs)) + lk₉)) + chs)) + lps)) + dp)), (3, vi 0), (0, vr E 0)] dX10_digest_103 1 rfl rfl (by decide) ?_
                                  refine go_goto (pc := 106) hF 80 dX10_digest_106 (by decide) ?_
                                  refine go_iload (pc := 80) hF dX10_digest_80 0 rfl ?_
                                  refine go_iconst (pc := 82) hF dX10_digest_82 ?_
                                  refine go_icmp_gt (pc := 83) hF 109 dX10_digest_83 (by decide) ⟨by decide, by decide⟩ ⟨by decide, by decide⟩ (fun bq83 => ?_) (fun bq83 => ?_)
                                  · exact absurd bq83 (by decide)
                                  · refine go_ldc2 (pc := 86) hF kc_X10_236 dX10_digest_86 ?_
                                    refine go_lload_n (pc := 89) hF dX10_digest_89 1 rfl ?_
                                    refine go_lmul (pc := 90) hF dX10_digest_90 ?_
                                    refine go_aload_n (pc := 91) hF dX10_digest_91 3 rfl ?_
                                    refine go_get (pc := 92) hF fl_X10_44 dX10_digest_92 (by omega) z0 rfl ?_
                                    refine go_iload (pc := 95) hF dX10_digest_95 0 rfl ?_
                                    refine go_callVP (pc := 97) hF [vi 4] [vl (31 * ((31 * ((31 * ((31 * ((31 * ((31 * ((31 * ((31 * ((31 * ((31 * ((31 * ((31 * ((31 * (61969 + xb)) + xn)) + xf)) + tl)) + u₉)) + kd)) + pr)) + (mLong r₉))) + hs)) + lk₉)) + chs)) + lps)) + dp))] mv_X10_143 dX10_digest_97 (by omega) zp.1 (show CP E M_X6_tell 1 [vr E 23, vi 4] N σ (ln) from c_X6_tell E N σ 23 (by omega) zp 4 (by omega)) rfl rfl (Nat.le_of_ble_eq_true rfl) (by decide) ⟨Nat.zero_le _, Nat.zero_le _⟩ ?_
                                    refine go_i2l (pc := 100) hF dX10_digest_100 (by omega) ?_
                                    refine go_ladd (pc := 101) hF dX10_digest_101 ?_
                                    refine go_lstore_n (pc := 102) hF [(1, vl ((31 * ((31 * ((31 * ((31 * ((31 * ((31 * ((31 * ((31 * ((31 * ((31 * ((31 * ((31 * ((31 * (61969 + xb)) + xn)) + xf)) + tl)) + u₉)) + kd)) + pr)) + (mLong r₉))) + hs)) + lk₉)) + chs)) + lps)) + dp)) + ln)), (4, vi 4), (3, vi 0), (0, vr E 0)] dX10_digest_102 rfl (by decide) ?_
                                    refine go_iinc (pc := 103) hF [(4, vi 5), (1, vl ((31 * ((31 * ((31 * ((31 * ((31 * ((31 * ((31 * ((31 * ((31 * ((31 * ((31 * ((31 * ((31 * (61969 + xb)) + xn)) + xf)) + tl)) + u₉)) + kd)) + pr)) + (mLong r₉))) + hs)) + lk₉)) + chs)) + lps)) + dp)) + ln)), (3, vi 0), (0, vr E 0)] dX10_digest_103 1 rfl rfl (by decide) ?_
                                    refine go_goto (pc := 106) hF 80 dX10_digest_106 (by decide) ?_
                                    refine go_iload (pc := 80) hF dX10_digest_80 0 rfl ?_
                                    refine go_iconst (pc := 82) hF dX10_digest_82 ?_
                                    refine go_icmp_gt (pc := 83) hF 109 dX10_digest_83 (by decide) ⟨by decide, by decide⟩ ⟨by decide, by decide⟩ (fun bq83 => ?_) (fun bq83 => ?_)
                                    · refine go_iconst (pc := 109) hF dX10_digest_109 ?_
                                      refine go_istore (pc := 110) hF [(4, vi 0), (1, vl ((31 * ((31 * ((31 * ((31 * ((31 * ((31 * ((31 * ((31 * ((31 * ((31 * ((31 * ((31 * ((31 * (61969 + xb)) + xn)) + xf)) + tl)) + u₉)) + kd)) + pr)) + (mLong r₉))) + hs)) + lk₉)) + chs)) + lps)) + dp)) + ln)), (3, vi 0), (0, vr E 0)] dX10_digest_110 rfl (by decide) ?_
                                      refine go_iload (pc := 112) hF dX10_digest_112 0 rfl ?_
                                      refine go_iconst (pc := 114) hF dX10_digest_114 ?_
                                      refine go_icmp_gt (pc := 115) hF 141 dX10_digest_115 (by decide) ⟨by decide, by decide⟩ ⟨by decide, by decide⟩ (fun bq115 => ?_) (fun bq115 => ?_)
                                      · exact absurd bq115 (by decide)
                                      · refine go_ldc2 (pc := 118) hF kc_X10_236 dX10_digest_118 ?_
                                        refine go_lload_n (pc := 121) hF dX10_digest_121 1 rfl ?_
                                        refine go_lmul (pc := 122) hF dX10_digest_122 ?_
                                        refine go_aload_n (pc := 123) hF dX10_digest_123 3 rfl ?_
                                        refine go_get (pc := 124) hF fl_X10_65 dX10_digest_124 (by omega) z0 rfl ?_
                                        refine go_iload (pc := 127) hF dX10_digest_127 0 rfl ?_
                                        refine go_callVP (pc := 129) hF [vi 0] [vl (31 * ((31 * ((31 * ((31 * ((31 * ((31 * ((31 * ((31 * ((31 * ((31 * ((31 * ((31 * ((31 * ((31 * (61969 + xb)) + xn)) + xf)) + tl)) + u₉)) + kd)) + pr)) + (mLong r₉))) + hs)) + lk₉)) + chs)) + lps)) + dp)) + ln))] mv_X10_206 dX10_digest_129 (by omega) z99 (show CP E M_X9_tell 1 [vr E 92, vi 0] N σ (q1₉) from c_X9_tell E N σ 92 b1 b2 q1₉ q2₉ q3₉ 0 (by omega) (by omega) z99) rfl rfl (Nat.le_of_ble_eq_true rfl) (by decide) ⟨Nat.zero_le _, Nat.zero_le _⟩ ?_
                                        refine go_i2l (pc := 132) hF dX10_digest_132 (by omega) ?_
                                        refine go_ladd (pc := 133) hF dX10_digest_133 ?_
                                        refine go_lstore_n (pc := 134) hF [(1, vl ((31 * ((31 * ((31 * ((31 * ((31 * ((31 * ((31 * ((31 * ((31 * ((31 * ((31 * ((31 * ((31 * ((31 * (61969 + xb)) + xn)) + xf)) + tl)) + u₉)) + kd)) + pr)) + (mLong r₉))) + hs)) + lk₉)) + chs)) + lps)) + dp)) + ln)) + q1₉)), (4, vi 0), (3, vi 0), (0, vr E 0)] dX10_digest_134 rfl (by decide) ?_
                                        refine go_iinc (pc := 135) hF [(4, vi 1), (1, vl ((31 * ((31 * ((31 * ((31 * ((31 * ((31 * ((31 * ((31 * ((31 * ((31 * ((31 * ((31 * ((31 * ((31 * (61969 + xb)) + xn)) + xf)) + tl)) + u₉)) + kd)) + pr)) + (mLong r₉))) + hs)) + lk₉)) + chs)) + lps)) + dp)) + ln)) + q1₉)), (3, vi 0), (0, vr E 0)] dX10_digest_135 1 rfl rfl (by decide) ?_
                                        refine go_goto (pc := 138) hF 112 dX10_digest_138 (by decide) ?_
                                        refine go_iload (pc := 112) hF dX10_digest_112 0 rfl ?_
                                        refine go_iconst (pc := 114) hF dX10_digest_114 ?_
                                        refine go_icmp_gt (pc := 115) hF 141 dX10_digest_115 (by decide) ⟨by decide, by decide⟩ ⟨by decide, by decide⟩ (fun bq115 => ?_) (fun bq115 => ?_)
                                        · exact absurd bq115 (by decide)
                                        · refine go_ldc2 (pc := 118) hF kc_X10_236 dX10_digest_118 ?_
                                          refine go_lload_n (pc := 121) hF dX10_digest_121 1 rfl ?_
                                          refine go_lmul (pc := 122) hF dX10_digest_122 ?_
                                          refine go_aload_n (pc := 123) hF dX10_digest_123 3 rfl ?_
                                          refine go_get (pc := 124) hF fl_X10_65 dX10_digest_124 (by omega) z0 rfl ?_
                                          refine go_iload (pc := 127) hF dX10_digest_127 0 rfl ?_
                                          refine go_callVP (pc := 129) hF [vi 1] [vl (31 * ((31 * ((31 * ((31 * ((31 * ((31 * ((31 * ((31 * ((31 * ((31 * ((31 * ((31 * ((31 * ((31 * ((31 * (61969 + xb)) + xn)) + xf)) + tl)) + u₉)) + kd)) + pr)) + (mLong r₉))) + hs)) + lk₉)) + chs)) + lps)) + dp)) + ln)) + q1₉))] mv_X10_206 dX10_digest_129 (by omega) z99 (show CP E M_X9_tell 1 [vr E 92, vi 1] N σ (q2₉) from c_X9_tell E N σ 92 b1 b2 q1₉ q2₉ q3₉ 1 (by omega) (by omega) z99) rfl rfl (Nat.le_of_ble_eq_true rfl) (by decide) ⟨Nat.zero_le _, Nat.zero_le _⟩ ?_
                                          refine go_i2l (pc := 132) hF dX10_digest_132 (by omega) ?_
                                          refine go_ladd (pc := 133) hF dX10_digest_133 ?_
                                          refine go_lstore_n (pc := 134) hF [(1, vl ((31 * ((31 * ((31 * ((31 * ((31 * ((31 * ((31 * ((31 * ((31 * ((31 * ((31 * ((31 * ((31 * ((31 * ((31 * (61969 + xb)) + xn)) + xf)) + tl)) + u₉)) + kd)) + pr)) + (mLong r₉))) + hs)) + lk₉)) + chs)) + lps)) + dp)) + ln)) + q1₉)) + q2₉)), (4, vi 1), (3, vi 0), (0, vr E 0)] dX10_digest_134 rfl (by decide) ?_
                                          refine go_iinc (pc := 135) hF [(4, vi 2), (1, vl ((31 * ((31 * ((31 * ((31 * ((31 * ((31 * ((31 * ((31 * ((31 * ((31 * ((31 * ((31 * ((31 * ((31 * ((31 * (61969 + xb)) + xn)) + xf)) + tl)) + u₉)) + kd)) + pr)) + (mLong r₉))) + hs)) + lk₉)) + chs)) + lps)) + dp)) + ln)) + q1₉)) + q2₉)), (3, vi 0), (0, vr E 0)] dX10_digest_135 1 rfl rfl (by decide) ?_
                                          refine go_goto (pc := 138) hF 112 dX10_digest_138 (by decide) ?_
                                          refine go_iload (pc := 112) hF dX10_digest_112 0 rfl ?_
                                          refine go_iconst (pc := 114) hF dX10_digest_114 ?_
                                          refine go_icmp_gt (pc := 115) hF 141 dX10_digest_115 (by decide) ⟨by decide, by decide⟩ ⟨by decide, by decide⟩ (fun bq115 => ?_) (fun bq115 => ?_)
                                          · exact absurd bq115 (by decide)
                                          · refine go_ldc2 (pc := 118) hF kc_X10_236 dX10_digest_118 ?_
                                            refine go_lload_n (pc := 121) hF dX10_digest_121 1 rfl ?_
                                            refine go_lmul (pc := 122) hF dX10_digest_122 ?_
                                            refine go_aload_n (pc := 123) hF dX10_digest_123 3 rfl ?_
                                            refine go_get (pc := 124) hF fl_X10_65 dX10_digest_124 (by omega) z0 rfl ?_
                                            refine go_iload (pc := 127) hF dX10_digest_127 0 rfl ?_
                                            refine go_callVP (pc := 129) hF [vi 2] [vl (31 * ((31 * ((31 * ((31 * ((31 * ((31 * ((31 * ((31 * ((31 * ((31 * ((31 * ((31 * ((31 * ((31 * ((31 * ((31 * (61969 + xb)) + xn)) + xf)) + tl)) + u₉)) + kd)) + pr)) + (mLong r₉))) + hs)) + lk₉)) + chs)) + lps)) + dp)) + ln)) + q1₉)) + q2₉))] mv_X10_206 dX10_digest_129 (by omega) z99 (show CP E M_X9_tell 1 [vr E 92, vi 2] N σ (q3₉) from c_X9_tell E N σ 92 b1 b2 q1₉ q2₉ q3₉ 2 (by omega) (by omega) z99) rfl rfl (Nat.le_of_ble_eq_true rfl) (by decide) ⟨Nat.zero_le _, Nat.zero_le _⟩ ?_
                                            refine go_i2l (pc := 132) hF dX10_digest_132 (by omega) ?_
                                            refine go_ladd (pc := 133) hF dX10_digest_133 ?_
                                            refine go_lstore_n (pc := 134) hF [(1, vl ((31 * ((31 * ((31 * ((31 * ((31 * ((31 * ((31 * ((31 * ((31 * ((31 * ((31 * ((31 * ((31 * ((31 * ((31 * ((31 * (61969 + xb)) + xn)) + xf)) + tl)) + u₉)) + kd)) + pr)) + (mLong r₉))) + hs)) + lk₉)) + chs)) + lps)) + dp)) + ln)) + q1₉)) + q2₉)) + q3₉)), (4, vi 2), (3, vi 0), (0, vr E 0)] dX10_digest_134 rfl (by decide) ?_
                                            refine go_iinc (pc := 135) hF [(4, vi 3), (1, vl ((31 * ((31 * ((31 * ((31 * ((31 * ((31 * ((31 * ((31 * ((31 * ((31 * ((31 * ((31 * ((31 * ((31 * ((31 * ((31 * (61969 + xb)) + xn)) + xf)) + tl)) + u₉)) + kd)) + pr)) + (mLong r₉))) + hs)) + lk₉)) + chs)) + lps)) + dp)) + ln)) + q1₉)) + q2₉)) + q3₉)), (3, vi 0), (0, vr E 0)] dX10_digest_135 1 rfl rfl (by decide) ?_
                                            refine go_goto (pc := 138) hF 112 dX10_digest_138 (by decide) ?_
                                            refine go_iload (pc := 112) hF dX10_digest_112 0 rfl ?_
                                            refine go_iconst (pc := 114) hF dX10_digest_114 ?_
                                            refine go_icmp_gt (pc := 115) hF 141 dX10_digest_115 (by decide) ⟨by decide, by decide⟩ ⟨by decide, by decide⟩ (fun bq115 => ?_) (fun bq115 => ?_)
                                            · refine go_lload_n (pc := 141) hF dX10_digest_141 1 rfl ?_
                                              refine go_lretQ hF hr hlk hQ dX10_digest_142 ⟨?_, hS0, fun _ _ => rfl⟩
                                              unfold dgS dgL
                                              rw [if_pos eL]
                                              rw [htk9, ← hch9, ← hlp9, ← hdp9, ← hln9]
                                              rfl
                                            · exact absurd bq115 (by decide)
                                    · exact absurd bq83 (by decide)
                        · exact absurd bq48 (by decide)
                      · rw [show vi (mLong r₉) = vi 1 by rw [eL]]
                        refine go_istore_n (pc := 41) hF [(3, vi 1), (1, vl ((31 * ((31 * ((31 * ((31 * ((31 * ((31 * ((31 * ((31 * (61969 + xb)) + xn)) + xf)) + tl)) + u₉)) + kd)) + pr)) + (mLong r₉))) + hs)), (0, vr E 0)] dX10_digest_41 rfl (by decide) ?_
                        refine go_iconst (pc := 42) hF dX10_digest_42 ?_
                        refine go_istore (pc := 43) hF [(4, vi 0), (3, vi 1), (1, vl ((31 * ((31 * ((31 * ((31 * ((31 * ((31 * ((31 * ((31 * (61969 + xb)) + xn)) + xf)) + tl)) + u₉)) + kd)) + pr)) + (mLong r₉))) + hs)), (0, vr E 0)] dX10_digest_43 rfl (by decide) ?_
                        refine go_iload (pc := 45) hF dX10_digest_45 0 rfl ?_
                        refine go_iload_n (pc := 47) hF dX10_digest_47 1 rfl ?_
                        refine go_icmp_ge (pc := 48) hF 77 dX10_digest_48 (by decide) ⟨by decide, by decide⟩ ⟨by decide, by decide⟩ (fun bq48 => ?_) (fun bq48 => ?_)
                        · exact absurd bq48 (by decide)
                        · refine go_ldc2 (pc := 51) hF kc_X10_236 dX10_digest_51 ?_
                          refine go_lload_n (pc := 54) hF dX10_digest_54 2 rfl ?_
                          refine go_lmul (pc := 55) hF dX10_digest_55 ?_
                          refine go_aload_n (pc := 56) hF dX10_digest_56 3 rfl ?_
                          refine go_get (pc := 57) hF fl_X10_10 dX10_digest_57 (by omega) z0 rfl ?_
                          refine go_get (pc := 60) hF fl_X10_96 dX10_digest_60 (by omega) z1 rfl ?_
                          refine go_iload (pc := 63) hF dX10_digest_63 0 rfl ?_
                          refine go_callSP (pc := 65) hF [vi (en r₉), vi 0] [vl (31 * ((31 * ((31 * ((31 * ((31 * ((31 * ((31 * ((31 * ((31 * (61969 + xb)) + xn)) + xf)) + tl)) + u₉)) + kd)) + pr)) + (mLong r₉))) + hs))] ms_X10_122 dX10_digest_65 (show CP E M_X8_lineAt 1 [vi (en r₉), vi 0] N σ (mAt r₉ 0) from (by have h := c_X8_lineAt E N σ (en r₉) 0 (by omega) (by first | omega | (constructor <;> decide)); rw [ek.2.1] at h; exact h)) rfl rfl (Nat.le_of_ble_eq_true rfl) (by decide) ⟨Nat.zero_le _, Nat.zero_le _⟩ ?_
                          refine go_i2l (pc := 68) hF dX10_digest_68 (by omega) ?_
                          refine go_ladd (pc := 69) hF dX10_digest_69 ?_
                          refine go_lstore_n (pc := 70) hF [(1, vl ((31 * ((31 * ((31 * ((31 * ((31 * ((31 * ((31 * ((31 * ((31 * (61969 + xb)) + xn)) + xf)) + tl)) + u₉)) + kd)) + pr)) + (mLong r₉))) + hs)) + (mAt r₉ 0))), (4, vi 0), (3, vi 1), (0, vr E 0)] dX10_digest_70 rfl (by decide) ?_
                          refine go_iinc (pc := 71) hF [(4, vi 1), (1, vl ((31 * ((31 * ((31 * ((31 * ((31 * ((31 * ((31 * ((31 * ((31 * (61969 + xb)) + xn)) + xf)) + tl)) + u₉)) + kd)) + pr)) + (mLong r₉))) + hs)) + (mAt r₉ 0))), (3, vi 1), (0, vr E 0)] dX10_digest_71 1 rfl rfl (by decide) ?_
                          refine go_goto (pc := 74) hF 45 dX10_digest_74 (by decide) ?_
                          refine go_iload (pc := 45) hF dX10_digest_45 0 rfl ?_
                          refine go_iload_n (pc := 47) hF dX10_digest_47 2 rfl ?_
                          refine go_icmp_ge (pc := 48) hF 77 dX10_digest_48 (by decide) ⟨by decide, by decide⟩ ⟨by decide, by decide⟩ (fun bq48 => ?_) (fun bq48 => ?_)
                          · refine go_iconst (pc := 77) hF dX10_digest_77 ?_
                            refine go_istore (pc := 78) hF [(4, vi 0), (1, vl ((31 * ((31 * ((31 * ((31 * ((31 * ((31 * ((31 * ((31 * ((31 * (61969 + xb)) + xn)) + xf)) + tl)) + u₉)) + kd)) + pr)) + (mLong r₉))) + hs)) + (mAt r₉ 0))), (3, vi 1), (0, vr E 0)] dX10_digest_78 rfl (by decide) ?_
                            refine go_iload (pc := 80) hF dX10_digest_80 0 rfl ?_
                            refine go_iconst (pc := 82) hF dX10_digest_82 ?_
                            refine go_icmp_gt (pc := 83) hF 109 dX10_digest_83 (by decide) ⟨by decide, by decide⟩ ⟨by decide, by decide⟩ (fun bq83 => ?_) (fun bq83 => ?_)
                            · exact absurd bq83 (by decide)
                            · refine go_ldc2 (pc := 86) hF kc_X10_236 dX10_digest_86 ?_
                              refine go_lload_n (pc := 89) hF dX10_digest_89 1 rfl ?_
                              refine go_lmul (pc := 90) hF dX10_digest_90 ?_
                              refine go_aload_n (pc := 91) hF dX10_digest_91 3 rfl ?_
                              refine go_get (pc := 92) hF fl_X10_44 dX10_digest_92 (by omega) z0 rfl ?_
                              refine go_iload (pc := 95) hF dX10_digest_95 0 rfl ?_
                              refine go_callVP (pc := 97) hF [vi 0] [vl (31 * ((31 * ((31 * ((31 * ((31 * ((31 * ((31 * ((31 * ((31 * ((31 * (61969 + xb)) + xn)) + xf)) + tl)) + u₉)) + kd)) + pr)) + (mLong r₉))) + hs)) + (mAt r₉ 0)))] mv_X10_143 dX10_digest_97 (by omega) zp.1 (show CP E M_X6_tell 1 [vr E 23, vi 0] N σ (lk₉) from c_X6_tell E N σ 23 (by omega) zp 0 (by omega)) rfl rfl (Nat.le_of_ble_eq_true rfl) (by decide) ⟨Nat.zero_le _, Nat.zero_le _⟩ ?_
                              refine go_i2l (pc := 100) hF dX10_digest_100 (by omega) ?_
                              refine go_ladd (pc := 101) hF dX10_digest_101 ?_
                              refine go_lstore_n (pc := 102) hF [(1, vl ((31 * ((31 * ((31 * ((31 * ((31 * ((31 * ((31 * ((31 * ((31 * ((31 * (61969 + xb)) + xn)) + xf)) + tl)) + u₉)) + kd)) + pr)) + (mLong r₉))) + hs)) + (mAt r₉ 0))) + lk₉)), (4, vi 0), (3, vi 1), (0, vr E 0)] dX10_digest_102 rfl (by decide) ?_
                              refine go_iinc (pc := 103) hF [(4, vi 1), (1, vl ((31 * ((31 * ((31 * ((31 * ((31 * ((31 * ((31 * ((31 * ((31 * ((31 * (61969 + xb)) + xn)) + xf)) + tl)) + u₉)) + kd)) + pr)) + (mLong r₉))) + hs)) + (mAt r₉ 0))) + lk₉)), (3, vi 1), (0, vr E 0)] dX10_digest_103 1 rfl rfl (by decide) ?_
                              refine go_goto (pc := 106) hF 80 dX10_digest_106 (by decide) ?_
                              refine go_iload (pc := 80) hF dX10_digest_80 0 rfl ?_
                              refine go_iconst (pc := 82) hF dX10_digest_82 ?_
                              refine go_icmp_gt (pc := 83) hF 109 dX10_digest_83 (by decide) ⟨by decide, by decide⟩ ⟨by decide, by decide⟩ (fun bq83 => ?_) (fun bq83 => ?_)
                              · exact absurd bq83 (by decide)
                              · refine go_ldc2 (pc := 86) hF kc_X10_236 dX10_digest_86 ?_
                                refine go_lload_n (pc := 89) hF dX10_digest_89 1 rfl ?_
                                refine go_lmul (pc := 90) hF dX10_digest_90 ?_
                                refine go_aload_n (pc := 91) hF dX10_digest_91 3 rfl ?_
                                refine go_get (pc := 92) hF fl_X10_44 dX10_digest_92 (by omega) z0 rfl ?_
                                refine go_iload (pc := 95) hF dX10_digest_95 0 rfl ?_
                                refine go_callVP (pc := 97) hF [vi 1] [vl (31 * ((31 * ((31 * ((31 * ((31 * ((31 * ((31 * ((31 * ((31 * ((31 * ((31 * (61969 + xb)) + xn)) + xf)) + tl)) + u₉)) + kd)) + pr)) + (mLong r₉))) + hs)) + (mAt r₉ 0))) + lk₉))] mv_X10_143 dX10_digest_97 (by omega) zp.1 (show CP E M_X6_tell 1 [vr E 23, vi 1] N σ (chs) from c_X6_tell E N σ 23 (by omega) zp 1 (by omega)) rfl rfl (Nat.le_of_ble_eq_true rfl) (by decide) ⟨Nat.zero_le _, Nat.zero_le _⟩ ?_
                                refine go_i2l (pc := 100) hF dX10_digest_100 (by omega) ?_
                                refine go_ladd (pc := 101) hF dX10_digest_101 ?_
                                refine go_lstore_n (pc := 102) hF [(1, vl ((31 * ((31 * ((31 * ((31 * ((31 * ((31 * ((31 * ((31 * ((31 * ((31 * ((31 * (61969 + xb)) + xn)) + xf)) + tl)) + u₉)) + kd)) + pr)) + (mLong r₉))) + hs)) + (mAt r₉ 0))) + lk₉)) + chs)), (4, vi 1), (3, vi 1), (0, vr E 0)] dX10_digest_102 rfl (by decide) ?_
                                refine go_iinc (pc := 103) hF [(4, vi 2), (1, vl ((31 * ((31 * ((31 * ((31 * ((31 * ((31 * ((31 * ((31 * ((31 * ((31 * ((31 * (61969 + xb)) + xn)) + xf)) + tl)) + u₉)) + kd)) + pr)) + (mLong r₉))) + hs)) + (mAt r₉ 0))) + lk₉)) + chs)), (3, vi 1), (0, vr E 0)] dX10_digest_103 1 rfl rfl (by decide) ?_
                                refine go_goto (pc := 106) hF 80 dX10_digest_106 (by decide) ?_
                                refine go_iload (pc := 80) hF dX10_digest_80 0 rfl ?_
                                refine go_iconst (pc := 82) hF dX10_digest_82 ?_
                                refine go_icmp_gt (pc := 83) hF 109 dX10_digest_83 (by decide) ⟨by decide, by decide⟩ ⟨by decide, by decide⟩ (fun bq83 => ?_) (fun bq83 => ?_)
                                · exact absurd bq83 (by decide)
                                · refine go_ldc2 (pc := 86) hF kc_X10_236 dX10_digest_86 ?_
                                  refine go_lload_n (pc := 89) hF dX10_digest_89 1 rfl ?_
                                  refine go_lmul (pc := 90) hF dX10_digest_90 ?_
                                  refine go_aload_n (pc := 91) hF dX10_digest_91 3 rfl ?_
                                  refine go_get (pc := 92) hF fl_X10_44 dX10_digest_92 (by omega) z0 rfl ?_
                                  refine go_iload (pc := 95) hF dX10_digest_95 0 rfl ?_
                                  refine go_callVP (pc := 97) hF [vi 2] [vl (31 * ((31 * ((31 * ((31 * ((31 * ((31 * ((31 * ((31 * ((31 * ((31 * ((31 * ((31 * (61969 + xb)) + xn)) + xf)) + tl)) + u₉)) + kd)) + pr)) + (mLong r₉))) + hs)) + (mAt r₉ 0))) + lk₉)) + chs))] mv_X10_143 dX10_digest_97 (by omega) zp.1 (show CP E M_X6_tell 1 [vr E 23, vi 2] N σ (lps) from c_X6_tell E N σ 23 (by omega) zp 2 (by omega)) rfl rfl (Nat.le_of_ble_eq_true rfl) (by decide) ⟨Nat.zero_le _, Nat.zero_le _⟩ ?_
                                  refine go_i2l (pc := 100) hF dX10_digest_100 (by omega) ?_
                                  refine go_ladd (pc := 101) hF dX10_digest_101 ?_
                                  refine go_lstore_n (pc := 102) hF [(1, vl ((31 * ((31 * ((31 * ((31 * ((31 * ((31 * ((31 * ((31 * ((31 * ((31 * ((31 * ((31 * (61969 + xb)) + xn)) + xf)) + tl)) + u₉)) + kd)) + pr)) + (mLong r₉))) + hs)) + (mAt r₉ 0))) + lk₉)) + chs)) + lps)), (4, vi 2), (3, vi 1), (0, vr E 0)] dX10_digest_102 rfl (by decide) ?_
                                  refine go_iinc (pc := 103) hF [(4, vi 3), (1, vl ((31 * ((31 * ((31 * ((31 * ((31 * ((31 * ((31 * ((31 * ((31 * ((31 * ((31 * ((31 * (61969 + xb)) + xn)) + xf)) + tl)) + u₉)) + kd)) + pr)) + (mLong r₉))) + hs)) + (mAt r₉ 0))) + lk₉)) + chs)) + lps)), (3, vi 1), (0, vr E 0)] dX10_digest_103 1 rfl rfl (by decide) ?_
                                  refine go_goto (pc := 106) hF 80 dX10_digest_106 (by decide) ?_
                                  refine go_iload (pc := 80) hF dX10_digest_80 0 rfl ?_
                                  refine go_iconst (pc := 82) hF dX10_digest_82 ?_
                                  refine go_icmp_gt (pc := 83) hF 109 dX10_digest_83 (by decide) ⟨by decide, by decide⟩ ⟨by decide, by decide⟩ (fun bq83 => ?_) (fun bq83 => ?_)
                                  · exact absurd bq83 (by decide)
                                  · refine go_ldc2 (pc := 86) hF kc_X10_236 dX10_digest_86 ?_
                                    refine go_lload_n (pc := 89) hF dX10_digest_89 1 rfl ?_
                                    refine go_lmul (pc := 90) hF dX10_digest_90 ?_
                                    refine go_aload_n (pc := 91) hF dX10_digest_91 3 rfl ?_
                                    refine go_get (pc := 92) hF fl_X10_44 dX10_digest_92 (by omega) z0 rfl ?_
                                    refine go_iload (pc := 95) hF dX10_digest_95 0 rfl ?_
                                    refine go_callVP (pc := 97) hF [vi 3] [vl (31 * ((31 * ((31 * ((31 * ((31 * ((31 * ((31 * ((31 * ((31 * ((31 * ((31 * ((31 * ((31 * (61969 + xb)) + xn)) + xf)) + tl)) + u₉)) + kd)) + pr)) + (mLong r₉))) + hs)) + (mAt r₉ 0))) + lk₉)) + chs)) + lps))] mv_X10_143 dX10_digest_97 (by omega) zp.1 (show CP E M_X6_tell 1 [vr E 23, vi 3] N σ (dp) from c_X6_tell E N σ 23 (by omega) zp 3 (by omega)) rfl rfl (Nat.le_of_ble_eq_true rfl) (by decide) ⟨Nat.zero_le _, Nat.zero_le _⟩ ?_
                                    refine go_i2l (pc := 100) hF dX10_digest_100 (by omega) ?_
                                    refine go_ladd (pc := 101) hF dX10_digest_101 ?_
                                    refine go_lstore_n (pc := 102) hF [(1, vl ((31 * ((31 * ((31 * ((31 * ((31 * ((31 * ((31 * ((31 * ((31 * ((31 * ((31 * ((31 * ((31 * (61969 + xb)) + xn)) + xf)) + tl)) + u₉)) + kd)) + pr)) + (mLong r₉))) + hs)) + (mAt r₉ 0))) + lk₉)) + chs)) + lps)) + dp)), (4, vi 3), (3, vi 1), (0, vr E 0)] dX10_digest_102 rfl (by decide) ?_
                                    refine go_iinc (pc := 103) hF [(4, vi 4), (1, vl ((31 * ((31 * ((31 * ((31 * ((31 * ((31 * ((31 * ((31 * ((31 * ((31 * ((31 * ((31 * ((31 * (61969 + xb)) + xn)) + xf)) + tl)) + u₉)) + kd)) + pr)) + (mLong r₉))) + hs)) + (mAt r₉ 0))) + lk₉)) + chs)) + lps)) + dp)), (3, vi 1), (0, vr E 0)] dX10_digest_103 1 rfl rfl (by decide) ?_
                                    refine go_goto (pc := 106) hF 80 dX10_digest_106 (by decide) ?_
                                    refine go_iload (pc := 80) hF dX10_digest_80 0 rfl ?_
                                    refine go_iconst (pc := 82) hF dX10_digest_82 ?_
                                    refine go_icmp_gt (pc := 83) hF 109 dX10_digest_83 (by decide) ⟨by decide, by decide⟩ ⟨by decide, by decide⟩ (fun bq83 => ?_) (fun bq83 => ?_)
                                    · exact absurd bq83 (by decide)
                                    · refine go_ldc2 (pc := 86) hF kc_X10_236 dX10_digest_86 ?_
                                      refine go_lload_n (pc := 89) hF dX10_digest_89 1 rfl ?_
                                      refine go_lmul (pc := 90) hF dX10_digest_90 ?_
                                      refine go_aload_n (pc := 91) hF dX10_digest_91 3 rfl ?_
                                      refine go_get (pc := 92) hF fl_X10_44 dX10_digest_92 (by omega) z0 rfl ?_
                                      refine go_iload (pc := 95) hF dX10_digest_95 0 rfl ?_
                                      refine go_callVP (pc := 97) hF [vi 4] [vl (31 * ((31 * ((31 * ((31 * ((31 * ((31 * ((31 * ((31 * ((31 * ((31 * ((31 * ((31 * ((31 * ((31 * (61969 + xb)) + xn)) + xf)) + tl)) + u₉)) + kd)) + pr)) + (mLong r₉))) + hs)) + (mAt r₉ 0))) + lk₉)) + chs)) + lps)) + dp))] mv_X10_143 dX10_digest_97 (by omega) zp.1 (show CP E M_X6_tell 1 [vr E 23, vi 4] N σ (ln) from c_X6_tell E N σ 23 (by omega) zp 4 (by omega)) rfl rfl (Nat.le_of_ble_eq_true rfl) (by decide) ⟨Nat.zero_le _, Nat.zero_le _⟩ ?_
                                      refine go_i2l (pc := 100) hF dX10_digest_100 (by omega) ?_
                                      refine go_ladd (pc := 101) hF dX10_digest_101 ?_
                                      refine go_lstore_n (pc := 102) hF [(1, vl ((31 * ((31 * ((31 * ((31 * ((31 * ((31 * ((31 * ((31 * ((31 * ((31 * ((31 * ((31 * ((31 * ((31 * (61969 + xb)) + xn)) + xf)) + tl)) + u₉)) + kd)) + pr)) + (mLong r₉))) + hs)) + (mAt r₉ 0))) + lk₉)) + chs)) + lps)) + dp)) + ln)), (4, vi 4), (3, vi 1), (0, vr E 0)] dX10_digest_102 rfl (by decide) ?_
                                      refine go_iinc (pc := 103) hF [(4, vi 5), (1, vl ((31 * ((31 * ((31 * ((31 * ((31 * ((31 * ((31 * ((31 * ((31 * ((31 * ((31 * ((31 * ((31 * ((31 * (61969 + xb)) + xn)) + xf)) + tl)) + u₉)) + kd)) + pr)) + (mLong r₉))) + hs)) + (mAt r₉ 0))) + lk₉)) + chs)) + lps)) + dp)) + ln)), (3, vi 1), (0, vr E 0)] dX10_digest_103 1 rfl rfl (by decide) ?_
                                      refine go_goto (pc := 106) hF 80 dX10_digest_106 (by decide) ?_
                                      refine go_iload (pc := 80) hF dX10_digest_80 0 rfl ?_
                                      refine go_iconst (pc := 82) hF dX10_digest_82 ?_
                                      refine go_icmp_gt (pc := 83) hF 109 dX10_digest_83 (by decide) ⟨by decide, by decide⟩ ⟨by decide, by decide⟩ (fun bq83 => ?_) (fun bq83 => ?_)
                                      · refine go_iconst (pc := 109) hF dX10_digest_109 ?_
                                        refine go_istore (pc := 110) hF [(4, vi 0), (1, vl ((31 * ((31 * ((31 * ((31 * ((31 * ((31 * ((31 * ((31 * ((31 * ((31 * ((31 * ((31 * ((31 * ((31 * (61969 + xb)) + xn)) + xf)) + tl)) + u₉)) + kd)) + pr)) + (mLong r₉))) + hs)) + (mAt r₉ 0))) + lk₉)) + chs)) + lps)) + dp)) + ln)), (3, vi 1), (0, vr E 0)] dX10_digest_110 rfl (by decide) ?_
                                        refine go_iload (pc := 112) hF dX10_digest_112 0 rfl ?_
                                        refine go_iconst (pc := 114) hF dX10_digest_114 ?_
                                        refine go_icmp_gt (pc := 115) hF 141 dX10_digest_115 (by decide) ⟨by decide, by decide⟩ ⟨by decide, by decide⟩ (fun bq115 => ?_) (fun bq115 => ?_)
                                        · exact absurd bq115 (by decide)
                                        · refine go_ldc2 (pc := 118) hF kc_X10_236 dX10_digest_118 ?_
                                          refine go_lload_n (pc := 121) hF dX10_digest_121 1 rfl ?_
                                          refine go_lmul (pc := 122) hF dX10_digest_122 ?_
                                          refine go_aload_n (pc := 123) hF dX10_digest_123 3 rfl ?_
                                          refine go_get (pc := 124) hF fl_X10_65 dX10_digest_124 (by omega) z0 rfl ?_
                                          refine go_iload (pc := 127) hF dX10_digest_127 0 rfl ?_
                                          refine go_callVP (pc := 129) hF [vi 0] [vl (31 * ((31 * ((31 * ((31 * ((31 * ((31 * ((31 * ((31 * ((31 * ((31 * ((31 * ((31 * ((31 * ((31 * ((31 * (61969 + xb)) + xn)) + xf)) + tl)) + u₉)) + kd)) + pr)) + (mLong r₉))) + hs)) + (mAt r₉ 0))) + lk₉)) + chs)) + lps)) + dp)) + ln))] mv_X10_206 dX10_digest_129 (by omega) z99 (show CP E M_X9_tell 1 [vr E 92, vi 0] N σ (q1₉) from c_X9_tell E N σ 92 b1 b2 q1₉ q2₉ q3₉ 0 (by omega) (by omega) z99) rfl rfl (Nat.le_of_ble_eq_true rfl) (by decide) ⟨Nat.zero_le _, Nat.zero_le _⟩ ?_
                                          refine go_i2l (pc := 132) hF dX10_digest_132 (by omega) ?_
                                          refine go_ladd (pc := 133) hF dX10_digest_133 ?_
                                          refine go_lstore_n (pc := 134) hF [(1, vl ((31 * ((31 * ((31 * ((31 * ((31 * ((31 * ((31 * ((31 * ((31 * ((31 * ((31 * ((31 * ((31 * ((31 * ((31 * (61969 + xb)) + xn)) + xf)) + tl)) + u₉)) + kd)) + pr)) + (mLong r₉))) + hs)) + (mAt r₉ 0))) + lk₉)) + chs)) + lps)) + dp)) + ln)) + q1₉)), (4, vi 0), (3, vi 1), (0, vr E 0)] dX10_digest_134 rfl (by decide) ?_
                                          refine go_iinc (pc := 135) hF [(4, vi 1), (1, vl ((31 * ((31 * ((31 * ((31 * ((31 * ((31 * ((31 * ((31 * ((31 * ((31 * ((31 * ((31 * ((31 * ((31 * ((31 * (61969 + xb)) + xn)) + xf)) + tl)) + u₉)) + kd)) + pr)) + (mLong r₉))) + hs)) + (mAt r₉ 0))) + lk₉)) + chs)) + lps)) + dp)) + ln)) + q1₉)), (3, vi 1), (0, vr E 0)] dX10_digest_135 1 rfl rfl (by decide) ?_
                                          refine go_goto (pc := 138) hF 112 dX10_digest_138 (by decide) ?_
                                          refine go_iload (pc := 112) hF dX10_digest_112 0 rfl ?_
                                          refine go_iconst (pc := 114) hF dX10_digest_114 ?_
                                          refine go_icmp_gt (pc := 115) hF 141 dX10_digest_115 (by decide) ⟨by decide, by decide⟩ ⟨by decide, by decide⟩ (fun bq115 => ?_) (fun bq115 => ?_)
                                          · exact absurd bq115 (by decide)
                                          · refine go_ldc2 (pc := 118) hF kc_X10_236 dX10_digest_118 ?_
                                            refine go_lload_n (pc := 121) hF dX10_digest_121 1 rfl ?_
                                            refine go_lmul (pc := 122) hF dX10_digest_122 ?_
                                            refine go_aload_n (pc := 123) hF dX10_digest_123 3 rfl ?_
                                            refine go_get (pc := 124) hF fl_X10_65 dX10_digest_124 (by omega) z0 rfl ?_
                                            refine go_iload (pc := 127) hF dX10_digest_127 0 rfl ?_
                                            refine go_callVP (pc := 129) hF [vi 1] [vl (31 * ((31 * ((31 * ((31 * ((31 * ((31 * ((31 * ((31 * ((31 * ((31 * ((31 * ((31 * ((31 * ((31 * ((31 * ((31 * (61969 + xb)) + xn)) + xf)) + tl)) + u₉)) + kd)) + pr)) + (mLong r₉))) + hs)) + (mAt r₉ 0))) + lk₉)) + chs)) + lps)) + dp)) + ln)) + q1₉))] mv_X10_206 dX10_digest_129 (by omega) z99 (show CP E M_X9_tell 1 [vr E 92, vi 1] N σ (q2₉) from c_X9_tell E N σ 92 b1 b2 q1₉ q2₉ q3₉ 1 (by omega) (by omega) z99) rfl rfl (Nat.le_of_ble_eq_true rfl) (by decide) ⟨Nat.zero_le _, Nat.zero_le _⟩ ?_
                                            refine go_i2l (pc := 132) hF dX10_digest_132 (by omega) ?_
                                            refine go_ladd (pc := 133) hF dX10_digest_133 ?_
                                            refine go_lstore_n (pc := 134) hF [(1, vl ((31 * ((31 * ((31 * ((31 * ((31 * ((31 * ((31 * ((31 * ((31 * ((31 * ((31 * ((31 * ((31 * ((31 * ((31 * ((31 * (61969 + xb)) + xn)) + xf)) + tl)) + u₉)) + kd)) + pr)) + (mLong r₉))) + hs)) + (mAt r₉ 0))) + lk₉)) + chs)) + lps)) + dp)) + ln)) + q1₉)) + q2₉)), (4, vi 1), (3, vi 1), (0, vr E 0)] dX10_digest_134 rfl (by decide) ?_
                                            refine go_iinc (pc := 135) hF [(4, vi 2), (1, vl ((31 * ((31 * ((31 * ((31 * ((31 * ((31 * ((31 * ((31 * ((31 * ((31 * ((31 * ((31 * ((31 * ((31 * ((31 * ((31 * (61969 + xb)) + xn)) + xf)) + tl)) + u₉)) + kd)) + pr)) + (mLong r₉))) + hs)) + (mAt r₉ 0))) + lk₉)) + chs)) + lps)) + dp)) + ln)) + q1₉)) + q2₉)), (3, vi 1), (0, vr E 0)] dX10_digest_135 1 rfl rfl (by decide) ?_
                                            refine go_goto (pc := 138) hF 112 dX10_digest_138 (by decide) ?_
                                            refine go_iload (pc := 112) hF dX10_digest_112 0 rfl ?_
                                            refine go_iconst (pc := 114) hF dX10_digest_114 ?_
                                            refine go_icmp_gt (pc := 115) hF 141 dX10_digest_115 (by decide) ⟨by decide, by decide⟩ ⟨by decide, by decide⟩ (fun bq115 => ?_) (fun bq115 => ?_)
                                            · exact absurd bq115 (by decide)
                                            · refine go_ldc2 (pc := 118) hF kc_X10_236 dX10_digest_118 ?_
                                              refine go_lload_n (pc := 121) hF dX10_digest_121 1 rfl ?_
                                              refine go_lmul (pc := 122) hF dX10_digest_122 ?_
                                              refine go_aload_n (pc := 123) hF dX10_digest_123 3 rfl ?_
                                              refine go_get (pc := 124) hF fl_X10_65 dX10_digest_124 (by omega) z0 rfl ?_
                                              refine go_iload (pc := 127) hF dX10_digest_127 0 rfl ?_
                                              refine go_callVP (pc := 129) hF [vi 2] [vl (31 * ((31 * ((31 * ((31 * ((31 * ((31 * ((31 * ((31 * ((31 * ((31 * ((31 * ((31 * ((31 * ((31 * ((31 * ((31 * ((31 * (61969 + xb)) + xn)) + xf)) + tl)) + u₉)) + kd)) + pr)) + (mLong r₉))) + hs)) + (mAt r₉ 0))) + lk₉)) + chs)) + lps)) + dp)) + ln)) + q1₉)) + q2₉))] mv_X10_206 dX10_digest_129 (by omega) z99 (show CP E M_X9_tell 1 [vr E 92, vi 2] N σ (q3₉) from c_X9_tell E N σ 92 b1 b2 q1₉ q2₉ q3₉ 2 (by omega) (by omega) z99) rfl rfl (Nat.le_of_ble_eq_true rfl) (by decide) ⟨Nat.zero_le _, Nat.zero_le _⟩ ?_
                                              refine go_i2l (pc := 132) hF dX10_digest_132 (by omega) ?_
                                              refine go_ladd (pc := 133) hF dX10_digest_133 ?_
                                              refine go_lstore_n (pc := 134) hF [(1, vl ((31 * ((31 * ((31 * ((31 * ((31 * ((31 * ((31 * ((31 * ((31 * ((31 * ((31 * ((31 * ((31 * ((31 * ((31 * ((31 * ((31 * (61969 + xb)) + xn)) + xf)) + tl)) + u₉)) + kd)) + pr)) + (mLong r₉))) + hs)) + (mAt r₉ 0))) + lk₉)) + chs)) + lps)) + dp)) + ln)) + q1₉)) + q2₉)) + q3₉)), (4, vi 2), (3, vi 1), (0, vr E 0)] dX10_digest_134 rfl (by decide) ?_
                                              refine go_iinc (pc := 135) hF [(4, vi 3), (1, vl ((31 * ((31 * ((31 * ((31 * ((31 * ((31 * ((31 * ((31 * ((31 * ((31 * ((31 * ((31 * ((31 * ((31 * ((31 * ((31 * ((31 * (61969 + xb)) + xn)) + xf)) + tl)) + u₉)) + kd)) + pr)) + (mLong r₉))) + hs)) + (mAt r₉ 0))) + lk₉)) + chs)) + lps)) + dp)) + ln)) + q1₉)) + q2₉)) + q3₉)), (3, vi 1), (0, vr E 0)] dX10_digest_135 1 rfl rfl (by decide) ?_
                                              refine go_goto (pc := 138) hF 112 dX10_digest_138 (by decide) ?_
                                              refine go_iload (pc := 112) hF dX10_digest_112 0 rfl ?_
                                              refine go_iconst (pc := 114) hF dX10_digest_114 ?_
                                              refine go_icmp_gt (pc := 115) hF 141 dX10_digest_115 (by decide) ⟨by decide, by decide⟩ ⟨by decide, by decide⟩ (fun bq115 => ?_) (fun bq115 => ?_)
                                              · refine go_lload_n (pc := 141) hF dX10_digest_141 1 rfl ?_
                                                refine go_lretQ hF hr hlk hQ dX10_digest_142 ⟨?_, hS0, fun _ _ => rfl⟩
                                                unfold dgS dgL
                                                rw [if_neg (by omega), if_pos eL]
                                                rw [htk9, ← hch9, ← hlp9, ← hdp9, ← hln9]
                                                rfl
                                              · exact absurd bq115 (by decide)
                                      · exact absurd bq83 (by decide)
                          · exact absurd bq48 (by decide)
                      · rw [show vi (mLong r₉) = vi 2 by rw [eL]]
                        refine go_istore_n (pc := 41) hF [(3, vi 2), (1, vl ((31 * ((31 * ((31 * ((31 * ((31 * ((31 * ((31 * ((31 * (61969 + xb)) + xn)) + xf)) + tl)) + u₉)) + kd)) + pr)) + (mLong r₉))) + hs)), (0, vr E 0)] dX10_digest_41 rfl (by decide) ?_
                        refine go_iconst (pc := 42) hF dX10_digest_42 ?_
                        refine go_istore (pc := 43) hF [(4, vi 0), (3, vi 2), (1, vl ((31 * ((31 * ((31 * ((31 * ((31 * ((31 * ((31 * ((31 * (61969 + xb)) + xn)) + xf)) + tl)) + u₉)) + kd)) + pr)) + (mLong r₉))) + hs)), (0, vr E 0)] dX10_digest_43 rfl (by decide) ?_
                        refine go_iload (pc := 45) hF dX10_digest_45 0 rfl ?_
                        refine go_iload_n (pc := 47) hF dX10_digest_47 1 rfl ?_
                        refine go_icmp_ge (pc := 48) hF 77 dX10_digest_48 (by decide) ⟨by decide, by decide⟩ ⟨by decide, by decide⟩ (fun bq48 => ?_) (fun bq48 => ?_)
                        · exact absurd bq48 (by decide)
                        · refine go_ldc2 (pc := 51) hF kc_X10_236 dX10_digest_51 ?_
                          refine go_lload_n (pc := 54) hF dX10_digest_54 2 rfl ?_
                          refine go_lmul (pc := 55) hF dX10_digest_55 ?_
                          refine go_aload_n (pc := 56) hF dX10_digest_56 3 rfl ?_
                          refine go_get (pc := 57) hF fl_X10_10 dX10_digest_57 (by omega) z0 rfl ?_
                          refine go_get (pc := 60) hF fl_X10_96 dX10_digest_60 (by omega) z1 rfl ?_
                          refine go_iload (pc := 63) hF dX10_digest_63 0 rfl ?_
                          refine go_callSP (pc := 65) hF [vi (en r₉), vi 0] [vl (31 * ((31 * ((31 * ((31 * ((31 * ((31 * ((31 * ((31 * ((31 * (61969 + xb)) + xn)) + xf)) + tl)) + u₉)) + kd)) + pr)) + (mLong r₉))) + hs))] ms_X10_122 dX10_digest_65 (show CP E M_X8_lineAt 1 [vi (en r₉), vi 0] N σ (mAt r₉ 0) from (by have h := c_X8_lineAt E N σ (en r₉) 0 (by omega) (by first | omega | (constructor <;> decide)); rw [ek.2.1] at h; exact h)) rfl rfl (Nat.le_of_ble_eq_true rfl) (by decide) ⟨Nat.zero_le _, Nat.zero_le _⟩ ?_
                          refine go_i2l (pc := 68) hF dX10_digest_68 (by omega) ?_
                          refine go_ladd (pc := 69) hF dX10_digest_69 ?_
                          refine go_lstore_n (pc := 70) hF [(1, vl ((31 * ((31 * ((31 * ((31 * ((31 * ((31 * ((31 * ((31 * ((31 * (61969 + xb)) + xn)) + xf)) + tl)) + u₉)) + kd)) + pr)) + (mLong r₉))) + hs)) + (mAt r₉ 0))), (4, vi 0), (3, vi 2), (0, vr E 0)] dX10_digest_70 rfl (by decide) ?_
                          refine go_iinc (pc := 71) hF [(4, vi 1), (1, vl ((31 * ((31 * ((31 * ((31 * ((31 * ((31 * ((31 * ((31 * ((31 * (61969 + xb)) + xn)) + xf)) + tl)) + u₉)) + kd)) + pr)) + (mLong r₉))) + hs)) + (mAt r₉ 0))), (3, vi 2), (0, vr E 0)] dX10_digest_71 1 rfl rfl (by decide) ?_
                          refine go_goto (pc := 74) hF 45 dX10_digest_74 (by decide) ?_
                          refine go_iload (pc := 45) hF dX10_digest_45 0 rfl ?_
                          refine go_iload_n (pc := 47) hF dX10_digest_47 2 rfl ?_
                          refine go_icmp_ge (pc := 48) hF 77 dX10_digest_48 (by decide) ⟨by decide, by decide⟩ ⟨by decide, by decide⟩ (fun bq48 => ?_) (fun bq48 => ?_)
                          · exact absurd bq48 (by decide)
                          · refine go_ldc2 (pc := 51) hF kc_X10_236 dX10_digest_51 ?_
                            refine go_lload_n (pc := 54) hF dX10_digest_54 1 rfl ?_
                            refine go_lmul (pc := 55) hF dX10_digest_55 ?_
                            refine go_aload_n (pc := 56) hF dX10_digest_56 3 rfl ?_
                            refine go_get (pc := 57) hF fl_X10_10 dX10_digest_57 (by omega) z0 rfl ?_
                            refine go_get (pc := 60) hF fl_X10_96 dX10_digest_60 (by omega) z1 rfl ?_
                            refine go_iload (pc := 63) hF dX10_digest_63 0 rfl ?_
                            refine go_callSP (pc := 65) hF [vi (en r₉), vi 1] [vl (31 * ((31 * ((31 * ((31 * ((31 * ((31 * ((31 * ((31 * ((31 * ((31 * (61969 + xb)) + xn)) + xf)) + tl)) + u₉)) + kd)) + pr)) + (mLong r₉))) + hs)) + (mAt r₉ 0)))] ms_X10_122 dX10_digest_65 (show CP E M_X8_lineAt 1 [vi (en r₉), vi 1] N σ (mAt r₉ 1) from (by have h := c_X8_lineAt E N σ (en r₉) 1 (by omega) (by first | omega | (constructor <;> decide)); rw [ek.2.2.1] at h; exact h)) rfl rfl (Nat.le_of_ble_eq_true rfl) (by decide) ⟨Nat.zero_le _, Nat.zero_le _⟩ ?_
                            refine go_i2l (pc := 68) hF dX10_digest_68 (by omega) ?_
                            refine go_ladd (pc := 69) hF dX10_digest_69 ?_
                            refine go_lstore_n (pc := 70) hF [(1, vl ((31 * ((31 * ((31 * ((31 * ((31 * ((31 * ((31 * ((31 * ((31 * ((31 * (61969 + xb)) + xn)) + xf)) + tl)) + u₉)) + kd)) + pr)) + (mLong r₉))) + hs)) + (mAt r₉ 0))) + (mAt r₉ 1))), (4, vi 1), (3, vi 2), (0, vr E 0)] dX10_digest_70 rfl (by decide) ?_
                            refine go_iinc (pc := 71) hF [(4, vi 2), (1, vl ((31 * ((31 * ((31 * ((31 * ((31 * ((31 * ((31 * ((31 * ((31 * ((31 * (61969 + xb)) + xn)) + xf)) + tl)) + u₉)) + kd)) + pr)) + (mLong r₉))) + hs)) + (mAt r₉ 0))) + (mAt r₉ 1))), (3, vi 2), (0, vr E 0)] dX10_digest_71 1 rfl rfl (by decide) ?_
                            refine go_goto (pc := 74) hF 45 dX10_digest_74 (by decide) ?_
                            refine go_iload (pc := 45) hF dX10_digest_45 0 rfl ?_
                            refine go_iload_n (pc := 47) hF dX10_digest_47 2 rfl ?_
                            refine go_icmp_ge (pc := 48) hF 77 dX10_digest_48 (by decide) ⟨by decide, by decide⟩ ⟨by decide, by decide⟩ (fun bq48 => ?_) (fun bq48 => ?_)
                            · refine go_iconst (pc := 77) hF dX10_digest_77 ?_
                              refine go_istore (pc := 78) hF [(4, vi 0), (1, vl ((31 * ((31 * ((31 * ((31 * ((31 * ((31 * ((31 * ((31 * ((31 * ((31 * (61969 + xb)) + xn)) + xf)) + tl)) + u₉)) + kd)) + pr)) + (mLong r₉))) + hs)) + (mAt r₉ 0))) + (mAt r₉ 1))), (3, vi 2), (0, vr E 0)] dX10_digest_78 rfl (by decide) ?_
                              refine go_iload (pc := 80) hF dX10_digest_80 0 rfl ?_
                              refine go_iconst (pc := 82) hF dX10_digest_82 ?_
                              refine go_icmp_gt (pc := 83) hF 109 dX10_digest_83 (by decide) ⟨by decide, by decide⟩ ⟨by decide, by decide⟩ (fun bq83 => ?_) (fun bq83 => ?_)
                              · exact absurd bq83 (by decide)
                              · refine go_ldc2 (pc := 86) hF kc_X10_236 dX10_digest_86 ?_
                                refine go_lload_n (pc := 89) hF dX10_digest_89 1 rfl ?_
                                refine go_lmul (pc := 90) hF dX10_digest_90 ?_
                                refine go_aload_n (pc := 91) hF dX10_digest_91 3 rfl ?_
                                refine go_get (pc := 92) hF fl_X10_44 dX10_digest_92 (by omega) z0 rfl ?_
                                refine go_iload (pc := 95) hF dX10_digest_95 0 rfl ?_
                                refine go_callVP (pc := 97) hF [vi 0] [vl (31 * ((31 * ((31 * ((31 * ((31 * ((31 * ((31 * ((31 * ((31 * ((31 * ((31 * (61969 + xb)) + xn)) + xf)) + tl)) + u₉)) + kd)) + pr)) + (mLong r₉))) + hs)) + (mAt r₉ 0))) + (mAt r₉ 1)))] mv_X10_143 dX10_digest_97 (by omega) zp.1 (show CP E M_X6_tell 1 [vr E 23, vi 0] N σ (lk₉) from c_X6_tell E N σ 23 (by omega) zp 0 (by omega)) rfl rfl (Nat.le_of_ble_eq_true rfl) (by decide) ⟨Nat.zero_le _, Nat.zero_le _⟩ ?_
                                refine go_i2l (pc := 100) hF dX10_digest_100 (by omega) ?_
                                refine go_ladd (pc := 101) hF dX10_digest_101 ?_
                                refine go_lstore_n (pc := 102) hF [(1, vl ((31 * ((31 * ((31 * ((31 * ((31 * ((31 * ((31 * ((31 * ((31 * ((31 * ((31 * (61969 + xb)) + xn)) + xf)) + tl)) + u₉)) + kd)) + pr)) + (mLong r₉))) + hs)) + (mAt r₉ 0))) + (mAt r₉ 1))) + lk₉)), (4, vi 0), (3, vi 2), (0, vr E 0)] dX10_digest_102 rfl (by decide) ?_
                                refine go_iinc (pc := 103) hF [(4, vi 1), (1, vl ((31 * ((31 * ((31 * ((31 * ((31 * ((31 * ((31 * ((31 * ((31 * ((31 * ((31 * (61969 + xb)) + xn)) + xf)) + tl)) + u₉)) + kd)) + pr)) + (mLong r₉))) + hs)) + (mAt r₉ 0))) + (mAt r₉ 1))) + lk₉)), (3, vi 2), (0, vr E 0)] dX10_digest_103 1 rfl rfl (by decide) ?_
                                refine go_goto (pc := 106) hF 80 dX10_digest_106 (by decide) ?_
                                refine go_iload (pc := 80) hF dX10_digest_80 0 rfl ?_
                                refine go_iconst (pc := 82) hF dX10_digest_82 ?_
                                refine go_icmp_gt (pc := 83) hF 109 dX10_digest_83 (by decide) ⟨by decide, by decide⟩ ⟨by decide, by decide⟩ (fun bq83 => ?_) (fun bq83 => ?_)
                                · exact absurd bq83 (by decide)
                                · refine go_ldc2 (pc := 86) hF kc_X10_236 dX10_digest_86 ?_
                                  refine go_lload_n (pc := 89) hF dX10_digest_89 1 rfl ?_
                                  refine go_lmul (pc := 90) hF dX10_digest_90 ?_
                                  refine go_aload_n (pc := 91) hF dX10_digest_91 3 rfl ?_
                                  refine go_get (pc := 92) hF fl_X10_44 dX10_digest_92 (by omega) z0 rfl ?_
                                  refine go_iload (pc := 95) hF dX10_digest_95 0 rfl ?_
                                  refine go_callVP (pc := 97) hF [vi 1] [vl (31 * ((31 * ((31 * ((31 * ((31 * ((31 * ((31 * ((31 * ((31 * ((31 * ((31 * ((31 * (61969 + xb)) + xn)) + xf)) + tl)) + u₉)) + kd)) + pr)) + (mLong r₉))) + hs)) + (mAt r₉ 0))) + (mAt r₉ 1))) + lk₉))] mv_X10_143 dX10_digest_97 (by omega) zp.1 (show CP E M_X6_tell 1 [vr E 23, vi 1] N σ (chs) from c_X6_tell E N σ 23 (by omega) zp 1 (by omega)) rfl rfl (Nat.le_of_ble_eq_true rfl) (by decide) ⟨Nat.zero_le _, Nat.zero_le _⟩ ?_
                                  refine go_i2l (pc := 100) hF dX10_digest_100 (by omega) ?_
                                  refine go_ladd (pc := 101) hF dX10_digest_101 ?_
                                  refine go_lstore_n (pc := 102) hF [(1, vl ((31 * ((31 * ((31 * ((31 * ((31 * ((31 * ((31 * ((31 * ((31 * ((31 * ((31 * ((31 * (61969 + xb)) + xn)) + xf)) + tl)) + u₉)) + kd)) + pr)) + (mLong r₉))) + hs)) + (mAt r₉ 0))) + (mAt r₉ 1))) + lk₉)) + chs)), (4, vi 1), (3, vi 2), (0, vr E 0)] dX10_digest_102 rfl (by decide) ?_
                                  refine go_iinc (pc := 103) hF [(4, vi 2), (1, vl ((31 * ((31 * ((31 * ((31 * ((31 * ((31 * ((31 * ((31 * ((31 * ((31 * ((31 * ((31 * (61969 + xb)) + xn)) + xf)) + tl)) + u₉)) + kd)) + pr)) + (mLong r₉))) + hs)) + (mAt r₉ 0))) + (mAt r₉ 1))) + lk₉)) + chs)), (3, vi 2), (0, vr E 0)] dX10_digest_103 1 rfl rfl (by decide) ?_
                                  refine go_goto (pc := 106) hF 80 dX10_digest_106 (by decide) ?_
                                  refine go_iload (pc := 80) hF dX10_digest_80 0 rfl ?_
                                  refine go_iconst (pc := 82) hF dX10_digest_82 ?_
                                  refine go_icmp_gt (pc := 83) hF 109 dX10_digest_83 (by decide) ⟨by decide, by decide⟩ ⟨by decide, by decide⟩ (fun bq83 => ?_) (fun bq83 => ?_)
                                  · exact absurd bq83 (by decide)
                                  · refine go_ldc2 (pc := 86) hF kc_X10_236 dX10_digest_86 ?_
                                    refine go_lload_n (pc := 89) hF dX10_digest_89 1 rfl ?_
                                    refine go_lmul (pc := 90) hF dX10_digest_90 ?_
                                    refine go_aload_n (pc := 91) hF dX10_digest_91 3 rfl ?_
                                    refine go_get (pc := 92) hF fl_X10_44 dX10_digest_92 (by omega) z0 rfl ?_
                                    refine go_iload (pc := 95) hF dX10_digest_95 0 rfl ?_
                                    refine go_callVP (pc := 97) hF [vi 2] [vl (31 * ((31 * ((31 * ((31 * ((31 * ((31 * ((31 * ((31 * ((31 * ((31 * ((31 * ((31 * ((31 * (61969 + xb)) + xn)) + xf)) + tl)) + u₉)) + kd)) + pr)) + (mLong r₉))) + hs)) + (mAt r₉ 0))) + (mAt r₉ 1))) + lk₉)) + chs))] mv_X10_143 dX10_digest_97 (by omega) zp.1 (show CP E M_X6_tell 1 [vr E 23, vi 2] N σ (lps) from c_X6_tell E N σ 23 (by omega) zp 2 (by omega)) rfl rfl (Nat.le_of_ble_eq_true rfl) (by decide) ⟨Nat.zero_le _, Nat.zero_le _⟩ ?_
                                    refine go_i2l (pc := 100) hF dX10_digest_100 (by omega) ?_
                                    refine go_ladd (pc := 101) hF dX10_digest_101 ?_
                                    refine go_lstore_n (pc := 102) hF [(1, vl ((31 * ((31 * ((31 * ((31 * ((31 * ((31 * ((31 * ((31 * ((31 * ((31 * ((31 * ((31 * ((31 * (61969 + xb)) + xn)) + xf)) + tl)) + u₉)) + kd)) + pr)) + (mLong r₉))) + hs)) + (mAt r₉ 0))) + (mAt r₉ 1))) + lk₉)) + chs)) + lps)), (4, vi 2), (3, vi 2), (0, vr E 0)] dX10_digest_102 rfl (by decide) ?_
                                    refine go_iinc (pc := 103) hF [(4, vi 3), (1, vl ((31 * ((31 * ((31 * ((31 * ((31 * ((31 * ((31 * ((31 * ((31 * ((31 * ((31 * ((31 * ((31 * (61969 + xb)) + xn)) + xf)) + tl)) + u₉)) + kd)) + pr)) + (mLong r₉))) + hs)) + (mAt r₉ 0))) + (mAt r₉ 1))) + lk₉)) + chs)) + lps)), (3, vi 2), (0, vr E 0)] dX10_digest_103 1 rfl rfl (by decide) ?_
                                    refine go_goto (pc := 106) hF 80 dX10_digest_106 (by decide) ?_
                                    refine go_iload (pc := 80) hF dX10_digest_80 0 rfl ?_
                                    refine go_iconst (pc := 82) hF dX10_digest_82 ?_
                                    refine go_icmp_gt (pc := 83) hF 109 dX10_digest_83 (by decide) ⟨by decide, by decide⟩ ⟨by decide, by decide⟩ (fun bq83 => ?_) (fun bq83 => ?_)
                                    · exact absurd bq83 (by decide)
                                    · refine go_ldc2 (pc := 86) hF kc_X10_236 dX10_digest_86 ?_
                                      refine go_lload_n (pc := 89) hF dX10_digest_89 1 rfl ?_
                                      refine go_lmul (pc := 90) hF dX10_digest_90 ?_
                                      refine go_aload_n (pc := 91) hF dX10_digest_91 3 rfl ?_
                                      refine go_get (pc := 92) hF fl_X10_44 dX10_digest_92 (by omega) z0 rfl ?_
                                      refine go_iload (pc := 95) hF dX10_digest_95 0 rfl ?_
                                      refine go_callVP (pc := 97) hF [vi 3] [vl (31 * ((31 * ((31 * ((31 * ((31 * ((31 * ((31 * ((31 * ((31 * ((31 * ((31 * ((31 * ((31 * ((31 * (61969 + xb)) + xn)) + xf)) + tl)) + u₉)) + kd)) + pr)) + (mLong r₉))) + hs)) + (mAt r₉ 0))) + (mAt r₉ 1))) + lk₉)) + chs)) + lps))] mv_X10_143 dX10_digest_97 (by omega) zp.1 (show CP E M_X6_tell 1 [vr E 23, vi 3] N σ (dp) from c_X6_tell E N σ 23 (by omega) zp 3 (by omega)) rfl rfl (Nat.le_of_ble_eq_true rfl) (by decide) ⟨Nat.zero_le _, Nat.zero_le _⟩ ?_
                                      refine go_i2l (pc := 100) hF dX10_digest_100 (by omega) ?_
                                      refine go_ladd (pc := 101) hF dX10_digest_101 ?_
                                      refine go_lstore_n (pc := 102) hF [(1, vl ((31 * ((31 * ((31 * ((31 * ((31 * ((31 * ((31 * ((31 * ((31 * ((31 * ((31 * ((31 * ((31 * ((31 * (61969 + xb)) + xn)) + xf)) + tl)) + u₉)) + kd)) + pr)) + (mLong r₉))) + hs)) + (mAt r₉ 0))) + (mAt r₉ 1))) + lk₉)) + chs)) + lps)) + dp)), (4, vi 3), (3, vi 2), (0, vr E 0)] dX10_digest_102 rfl (by decide) ?_
                                      refine go_iinc (pc := 103) hF [(4, vi 4), (1, vl ((31 * ((31 * ((31 * ((31 * ((31 * ((31 * ((31 * ((31 * ((31 * ((31 * ((31 * ((31 * ((31 * ((31 * (61969 + xb)) + xn)) + xf)) + tl)) + u₉)) + kd)) + pr)) + (mLong r₉))) + hs)) + (mAt r₉ 0))) + (mAt r₉ 1))) + lk₉)) + chs)) + lps)) + dp)), (3, vi 2), (0, vr E 0)] dX10_digest_103 1 rfl rfl (by decide) ?_
                                      refine go_goto (pc := 106) hF 80 dX10_digest_106 (by decide) ?_
                                      refine go_iload (pc := 80) hF dX10_digest_80 0 rfl ?_
                                      refine go_iconst (pc := 82) hF dX10_digest_82 ?_
                                      refine go_icmp_gt (pc := 83) hF 109 dX10_digest_83 (by decide) ⟨by decide, by decide⟩ ⟨by decide, by decide⟩ (fun bq83 => ?_) (fun bq83 => ?_)
                                      · exact absurd bq83 (by decide)
                                      · refine go_ldc2 (pc := 86) hF kc_X10_236 dX10_digest_86 ?_
                                        refine go_lload_n (pc := 89) hF dX10_digest_89 1 rfl ?_
                                        refine go_lmul (pc := 90) hF dX10_digest_90 ?_
                                        refine go_aload_n (pc := 91) hF dX10_digest_91 3 rfl ?_
                                        refine go_get (pc := 92) hF fl_X10_44 dX10_digest_92 (by omega) z0 rfl ?_
                                        refine go_iload (pc := 95) hF dX10_digest_95 0 rfl ?_
                                        refine go_callVP (pc := 97) hF [vi 4] [vl (31 * ((31 * ((31 * ((31 * ((31 * ((31 * ((31 * ((31 * ((31 * ((31 * ((31 * ((31 * ((31 * ((31 * ((31 * (61969 + xb)) + xn)) + xf)) + tl)) + u₉)) + kd)) + pr)) + (mLong r₉))) + hs)) + (mAt r₉ 0))) + (mAt r₉ 1))) + lk₉)) + chs)) + lps)) + dp))] mv_X10_143 dX10_digest_97 (by omega) zp.1 (show CP E M_X6_tell 1 [vr E 23, vi 4] N σ (ln) from c_X6_tell E N σ 23 (by omega) zp 4 (by omega)) rfl rfl (Nat.le_of_ble_eq_true rfl) (by decide) ⟨Nat.zero_le _, Nat.zero_le _⟩ ?_
                                        refine go_i2l (pc := 100) hF dX10_digest_100 (by omega) ?_
                                        refine go_ladd (pc := 101) hF dX10_digest_101 ?_
                                        refine go_lstore_n (pc := 102) hF [(1, vl ((31 * ((31 * ((31 * ((31 * ((31 * ((31 * ((31 * ((31 * ((31 * ((31 * ((31 * ((31 * ((31 * ((31 * ((31 * (61969 + xb)) + xn)) + xf)) + tl)) + u₉)) + kd)) + pr)) + (mLong r₉))) + hs)) + (mAt r₉ 0))) + (mAt r₉ 1))) + lk₉)) + chs)) + lps)) + dp)) + ln)), (4, vi 4), (3, vi 2), (0, vr E 0)] dX10_digest_102 rfl (by decide) ?_
                                        refine go_iinc (pc := 103) hF [(4, vi 5), (1, vl ((31 * ((31 * ((31 * ((31 * ((31 * ((31 * ((31 * ((31 * ((31 * ((31 * ((31 * ((31 * ((31 * ((31 * ((31 * (61969 + xb)) + xn)) + xf)) + tl)) + u₉)) + kd)) + pr)) + (mLong r₉))) + hs)) + (mAt r₉ 0))) + (mAt r₉ 1))) + lk₉)) + chs)) + lps)) + dp)) + ln)), (3, vi 2), (0, vr E 0)] dX10_digest_103 1 rfl rfl (by decide) ?_
                                        refine go_goto (pc := 106) hF 80 dX10_digest_106 (by decide) ?_
                                        refine go_iload (pc := 80) hF dX10_digest_80 0 rfl ?_
                                        refine go_iconst (pc := 82) hF dX10_digest_82 ?_
                                        refine go_icmp_gt (pc := 83) hF 109 dX10_digest_83 (by decide) ⟨by decide, by decide⟩ ⟨by decide, by decide⟩ (fun bq83 => ?_) (fun bq83 => ?_)
                                        · refine go_iconst (pc := 109) hF dX10_digest_109 ?_
                                          refine go_istore (pc := 110) hF [(4, vi 0), (1, vl ((31 * ((31 * ((31 * ((31 * ((31 * ((31 * ((31 * ((31 * ((31 * ((31 * ((31 * ((31 * ((31 * ((31 * ((31 * (61969 + xb)) + xn)) + xf)) + tl)) + u₉)) + kd)) + pr)) + (mLong r₉))) + hs)) + (mAt r₉ 0))) + (mAt r₉ 1))) + lk₉)) + chs)) + lps)) + dp)) + ln)), (3, vi 2), (0, vr E 0)] dX10_digest_110 rfl (by decide) ?_
                                          refine go_iload (pc := 112) hF dX10_digest_112 0 rfl ?_
                                          refine go_iconst (pc := 114) hF dX10_digest_114 ?_
                                          refine go_icmp_gt (pc := 115) hF 141 dX10_digest_115 (by decide) ⟨by decide, by decide⟩ ⟨by decide, by decide⟩ (fun bq115 => ?_) (fun bq115 => ?_)
                                          · exact absurd bq115 (by decide)
                                          · refine go_ldc2 (pc := 118) hF kc_X10_236 dX10_digest_118 ?_
                                            refine go_lload_n (pc := 121) hF dX10_digest_121 1 rfl ?_
                                            refine go_lmul (pc := 122) hF dX10_digest_122 ?_
                                            refine go_aload_n (pc := 123) hF dX10_digest_123 3 rfl ?_
                                            refine go_get (pc := 124) hF fl_X10_65 dX10_digest_124 (by omega) z0 rfl ?_
                                            refine go_iload (pc := 127) hF dX10_digest_127 0 rfl ?_
                                            refine go_callVP (pc := 129) hF [vi 0] [vl (31 * ((31 * ((31 * ((31 * ((31 * ((31 * ((31 * ((31 * ((31 * ((31 * ((31 * ((31 * ((31 * ((31 * ((31 * ((31 * (61969 + xb)) + xn)) + xf)) + tl)) + u₉)) + kd)) + pr)) + (mLong r₉))) + hs)) + (mAt r₉ 0))) + (mAt r₉ 1))) + lk₉)) + chs)) + lps)) + dp)) + ln))] mv_X10_206 dX10_digest_129 (by omega) z99 (show CP E M_X9_tell 1 [vr E 92, vi 0] N σ (q1₉) from c_X9_tell E N σ 92 b1 b2 q1₉ q2₉ q3₉ 0 (by omega) (by omega) z99) rfl rfl (Nat.le_of_ble_eq_true rfl) (by decide) ⟨Nat.zero_le _, Nat.zero_le _⟩ ?_
                                            refine go_i2l (pc := 132) hF dX10_digest_132 (by omega) ?_
                                            refine go_ladd (pc := 133) hF dX10_digest_133 ?_
                                            refine go_lstore_n (pc := 134) hF [(1, vl ((31 * ((31 * ((31 * ((31 * ((31 * ((31 * ((31 * ((31 * ((31 * ((31 * ((31 * ((31 * ((31 * ((31 * ((31 * ((31 * (61969 + xb)) + xn)) + xf)) + tl)) + u₉)) + kd)) + pr)) + (mLong r₉))) + hs)) + (mAt r₉ 0))) + (mAt r₉ 1))) + lk₉)) + chs)) + lps)) + dp)) + ln)) + q1₉)), (4, vi 0), (3, vi 2), (0, vr E 0)] dX10_digest_134 rfl (by decide) ?_
                                            refine go_iinc (pc := 135) hF [(4, vi 1), (1, vl ((31 * ((31 * ((31 * ((31 * ((31 * ((31 * ((31 * ((31 * ((31 * ((31 * ((31 * ((31 * ((31 * ((31 * ((31 * ((31 * (61969 + xb)) + xn)) + xf)) + tl)) + u₉)) + kd)) + pr)) + (mLong r₉))) + hs)) + (mAt r₉ 0))) + (mAt r₉ 1))) + lk₉)) + chs)) + lps)) + dp)) + ln)) + q1₉)), (3, vi 2), (0, vr E 0)] dX10_digest_135 1 rfl rfl (by decide) ?_
                                            refine go_goto (pc := 138) hF 112 dX10_digest_138 (by decide) ?_
                                            refine go_iload (pc := 112) hF dX10_digest_112 0 rfl ?_
                                            refine go_iconst (pc := 114) hF dX10_digest_114 ?_
                                            refine go_icmp_gt (pc := 115) hF 141 dX10_digest_115 (by decide) ⟨by decide, by decide⟩ ⟨by decide, by decide⟩ (fun bq115 => ?_) (fun bq115 => ?_)
                                            · exact absurd bq115 (by decide)
                                            · refine go_ldc2 (pc := 118) hF kc_X10_236 dX10_digest_118 ?_
                                              refine go_lload_n (pc := 121) hF dX10_digest_121 1 rfl ?_
                                              refine go_lmul (pc := 122) hF dX10_digest_122 ?_
                                              refine go_aload_n (pc := 123) hF dX10_digest_123 3 rfl ?_
                                              refine go_get (pc := 124) hF fl_X10_65 dX10_digest_124 (by omega) z0 rfl ?_
                                              refine go_iload (pc := 127) hF dX10_digest_127 0 rfl ?_
                                              refine go_callVP (pc := 129) hF [vi 1] [vl (31 * ((31 * ((31 * ((31 * ((31 * ((31 * ((31 * ((31 * ((31 * ((31 * ((31 * ((31 * ((31 * ((31 * ((31 * ((31 * ((31 * (61969 + xb)) + xn)) + xf)) + tl)) + u₉)) + kd)) + pr)) + (mLong r₉))) + hs)) + (mAt r₉ 0))) + (mAt r₉ 1))) + lk₉)) + chs)) + lps)) + dp)) + ln)) + q1₉))] mv_X10_206 dX10_digest_129 (by omega) z99 (show CP E M_X9_tell 1 [vr E 92, vi 1] N σ (q2₉) from c_X9_tell E N σ 92 b1 b2 q1₉ q2₉ q3₉ 1 (by omega) (by omega) z99) rfl rfl (Nat.le_of_ble_eq_true rfl) (by decide) ⟨Nat.zero_le _, Nat.zero_le _⟩ ?_
                                              refine go_i2l (pc := 132) hF dX10_digest_132 (by omega) ?_
                                              refine go_ladd (pc := 133) hF dX10_digest_133 ?_
                                              refine go_lstore_n (pc := 134) hF [(1, vl ((31 * ((31 * ((31 * ((31 * ((31 * ((31 * ((31 * ((31 * ((31 * ((31 * ((31 * ((31 * ((31 * ((31 * ((31 * ((31 * ((31 * (61969 + xb)) + xn)) + xf)) + tl)) + u₉)) + kd)) + pr)) + (mLong r₉))) + hs)) + (mAt r₉ 0))) + (mAt r₉ 1))) + lk₉)) + chs)) + lps)) + dp)) + ln)) + q1₉)) + q2₉)), (4, vi 1), (3, vi 2), (0, vr E 0)] dX10_digest_134 rfl (by decide) ?_
                                              refine go_iinc (pc := 135) hF [(4, vi 2), (1, vl ((31 * ((31 * ((31 * ((31 * ((31 * ((31 * ((31 * ((31 * ((31 * ((31 * ((31 * ((31 * ((31 * ((31 * ((31 * ((31 * ((31 * (61969 + xb)) + xn)) + xf)) + tl)) + u₉)) + kd)) + pr)) + (mLong r₉))) + hs)) + (mAt r₉ 0))) + (mAt r₉ 1))) + lk₉)) + chs)) + lps)) + dp)) + ln)) + q1₉)) + q2₉)), (3, vi 2), (0, vr E 0)] dX10_digest_135 1 rfl rfl (by decide) ?_
                                              refine go_goto (pc := 138) hF 112 dX10_digest_138 (by decide) ?_
                                              refine go_iload (pc := 112) hF dX10_digest_112 0 rfl ?_
                                              refine go_iconst (pc := 114) hF dX10_digest_114 ?_
                                              refine go_icmp_gt (pc := 115) hF 141 dX10_digest_115 (by decide) ⟨by decide, by decide⟩ ⟨by decide, by decide⟩ (fun bq115 => ?_) (fun bq115 => ?_)
                                              · exact absurd bq115 (by decide)
                                              · refine go_ldc2 (pc := 118) hF kc_X10_236 dX10_digest_118 ?_
                                                refine go_lload_n (pc := 121) hF dX10_digest_121 1 rfl ?_
                                                refine go_lmul (pc := 122) hF dX10_digest_122 ?_
                                                refine go_aload_n (pc := 123) hF dX10_digest_123 3 rfl ?_
                                                refine go_get (pc := 124) hF fl_X10_65 dX10_digest_124 (by omega) z0 rfl ?_
                                                refine go_iload (pc := 127) hF dX10_digest_127 0 rfl ?_
                                                refine go_callVP (pc := 129) hF [vi 2] [vl (31 * ((31 * ((31 * ((31 * ((31 * ((31 * ((31 * ((31 * ((31 * ((31 * ((31 * ((31 * ((31 * ((31 * ((31 * ((31 * ((31 * ((31 * (61969 + xb)) + xn)) + xf)) + tl)) + u₉)) + kd)) + pr)) + (mLong r₉))) + hs)) + (mAt r₉ 0))) + (mAt r₉ 1))) + lk₉)) + chs)) + lps)) + dp)) + ln)) + q1₉)) + q2₉))] mv_X10_206 dX10_digest_129 (by omega) z99 (show CP E M_X9_tell 1 [vr E 92, vi 2] N σ (q3₉) from c_X9_tell E N σ 92 b1 b2 q1₉ q2₉ q3₉ 2 (by omega) (by omega) z99) rfl rfl (Nat.le_of_ble_eq_true rfl) (by decide) ⟨Nat.zero_le _, Nat.zero_le _⟩ ?_
                                                refine go_i2l (pc := 132) hF dX10_digest_132 (by omega) ?_
                                                refine go_ladd (pc := 133) hF dX10_digest_133 ?_
                                                refine go_lstore_n (pc := 134) hF [(1, vl ((31 * ((31 * ((31 * ((31 * ((31 * ((31 * ((31 * ((31 * ((31 * ((31 * ((31 * ((31 * ((31 * ((31 * ((31 * ((31 * ((31 * ((31 * (61969 + xb)) + xn)) + xf)) + tl)) + u₉)) + kd)) + pr)) + (mLong r₉))) + hs)) + (mAt r₉ 0))) + (mAt r₉ 1))) + lk₉)) + chs)) + lps)) + dp)) + ln)) + q1₉)) + q2₉)) + q3₉)), (4, vi 2), (3, vi 2), (0, vr E 0)] dX10_digest_134 rfl (by decide) ?_
                                                refine go_iinc (pc := 135) hF [(4, vi 3), (1, vl ((31 * ((31 * ((31 * ((31 * ((31 * ((31 * ((31 * ((31 * ((31 * ((31 * ((31 * ((31 * ((31 * ((31 * ((31 * ((31 * ((31 * ((31 * (61969 + xb)) + xn)) + xf)) + tl)) + u₉)) + kd)) + pr)) + (mLong r₉))) + hs)) + (mAt r₉ 0))) + (mAt r₉ 1))) + lk₉)) + chs)) + lps)) + dp)) + ln)) + q1₉)) + q2₉)) + q3₉)), (3, vi 2), (0, vr E 0)] dX10_digest_135 1 rfl rfl (by decide) ?_
                                                refine go_goto (pc := 138) hF 112 dX10_digest_138 (by decide) ?_
                                                refine go_iload (pc := 112) hF dX10_digest_112 0 rfl ?_
                                                refine go_iconst (pc := 114) hF dX10_digest_114 ?_
                                                refine go_icmp_gt (pc := 115) hF 141 dX10_digest_115 (by decide) ⟨by decide, by decide⟩ ⟨by decide, by decide⟩ (fun bq115 => ?_) (fun bq115 => ?_)
                                                · refine go_lload_n (pc := 141) hF dX10_digest_141 1 rfl ?_
                                                  refine go_lretQ hF hr hlk hQ dX10_digest_142 ⟨?_, hS0, fun _ _ => rfl⟩
                                                  unfold dgS dgL
                                                  rw [if_neg (by omega), if_neg (by omega), if_pos eL]
                                                  rw [htk9, ← hch9, ← hlp9, ← hdp9, ← hln9]
                                                  rfl
                                                · exact absurd bq115 (by decide)
                                        · exact absurd bq83 (by decide)
                            · exact absurd bq48 (by decide)
                      · rw [show vi (mLong r₉) = vi 3 by rw [eL]]
                        refine go_istore_n (pc := 41) hF [(3, vi 3), (1, vl ((31 * ((31 * ((31 * ((31 * ((31 * ((31 * ((31 * ((31 * (61969 + xb)) + xn)) + xf)) + tl)) + u₉)) + kd)) + pr)) + (mLong r₉))) + hs)), (0, vr E 0)] dX10_digest_41 rfl (by decide) ?_
                        refine go_iconst (pc := 42) hF dX10_digest_42 ?_
                        refine go_istore (pc := 43) hF [(4, vi 0), (3, vi 3), (1, vl ((31 * ((31 * ((31 * ((31 * ((31 * ((31 * ((31 * ((31 * (61969 + xb)) + xn)) + xf)) + tl)) + u₉)) + kd)) + pr)) + (mLong r₉))) + hs)), (0, vr E 0)] dX10_digest_43 rfl (by decide) ?_
                        refine go_iload (pc := 45) hF dX10_digest_45 0 rfl ?_
                        refine go_iload_n (pc := 47) hF dX10_digest_47 1 rfl ?_
                        refine go_icmp_ge (pc := 48) hF 77 dX10_digest_48 (by decide) ⟨by decide, by decide⟩ ⟨by decide, by decide⟩ (fun bq48 => ?_) (fun bq48 => ?_)
                        · exact absurd bq48 (by decide)
                        · refine go_ldc2 (pc := 51) hF kc_X10_236 dX10_digest_51 ?_
                          refine go_lload_n (pc := 54) hF dX10_digest_54 2 rfl ?_
                          refine go_lmul (pc := 55) hF dX10_digest_55 ?_
                          refine go_aload_n (pc := 56) hF dX10_digest_56 3 rfl ?_
                          refine go_get (pc := 57) hF fl_X10_10 dX10_digest_57 (by omega) z0 rfl ?_
                          refine go_get (pc := 60) hF fl_X10_96 dX10_digest_60 (by omega) z1 rfl ?_
                          refine go_iload (pc := 63) hF dX10_digest_63 0 rfl ?_
                          refine go_callSP (pc := 65) hF [vi (en r₉), vi 0] [vl (31 * ((31 * ((31 * ((31 * ((31 * ((31 * ((31 * ((31 * ((31 * (61969 + xb)) + xn)) + xf)) + tl)) + u₉)) + kd)) + pr)) + (mLong r₉))) + hs))] ms_X10_122 dX10_digest_65 (show CP E M_X8_lineAt 1 [vi (en r₉), vi 0] N σ (mAt r₉ 0) from (by have h := c_X8_lineAt E N σ (en r₉) 0 (by omega) (by first | omega | (constructor <;> decide)); rw [ek.2.1] at h; exact h)) rfl rfl (Nat.le_of_ble_eq_true rfl) (by decide) ⟨Nat.zero_le _, Nat.zero_le _⟩ ?_
                          refine go_i2l (pc := 68) hF dX10_digest_68 (by omega) ?_
                          refine go_ladd (pc := 69) hF dX10_digest_69 ?_
                          refine go_lstore_n (pc := 70) hF [(1, vl ((31 * ((31 * ((31 * ((31 * ((31 * ((31 * ((31 * ((31 * ((31 * (61969 + xb)) + xn)) + xf)) + tl)) + u₉)) + kd)) + pr)) + (mLong r₉))) + hs)) + (mAt r₉ 0))), (4, vi 0), (3, vi 3), (0, vr E 0)] dX10_digest_70 rfl (by decide) ?_
                          refine go_iinc (pc := 71) hF [(4, vi 1), (1, vl ((31 * ((31 * ((31 * ((31 * ((31 * ((31 * ((31 * ((31 * ((31 * (61969 + xb)) + xn)) + xf)) + tl)) + u₉)) + kd)) + pr)) + (mLong r₉))) + hs)) + (mAt r₉ 0))), (3, vi 3), (0, vr E 0)] dX10_digest_71 1 rfl rfl (by decide) ?_
                          refine go_goto (pc := 74) hF 45 dX10_digest_74 (by decide) ?_
                          refine go_iload (pc := 45) hF dX10_digest_45 0 rfl ?_
                          refine go_iload_n (pc := 47) hF dX10_digest_47 2 rfl ?_
                          refine go_icmp_ge (pc := 48) hF 77 dX10_digest_48 (by decide) ⟨by decide, by decide⟩ ⟨by decide, by decide⟩ (fun bq48 => ?_) (fun bq48 => ?_)
                          · exact absurd bq48 (by decide)
                          · refine go_ldc2 (pc := 51) hF kc_X10_236 dX10_digest_51 ?_
                            refine go_lload_n (pc := 54) hF dX10_digest_54 1 rfl ?_
                            refine go_lmul (pc := 55) hF dX10_digest_55 ?_
                            refine go_aload_n (pc := 56) hF dX10_digest_56 3 rfl ?_
                            refine go_get (pc := 57) hF fl_X10_10 dX10_digest_57 (by omega) z0 rfl ?_
                            refine go_get (pc := 60) hF fl_X10_96 dX10_digest_60 (by omega) z1 rfl ?_
                            refine go_iload (pc := 63) hF dX10_digest_63 0 rfl ?_
                            refine go_callSP (pc := 65) hF [vi (en r₉), vi 1] [vl (31 * ((31 * ((31 * ((31 * ((31 * ((31 * ((31 * ((31 * ((31 * ((31 * (61969 + xb)) + xn)) + xf)) + tl)) + u₉)) + kd)) + pr)) + (mLong r₉))) + hs)) + (mAt r₉ 0)))] ms_X10_122 dX10_digest_65 (show CP E M_X8_lineAt 1 [vi (en r₉), vi 1] N σ (mAt r₉ 1) from (by have h := c_X8_lineAt E N σ (en r₉) 1 (by omega) (by first | omega | (constructor <;> decide)); rw [ek.2.2.1] at h; exact h)) rfl rfl (Nat.le_of_ble_eq_true rfl) (by decide) ⟨Nat.zero_le _, Nat.zero_le _⟩ ?_
                            refine go_i2l (pc := 68) hF dX10_digest_68 (by omega) ?_
                            refine go_ladd (pc := 69) hF dX10_digest_69 ?_
                            refine go_lstore_n (pc := 70) hF [(1, vl ((31 * ((31 * ((31 * ((31 * ((31 * ((31 * ((31 * ((31 * ((31 * ((31 * (61969 + xb)) + xn)) + xf)) + tl)) + u₉)) + kd)) + pr)) + (mLong r₉))) + hs)) + (mAt r₉ 0))) + (mAt r₉ 1))), (4, vi 1), (3, vi 3), (0, vr E 0)] dX10_digest_70 rfl (by decide) ?_
                            refine go_iinc (pc := 71) hF [(4, vi 2), (1, vl ((31 * ((31 * ((31 * ((31 * ((31 * ((31 * ((31 * ((31 * ((31 * ((31 * (61969 + xb)) + xn)) + xf)) + tl)) + u₉)) + kd)) + pr)) + (mLong r₉))) + hs)) + (mAt r₉ 0))) + (mAt r₉ 1))), (3, vi 3), (0, vr E 0)] dX10_digest_71 1 rfl rfl (by decide) ?_
                            refine go_goto (pc := 74) hF 45 dX10_digest_74 (by decide) ?_
                            refine go_iload (pc := 45) hF dX10_digest_45 0 rfl ?_
                            refine go_iload_n (pc := 47) hF dX10_digest_47 2 rfl ?_
                            refine go_icmp_ge (pc := 48) hF 77 dX10_digest_48 (by decide) ⟨by decide, by decide⟩ ⟨by decide, by decide⟩ (fun bq48 => ?_) (fun bq48 => ?_)
                            · exact absurd bq48 (by decide)
                            · refine go_ldc2 (pc := 51) hF kc_X10_236 dX10_digest_51 ?_
                              refine go_lload_n (pc := 54) hF dX10_digest_54 1 rfl ?_
                              refine go_lmul (pc := 55) hF dX10_digest_55 ?_
                              refine go_aload_n (pc := 56) hF dX10_digest_56 3 rfl ?_
                              refine go_get (pc := 57) hF fl_X10_10 dX10_digest_57 (by omega) z0 rfl ?_
                              refine go_get (pc := 60) hF fl_X10_96 dX10_digest_60 (by omega) z1 rfl ?_
                              refine go_iload (pc := 63) hF dX10_digest_63 0 rfl ?_
                              refine go_callSP (pc := 65) hF [vi (en r₉), vi 2] [vl (31 * ((31 * ((31 * ((31 * ((31 * ((31 * ((31 * ((31 * ((31 * ((31 * ((31 * (61969 + xb)) + xn)) + xf)) + tl)) + u₉)) + kd)) + pr)) + (mLong r₉))) + hs)) + (mAt r₉ 0))) + (mAt r₉ 1)))] ms_X10_122 dX10_digest_65 (show CP E M_X8_lineAt 1 [vi (en r₉), vi 2] N σ (mAt r₉ 2) from (by have h := c_X8_lineAt E N σ (en r₉) 2 (by omega) (by first | omega | (constructor <;> decide)); rw [ek.2.2.2] at h; exact h)) rfl rfl (Nat.le_of_ble_eq_true rfl) (by decide) ⟨Nat.zero_le _, Nat.zero_le _⟩ ?_
                              refine go_i2l (pc := 68) hF dX10_digest_68 (by omega) ?_
                              refine go_ladd (pc := 69) hF dX10_digest_69 ?_
                              refine go_lstore_n (pc := 70) hF [(1, vl ((31 * ((31 * ((31 * ((31 * ((31 * ((31 * ((31 * ((31 * ((31 * ((31 * ((31 * (61969 + xb)) + xn)) + xf)) + tl)) + u₉)) + kd)) + pr)) + (mLong r₉))) + hs)) + (mAt r₉ 0))) + (mAt r₉ 1))) + (mAt r₉ 2))), (4, vi 2), (3, vi 3), (0, vr E 0)] dX10_digest_70 rfl (by decide) ?_
                              refine go_iinc (pc := 71) hF [(4, vi 3), (1, vl ((31 * ((31 * ((31 * ((31 * ((31 * ((31 * ((31 * ((31 * ((31 * ((31 * ((31 * (61969 + xb)) + xn)) + xf)) + tl)) + u₉)) + kd)) + pr)) + (mLong r₉))) + hs)) + (mAt r₉ 0))) + (mAt r₉ 1))) + (mAt r₉ 2))), (3, vi 3), (0, vr E 0)] dX10_digest_71 1 rfl rfl (by decide) ?_
                              refine go_goto (pc := 74) hF 45 dX10_digest_74 (by decide) ?_
                              refine go_iload (pc := 45) hF dX10_digest_45 0 rfl ?_
                              refine go_iload_n (pc := 47) hF dX10_digest_47 2 rfl ?_
                              refine go_icmp_ge (pc := 48) hF 77 dX10_digest_48 (by decide) ⟨by decide, by decide⟩ ⟨by decide, by decide⟩ (fun bq48 => ?_) (fun bq48 => ?_)
                              · refine go_iconst (pc := 77) hF dX10_digest_77 ?_
                                refine go_istore (pc := 78) hF [(4, vi 0), (1, vl ((31 * ((31 * ((31 * ((31 * ((31 * ((31 * ((31 * ((31 * ((31 * ((31 * ((31 * (61969 + xb)) + xn)) + xf)) + tl)) + u₉)) + kd)) + pr)) + (mLong r₉))) + hs)) + (mAt r₉ 0))) + (mAt r₉ 1))) + (mAt r₉ 2))), (3, vi 3), (0, vr E 0)] dX10_digest_78 rfl (by decide) ?_
                                refine go_iload (pc := 80) hF dX10_digest_80 0 rfl ?_
                                refine go_iconst (pc := 82) hF dX10_digest_82 ?_
                                refine go_icmp_gt (pc := 83) hF 109 dX10_digest_83 (by decide) ⟨by decide, by decide⟩ ⟨by decide, by decide⟩ (fun bq83 => ?_) (fun bq83 => ?_)
                                · exact absurd bq83 (by decide)
                                · refine go_ldc2 (pc := 86) hF kc_X10_236 dX10_digest_86 ?_
                                  refine go_lload_n (pc := 89) hF dX10_digest_89 1 rfl ?_
                                  refine go_lmul (pc := 90) hF dX10_digest_90 ?_
                                  refine go_aload_n (pc := 91) hF dX10_digest_91 3 rfl ?_
                                  refine go_get (pc := 92) hF fl_X10_44 dX10_digest_92 (by omega) z0 rfl ?_
                                  refine go_iload (pc := 95) hF dX10_digest_95 0 rfl ?_
                                  refine go_callVP (pc := 97) hF [vi 0] [vl (31 * ((31 * ((31 * ((31 * ((31 * ((31 * ((31 * ((31 * ((31 * ((31 * ((31 * ((31 * (61969 + xb)) + xn)) + xf)) + tl)) + u₉)) + kd)) + pr)) + (mLong r₉))) + hs)) + (mAt r₉ 0))) + (mAt r₉ 1))) + (mAt r₉ 2)))] mv_X10_143 dX10_digest_97 (by omega) zp.1 (show CP E M_X6_tell 1 [vr E 23, vi 0] N σ (lk₉) from c_X6_tell E N σ 23 (by omega) zp 0 (by omega)) rfl rfl (Nat.le_of_ble_eq_true rfl) (by decide) ⟨Nat.zero_le _, Nat.zero_le _⟩ ?_
                                  refine go_i2l (pc := 100) hF dX10_digest_100 (by omega) ?_
                                  refine go_ladd (pc := 101) hF dX10_digest_101 ?_
                                  refine go_lstore_n (pc := 102) hF [(1, vl ((31 * ((31 * ((31 * ((31 * ((31 * ((31 * ((31 * ((31 * ((31 * ((31 * ((31 * ((31 * (61969 + xb)) + xn)) + xf)) + tl)) + u₉)) + kd)) + pr)) + (mLong r₉))) + hs)) + (mAt r₉ 0))) + (mAt r₉ 1))) + (mAt r₉ 2))) + lk₉)), (4, vi 0), (3, vi 3), (0, vr E 0)] dX10_digest_102 rfl (by decide) ?_
                                  refine go_iinc (pc := 103) hF [(4, vi 1), (1, vl ((31 * ((31 * ((31 * ((31 * ((31 * ((31 * ((31 * ((31 * ((31 * ((31 * ((31 * ((31 * (61969 + xb)) + xn)) + xf)) + tl)) + u₉)) + kd)) + pr)) + (mLong r₉))) + hs)) + (mAt r₉ 0))) + (mAt r₉ 1))) + (mAt r₉ 2))) + lk₉)), (3, vi 3), (0, vr E 0)] dX10_digest_103 1 rfl rfl (by decide) ?_
                                  refine go_goto (pc := 106) hF 80 dX10_digest_106 (by decide) ?_
                                  refine go_iload (pc := 80) hF dX10_digest_80 0 rfl ?_
                                  refine go_iconst (pc := 82) hF dX10_digest_82 ?_
                                  refine go_icmp_gt (pc := 83) hF 109 dX10_digest_83 (by decide) ⟨by decide, by decide⟩ ⟨by decide, by decide⟩ (fun bq83 => ?_) (fun bq83 => ?_)
                                  · exact absurd bq83 (by decide)
                                  · refine go_ldc2 (pc := 86) hF kc_X10_236 dX10_digest_86 ?_
                                    refine go_lload_n (pc := 89) hF dX10_digest_89 1 rfl ?_
                                    refine go_lmul (pc := 90) hF dX10_digest_90 ?_
                                    refine go_aload_n (pc := 91) hF dX10_digest_91 3 rfl ?_
                                    refine go_get (pc := 92) hF fl_X10_44 dX10_digest_92 (by omega) z0 rfl ?_
                                    refine go_iload (pc := 95) hF dX10_digest_95 0 rfl ?_
                                    refine go_callVP (pc := 97) hF [vi 1] [vl (31 * ((31 * ((31 * ((31 * ((31 * ((31 * ((31 * ((31 * ((31 * ((31 * ((31 * ((31 * ((31 * (61969 + xb)) + xn)) + xf)) + tl)) + u₉)) + kd)) + pr)) + (mLong r₉))) + hs)) + (mAt r₉ 0))) + (mAt r₉ 1))) + (mAt r₉ 2))) + lk₉))] mv_X10_143 dX10_digest_97 (by omega) zp.1 (show CP E M_X6_tell 1 [vr E 23, vi 1] N σ (chs) from c_X6_tell E N σ 23 (by omega) zp 1 (by omega)) rfl rfl (Nat.le_of_ble_eq_true rfl) (by decide) ⟨Nat.zero_le _, Nat.zero_le _⟩ ?_
                                    refine go_i2l (pc := 100) hF dX10_digest_100 (by omega) ?_
                                    refine go_ladd (pc := 101) hF dX10_digest_101 ?_
                                    refine go_lstore_n (pc := 102) hF [(1, vl ((31 * ((31 * ((31 * ((31 * ((31 * ((31 * ((31 * ((31 * ((31 * ((31 * ((31 * ((31 * ((31 * (61969 + xb)) + xn)) + xf)) + tl)) + u₉)) + kd)) + pr)) + (mLong r₉))) + hs)) + (mAt r₉ 0))) + (mAt r₉ 1))) + (mAt r₉ 2))) + lk₉)) + chs)), (4, vi 1), (3, vi 3), (0, vr E 0)] dX10_digest_102 rfl (by decide) ?_
                                    refine go_iinc (pc := 103) hF [(4, vi 2), (1, vl ((31 * ((31 * ((31 * ((31 * ((31 * ((31 * ((31 * ((31 * ((31 * ((31 * ((31 * ((31 * ((31 * (61969 + xb)) + xn)) + xf)) + tl)) + u₉)) + kd)) + pr)) + (mLong r₉))) + hs)) + (mAt r₉ 0))) + (mAt r₉ 1))) + (mAt r₉ 2))) + lk₉)) + chs)), (3, vi 3), (0, vr E 0)] dX10_digest_103 1 rfl rfl (by decide) ?_
                                    refine go_goto (pc := 106) hF 80 dX10_digest_106 (by decide) ?_
                                    refine go_iload (pc := 80) hF dX10_digest_80 0 rfl ?_
                                    refine go_iconst (pc := 82) hF dX10_digest_82 ?_
                                    refine go_icmp_gt (pc := 83) hF 109 dX10_digest_83 (by decide) ⟨by decide, by decide⟩ ⟨by decide, by decide⟩ (fun bq83 => ?_) (fun bq83 => ?_)
                                    · exact absurd bq83 (by decide)
                                    · refine go_ldc2 (pc := 86) hF kc_X10_236 dX10_digest_86 ?_
                                      refine go_lload_n (pc := 89) hF dX10_digest_89 1 rfl ?_
                                      refine go_lmul (pc := 90) hF dX10_digest_90 ?_
                                      refine go_aload_n (pc := 91) hF dX10_digest_91 3 rfl ?_
                                      refine go_get (pc := 92) hF fl_X10_44 dX10_digest_92 (by omega) z0 rfl ?_
                                      refine go_iload (pc := 95) hF dX10_digest_95 0 rfl ?_
                                      refine go_callVP (pc := 97) hF [vi 2] [vl (31 * ((31 * ((31 * ((31 * ((31 * ((31 * ((31 * ((31 * ((31 * ((31 * ((31 * ((31 * ((31 * ((31 * (61969 + xb)) + xn)) + xf)) + tl)) + u₉)) + kd)) + pr)) + (mLong r₉))) + hs)) + (mAt r₉ 0))) + (mAt r₉ 1))) + (mAt r₉ 2))) + lk₉)) + chs))] mv_X10_143 dX10_digest_97 (by omega) zp.1 (show CP E M_X6_tell 1 [vr E 23, vi 2] N σ (lps) from c_X6_tell E N σ 23 (by omega) zp 2 (by omega)) rfl rfl (Nat.le_of_ble_eq_true rfl) (by decide) ⟨Nat.zero_le _, Nat.zero_le _⟩ ?_
                                      refine go_i2l (pc := 100) hF dX10_digest_100 (by omega) ?_
                                      refine go_ladd (pc := 101) hF dX10_digest_101 ?_
                                      refine go_lstore_n (pc := 102) hF [(1, vl ((31 * ((31 * ((31 * ((31 * ((31 * ((31 * ((31 * ((31 * ((31 * ((31 * ((31 * ((31 * ((31 * ((31 * (61969 + xb)) + xn)) + xf)) + tl)) + u₉)) + kd)) + pr)) + (mLong r₉))) + hs)) + (mAt r₉ 0))) + (mAt r₉ 1))) + (mAt r₉ 2))) + lk₉)) + chs)) + lps)), (4, vi 2), (3, vi 3), (0, vr E 0)] dX10_digest_102 rfl (by decide) ?_
                                      refine go_iinc (pc := 103) hF [(4, vi 3), (1, vl ((31 * ((31 * ((31 * ((31 * ((31 * ((31 * ((31 * ((31 * ((31 * ((31 * ((31 * ((31 * ((31 * ((31 * (61969 + xb)) + xn)) + xf)) + tl)) + u₉)) + kd)) + pr)) + (mLong r₉))) + hs)) + (mAt r₉ 0))) + (mAt r₉ 1))) + (mAt r₉ 2))) + lk₉)) + chs)) + lps)), (3, vi 3), (0, vr E 0)] dX10_digest_103 1 rfl rfl (by decide) ?_
                                      refine go_goto (pc := 106) hF 80 dX10_digest_106 (by decide) ?_
                                      refine go_iload (pc := 80) hF dX10_digest_80 0 rfl ?_
                                      refine go_iconst (pc := 82) hF dX10_digest_82 ?_
                                      refine go_icmp_gt (pc := 83) hF 109 dX10_digest_83 (by decide) ⟨by decide, by decide⟩ ⟨by decide, by decide⟩ (fun bq83 => ?_) (fun bq83 => ?_)
                                      · exact absurd bq83 (by decide)
                                      · refine go_ldc2 (pc := 86) hF kc_X10_236 dX10_digest_86 ?_
                                        refine go_lload_n (pc := 89) hF dX10_digest_89 1 rfl ?_
                                        refine go_lmul (pc := 90) hF dX10_digest_90 ?_
                                        refine go_aload_n (pc := 91) hF dX10_digest_91 3 rfl ?_
                                        refine go_get (pc := 92) hF fl_X10_44 dX10_digest_92 (by omega) z0 rfl ?_
                                        refine go_iload (pc := 95) hF dX10_digest_95 0 rfl ?_
                                        refine go_callVP (pc := 97) hF [vi 3] [vl (31 * ((31 * ((31 * ((31 * ((31 * ((31 * ((31 * ((31 * ((31 * ((31 * ((31 * ((31 * ((31 * ((31 * ((31 * (61969 + xb)) + xn)) + xf)) + tl)) + u₉)) + kd)) + pr)) + (mLong r₉))) + hs)) + (mAt r₉ 0))) + (mAt r₉ 1))) + (mAt r₉ 2))) + lk₉)) + chs)) + lps))] mv_X10_143 dX10_digest_97 (by omega) zp.1 (show CP E M_X6_tell 1 [vr E 23, vi 3] N σ (dp) from c_X6_tell E N σ 23 (by omega) zp 3 (by omega)) rfl rfl (Nat.le_of_ble_eq_true rfl) (by decide) ⟨Nat.zero_le _, Nat.zero_le _⟩ ?_
                                        refine go_i2l (pc := 100) hF dX10_digest_100 (by omega) ?_
                                        refine go_ladd (pc := 101) hF dX10_digest_101 ?_
                                        refine go_lstore_n (pc := 102) hF [(1, vl ((31 * ((31 * ((31 * ((31 * ((31 * ((31 * ((31 * ((31 * ((31 * ((31 * ((31 * ((31 * ((31 * ((31 * ((31 * (61969 + xb)) + xn)) + xf)) + tl)) + u₉)) + kd)) + pr)) + (mLong r₉))) + hs)) + (mAt r₉ 0))) + (mAt r₉ 1))) + (mAt r₉ 2))) + lk₉)) + chs)) + lps)) + dp)), (4, vi 3), (3, vi 3), (0, vr E 0)] dX10_digest_102 rfl (by decide) ?_
                                        refine go_iinc (pc := 103) hF [(4, vi 4), (1, vl ((31 * ((31 * ((31 * ((31 * ((31 * ((31 * ((31 * ((31 * ((31 * ((31 * ((31 * ((31 * ((31 * ((31 * ((31 * (61969 + xb)) + xn)) + xf)) + tl)) + u₉)) + kd)) + pr)) + (mLong r₉))) + hs)) + (mAt r₉ 0))) + (mAt r₉ 1))) + (mAt r₉ 2))) + lk₉)) + chs)) + lps)) + dp)), (3, vi 3), (0, vr E 0)] dX10_digest_103 1 rfl rfl (by decide) ?_
                                        refine go_goto (pc := 106) hF 80 dX10_digest_106 (by decide) ?_
                                        refine go_iload (pc := 80) hF dX10_digest_80 0 rfl ?_
                                        refine go_iconst (pc := 82) hF dX10_digest_82 ?_
                                        refine go_icmp_gt (pc := 83) hF 109 dX10_digest_83 (by decide) ⟨by decide, by decide⟩ ⟨by decide, by decide⟩ (fun bq83 => ?_) (fun bq83 => ?_)
                                        · exact absurd bq83 (by decide)
                                        · refine go_ldc2 (pc := 86) hF kc_X10_236 dX10_digest_86 ?_
                                          refine go_lload_n (pc := 89) hF dX10_digest_89 1 rfl ?_
                                          refine go_lmul (pc := 90) hF dX10_digest_90 ?_
                                          refine go_aload_n (pc := 91) hF dX10_digest_91 3 rfl ?_
                                          refine go_get (pc := 92) hF fl_X10_44 dX10_digest_92 (by omega) z0 rfl ?_
                                          refine go_iload (pc := 95) hF dX10_digest_95 0 rfl ?_
                                          refine go_callVP (pc := 97) hF [vi 4] [vl (31 * ((31 * ((31 * ((31 * ((31 * ((31 * ((31 * ((31 * ((31 * ((31 * ((31 * ((31 * ((31 * ((31 * ((31 * ((31 * (61969 + xb)) + xn)) + xf)) + tl)) + u₉)) + kd)) + pr)) + (mLong r₉))) + hs)) + (mAt r₉ 0))) + (mAt r₉ 1))) + (mAt r₉ 2))) + lk₉)) + chs)) + lps)) + dp))] mv_X10_143 dX10_digest_97 (by omega) zp.1 (show CP E M_X6_tell 1 [vr E 23, vi 4] N σ (ln) from c_X6_tell E N σ 23 (by omega) zp 4 (by omega)) rfl rfl (Nat.le_of_ble_eq_true rfl) (by decide) ⟨Nat.zero_le _, Nat.zero_le _⟩ ?_
                                          refine go_i2l (pc := 100) hF dX10_digest_100 (by omega) ?_
                                          refine go_ladd (pc := 101) hF dX10_digest_101 ?_
                                          refine go_lstore_n (pc := 102) hF [(1, vl ((31 * ((31 * ((31 * ((31 * ((31 * ((31 * ((31 * ((31 * ((31 * ((31 * ((31 * ((31 * ((31 * ((31 * ((31 * ((31 * (61969 + xb)) + xn)) + xf)) + tl)) + u₉)) + kd)) + pr)) + (mLong r₉))) + hs)) + (mAt r₉ 0))) + (mAt r₉ 1))) + (mAt r₉ 2))) + lk₉)) + chs)) + lps)) + dp)) + ln)), (4, vi 4), (3, vi 3), (0, vr E 0)] dX10_digest_102 rfl (by decide) ?_
                                          refine go_iinc (pc := 103) hF [(4, vi 5), (1, vl ((31 * ((31 * ((31 * ((31 * ((31 * ((31 * ((31 * ((31 * ((31 * ((31 * ((31 * ((31 * ((31 * ((31 * ((31 * ((31 * (61969 + xb)) + xn)) + xf)) + tl)) + u₉)) + kd)) + pr)) + (mLong r₉))) + hs)) + (mAt r₉ 0))) + (mAt r₉ 1))) + (mAt r₉ 2))) + lk₉)) + chs)) + lps)) + dp)) + ln)), (3, vi 3), (0, vr E 0)] dX10_digest_103 1 rfl rfl (by decide) ?_
                                          refine go_goto (pc := 106) hF 80 dX10_digest_106 (by decide) ?_
                                          refine go_iload (pc := 80) hF dX10_digest_80 0 rfl ?_
                                          refine go_iconst (pc := 82) hF dX10_digest_82 ?_
                                          refine go_icmp_gt (pc := 83) hF 109 dX10_digest_83 (by decide) ⟨by decide, by decide⟩ ⟨by decide, by decide⟩ (fun bq83 => ?_) (fun bq83 => ?_)
                                          · refine go_iconst (pc := 109) hF dX10_digest_109 ?_
                                            refine go_istore (pc := 110) hF [(4, vi 0), (1, vl ((31 * ((31 * ((31 * ((31 * ((31 * ((31 * ((31 * ((31 * ((31 * ((31 * ((31 * ((31 * ((31 * ((31 * ((31 * ((31 * (61969 + xb)) + xn)) + xf)) + tl)) + u₉)) + kd)) + pr)) + (mLong r₉))) + hs)) + (mAt r₉ 0))) + (mAt r₉ 1))) + (mAt r₉ 2))) + lk₉)) + chs)) + lps)) + dp)) + ln)), (3, vi 3), (0, vr E 0)] dX10_digest_110 rfl (by decide) ?_
                                            refine go_iload (pc := 112) hF dX10_digest_112 0 rfl ?_
                                            refine go_iconst (pc := 114) hF dX10_digest_114 ?_
                                            refine go_icmp_gt (pc := 115) hF 141 dX10_digest_115 (by decide) ⟨by decide, by decide⟩ ⟨by decide, by decide⟩ (fun bq115 => ?_) (fun bq115 => ?_)
                                            · exact absurd bq115 (by decide)
                                            · refine go_ldc2 (pc := 118) hF kc_X10_236 dX10_digest_118 ?_
                                              refine go_lload_n (pc := 121) hF dX10_digest_121 1 rfl ?_
                                              refine go_lmul (pc := 122) hF dX10_digest_122 ?_
                                              refine go_aload_n (pc := 123) hF dX10_digest_123 3 rfl ?_
                                              refine go_get (pc := 124) hF fl_X10_65 dX10_digest_124 (by omega) z0 rfl ?_
                                              refine go_iload (pc := 127) hF dX10_digest_127 0 rfl ?_
                                              refine go_callVP (pc := 129) hF [vi 0] [vl (31 * ((31 * ((31 * ((31 * ((31 * ((31 * ((31 * ((31 * ((31 * ((31 * ((31 * ((31 * ((31 * ((31 * ((31 * ((31 * ((31 * (61969 + xb)) + xn)) + xf)) + tl)) + u₉)) + kd)) + pr)) + (mLong r₉))) + hs)) + (mAt r₉ 0))) + (mAt r₉ 1))) + (mAt r₉ 2))) + lk₉)) + chs)) + lps)) + dp)) + ln))] mv_X10_206 dX10_digest_129 (by omega) z99 (show CP E M_X9_tell 1 [vr E 92, vi 0] N σ (q1₉) from c_X9_tell E N σ 92 b1 b2 q1₉ q2₉ q3₉ 0 (by omega) (by omega) z99) rfl rfl (Nat.le_of_ble_eq_true rfl) (by decide) ⟨Nat.zero_le _, Nat.zero_le _⟩ ?_
                                              refine go_i2l (pc := 132) hF dX10_digest_132 (by omega) ?_
                                              refine go_ladd (pc := 133) hF dX10_digest_133 ?_
                                              refine go_lstore_n (pc := 134) hF [(1, vl ((31 * ((31 * ((31 * ((31 * ((31 * ((31 * ((31 * ((31 * ((31 * ((31 * ((31 * ((31 * ((31 * ((31 * ((31 * ((31 * ((31 * (61969 + xb)) + xn)) + xf)) + tl)) + u₉)) + kd)) + pr)) + (mLong r₉))) + hs)) + (mAt r₉ 0))) + (mAt r₉ 1))) + (mAt r₉ 2))) + lk₉)) + chs)) + lps)) + dp)) + ln)) + q1₉)), (4, vi 0), (3, vi 3), (0, vr E 0)] dX10_digest_134 rfl (by decide) ?_
                                              refine go_iinc (pc := 135) hF [(4, vi 1), (1, vl ((31 * ((31 * ((31 * ((31 * ((31 * ((31 * ((31 * ((31 * ((31 * ((31 * ((31 * ((31 * ((31 * ((31 * ((31 * ((31 * ((31 * (61969 + xb)) + xn)) + xf)) + tl)) + u₉)) + kd)) + pr)) + (mLong r₉))) + hs)) + (mAt r₉ 0))) + (mAt r₉ 1))) + (mAt r₉ 2))) + lk₉)) + chs)) + lps)) + dp)) + ln)) + q1₉)), (3, vi 3), (0, vr E 0)] dX10_digest_135 1 rfl rfl (by decide) ?_
                                              refine go_goto (pc := 138) hF 112 dX10_digest_138 (by decide) ?_
                                              refine go_iload (pc := 112) hF dX10_digest_112 0 rfl ?_
                                              refine go_iconst (pc := 114) hF dX10_digest_114 ?_
                                              refine go_icmp_gt (pc := 115) hF 141 dX10_digest_115 (by decide) ⟨by decide, by decide⟩ ⟨by decide, by decide⟩ (fun bq115 => ?_) (fun bq115 => ?_)
                                              · exact absurd bq115 (by decide)
                                              · refine go_ldc2 (pc := 118) hF kc_X10_236 dX10_digest_118 ?_
                                                refine go_lload_n (pc := 121) hF dX10_digest_121 1 rfl ?_
                                                refine go_lmul (pc := 122) hF dX10_digest_122 ?_
                                                refine go_aload_n (pc := 123) hF dX10_digest_123 3 rfl ?_
                                                refine go_get (pc := 124) hF fl_X10_65 dX10_digest_124 (by omega) z0 rfl ?_
                                                refine go_iload (pc := 127) hF dX10_digest_127 0 rfl ?_
                                                refine go_callVP (pc := 129) hF [vi 1] [vl (31 * ((31 * ((31 * ((31 * ((31 * ((31 * ((31 * ((31 * ((31 * ((31 * ((31 * ((31 * ((31 * ((31 * ((31 * ((31 * ((31 * ((31 * (61969 + xb)) + xn)) + xf)) + tl)) + u₉)) + kd)) + pr)) + (mLong r₉))) + hs)) + (mAt r₉ 0))) + (mAt r₉ 1))) + (mAt r₉ 2))) + lk₉)) + chs)) + lps)) + dp)) + ln)) + q1₉))] mv_X10_206 dX10_digest_129 (by omega) z99 (show CP E M_X9_tell 1 [vr E 92, vi 1] N σ (q2₉) from c_X9_tell E N σ 92 b1 b2 q1₉ q2₉ q3₉ 1 (by omega) (by omega) z99) rfl rfl (Nat.le_of_ble_eq_true rfl) (by decide) ⟨Nat.zero_le _, Nat.zero_le _⟩ ?_
                                                refine go_i2l (pc := 132) hF dX10_digest_132 (by omega) ?_
                                                refine go_ladd (pc := 133) hF dX10_digest_133 ?_
                                                refine go_lstore_n (pc := 134) hF [(1, vl ((31 * ((31 * ((31 * ((31 * ((31 * ((31 * ((31 * ((31 * ((31 * ((31 * ((31 * ((31 * ((31 * ((31 * ((31 * ((31 * ((31 * ((31 * (61969 + xb)) + xn)) + xf)) + tl)) + u₉)) + kd)) + pr)) + (mLong r₉))) + hs)) + (mAt r₉ 0))) + (mAt r₉ 1))) + (mAt r₉ 2))) + lk₉)) + chs)) + lps)) + dp)) + ln)) + q1₉)) + q2₉)), (4, vi 1), (3, vi 3), (0, vr E 0)] dX10_digest_134 rfl (by decide) ?_
                                                refine go_iinc (pc := 135) hF [(4, vi 2), (1, vl ((31 * ((31 * ((31 * ((31 * ((31 * ((31 * ((31 * ((31 * ((31 * ((31 * ((31 * ((31 * ((31 * ((31 * ((31 * ((31 * ((31 * ((31 * (61969 + xb)) + xn)) + xf)) + tl)) + u₉)) + kd)) + pr)) + (mLong r₉))) + hs)) + (mAt r₉ 0))) + (mAt r₉ 1))) + (mAt r₉ 2))) + lk₉)) + chs)) + lps)) + dp)) + ln)) + q1₉)) + q2₉)), (3, vi 3), (0, vr E 0)] dX10_digest_135 1 rfl rfl (by decide) ?_
                                                refine go_goto (pc := 138) hF 112 dX10_digest_138 (by decide) ?_
                                                refine go_iload (pc := 112) hF dX10_digest_112 0 rfl ?_
                                                refine go_iconst (pc := 114) hF dX10_digest_114 ?_
                                                refine go_icmp_gt (pc := 115) hF 141 dX10_digest_115 (by decide) ⟨by decide, by decide⟩ ⟨by decide, by decide⟩ (fun bq115 => ?_) (fun bq115 => ?_)
                                                · exact absurd bq115 (by decide)
                                                · refine go_ldc2 (pc := 118) hF kc_X10_236 dX10_digest_118 ?_
                                                  refine go_lload_n (pc := 121) hF dX10_digest_121 1 rfl ?_
                                                  refine go_lmul (pc := 122) hF dX10_digest_122 ?_
                                                  refine go_aload_n (pc := 123) hF dX10_digest_123 3 rfl ?_
                                                  refine go_get (pc := 124) hF fl_X10_65 dX10_digest_124 (by omega) z0 rfl ?_
                                                  refine go_iload (pc := 127) hF dX10_digest_127 0 rfl ?_
                                                  refine go_callVP (pc := 129) hF [vi 2] [vl (31 * ((31 * ((31 * ((31 * ((31 * ((31 * ((31 * ((31 * ((31 * ((31 * ((31 * ((31 * ((31 * ((31 * ((31 * ((31 * ((31 * ((31 * ((31 * (61969 + xb)) + xn)) + xf)) + tl)) + u₉)) + kd)) + pr)) + (mLong r₉))) + hs)) + (mAt r₉ 0))) + (mAt r₉ 1))) + (mAt r₉ 2))) + lk₉)) + chs)) + lps)) + dp)) + ln)) + q1₉)) + q2₉))] mv_X10_206 dX10_digest_129 (by omega) z99 (show CP E M_X9_tell 1 [vr E 92, vi 2] N σ (q3₉) from c_X9_tell E N σ 92 b1 b2 q1₉ q2₉ q3₉ 2 (by omega) (by omega) z99) rfl rfl (Nat.le_of_ble_eq_true rfl) (by decide) ⟨Nat.zero_le _, Nat.zero_le _⟩ ?_
                                                  refine go_i2l (pc := 132) hF dX10_digest_132 (by omega) ?_
                                                  refine go_ladd (pc := 133) hF dX10_digest_133 ?_
                                                  refine go_lstore_n (pc := 134) hF [(1, vl ((31 * ((31 * ((31 * ((31 * ((31 * ((31 * ((31 * ((31 * ((31 * ((31 * ((31 * ((31 * ((31 * ((31 * ((31 * ((31 * ((31 * ((31 * ((31 * (61969 + xb)) + xn)) + xf)) + tl)) + u₉)) + kd)) + pr)) + (mLong r₉))) + hs)) + (mAt r₉ 0))) + (mAt r₉ 1))) + (mAt r₉ 2))) + lk₉)) + chs)) + lps)) + dp)) + ln)) + q1₉)) + q2₉)) + q3₉)), (4, vi 2), (3, vi 3), (0, vr E 0)] dX10_digest_134 rfl (by decide) ?_
                                                  refine go_iinc (pc := 135) hF [(4, vi 3), (1, vl ((31 * ((31 * ((31 * ((31 * ((31 * ((31 * ((31 * ((31 * ((31 * ((31 * ((31 * ((31 * ((31 * ((31 * ((31 * ((31 * ((31 * ((31 * ((31 * (61969 + xb)) + xn)) + xf)) + tl)) + u₉)) + kd)) + pr)) + (mLong r₉))) + hs)) + (mAt r₉ 0))) + (mAt r₉ 1))) + (mAt r₉ 2))) + lk₉)) + chs)) + lps)) + dp)) + ln)) + q1₉)) + q2₉)) + q3₉)), (3, vi 3), (0, vr E 0)] dX10_digest_135 1 rfl rfl (by decide) ?_
                                                  refine go_goto (pc := 138) hF 112 dX10_digest_138 (by decide) ?_
                                                  refine go_iload (pc := 112) hF dX10_digest_112 0 rfl ?_
                                                  refine go_iconst (pc := 114) hF dX10_digest_114 ?_
                                                  refine go_icmp_gt (pc := 115) hF 141 dX10_digest_115 (by decide) ⟨by decide, by decide⟩ ⟨by decide, by decide⟩ (fun bq115 => ?_) (fun bq115 => ?_)
                                                  · refine go_lload_n (pc := 141) hF dX10_digest_141 1 rfl ?_
                                                    refine go_lretQ hF hr hlk hQ dX10_digest_142 ⟨?_, hS0, fun _ _ => rfl⟩
                                                    unfold dgS dgL
                                                    rw [if_neg (by omega), if_neg (by omega), if_neg (by omega)]
                                                    rw [htk9, ← hch9, ← hlp9, ← hdp9, ← hln9]
                                                    rfl
                                                  · exact absurd bq115 (by decide)
                                          · exact absurd bq83 (by decide)
                              · exact absurd bq48 (by decide)
                    · exact absurd bq9 (by decide)
