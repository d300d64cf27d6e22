/-! The reference's state₉, and the simple calls. -/
def mSc (E : En) (σ : Nat → va_E) : Prop := (∃ g₉, σ 102 = ai E 80 g₉) ∧ (∃ g₉, σ 103 = ai E 4 g₉) ∧ (∃ g₉, σ 104 = az E 4 g₉) ∧ (∃ g₉, σ 105 = ai E 12 g₉) ∧ (∃ g₉, σ 106 = ai E 48 g₉) ∧ (∃ g₉, σ 107 = ai E 48 g₉) ∧ (∃ g₉, σ 108 = ai E 80 g₉) ∧ (∃ g₉, σ 109 = ai E 80 g₉) ∧ (∃ g₉, σ 110 = ai E 4 g₉) ∧ (∃ g₉, σ 111 = ai E 4 g₉) ∧ (∃ g₉, σ 112 = ai E 686 g₉) ∧ (∃ g₉, σ 113 = ai E 686 g₉) ∧ (∃ g₉, σ 114 = ai E 2058 g₉) ∧ (∃ g₉, σ 115 = ai E 2058 g₉) ∧ (∃ g₉, σ 116 = ai E 3 g₉) ∧ (∃ g₉, σ 117 = al E 4 g₉) ∧ (∃ g₉, σ 118 = al E 4 g₉)
def mdS (E : En) (σ : Nat → va_E) (r₉ u₉ kd pr : Int) (yr yw yk yp : Int → Int) (hs : Int) (tx : Int → Int) (tl : Int) (t₉ : Tr) (xb xn xf q1₉ q2₉ q3₉ : Int) : Prop := ∃ (nw pa rf sn eo bo rr : Int → Int) (rz hi₉ mi ak rt cn : Int), σ 94 = mOb E hs (tLen t₉ : Int) tl rz hi₉ mi ak rt cn ∧ σ 95 = ai E 7 nw ∧ σ 96 = ai E 56 pa ∧ σ 97 = ai E 3 rf ∧ σ 98 = ai E 80 sn ∧ σ 99 = ai E 80 eo ∧ σ 100 = ai E 80 bo ∧ σ 101 = ai E 80 tx ∧ σ 119 = ai E 3 rr ∧ mSc E σ ∧ nwOK nw r₉ u₉ kd pr ∧ paOK pa yr yw yk yp hs ∧ (rf 0 = xb ∧ rf 1 = xn ∧ rf 2 = xf) ∧ (rr 0 = q1₉ ∧ rr 1 = q2₉ ∧ rr 2 = q3₉) ∧ MA₉ sn eo bo t₉ 0
theorem mSc.keep {E : En} {σ τ : Nat → va_E} (h : mSc E σ) (hk : ∀ j₉, 102 ≤ j₉ → j₉ ≤ 118 → τ j₉ = σ j₉) : mSc E τ := by
  obtain ⟨⟨g109, z109⟩, ⟨g110, z110⟩, ⟨g111, z111⟩, ⟨g112, z112⟩, ⟨g113, z113⟩, ⟨g114, z114⟩, ⟨g115, z115⟩, ⟨g116, z116⟩, ⟨g117, z117⟩, ⟨g118, z118⟩, ⟨g119, z119⟩, ⟨g120, z120⟩, ⟨g121, z121⟩, ⟨g122, z122⟩, ⟨g123, z123⟩, ⟨g124, z124⟩, ⟨g125, z125⟩⟩ := h
  exact ⟨⟨g109, (hk 102 (by omega) (by omega)).trans z109⟩, ⟨g110, (hk 103 (by omega) (by omega)).trans z110⟩, ⟨g111, (hk 104 (by omega) (by omega)).trans z111⟩, ⟨g112, (hk 105 (by omega) (by omega)).trans z112⟩, ⟨g113, (hk 106 (by omega) (by omega)).trans z113⟩, ⟨g114, (hk 107 (by omega) (by omega)).trans z114⟩, ⟨g115, (hk 108 (by omega) (by omega)).trans z115⟩, ⟨g116, (hk 109 (by omega) (by omega)).trans z116⟩, ⟨g117, (hk 110 (by omega) (by omega)).trans z117⟩, ⟨g118, (hk 111 (by omega) (by omega)).trans z118⟩, ⟨g119, (hk 112 (by omega) (by omega)).trans z119⟩, ⟨g120, (hk 113 (by omega) (by omega)).trans z120⟩, ⟨g121, (hk 114 (by omega) (by omega)).trans z121⟩, ⟨g122, (hk 115 (by omega) (by omega)).trans z122⟩, ⟨g123, (hk 116 (by omega) (by omega)).trans z123⟩, ⟨g124, (hk 117 (by omega) (by omega)).trans z124⟩, ⟨g125, (hk 118 (by omega) (by omega)).trans z125⟩⟩
theorem mdS.keep {E : En} {σ τ : Nat → va_E} {r₉ u₉ kd pr : Int} {yr yw yk yp : Int → Int} {hs : Int} {tx : Int → Int} {tl : Int} {t₉ : Tr} {xb xn xf q1₉ q2₉ q3₉ : Int} (h : mdS E σ r₉ u₉ kd pr yr yw yk yp hs tx tl t₉ xb xn xf q1₉ q2₉ q3₉) (hk : ∀ j₉, 94 ≤ j₉ → j₉ ≤ 119 → τ j₉ = σ j₉) : mdS E τ r₉ u₉ kd pr yr yw yk yp hs tx tl t₉ xb xn xf q1₉ q2₉ q3₉ := by
  obtain ⟨nw, pa, rf, sn, eo, bo, rr, rz, hi₉, mi, ak, rt, cn, z1, z2, z3, z4, z5, z6, z7, z8, z9, hsc, h1, h2, h3, h4, h5⟩ := h
  exact ⟨nw, pa, rf, sn, eo, bo, rr, rz, hi₉, mi, ak, rt, cn, (hk _ (by omega) (by omega)).trans z1, (hk _ (by omega) (by omega)).trans z2, (hk _ (by omega) (by omega)).trans z3, (hk _ (by omega) (by omega)).trans z4, (hk _ (by omega) (by omega)).trans z5, (hk _ (by omega) (by omega)).trans z6, (hk _ (by omega) (by omega)).trans z7, (hk _ (by omega) (by omega)).trans z8, (hk _ (by omega) (by omega)).trans z9, hsc.keep (fun j₉ a₉ b₉ => hk j₉ (by omega) (by omega)), h1, h2, h3, h4, h5⟩
theorem nwOK.w4 {nw : Int → Int} {r₉ u₉ kd pr : Int} (h : nwOK nw r₉ u₉ kd pr) (x₉ : Int) : nwOK (up nw 4 x₉) r₉ x₉ kd pr := by
  obtain ⟨a0₉, a1₉, a2, a3, a4, a5, a6⟩ := h
  exact ⟨by rw [up_ne _ _ (by decide)]; exact a0₉, fun q₉ => by rw [up_ne _ _ (by decide)]; exact a1₉ q₉, fun q₉ => by rw [up_ne _ _ (by decide)]; exact a2 q₉, fun q₉ => by rw [up_ne _ _ (by decide)]; exact a3 q₉, up_self _ _ _, by rw [up_ne _ _ (by decide)]; exact a5, by rw [up_ne _ _ (by decide)]; exact a6⟩
theorem nwOK.w5 {nw : Int → Int} {r₉ u₉ kd pr : Int} (h : nwOK nw r₉ u₉ kd pr) (x₉ : Int) : nwOK (up nw 5 x₉) r₉ u₉ x₉ pr := by
  obtain ⟨a0₉, a1₉, a2, a3, a4, a5, a6⟩ := h
  exact ⟨by rw [up_ne _ _ (by decide)]; exact a0₉, fun q₉ => by rw [up_ne _ _ (by decide)]; exact a1₉ q₉, fun q₉ => by rw [up_ne _ _ (by decide)]; exact a2 q₉, fun q₉ => by rw [up_ne _ _ (by decide)]; exact a3 q₉, by rw [up_ne _ _ (by decide)]; exact a4, up_self _ _ _, by rw [up_ne _ _ (by decide)]; exact a6⟩
theorem nwOK.w6 {nw : Int → Int} {r₉ u₉ kd pr : Int} (h : nwOK nw r₉ u₉ kd pr) (x₉ : Int) : nwOK (up nw 6 x₉) r₉ u₉ kd x₉ := by
  obtain ⟨a0₉, a1₉, a2, a3, a4, a5, a6⟩ := h
  exact ⟨by rw [up_ne _ _ (by decide)]; exact a0₉, fun q₉ => by rw [up_ne _ _ (by decide)]; exact a1₉ q₉, fun q₉ => by rw [up_ne _ _ (by decide)]; exact a2 q₉, fun q₉ => by rw [up_ne _ _ (by decide)]; exact a3 q₉, by rw [up_ne _ _ (by decide)]; exact a4, by rw [up_ne _ _ (by decide)]; exact a5, up_self _ _ _⟩
theorem held_eq {nw : Int → Int} {r₉ u₉ kd pr x₉ : Int} (h : nwOK nw r₉ u₉ kd pr) (hr : vrow 3 r₉) (hx : 0 ≤ x₉) : (x₉ < mLong r₉ → nw (1 + x₉) = if x₉ = 0 then mAt r₉ 0 else if x₉ = 1 then mAt r₉ 1 else if x₉ = 2 then mAt r₉ 2 else -1) ∧ (mLong r₉ ≤ x₉ → (-1 : Int) = if x₉ = 0 then mAt r₉ 0 else if x₉ = 1 then mAt r₉ 1 else if x₉ = 2 then mAt r₉ 2 else -1) := by
  obtain ⟨a0₉, a1₉, a2, a3, -⟩ := h
  have rb := row_back hr
  have gl := mLong_rg r₉
  obtain e | e | e | e : x₉ = 0 ∨ x₉ = 1 ∨ x₉ = 2 ∨ 3 ≤ x₉ := by omega
  · subst e
    rw [if_pos rfl]
    exact ⟨fun q₉ => a1₉ q₉, fun q₉ => (rb.2.1 q₉).symm⟩
  · subst e
    rw [if_neg (by decide), if_pos rfl]
    exact ⟨fun q₉ => a2 q₉, fun q₉ => (rb.2.2.1 q₉).symm⟩
  · subst e
    rw [if_neg (by decide), if_neg (by decide), if_pos rfl]
    exact ⟨fun q₉ => a3 q₉, fun q₉ => (rb.2.2.2 q₉).symm⟩
  · rw [if_neg (by omega), if_neg (by omega), if_neg (by omega)]
    exact ⟨fun q₉ => absurd q₉ (by omega), fun _ => rfl⟩
theorem mCut_rg {r₉ w₉ : Int} (h : 0 ≤ r₉ ∧ r₉ < 343) : 0 ≤ mCut r₉ w₉ ∧ mCut r₉ w₉ < 343 := by
  unfold mCut
  split
  · omega
  · split <;> omega

set_option maxHeartbeats 4000000 in
set_option maxRecDepth 100000 in
theorem c_X11_ways_bad (E : En) (N : Nat) (σ : Nat → va_E) (r₉ u₉ kd pr : Int) (yr yw yk yp : Int → Int) (hs : Int) (tx : Int → Int) (tl : Int) (t₉ : Tr) (xb xn xf q1₉ q2₉ q3₉ : Int) (hN₉ : 120 ≤ N) (hO : okS r₉ u₉ kd pr yr yw yk yp hs tx tl t₉ xb xn xf q1₉ q2₉ q3₉) (hS₉ : mdS E σ r₉ u₉ kd pr yr yw yk yp hs tx tl t₉ xb xn xf q1₉ q2₉ q3₉) (x₉ : Int) (hx : rg x₉) (hno : ¬ (1 ≤ x₉ ∧ x₉ ≤ 3)) : CI E M_X11_ways 16 [vr E 94, vi x₉] N σ (fun y₉ σ' => y₉ = (-2) ∧ mdS E σ' r₉ u₉ kd pr yr yw yk yp hs tx tl t₉ (wr₉ (xb + 1)) xn xf q1₉ q2₉ q3₉ ∧ ∀ q₉, q₉ < 94 → σ' q₉ = σ q₉) := by
  refine CT.of2 (own := RX11) (by decide) rfl (Nat.le_of_ble_eq_true rfl) ?_
  intro p e R s m args below meth c Q hF hr hlk hnm hz hR hQ
  obtain ⟨nw, pa, rf, sn, eo, bo, rr, rz, hi₉, mi, ak, rt, cn, z101, z102, z103, z104, z105, z106, z107, z108, z126, ⟨⟨g109, z109⟩, ⟨g110, z110⟩, ⟨g111, z111⟩, ⟨g112, z112⟩, ⟨g113, z113⟩, ⟨g114, z114⟩, ⟨g115, z115⟩, ⟨g116, z116⟩, ⟨g117, z117⟩, ⟨g118, z118⟩, ⟨g119, z119⟩, ⟨g120, z120⟩, ⟨g121, z121⟩, ⟨g122, z122⟩, ⟨g123, z123⟩, ⟨g124, z124⟩, ⟨g125, z125⟩⟩, hnw, hpa, hrf, hrr, hMA⟩ := hS₉
  obtain ⟨⟨hrw, hu, hkd, hpr⟩, hhs, hyy, htl, htx, hxb, hxn, hxf, hq1, hq2, hq3, hwf, hdp3, hl80, hl24⟩ := hO
  have hrw3 := vrow_up hrw (show u₉ ≤ 3 by omega)
  have hrr0 := hrw.1
  obtain ⟨n0₉, n1₉, n2₉, n3₉, n4₉, n5₉, n6₉⟩ := id hnw
  have gl := mLong_rg r₉
  refine go_iload_n (pc := 0) hF dX11_ways_0 1 rfl ?_
  refine go_i2l (pc := 1) hF dX11_ways_1 (by omega) ?_
  refine go_lconst (pc := 2) (v := 1) hF dX11_ways_2 (by decide) ?_
  refine go_ldc2 (pc := 3) hF kc_X11_118 dX11_ways_3 ?_
  refine go_callSP (pc := 6) hF [vl x₉, vl 1, vl 3] [] ms_X11_89 dX11_ways_6 (c_X11_in E N σ x₉ 1 3 (by omega) ⟨by decide, by decide⟩ ⟨by decide, by decide⟩) rfl rfl (Nat.le_of_ble_eq_true rfl) (by decide) ⟨Nat.zero_le _, Nat.zero_le _⟩ ?_
  refine go_if_ne (pc := 9) hF 17 dX11_ways_9 (by decide) (bI_rg _) (fun bq9 => ?_) (fun bq9 => ?_)
  · exact absurd ((bI_0 _).mpr (by omega)) bq9
  · refine go_aload_n (pc := 12) hF dX11_ways_12 0 rfl ?_
    refine go_callVI (pc := 13) hF [] [] mv_X11_120 dX11_ways_13 (by omega) z101 (c_X11_bad E N σ hN₉ z101 z104) rfl rfl (Nat.le_of_ble_eq_true rfl) (by decide) ⟨Nat.zero_le _, Nat.zero_le _⟩ (fun r_s1 s1₉ h_s1 => ?_)
    obtain ⟨e_s1, u_s1, f_s1⟩ := h_s1
    subst e_s1
    have x_s1 := (f_s1 94 (by omega)).trans z101
    have nw_s1 := (f_s1 95 (by omega)).trans z102
    have pa_s1 := (f_s1 96 (by omega)).trans z103
    have sn_s1 := (f_s1 98 (by omega)).trans z105
    have eo_s1 := (f_s1 99 (by omega)).trans z106
    have bo_s1 := (f_s1 100 (by omega)).trans z107
    have tx_s1 := (f_s1 101 (by omega)).trans z108
    have rr_s1 := (f_s1 119 (by omega)).trans z126
    have readSign_s1 := (f_s1 102 (by omega)).trans z109
    have open_s1 := (f_s1 103 (by omega)).trans z110
    have isBarred_s1 := (f_s1 104 (by omega)).trans z111
    have ages_s1 := (f_s1 105 (by omega)).trans z112
    have entered_s1 := (f_s1 106 (by omega)).trans z113
    have first_s1 := (f_s1 107 (by omega)).trans z114
    have mustAt_s1 := (f_s1 108 (by omega)).trans z115
    have mayAt_s1 := (f_s1 109 (by omega)).trans z116
    have sums_s1 := (f_s1 110 (by omega)).trans z117
    have sumsFirst_s1 := (f_s1 111 (by omega)).trans z118
    have took_s1 := (f_s1 112 (by omega)).trans z119
    have next_s1 := (f_s1 113 (by omega)).trans z120
    have inOf_s1 := (f_s1 114 (by omega)).trans z121
    have firstOf_s1 := (f_s1 115 (by omega)).trans z122
    have rounds_s1 := (f_s1 116 (by omega)).trans z123
    have counts_s1 := (f_s1 117 (by omega)).trans z124
    have countsFirst_s1 := (f_s1 118 (by omega)).trans z125
    exact go_iretQ hF hr hlk hQ dX11_ways_16 ⟨rfl, ⟨_, _, _, _, _, _, _, _, _, _, _, _, _, x_s1, nw_s1, pa_s1, u_s1, sn_s1, eo_s1, bo_s1, tx_s1, rr_s1, ⟨⟨_, readSign_s1⟩, ⟨_, open_s1⟩, ⟨_, isBarred_s1⟩, ⟨_, ages_s1⟩, ⟨_, entered_s1⟩, ⟨_, first_s1⟩, ⟨_, mustAt_s1⟩, ⟨_, mayAt_s1⟩, ⟨_, sums_s1⟩, ⟨_, sumsFirst_s1⟩, ⟨_, took_s1⟩, ⟨_, next_s1⟩, ⟨_, inOf_s1⟩, ⟨_, firstOf_s1⟩, ⟨_, rounds_s1⟩, ⟨_, counts_s1⟩, ⟨_, countsFirst_s1⟩⟩, hnw, hpa, ⟨by rw [badF_at, hrf.1], by rw [badF_ne (by decide) (by rw [hrf.2.1]; exact hxn)]; exact hrf.2.1, by rw [badF_ne (by decide) (by rw [hrf.2.2]; exact hxf)]; exact hrf.2.2⟩, hrr, hMA⟩, (fun jj hjj => by rw [f_s1 jj (by omega)])⟩
set_option maxHeartbeats 4000000 in
set_option maxRecDepth 100000 in
theorem c_X11_kind_bad (E : En) (N : Nat) (σ : Nat → va_E) (r₉ u₉ kd pr : Int) (yr yw yk yp : Int → Int) (hs : Int) (tx : Int → Int) (tl : Int) (t₉ : Tr) (xb xn xf q1₉ q2₉ q3₉ : Int) (hN₉ : 120 ≤ N) (hO : okS r₉ u₉ kd pr yr yw yk yp hs tx tl t₉ xb xn xf q1₉ q2₉ q3₉) (hS₉ : mdS E σ r₉ u₉ kd pr yr yw yk yp hs tx tl t₉ xb xn xf q1₉ q2₉ q3₉) (x₉ : Int) (hx : rg x₉) (hno : ¬ (0 ≤ x₉ ∧ x₉ ≤ 3)) : CI E M_X11_kind 16 [vr E 94, vi x₉] N σ (fun y₉ σ' => y₉ = (-2) ∧ mdS E σ' r₉ u₉ kd pr yr yw yk yp hs tx tl t₉ (wr₉ (xb + 1)) xn xf q1₉ q2₉ q3₉ ∧ ∀ q₉, q₉ < 94 → σ' q₉ = σ q₉) := by
  refine CT.of2 (own := RX11) (by decide) rfl (Nat.le_of_ble_eq_true rfl) ?_
  intro p e R s m args below meth c Q hF hr hlk hnm hz hR hQ
  obtain ⟨nw, pa, rf, sn, eo, bo, rr, rz, hi₉, mi, ak, rt, cn, z101, z102, z103, z104, z105, z106, z107, z108, z126, ⟨⟨g109, z109⟩, ⟨g110, z110⟩, ⟨g111, z111⟩, ⟨g112, z112⟩, ⟨g113, z113⟩, ⟨g114, z114⟩, ⟨g115, z115⟩, ⟨g116, z116⟩, ⟨g117, z117⟩, ⟨g118, z118⟩, ⟨g119, z119⟩, ⟨g120, z120⟩, ⟨g121, z121⟩, ⟨g122, z122⟩, ⟨g123, z123⟩, ⟨g124, z124⟩, ⟨g125, z125⟩⟩, hnw, hpa, hrf, hrr, hMA⟩ := hS₉
  obtain ⟨⟨hrw, hu, hkd, hpr⟩, hhs, hyy, htl, htx, hxb, hxn, hxf, hq1, hq2, hq3, hwf, hdp3, hl80, hl24⟩ := hO
  have hrw3 := vrow_up hrw (show u₉ ≤ 3 by omega)
  have hrr0 := hrw.1
  obtain ⟨n0₉, n1₉, n2₉, n3₉, n4₉, n5₉, n6₉⟩ := id hnw
  have gl := mLong_rg r₉
  refine go_iload_n (pc := 0) hF dX11_kind_0 1 rfl ?_
  refine go_i2l (pc := 1) hF dX11_kind_1 (by omega) ?_
  refine go_lconst (pc := 2) (v := 0) hF dX11_kind_2 (by decide) ?_
  refine go_ldc2 (pc := 3) hF kc_X11_118 dX11_kind_3 ?_
  refine go_callSP (pc := 6) hF [vl x₉, vl 0, vl 3] [] ms_X11_89 dX11_kind_6 (c_X11_in E N σ x₉ 0 3 (by omega) ⟨by decide, by decide⟩ ⟨by decide, by decide⟩) rfl rfl (Nat.le_of_ble_eq_true rfl) (by decide) ⟨Nat.zero_le _, Nat.zero_le _⟩ ?_
  refine go_if_ne (pc := 9) hF 17 dX11_kind_9 (by decide) (bI_rg _) (fun bq9 => ?_) (fun bq9 => ?_)
  · exact absurd ((bI_0 _).mpr (by omega)) bq9
  · refine go_aload_n (pc := 12) hF dX11_kind_12 0 rfl ?_
    refine go_callVI (pc := 13) hF [] [] mv_X11_120 dX11_kind_13 (by omega) z101 (c_X11_bad E N σ hN₉ z101 z104) rfl rfl (Nat.le_of_ble_eq_true rfl) (by decide) ⟨Nat.zero_le _, Nat.zero_le _⟩ (fun r_s1 s1₉ h_s1 => ?_)
    obtain ⟨e_s1, u_s1, f_s1⟩ := h_s1
    subst e_s1
    have x_s1 := (f_s1 94 (by omega)).trans z101
    have nw_s1 := (f_s1 95 (by omega)).trans z102
    have pa_s1 := (f_s1 96 (by omega)).trans z103
    have sn_s1 := (f_s1 98 (by omega)).trans z105
    have eo_s1 := (f_s1 99 (by omega)).trans z106
    have bo_s1 := (f_s1 100 (by omega)).trans z107
    have tx_s1 := (f_s1 101 (by omega)).trans z108
    have rr_s1 := (f_s1 119 (by omega)).trans z126
    have readSign_s1 := (f_s1 102 (by omega)).trans z109
    have open_s1 := (f_s1 103 (by omega)).trans z110
    have isBarred_s1 := (f_s1 104 (by omega)).trans z111
    have ages_s1 := (f_s1 105 (by omega)).trans z112
    have entered_s1 := (f_s1 106 (by omega)).trans z113
    have first_s1 := (f_s1 107 (by omega)).trans z114
    have mustAt_s1 := (f_s1 108 (by omega)).trans z115
    have mayAt_s1 := (f_s1 109 (by omega)).trans z116
    have sums_s1 := (f_s1 110 (by omega)).trans z117
    have sumsFirst_s1 := (f_s1 111 (by omega)).trans z118
    have took_s1 := (f_s1 112 (by omega)).trans z119
    have next_s1 := (f_s1 113 (by omega)).trans z120
    have inOf_s1 := (f_s1 114 (by omega)).trans z121
    have firstOf_s1 := (f_s1 115 (by omega)).trans z122
    have rounds_s1 := (f_s1 116 (by omega)).trans z123
    have counts_s1 := (f_s1 117 (by omega)).trans z124
    have countsFirst_s1 := (f_s1 118 (by omega)).trans z125
    exact go_iretQ hF hr hlk hQ dX11_kind_16 ⟨rfl, ⟨_, _, _, _, _, _, _, _, _, _, _, _, _, x_s1, nw_s1, pa_s1, u_s1, sn_s1, eo_s1, bo_s1, tx_s1, rr_s1, ⟨⟨_, readSign_s1⟩, ⟨_, open_s1⟩, ⟨_, isBarred_s1⟩, ⟨_, ages_s1⟩, ⟨_, entered_s1⟩, ⟨_, first_s1⟩, ⟨_, mustAt_s1⟩, ⟨_, mayAt_s1⟩, ⟨_, sums_s1⟩, ⟨_, sumsFirst_s1⟩, ⟨_, took_s1⟩, ⟨_, next_s1⟩, ⟨_, inOf_s1⟩, ⟨_, firstOf_s1⟩, ⟨_, rounds_s1⟩, ⟨_, counts_s1⟩, ⟨_, countsFirst_s1⟩⟩, hnw, hpa, ⟨by rw [badF_at, hrf.1], by rw [badF_ne (by decide) (by rw [hrf.2.1]; exact hxn)]; exact hrf.2.1, by rw [badF_ne (by decide) (by rw [hrf.2.2]; exact hxf)]; exact hrf.2.2⟩, hrr, hMA⟩, (fun jj hjj => by rw [f_s1 jj (by omega)])⟩
set_option maxHeartbeats 4000000 in
set_option maxRecDepth 100000 in
theorem c_X11_price_bad (E : En) (N : Nat) (σ : Nat → va_E) (r₉ u₉ kd pr : Int) (yr yw yk yp : Int → Int) (hs : Int) (tx : Int → Int) (tl : Int) (t₉ : Tr) (xb xn xf q1₉ q2₉ q3₉ : Int) (hN₉ : 120 ≤ N) (hO : okS r₉ u₉ kd pr yr yw yk yp hs tx tl t₉ xb xn xf q1₉ q2₉ q3₉) (hS₉ : mdS E σ r₉ u₉ kd pr yr yw yk yp hs tx tl t₉ xb xn xf q1₉ q2₉ q3₉) (x₉ : Int) (hx : rg x₉) (hno : ¬ (2 ≤ x₉ ∧ x₉ ≤ 99)) : CI E M_X11_price 16 [vr E 94, vi x₉] N σ (fun y₉ σ' => y₉ = (-2) ∧ mdS E σ' r₉ u₉ kd pr yr yw yk yp hs tx tl t₉ (wr₉ (xb + 1)) xn xf q1₉ q2₉ q3₉ ∧ ∀ q₉, q₉ < 94 → σ' q₉ = σ q₉) := by
  refine CT.of2 (own := RX11) (by decide) rfl (Nat.le_of_ble_eq_true rfl) ?_
  intro p e R s m args below meth c Q hF hr hlk hnm hz hR hQ
  obtain ⟨nw, pa, rf, sn, eo, bo, rr, rz, hi₉, mi, ak, rt, cn, z101, z102, z103, z104, z105, z106, z107, z108, z126, ⟨⟨g109, z109⟩, ⟨g110, z110⟩, ⟨g111, z111⟩, ⟨g112, z112⟩, ⟨g113, z113⟩, ⟨g114, z114⟩, ⟨g115, z115⟩, ⟨g116, z116⟩, ⟨g117, z117⟩, ⟨g118, z118⟩, ⟨g119, z119⟩, ⟨g120, z120⟩, ⟨g121, z121⟩, ⟨g122, z122⟩, ⟨g123, z123⟩, ⟨g124, z124⟩, ⟨g125, z125⟩⟩, hnw, hpa, hrf, hrr, hMA⟩ := hS₉
  obtain ⟨⟨hrw, hu, hkd, hpr⟩, hhs, hyy, htl, htx, hxb, hxn, hxf, hq1, hq2, hq3, hwf, hdp3, hl80, hl24⟩ := hO
  have hrw3 := vrow_up hrw (show u₉ ≤ 3 by omega)
  have hrr0 := hrw.1
  obtain ⟨n0₉, n1₉, n2₉, n3₉, n4₉, n5₉, n6₉⟩ := id hnw
  have gl := mLong_rg r₉
  refine go_iload_n (pc := 0) hF dX11_price_0 1 rfl ?_
  refine go_i2l (pc := 1) hF dX11_price_1 (by omega) ?_
  refine go_ldc2 (pc := 2) hF kc_X11_134 dX11_price_2 ?_
  refine go_ldc2 (pc := 5) hF kc_X11_136 dX11_price_5 ?_
  refine go_callSP (pc := 8) hF [vl x₉, vl 2, vl 99] [] ms_X11_89 dX11_price_8 (c_X11_in E N σ x₉ 2 99 (by omega) ⟨by decide, by decide⟩ ⟨by decide, by decide⟩) rfl rfl (Nat.le_of_ble_eq_true rfl) (by decide) ⟨Nat.zero_le _, Nat.zero_le _⟩ ?_
  refine go_if_ne (pc := 11) hF 19 dX11_price_11 (by decide) (bI_rg _) (fun bq11 => ?_) (fun bq11 => ?_)
  · exact absurd ((bI_0 _).mpr (by omega)) bq11
  · refine go_aload_n (pc := 14) hF dX11_price_14 0 rfl ?_
    refine go_callVI (pc := 15) hF [] [] mv_X11_120 dX11_price_15 (by omega) z101 (c_X11_bad E N σ hN₉ z101 z104) rfl rfl (Nat.le_of_ble_eq_true rfl) (by decide) ⟨Nat.zero_le _, Nat.zero_le _⟩ (fun r_s1 s1₉ h_s1 => ?_)
    obtain ⟨e_s1, u_s1, f_s1⟩ := h_s1
    subst e_s1
    have x_s1 := (f_s1 94 (by omega)).trans z101
    have nw_s1 := (f_s1 95 (by omega)).trans z102
    have pa_s1 := (f_s1 96 (by omega)).trans z103
    have sn_s1 := (f_s1 98 (by omega)).trans z105
    have eo_s1 := (f_s1 99 (by omega)).trans z106
    have bo_s1 := (f_s1 100 (by omega)).trans z107
    have tx_s1 := (f_s1 101 (by omega)).trans z108
    have rr_s1 := (f_s1 119 (by omega)).trans z126
    have readSign_s1 := (f_s1 102 (by omega)).trans z109
    have open_s1 := (f_s1 103 (by omega)).trans z110
    have isBarred_s1 := (f_s1 104 (by omega)).trans z111
    have ages_s1 := (f_s1 105 (by omega)).trans z112
    have entered_s1 := (f_s1 106 (by omega)).trans z113
    have first_s1 := (f_s1 107 (by omega)).trans z114
    have mustAt_s1 := (f_s1 108 (by omega)).trans z115
    have mayAt_s1 := (f_s1 109 (by omega)).trans z116
    have sums_s1 := (f_s1 110 (by omega)).trans z117
    have sumsFirst_s1 := (f_s1 111 (by omega)).trans z118
    have took_s1 := (f_s1 112 (by omega)).trans z119
    have next_s1 := (f_s1 113 (by omega)).trans z120
    have inOf_s1 := (f_s1 114 (by omega)).trans z121
    have firstOf_s1 := (f_s1 115 (by omega)).trans z122
    have rounds_s1 := (f_s1 116 (by omega)).trans z123
    have counts_s1 := (f_s1 117 (by omega)).trans z124
    have countsFirst_s1 := (f_s1 118 (by omega)).trans z125
    exact go_iretQ hF hr hlk hQ dX11_price_18 ⟨rfl, ⟨_, _, _, _, _, _, _, _, _, _, _, _, _, x_s1, nw_s1, pa_s1, u_s1, sn_s1, eo_s1, bo_s1, tx_s1, rr_s1, ⟨⟨_, readSign_s1⟩, ⟨_, open_s1⟩, ⟨_, isBarred_s1⟩, ⟨_, ages_s1⟩, ⟨_, entered_s1⟩, ⟨_, first_s1⟩, ⟨_, mustAt_s1⟩, ⟨_, mayAt_s1⟩, ⟨_, sums_s1⟩, ⟨_, sumsFirst_s1⟩, ⟨_, took_s1⟩, ⟨_, next_s1⟩, ⟨_, inOf_s1⟩, ⟨_, firstOf_s1⟩, ⟨_, rounds_s1⟩, ⟨_, counts_s1⟩, ⟨_, countsFirst_s1⟩⟩, hnw, hpa, ⟨by rw [badF_at, hrf.1], by rw [badF_ne (by decide) (by rw [hrf.2.1]; exact hxn)]; exact hrf.2.1, by rw [badF_ne (by decide) (by rw [hrf.2.2]; exact hxf)]; exact hrf.2.2⟩, hrr, hMA⟩, (fun jj hjj => by rw [f_s1 jj (by omega)])⟩
set_option maxHeartbeats 4000000 in
set_option maxRecDepth 100000 in
theorem c_X11_look_bad (E : En) (N : Nat) (σ : Nat → va_E) (r₉ u₉ kd pr : Int) (yr yw yk yp : Int → Int) (hs : Int) (tx : Int → Int) (tl : Int) (t₉ : Tr) (xb xn xf q1₉ q2₉ q3₉ : Int) (hN₉ : 120 ≤ N) (hO : okS r₉ u₉ kd pr yr yw yk yp hs tx tl t₉ xb xn xf q1₉ q2₉ q3₉) (hS₉ : mdS E σ r₉ u₉ kd pr yr yw yk yp hs tx tl t₉ xb xn xf q1₉ q2₉ q3₉) (x₉ : Int) (hx : rg x₉) (hno : ¬ (0 ≤ x₉ ∧ x₉ ≤ 5)) : CI E M_X11_look 16 [vr E 94, vi x₉] N σ (fun y₉ σ' => y₉ = (-2) ∧ mdS E σ' r₉ u₉ kd pr yr yw yk yp hs tx tl t₉ (wr₉ (xb + 1)) xn xf q1₉ q2₉ q3₉ ∧ ∀ q₉, q₉ < 94 → σ' q₉ = σ q₉) := by
  refine CT.of2 (own := RX11) (by decide) rfl (Nat.le_of_ble_eq_true rfl) ?_
  intro p e R s m args below meth c Q hF hr hlk hnm hz hR hQ
  obtain ⟨nw, pa, rf, sn, eo, bo, rr, rz, hi₉, mi, ak, rt, cn, z101, z102, z103, z104, z105, z106, z107, z108, z126, ⟨⟨g109, z109⟩, ⟨g110, z110⟩, ⟨g111, z111⟩, ⟨g112, z112⟩, ⟨g113, z113⟩, ⟨g114, z114⟩, ⟨g115, z115⟩, ⟨g116, z116⟩, ⟨g117, z117⟩, ⟨g118, z118⟩, ⟨g119, z119⟩, ⟨g120, z120⟩, ⟨g121, z121⟩, ⟨g122, z122⟩, ⟨g123, z123⟩, ⟨g124, z124⟩, ⟨g125, z125⟩⟩, hnw, hpa, hrf, hrr, hMA⟩ := hS₉
  obtain ⟨⟨hrw, hu, hkd, hpr⟩, hhs, hyy, htl, htx, hxb, hxn, hxf, hq1, hq2, hq3, hwf, hdp3, hl80, hl24⟩ := hO
  have hrw3 := vrow_up hrw (show u₉ ≤ 3 by omega)
  have hrr0 := hrw.1
  obtain ⟨n0₉, n1₉, n2₉, n3₉, n4₉, n5₉, n6₉⟩ := id hnw
  have gl := mLong_rg r₉
  refine go_iload_n (pc := 0) hF dX11_look_0 1 rfl ?_
  refine go_callSP (pc := 1) hF [vi x₉] [] ms_X11_138 dX11_look_1 (c_X11_isLine E N σ x₉ (by omega)) rfl rfl (Nat.le_of_ble_eq_true rfl) (by decide) ⟨Nat.zero_le _, Nat.zero_le _⟩ ?_
  refine go_if_ne (pc := 4) hF 12 dX11_look_4 (by decide) (bI_rg _) (fun bq4 => ?_) (fun bq4 => ?_)
  · exact absurd ((bI_0 _).mpr (by omega)) bq4
  · refine go_aload_n (pc := 7) hF dX11_look_7 0 rfl ?_
    refine go_callVI (pc := 8) hF [] [] mv_X11_120 dX11_look_8 (by omega) z101 (c_X11_bad E N σ hN₉ z101 z104) rfl rfl (Nat.le_of_ble_eq_true rfl) (by decide) ⟨Nat.zero_le _, Nat.zero_le _⟩ (fun r_s1 s1₉ h_s1 => ?_)
    obtain ⟨e_s1, u_s1, f_s1⟩ := h_s1
    subst e_s1
    have x_s1 := (f_s1 94 (by omega)).trans z101
    have nw_s1 := (f_s1 95 (by omega)).trans z102
    have pa_s1 := (f_s1 96 (by omega)).trans z103
    have sn_s1 := (f_s1 98 (by omega)).trans z105
    have eo_s1 := (f_s1 99 (by omega)).trans z106
    have bo_s1 := (f_s1 100 (by omega)).trans z107
    have tx_s1 := (f_s1 101 (by omega)).trans z108
    have rr_s1 := (f_s1 119 (by omega)).trans z126
    have readSign_s1 := (f_s1 102 (by omega)).trans z109
    have open_s1 := (f_s1 103 (by omega)).trans z110
    have isBarred_s1 := (f_s1 104 (by omega)).trans z111
    have ages_s1 := (f_s1 105 (by omega)).trans z112
    have entered_s1 := (f_s1 106 (by omega)).trans z113
    have first_s1 := (f_s1 107 (by omega)).trans z114
    have mustAt_s1 := (f_s1 108 (by omega)).trans z115
    have mayAt_s1 := (f_s1 109 (by omega)).trans z116
    have sums_s1 := (f_s1 110 (by omega)).trans z117
    have sumsFirst_s1 := (f_s1 111 (by omega)).trans z118
    have took_s1 := (f_s1 112 (by omega)).trans z119
    have next_s1 := (f_s1 113 (by omega)).trans z120
    have inOf_s1 := (f_s1 114 (by omega)).trans z121
    have firstOf_s1 := (f_s1 115 (by omega)).trans z122
    have rounds_s1 := (f_s1 116 (by omega)).trans z123
    have counts_s1 := (f_s1 117 (by omega)).trans z124
    have countsFirst_s1 := (f_s1 118 (by omega)).trans z125
    exact go_iretQ hF hr hlk hQ dX11_look_11 ⟨rfl, ⟨_, _, _, _, _, _, _, _, _, _, _, _, _, x_s1, nw_s1, pa_s1, u_s1, sn_s1, eo_s1, bo_s1, tx_s1, rr_s1, ⟨⟨_, readSign_s1⟩, ⟨_, open_s1⟩, ⟨_, isBarred_s1⟩, ⟨_, ages_s1⟩, ⟨_, entered_s1⟩, ⟨_, first_s1⟩, ⟨_, mustAt_s1⟩, ⟨_, mayAt_s1⟩, ⟨_, sums_s1⟩, ⟨_, sumsFirst_s1⟩, ⟨_, took_s1⟩, ⟨_, next_s1⟩, ⟨_, inOf_s1⟩, ⟨_, firstOf_s1⟩, ⟨_, rounds_s1⟩, ⟨_, counts_s1⟩, ⟨_, countsFirst_s1⟩⟩, hnw, hpa, ⟨by rw [badF_at, hrf.1], by rw [badF_ne (by decide) (by rw [hrf.2.1]; exact hxn)]; exact hrf.2.1, by rw [badF_ne (by decide) (by rw [hrf.2.2]; exact hxf)]; exact hrf.2.2⟩, hrr, hMA⟩, (fun jj hjj => by rw [f_s1 jj (by omega)])⟩
set_option maxHeartbeats 4000000 in
set_option maxRecDepth 100000 in
theorem c_X11_type_bad (E : En) (N : Nat) (σ : Nat → va_E) (r₉ u₉ kd pr : Int) (yr yw yk yp : Int → Int) (hs : Int) (tx : Int → Int) (tl : Int) (t₉ : Tr) (xb xn xf q1₉ q2₉ q3₉ : Int) (hN₉ : 120 ≤ N) (hO : okS r₉ u₉ kd pr yr yw yk yp hs tx tl t₉ xb xn xf q1₉ q2₉ q3₉) (hS₉ : mdS E σ r₉ u₉ kd pr yr yw yk yp hs tx tl t₉ xb xn xf q1₉ q2₉ q3₉) (x₉ : Int) (hx : rg x₉) (hno : ¬ (0 ≤ x₉ ∧ x₉ ≤ 127)) : CI E M_X11_type 16 [vr E 94, vi x₉] N σ (fun y₉ σ' => y₉ = (-2) ∧ mdS E σ' r₉ u₉ kd pr yr yw yk yp hs tx tl t₉ (wr₉ (xb + 1)) xn xf q1₉ q2₉ q3₉ ∧ ∀ q₉, q₉ < 94 → σ' q₉ = σ q₉) := by
  refine CT.of2 (own := RX11) (by decide) rfl (Nat.le_of_ble_eq_true rfl) ?_
  intro p e R s m args below meth c Q hF hr hlk hnm hz hR hQ
  obtain ⟨nw, pa, rf, sn, eo, bo, rr, rz, hi₉, mi, ak, rt, cn, z101, z102, z103, z104, z105, z106, z107, z108, z126, ⟨⟨g109, z109⟩, ⟨g110, z110⟩, ⟨g111, z111⟩, ⟨g112, z112⟩, ⟨g113, z113⟩, ⟨g114, z114⟩, ⟨g115, z115⟩, ⟨g116, z116⟩, ⟨g117, z117⟩, ⟨g118, z118⟩, ⟨g119, z119⟩, ⟨g120, z120⟩, ⟨g121, z121⟩, ⟨g122, z122⟩, ⟨g123, z123⟩, ⟨g124, z124⟩, ⟨g125, z125⟩⟩, hnw, hpa, hrf, hrr, hMA⟩ := hS₉
  obtain ⟨⟨hrw, hu, hkd, hpr⟩, hhs, hyy, htl, htx, hxb, hxn, hxf, hq1, hq2, hq3, hwf, hdp3, hl80, hl24⟩ := hO
  have hrw3 := vrow_up hrw (show u₉ ≤ 3 by omega)
  have hrr0 := hrw.1
  obtain ⟨n0₉, n1₉, n2₉, n3₉, n4₉, n5₉, n6₉⟩ := id hnw
  have gl := mLong_rg r₉
  refine go_iload_n (pc := 0) hF dX11_type_0 1 rfl ?_
  refine go_i2l (pc := 1) hF dX11_type_1 (by omega) ?_
  refine go_lconst (pc := 2) (v := 0) hF dX11_type_2 (by decide) ?_
  refine go_ldc2 (pc := 3) hF kc_X11_149 dX11_type_3 ?_
  refine go_callSP (pc := 6) hF [vl x₉, vl 0, vl 127] [] ms_X11_89 dX11_type_6 (c_X11_in E N σ x₉ 0 127 (by omega) ⟨by decide, by decide⟩ ⟨by decide, by decide⟩) rfl rfl (Nat.le_of_ble_eq_true rfl) (by decide) ⟨Nat.zero_le _, Nat.zero_le _⟩ ?_
  refine go_if_ne (pc := 9) hF 17 dX11_type_9 (by decide) (bI_rg _) (fun bq9 => ?_) (fun bq9 => ?_)
  · exact absurd ((bI_0 _).mpr (by omega)) bq9
  · refine go_aload_n (pc := 12) hF dX11_type_12 0 rfl ?_
    refine go_callVI (pc := 13) hF [] [] mv_X11_120 dX11_type_13 (by omega) z101 (c_X11_bad E N σ hN₉ z101 z104) rfl rfl (Nat.le_of_ble_eq_true rfl) (by decide) ⟨Nat.zero_le _, Nat.zero_le _⟩ (fun r_s1 s1₉ h_s1 => ?_)
    obtain ⟨e_s1, u_s1, f_s1⟩ := h_s1
    subst e_s1
    have x_s1 := (f_s1 94 (by omega)).trans z101
    have nw_s1 := (f_s1 95 (by omega)).trans z102
    have pa_s1 := (f_s1 96 (by omega)).trans z103
    have sn_s1 := (f_s1 98 (by omega)).trans z105
    have eo_s1 := (f_s1 99 (by omega)).trans z106
    have bo_s1 := (f_s1 100 (by omega)).trans z107
    have tx_s1 := (f_s1 101 (by omega)).trans z108
    have rr_s1 := (f_s1 119 (by omega)).trans z126
    have readSign_s1 := (f_s1 102 (by omega)).trans z109
    have open_s1 := (f_s1 103 (by omega)).trans z110
    have isBarred_s1 := (f_s1 104 (by omega)).trans z111
    have ages_s1 := (f_s1 105 (by omega)).trans z112
    have entered_s1 := (f_s1 106 (by omega)).trans z113
    have first_s1 := (f_s1 107 (by omega)).trans z114
    have mustAt_s1 := (f_s1 108 (by omega)).trans z115
    have mayAt_s1 := (f_s1 109 (by omega)).trans z116
    have sums_s1 := (f_s1 110 (by omega)).trans z117
    have sumsFirst_s1 := (f_s1 111 (by omega)).trans z118
    have took_s1 := (f_s1 112 (by omega)).trans z119
    have next_s1 := (f_s1 113 (by omega)).trans z120
    have inOf_s1 := (f_s1 114 (by omega)).trans z121
    have firstOf_s1 := (f_s1 115 (by omega)).trans z122
    have rounds_s1 := (f_s1 116 (by omega)).trans z123
    have counts_s1 := (f_s1 117 (by omega)).trans z124
    have countsFirst_s1 := (f_s1 118 (by omega)).trans z125
    exact go_iretQ hF hr hlk hQ dX11_type_16 ⟨rfl, ⟨_, _, _, _, _, _, _, _, _, _, _, _, _, x_s1, nw_s1, pa_s1, u_s1, sn_s1, eo_s1, bo_s1, tx_s1, rr_s1, ⟨⟨_, readSign_s1⟩, ⟨_, open_s1⟩, ⟨_, isBarred_s1⟩, ⟨_, ages_s1⟩, ⟨_, entered_s1⟩, ⟨_, first_s1⟩, ⟨_, mustAt_s1⟩, ⟨_, mayAt_s1⟩, ⟨_, sums_s1⟩, ⟨_, sumsFirst_s1⟩, ⟨_, took_s1⟩, ⟨_, next_s1⟩, ⟨_, inOf_s1⟩, ⟨_, firstOf_s1⟩, ⟨_, rounds_s1⟩, ⟨_, counts_s1⟩, ⟨_, countsFirst_s1⟩⟩, hnw, hpa, ⟨by rw [badF_at, hrf.1], by rw [badF_ne (by decide) (by rw [hrf.2.1]; exact hxn)]; exact hrf.2.1, by rw [badF_ne (by decide) (by rw [hrf.2.2]; exact hxf)]; exact hrf.2.2⟩, hrr, hMA⟩, (fun jj hjj => by rw [f_s1 jj (by omega)])⟩
set_option maxHeartbeats 4000000 in
set_option maxRecDepth 100000 in
theorem c_X11_ran_bad (E : En) (N : Nat) (σ : Nat → va_E) (r₉ u₉ kd pr : Int) (yr yw yk yp : Int → Int) (hs : Int) (tx : Int → Int) (tl : Int) (t₉ : Tr) (xb xn xf q1₉ q2₉ q3₉ : Int) (hN₉ : 120 ≤ N) (hO : okS r₉ u₉ kd pr yr yw yk yp hs tx tl t₉ xb xn xf q1₉ q2₉ q3₉) (hS₉ : mdS E σ r₉ u₉ kd pr yr yw yk yp hs tx tl t₉ xb xn xf q1₉ q2₉ q3₉) (x₉ : Int) (hx : rg x₉) (hno : ¬ (0 ≤ x₉ ∧ x₉ ≤ 2)) : CI E M_X11_ran 16 [vr E 94, vi x₉] N σ (fun y₉ σ' => y₉ = (-2) ∧ mdS E σ' r₉ u₉ kd pr yr yw yk yp hs tx tl t₉ (wr₉ (xb + 1)) xn xf q1₉ q2₉ q3₉ ∧ ∀ q₉, q₉ < 94 → σ' q₉ = σ q₉) := by
  refine CT.of2 (own := RX11) (by decide) rfl (Nat.le_of_ble_eq_true rfl) ?_
  intro p e R s m args below meth c Q hF hr hlk hnm hz hR hQ
  obtain ⟨nw, pa, rf, sn, eo, bo, rr, rz, hi₉, mi, ak, rt, cn, z101, z102, z103, z104, z105, z106, z107, z108, z126, ⟨⟨g109, z109⟩, ⟨g110, z110⟩, ⟨g111, z111⟩, ⟨g112, z112⟩, ⟨g113, z113⟩, ⟨g114, z114⟩, ⟨g115, z115⟩, ⟨g116, z116⟩, ⟨g117, z117⟩, ⟨g118, z118⟩, ⟨g119, z119⟩, ⟨g120, z120⟩, ⟨g121, z121⟩, ⟨g122, z122⟩, ⟨g123, z123⟩, ⟨g124, z124⟩, ⟨g125, z125⟩⟩, hnw, hpa, hrf, hrr, hMA⟩ := hS₉
  obtain ⟨⟨hrw, hu, hkd, hpr⟩, hhs, hyy, htl, htx, hxb, hxn, hxf, hq1, hq2, hq3, hwf, hdp3, hl80, hl24⟩ := hO
  have hrw3 := vrow_up hrw (show u₉ ≤ 3 by omega)
  have hrr0 := hrw.1
  obtain ⟨n0₉, n1₉, n2₉, n3₉, n4₉, n5₉, n6₉⟩ := id hnw
  have gl := mLong_rg r₉
  refine go_iload_n (pc := 0) hF dX11_ran_0 1 rfl ?_
  refine go_i2l (pc := 1) hF dX11_ran_1 (by omega) ?_
  refine go_lconst (pc := 2) (v := 0) hF dX11_ran_2 (by decide) ?_
  refine go_ldc2 (pc := 3) hF kc_X11_134 dX11_ran_3 ?_
  refine go_callSP (pc := 6) hF [vl x₉, vl 0, vl 2] [] ms_X11_89 dX11_ran_6 (c_X11_in E N σ x₉ 0 2 (by omega) ⟨by decide, by decide⟩ ⟨by decide, by decide⟩) rfl rfl (Nat.le_of_ble_eq_true rfl) (by decide) ⟨Nat.zero_le _, Nat.zero_le _⟩ ?_
  refine go_if_eq (pc := 9) hF 21 dX11_ran_9 (by decide) (bI_rg _) (fun bq9 => ?_) (fun bq9 => ?_)
  · refine go_aload_n (pc := 21) hF dX11_ran_21 0 rfl ?_
    refine go_callVI (pc := 22) hF [] [] mv_X11_120 dX11_ran_22 (by omega) z101 (c_X11_bad E N σ hN₉ z101 z104) rfl rfl (Nat.le_of_ble_eq_true rfl) (by decide) ⟨Nat.zero_le _, Nat.zero_le _⟩ (fun r_s1 s1₉ h_s1 => ?_)
    obtain ⟨e_s1, u_s1, f_s1⟩ := h_s1
    subst e_s1
    have x_s1 := (f_s1 94 (by omega)).trans z101
    have nw_s1 := (f_s1 95 (by omega)).trans z102
    have pa_s1 := (f_s1 96 (by omega)).trans z103
    have sn_s1 := (f_s1 98 (by omega)).trans z105
    have eo_s1 := (f_s1 99 (by omega)).trans z106
    have bo_s1 := (f_s1 100 (by omega)).trans z107
    have tx_s1 := (f_s1 101 (by omega)).trans z108
    have rr_s1 := (f_s1 119 (by omega)).trans z126
    have readSign_s1 := (f_s1 102 (by omega)).trans z109
    have open_s1 := (f_s1 103 (by omega)).trans z110
    have isBarred_s1 := (f_s1 104 (by omega)).trans z111
    have ages_s1 := (f_s1 105 (by omega)).trans z112
    have entered_s1 := (f_s1 106 (by omega)).trans z113
    have first_s1 := (f_s1 107 (by omega)).trans z114
    have mustAt_s1 := (f_s1 108 (by omega)).trans z115
    have mayAt_s1 := (f_s1 109 (by omega)).trans z116
    have sums_s1 := (f_s1 110 (by omega)).trans z117
    have sumsFirst_s1 := (f_s1 111 (by omega)).trans z118
    have took_s1 := (f_s1 112 (by omega)).trans z119
    have next_s1 := (f_s1 113 (by omega)).trans z120
    have inOf_s1 := (f_s1 114 (by omega)).trans z121
    have firstOf_s1 := (f_s1 115 (by omega)).trans z122
    have rounds_s1 := (f_s1 116 (by omega)).trans z123
    have counts_s1 := (f_s1 117 (by omega)).trans z124
    have countsFirst_s1 := (f_s1 118 (by omega)).trans z125
    exact go_iretQ hF hr hlk hQ dX11_ran_25 ⟨rfl, ⟨_, _, _, _, _, _, _, _, _, _, _, _, _, x_s1, nw_s1, pa_s1, u_s1, sn_s1, eo_s1, bo_s1, tx_s1, rr_s1, ⟨⟨_, readSign_s1⟩, ⟨_, open_s1⟩, ⟨_, isBarred_s1⟩, ⟨_, ages_s1⟩, ⟨_, entered_s1⟩, ⟨_, first_s1⟩, ⟨_, mustAt_s1⟩, ⟨_, mayAt_s1⟩, ⟨_, sums_s1⟩, ⟨_, sumsFirst_s1⟩, ⟨_, took_s1⟩, ⟨_, next_s1⟩, ⟨_, inOf_s1⟩, ⟨_, firstOf_s1⟩, ⟨_, rounds_s1⟩, ⟨_, counts_s1⟩, ⟨_, countsFirst_s1⟩⟩, hnw, hpa, ⟨by rw [badF_at, hrf.1], by rw [badF_ne (by decide) (by rw [hrf.2.1]; exact hxn)]; exact hrf.2.1, by rw [badF_ne (by decide) (by rw [hrf.2.2]; exact hxf)]; exact hrf.2.2⟩, hrr, hMA⟩, (fun jj hjj => by rw [f_s1 jj (by omega)])⟩
  · exact absurd ((bI_0 _).mpr (by omega)) bq9
set_option maxHeartbeats 4000000 in
set_option maxRecDepth 100000 in
theorem c_X11_count_bad (E : En) (N : Nat) (σ : Nat → va_E) (r₉ u₉ kd pr : Int) (yr yw yk yp : Int → Int) (hs : Int) (tx : Int → Int) (tl : Int) (t₉ : Tr) (xb xn xf q1₉ q2₉ q3₉ : Int) (hN₉ : 120 ≤ N) (hO : okS r₉ u₉ kd pr yr yw yk yp hs tx tl t₉ xb xn xf q1₉ q2₉ q3₉) (hS₉ : mdS E σ r₉ u₉ kd pr yr yw yk yp hs tx tl t₉ xb xn xf q1₉ q2₉ q3₉) (x₉ : Int) (hx : rg x₉) (hno : ¬ (0 ≤ x₉ ∧ x₉ ≤ 8)) : CI E M_X11_count 16 [vr E 94, vi x₉] N σ (fun y₉ σ' => y₉ = (-2) ∧ mdS E σ' r₉ u₉ kd pr yr yw yk yp hs tx tl t₉ (wr₉ (xb + 1)) xn xf q1₉ q2₉ q3₉ ∧ ∀ q₉, q₉ < 94 → σ' q₉ = σ q₉) := by
  refine CT.of2 (own := RX11) (by decide) rfl (Nat.le_of_ble_eq_true rfl) ?_
  intro p e R s m args below meth c Q hF hr hlk hnm hz hR hQ
  obtain ⟨nw, pa, rf, sn, eo, bo, rr, rz, hi₉, mi, ak, rt, cn, z101, z102, z103, z104, z105, z106, z107, z108, z126, ⟨⟨g109, z109⟩, ⟨g110, z110⟩, ⟨g111, z111⟩, ⟨g112, z112⟩, ⟨g113, z113⟩, ⟨g114, z114⟩, ⟨g115, z115⟩, ⟨g116, z116⟩, ⟨g117, z117⟩, ⟨g118, z118⟩, ⟨g119, z119⟩, ⟨g120, z120⟩, ⟨g121, z121⟩, ⟨g122, z122⟩, ⟨g123, z123⟩, ⟨g124, z124⟩, ⟨g125, z125⟩⟩, hnw, hpa, hrf, hrr, hMA⟩ := hS₉
  obtain ⟨⟨hrw, hu, hkd, hpr⟩, hhs, hyy, htl, htx, hxb, hxn, hxf, hq1, hq2, hq3, hwf, hdp3, hl80, hl24⟩ := hO
  have hrw3 := vrow_up hrw (show u₉ ≤ 3 by omega)
  have hrr0 := hrw.1
  obtain ⟨n0₉, n1₉, n2₉, n3₉, n4₉, n5₉, n6₉⟩ := id hnw
  have gl := mLong_rg r₉
  refine go_iload_n (pc := 0) hF dX11_count_0 1 rfl ?_
  refine go_i2l (pc := 1) hF dX11_count_1 (by omega) ?_
  refine go_lconst (pc := 2) (v := 0) hF dX11_count_2 (by decide) ?_
  refine go_ldc2 (pc := 3) hF kc_X11_315 dX11_count_3 ?_
  refine go_callSP (pc := 6) hF [vl x₉, vl 0, vl 8] [] ms_X11_89 dX11_count_6 (c_X11_in E N σ x₉ 0 8 (by omega) ⟨by decide, by decide⟩ ⟨by decide, by decide⟩) rfl rfl (Nat.le_of_ble_eq_true rfl) (by decide) ⟨Nat.zero_le _, Nat.zero_le _⟩ ?_
  refine go_if_eq (pc := 9) hF 20 dX11_count_9 (by decide) (bI_rg _) (fun bq9 => ?_) (fun bq9 => ?_)
  · refine go_aload_n (pc := 20) hF dX11_count_20 0 rfl ?_
    refine go_callVI (pc := 21) hF [] [] mv_X11_120 dX11_count_21 (by omega) z101 (c_X11_bad E N σ hN₉ z101 z104) rfl rfl (Nat.le_of_ble_eq_true rfl) (by decide) ⟨Nat.zero_le _, Nat.zero_le _⟩ (fun r_s1 s1₉ h_s1 => ?_)
    obtain ⟨e_s1, u_s1, f_s1⟩ := h_s1
    subst e_s1
    have x_s1 := (f_s1 94 (by omega)).trans z101
    have nw_s1 := (f_s1 95 (by omega)).trans z102
    have pa_s1 := (f_s1 96 (by omega)).trans z103
    have sn_s1 := (f_s1 98 (by omega)).trans z105
    have eo_s1 := (f_s1 99 (by omega)).trans z106
    have bo_s1 := (f_s1 100 (by omega)).trans z107
    have tx_s1 := (f_s1 101 (by omega)).trans z108
    have rr_s1 := (f_s1 119 (by omega)).trans z126
    have readSign_s1 := (f_s1 102 (by omega)).trans z109
    have open_s1 := (f_s1 103 (by omega)).trans z110
    have isBarred_s1 := (f_s1 104 (by omega)).trans z111
    have ages_s1 := (f_s1 105 (by omega)).trans z112
    have entered_s1 := (f_s1 106 (by omega)).trans z113
    have first_s1 := (f_s1 107 (by omega)).trans z114
    have mustAt_s1 := (f_s1 108 (by omega)).trans z115
    have mayAt_s1 := (f_s1 109 (by omega)).trans z116
    have sums_s1 := (f_s1 110 (by omega)).trans z117
    have sumsFirst_s1 := (f_s1 111 (by omega)).trans z118
    have took_s1 := (f_s1 112 (by omega)).trans z119
    have next_s1 := (f_s1 113 (by omega)).trans z120
    have inOf_s1 := (f_s1 114 (by omega)).trans z121
    have firstOf_s1 := (f_s1 115 (by omega)).trans z122
    have rounds_s1 := (f_s1 116 (by omega)).trans z123
    have counts_s1 := (f_s1 117 (by omega)).trans z124
    have countsFirst_s1 := (f_s1 118 (by omega)).trans z125
    exact go_iretQ hF hr hlk hQ dX11_count_24 ⟨rfl, ⟨_, _, _, _, _, _, _, _, _, _, _, _, _, x_s1, nw_s1, pa_s1, u_s1, sn_s1, eo_s1, bo_s1, tx_s1, rr_s1, ⟨⟨_, readSign_s1⟩, ⟨_, open_s1⟩, ⟨_, isBarred_s1⟩, ⟨_, ages_s1⟩, ⟨_, entered_s1⟩, ⟨_, first_s1⟩, ⟨_, mustAt_s1⟩, ⟨_, mayAt_s1⟩, ⟨_, sums_s1⟩, ⟨_, sumsFirst_s1⟩, ⟨_, took_s1⟩, ⟨_, next_s1⟩, ⟨_, inOf_s1⟩, ⟨_, firstOf_s1⟩, ⟨_, rounds_s1⟩, ⟨_, counts_s1⟩, ⟨_, countsFirst_s1⟩⟩, hnw, hpa, ⟨by rw [badF_at, hrf.1], by rw [badF_ne (by decide) (by rw [hrf.2.1]; exact hxn)]; exact hrf.2.1, by rw [badF_ne (by decide) (by rw [hrf.2.2]; exact hxf)]; exact hrf.2.2⟩, hrr, hMA⟩, (fun jj hjj => by rw [f_s1 jj (by omega)])⟩
  · exact absurd ((bI_0 _).mpr (by omega)) bq9
set_option maxHeartbeats 4000000 in
set_option maxRecDepth 100000 in
theorem c_X11_ways_ok (E : En) (N : Nat) (σ : Nat → va_E) (r₉ u₉ kd pr : Int) (yr yw yk yp : Int → Int) (hs : Int) (tx : Int → Int) (tl : Int) (t₉ : Tr) (xb xn xf q1₉ q2₉ q3₉ : Int) (hN₉ : 120 ≤ N) (hO : okS r₉ u₉ kd pr yr yw yk yp hs tx tl t₉ xb xn xf q1₉ q2₉ q3₉) (hS₉ : mdS E σ r₉ u₉ kd pr yr yw yk yp hs tx tl t₉ xb xn xf q1₉ q2₉ q3₉) (x₉ : Int) (hx : 1 ≤ x₉ ∧ x₉ ≤ 3) : CI E M_X11_ways 16 [vr E 94, vi x₉] N σ (fun y₉ σ' => y₉ = u₉ ∧ mdS E σ' (mCut r₉ x₉) x₉ kd pr (psh yr r₉) (psh yw u₉) (psh yk kd) (psh yp pr) (min (hs + 1) 8) tx tl t₉ xb xn xf q1₉ q2₉ q3₉ ∧ ∀ q₉, q₉ < 94 → σ' q₉ = σ q₉) := by
  refine CT.of2 (own := RX11) (by decide) rfl (Nat.le_of_ble_eq_true rfl) ?_
  intro p e R s m args below meth c Q hF hr hlk hnm hz hR hQ
  obtain ⟨nw, pa, rf, sn, eo, bo, rr, rz, hi₉, mi, ak, rt, cn, z101, z102, z103, z104, z105, z106, z107, z108, z126, ⟨⟨g109, z109⟩, ⟨g110, z110⟩, ⟨g111, z111⟩, ⟨g112, z112⟩, ⟨g113, z113⟩, ⟨g114, z114⟩, ⟨g115, z115⟩, ⟨g116, z116⟩, ⟨g117, z117⟩, ⟨g118, z118⟩, ⟨g119, z119⟩, ⟨g120, z120⟩, ⟨g121, z121⟩, ⟨g122, z122⟩, ⟨g123, z123⟩, ⟨g124, z124⟩, ⟨g125, z125⟩⟩, hnw, hpa, hrf, hrr, hMA⟩ := hS₉
  obtain ⟨⟨hrw, hu, hkd, hpr⟩, hhs, hyy, htl, htx, hxb, hxn, hxf, hq1, hq2, hq3, hwf, hdp3, hl80, hl24⟩ := hO
  have hrw3 := vrow_up hrw (show u₉ ≤ 3 by omega)
  have hrr0 := hrw.1
  obtain ⟨n0₉, n1₉, n2₉, n3₉, n4₉, n5₉, n6₉⟩ := id hnw
  have gl := mLong_rg r₉
  refine go_iload_n (pc := 0) hF dX11_ways_0 1 rfl ?_
  refine go_i2l (pc := 1) hF dX11_ways_1 (by omega) ?_
  refine go_lconst (pc := 2) (v := 1) hF dX11_ways_2 (by decide) ?_
  refine go_ldc2 (pc := 3) hF kc_X11_118 dX11_ways_3 ?_
  refine go_callSP (pc := 6) hF [vl x₉, vl 1, vl 3] [] ms_X11_89 dX11_ways_6 (c_X11_in E N σ x₉ 1 3 (by omega) ⟨by decide, by decide⟩ ⟨by decide, by decide⟩) rfl rfl (Nat.le_of_ble_eq_true rfl) (by decide) ⟨Nat.zero_le _, Nat.zero_le _⟩ ?_
  refine go_if_ne (pc := 9) hF 17 dX11_ways_9 (by decide) (bI_rg _) (fun bq9 => ?_) (fun bq9 => ?_)
  · refine go_aload_n (pc := 17) hF dX11_ways_17 0 rfl ?_
    refine go_callVV (pc := 18) hF [] [] mv_X11_124 dX11_ways_18 (by omega) z101 (c_X11_keep E N σ hN₉ z101 z102 z103 hhs hnw hpa) rfl rfl (Nat.le_of_ble_eq_true rfl) (by decide) ⟨Nat.zero_le _, Nat.zero_le _⟩ (fun s1₉ h_s1 => ?_)
    obtain ⟨pa_s1, ux_s1, up_s1, hp_s1, f_s1⟩ := h_s1
    have nw_s1 := (f_s1 95 (by omega)).trans z102
    have rf_s1 := (f_s1 97 (by omega)).trans z104
    have sn_s1 := (f_s1 98 (by omega)).trans z105
    have eo_s1 := (f_s1 99 (by omega)).trans z106
    have bo_s1 := (f_s1 100 (by omega)).trans z107
    have tx_s1 := (f_s1 101 (by omega)).trans z108
    have rr_s1 := (f_s1 119 (by omega)).trans z126
    have readSign_s1 := (f_s1 102 (by omega)).trans z109
    have open_s1 := (f_s1 103 (by omega)).trans z110
    have isBarred_s1 := (f_s1 104 (by omega)).trans z111
    have ages_s1 := (f_s1 105 (by omega)).trans z112
    have entered_s1 := (f_s1 106 (by omega)).trans z113
    have first_s1 := (f_s1 107 (by omega)).trans z114
    have mustAt_s1 := (f_s1 108 (by omega)).trans z115
    have mayAt_s1 := (f_s1 109 (by omega)).trans z116
    have sums_s1 := (f_s1 110 (by omega)).trans z117
    have sumsFirst_s1 := (f_s1 111 (by omega)).trans z118
    have took_s1 := (f_s1 112 (by omega)).trans z119
    have next_s1 := (f_s1 113 (by omega)).trans z120
    have inOf_s1 := (f_s1 114 (by omega)).trans z121
    have firstOf_s1 := (f_s1 115 (by omega)).trans z122
    have rounds_s1 := (f_s1 116 (by omega)).trans z123
    have counts_s1 := (f_s1 117 (by omega)).trans z124
    have countsFirst_s1 := (f_s1 118 (by omega)).trans z125
    refine go_aload_n (pc := 21) hF dX11_ways_21 0 rfl ?_
    refine go_get (pc := 22) hF fl_X11_7 dX11_ways_22 (by omega) ux_s1 rfl ?_
    refine go_iconst (pc := 25) hF dX11_ways_25 ?_
    refine go_iald (pc := 26) hF dX11_ways_26 (by omega) nw_s1 (by omega)  ?_
    refine go_istore_n (pc := 27) hF [(2, vi (nw 4)), (0, vr E 94), (1, vi x₉)] dX11_ways_27 rfl (by decide) ?_
    refine go_aload_n (pc := 28) hF dX11_ways_28 1 rfl ?_
    refine go_get (pc := 29) hF fl_X11_7 dX11_ways_29 (by omega) ux_s1 rfl ?_
    refine go_iconst (pc := 32) hF dX11_ways_32 ?_
    refine go_iload_n (pc := 33) hF dX11_ways_33 2 rfl ?_
    refine go_iast (pc := 34) hF dX11_ways_34 (by omega) nw_s1 (by omega) (fun s2₉ u_s2 f_s2 => ?_)
    have x_s2 := (f_s2 94 (by omega)).trans ux_s1
    have pa_s2 := (f_s2 96 (by omega)).trans up_s1
    have rf_s2 := (f_s2 97 (by omega)).trans rf_s1
    have sn_s2 := (f_s2 98 (by omega)).trans sn_s1
    have eo_s2 := (f_s2 99 (by omega)).trans eo_s1
    have bo_s2 := (f_s2 100 (by omega)).trans bo_s1
    have tx_s2 := (f_s2 101 (by omega)).trans tx_s1
    have rr_s2 := (f_s2 119 (by omega)).trans rr_s1
    have readSign_s2 := (f_s2 102 (by omega)).trans readSign_s1
    have open_s2 := (f_s2 103 (by omega)).trans open_s1
    have isBarred_s2 := (f_s2 104 (by omega)).trans isBarred_s1
    have ages_s2 := (f_s2 105 (by omega)).trans ages_s1
    have entered_s2 := (f_s2 106 (by omega)).trans entered_s1
    have first_s2 := (f_s2 107 (by omega)).trans first_s1
    have mustAt_s2 := (f_s2 108 (by omega)).trans mustAt_s1
    have mayAt_s2 := (f_s2 109 (by omega)).trans mayAt_s1
    have sums_s2 := (f_s2 110 (by omega)).trans sums_s1
    have sumsFirst_s2 := (f_s2 111 (by omega)).trans sumsFirst_s1
    have took_s2 := (f_s2 112 (by omega)).trans took_s1
    have next_s2 := (f_s2 113 (by omega)).trans next_s1
    have inOf_s2 := (f_s2 114 (by omega)).trans inOf_s1
    have firstOf_s2 := (f_s2 115 (by omega)).trans firstOf_s1
    have rounds_s2 := (f_s2 116 (by omega)).trans rounds_s1
    have counts_s2 := (f_s2 117 (by omega)).trans counts_s1
    have countsFirst_s2 := (f_s2 118 (by omega)).trans countsFirst_s1
    refine go_aload_n (pc := 35) hF dX11_ways_35 1 rfl ?_
    refine go_aload_n (pc := 36) hF dX11_ways_36 1 rfl ?_
    refine go_callVP (pc := 37) hF [] [vr E 94] mv_X11_127 dX11_ways_37 (by omega) x_s2 (c_X11_rowNow E N s2₉ hN₉ x_s2 u_s2 (hnw.w4 x₉) hrw3) rfl rfl (Nat.le_of_ble_eq_true rfl) (by decide) ⟨Nat.zero_le _, Nat.zero_le _⟩ ?_
    refine go_iload_n (pc := 40) hF dX11_ways_40 2 rfl ?_
    refine go_callSP (pc := 41) hF [vi r₉, vi x₉] [vr E 94] ms_X11_107 dX11_ways_41 (c_X11_cut E N s2₉ r₉ x₉ (by omega) (by omega)) rfl rfl (Nat.le_of_ble_eq_true rfl) (by decide) ⟨Nat.zero_le _, Nat.zero_le _⟩ ?_
    refine go_callVV (pc := 44) hF [vi (mCut r₉ x₉)] [] mv_X11_130 dX11_ways_44 (by omega) x_s2 (c_X11_layRow E N s2₉ hN₉ x_s2 u_s2 (mCut r₉ x₉) (mCut_rg hrr0)) rfl rfl (Nat.le_of_ble_eq_true rfl) (by decide) ⟨Nat.zero_le _, Nat.zero_le _⟩ (fun s3₉ h_s3 => ?_)
    obtain ⟨nw_s3, un_s3, hn_s3, f_s3⟩ := h_s3
    have x_s3 := (f_s3 94 (by omega)).trans x_s2
    have pa_s3 := (f_s3 96 (by omega)).trans pa_s2
    have rf_s3 := (f_s3 97 (by omega)).trans rf_s2
    have sn_s3 := (f_s3 98 (by omega)).trans sn_s2
    have eo_s3 := (f_s3 99 (by omega)).trans eo_s2
    have bo_s3 := (f_s3 100 (by omega)).trans bo_s2
    have tx_s3 := (f_s3 101 (by omega)).trans tx_s2
    have rr_s3 := (f_s3 119 (by omega)).trans rr_s2
    have readSign_s3 := (f_s3 102 (by omega)).trans readSign_s2
    have open_s3 := (f_s3 103 (by omega)).trans open_s2
    have isBarred_s3 := (f_s3 104 (by omega)).trans isBarred_s2
    have ages_s3 := (f_s3 105 (by omega)).trans ages_s2
    have entered_s3 := (f_s3 106 (by omega)).trans entered_s2
    have first_s3 := (f_s3 107 (by omega)).trans first_s2
    have mustAt_s3 := (f_s3 108 (by omega)).trans mustAt_s2
    have mayAt_s3 := (f_s3 109 (by omega)).trans mayAt_s2
    have sums_s3 := (f_s3 110 (by omega)).trans sums_s2
    have sumsFirst_s3 := (f_s3 111 (by omega)).trans sumsFirst_s2
    have took_s3 := (f_s3 112 (by omega)).trans took_s2
    have next_s3 := (f_s3 113 (by omega)).trans next_s2
    have inOf_s3 := (f_s3 114 (by omega)).trans inOf_s2
    have firstOf_s3 := (f_s3 115 (by omega)).trans firstOf_s2
    have rounds_s3 := (f_s3 116 (by omega)).trans rounds_s2
    have counts_s3 := (f_s3 117 (by omega)).trans counts_s2
    have countsFirst_s3 := (f_s3 118 (by omega)).trans countsFirst_s2
    refine go_iload_n (pc := 47) hF dX11_ways_47 0 rfl ?_
    exact go_iretQ hF hr hlk hQ dX11_ways_48 ⟨n4₉, ⟨_, _, _, _, _, _, _, _, _, _, _, _, _, x_s3, un_s3, pa_s3, rf_s3, sn_s3, eo_s3, bo_s3, tx_s3, rr_s3, ⟨⟨_, readSign_s3⟩, ⟨_, open_s3⟩, ⟨_, isBarred_s3⟩, ⟨_, ages_s3⟩, ⟨_, entered_s3⟩, ⟨_, first_s3⟩, ⟨_, mustAt_s3⟩, ⟨_, mayAt_s3⟩, ⟨_, sums_s3⟩, ⟨_, sumsFirst_s3⟩, ⟨_, took_s3⟩, ⟨_, next_s3⟩, ⟨_, inOf_s3⟩, ⟨_, firstOf_s3⟩, ⟨_, rounds_s3⟩, ⟨_, counts_s3⟩, ⟨_, countsFirst_s3⟩⟩, (by have h := hn_s3; rw [up_self, up_ne _ _ (by decide), up_ne _ _ (by decide), n5₉, n6₉] at h; exact h), hp_s1, hrf, hrr, hMA⟩, (fun jj hjj => by rw [f_s3 jj (by omega), f_s2 jj (by omega), f_s1 jj (by omega)])⟩
  · exact absurd ((bI_0 _).mp bq9) (by omega)
set_option maxHeartbeats 4000000 in
set_option maxRecDepth 100000 in
theorem c_X11_kind_ok (E : En) (N : Nat) (σ : Nat → va_E) (r₉ u₉ kd pr : Int) (yr yw yk yp : Int → Int) (hs : Int) (tx : Int → Int) (tl : Int) (t₉ : Tr) (xb xn xf q1₉ q2₉ q3₉ : Int) (hN₉ : 120 ≤ N) (hO : okS r₉ u₉ kd pr yr yw yk yp hs tx tl t₉ xb xn xf q1₉ q2₉ q3₉) (hS₉ : mdS E σ r₉ u₉ kd pr yr yw yk yp hs tx tl t₉ xb xn xf q1₉ q2₉ q3₉) (x₉ : Int) (hx : 0 ≤ x₉ ∧ x₉ ≤ 3) : CI E M_X11_kind 16 [vr E 94, vi x₉] N σ (fun y₉ σ' => y₉ = kd ∧ mdS E σ' r₉ u₉ x₉ pr (psh yr r₉) (psh yw u₉) (psh yk kd) (psh yp pr) (min (hs + 1) 8) tx tl t₉ xb xn xf q1₉ q2₉ q3₉ ∧ ∀ q₉, q₉ < 94 → σ' q₉ = σ q₉) := by
  refine CT.of2 (own := RX11) (by decide) rfl (Nat.le_of_ble_eq_true rfl) ?_
  intro p e R s m args below meth c Q hF hr hlk hnm hz hR hQ
  obtain ⟨nw, pa, rf, sn, eo, bo, rr, rz, hi₉, mi, ak, rt, cn, z101, z102, z103, z104, z105, z106, z107, z108, z126, ⟨⟨g109, z109⟩, ⟨g110, z110⟩, ⟨g111, z111⟩, ⟨g112, z112⟩, ⟨g113, z113⟩, ⟨g114, z114⟩, ⟨g115, z115⟩, ⟨g116, z116⟩, ⟨g117, z117⟩, ⟨g118, z118⟩, ⟨g119, z119⟩, ⟨g120, z120⟩, ⟨g121, z121⟩, ⟨g122, z122⟩, ⟨g123, z123⟩, ⟨g124, z124⟩, ⟨g125, z125⟩⟩, hnw, hpa, hrf, hrr, hMA⟩ := hS₉
  obtain ⟨⟨hrw, hu, hkd, hpr⟩, hhs, hyy, htl, htx, hxb, hxn, hxf, hq1, hq2, hq3, hwf, hdp3, hl80, hl24⟩ := hO
  have hrw3 := vrow_up hrw (show u₉ ≤ 3 by omega)
  have hrr0 := hrw.1
  obtain ⟨n0₉, n1₉, n2₉, n3₉, n4₉, n5₉, n6₉⟩ := id hnw
  have gl := mLong_rg r₉
  refine go_iload_n (pc := 0) hF dX11_kind_0 1 rfl ?_
  refine go_i2l (pc := 1) hF dX11_kind_1 (by omega) ?_
  refine go_lconst (pc := 2) (v := 0) hF dX11_kind_2 (by decide) ?_
  refine go_ldc2 (pc := 3) hF kc_X11_118 dX11_kind_3 ?_
  refine go_callSP (pc := 6) hF [vl x₉, vl 0, vl 3] [] ms_X11_89 dX11_kind_6 (c_X11_in E N σ x₉ 0 3 (by omega) ⟨by decide, by decide⟩ ⟨by decide, by decide⟩) rfl rfl (Nat.le_of_ble_eq_true rfl) (by decide) ⟨Nat.zero_le _, Nat.zero_le _⟩ ?_
  refine go_if_ne (pc := 9) hF 17 dX11_kind_9 (by decide) (bI_rg _) (fun bq9 => ?_) (fun bq9 => ?_)
  · refine go_aload_n (pc := 17) hF dX11_kind_17 0 rfl ?_
    refine go_callVV (pc := 18) hF [] [] mv_X11_124 dX11_kind_18 (by omega) z101 (c_X11_keep E N σ hN₉ z101 z102 z103 hhs hnw hpa) rfl rfl (Nat.le_of_ble_eq_true rfl) (by decide) ⟨Nat.zero_le _, Nat.zero_le _⟩ (fun s1₉ h_s1 => ?_)
    obtain ⟨pa_s1, ux_s1, up_s1, hp_s1, f_s1⟩ := h_s1
    have nw_s1 := (f_s1 95 (by omega)).trans z102
    have rf_s1 := (f_s1 97 (by omega)).trans z104
    have sn_s1 := (f_s1 98 (by omega)).trans z105
    have eo_s1 := (f_s1 99 (by omega)).trans z106
    have bo_s1 := (f_s1 100 (by omega)).trans z107
    have tx_s1 := (f_s1 101 (by omega)).trans z108
    have rr_s1 := (f_s1 119 (by omega)).trans z126
    have readSign_s1 := (f_s1 102 (by omega)).trans z109
    have open_s1 := (f_s1 103 (by omega)).trans z110
    have isBarred_s1 := (f_s1 104 (by omega)).trans z111
    have ages_s1 := (f_s1 105 (by omega)).trans z112
    have entered_s1 := (f_s1 106 (by omega)).trans z113
    have first_s1 := (f_s1 107 (by omega)).trans z114
    have mustAt_s1 := (f_s1 108 (by omega)).trans z115
    have mayAt_s1 := (f_s1 109 (by omega)).trans z116
    have sums_s1 := (f_s1 110 (by omega)).trans z117
    have sumsFirst_s1 := (f_s1 111 (by omega)).trans z118
    have took_s1 := (f_s1 112 (by omega)).trans z119
    have next_s1 := (f_s1 113 (by omega)).trans z120
    have inOf_s1 := (f_s1 114 (by omega)).trans z121
    have firstOf_s1 := (f_s1 115 (by omega)).trans z122
    have rounds_s1 := (f_s1 116 (by omega)).trans z123
    have counts_s1 := (f_s1 117 (by omega)).trans z124
    have countsFirst_s1 := (f_s1 118 (by omega)).trans z125
    refine go_aload_n (pc := 21) hF dX11_kind_21 0 rfl ?_
    refine go_get (pc := 22) hF fl_X11_7 dX11_kind_22 (by omega) ux_s1 rfl ?_
    refine go_iconst (pc := 25) hF dX11_kind_25 ?_
    refine go_iald (pc := 26) hF dX11_kind_26 (by omega) nw_s1 (by omega)  ?_
    refine go_istore_n (pc := 27) hF [(2, vi (nw 5)), (0, vr E 94), (1, vi x₉)] dX11_kind_27 rfl (by decide) ?_
    refine go_aload_n (pc := 28) hF dX11_kind_28 1 rfl ?_
    refine go_get (pc := 29) hF fl_X11_7 dX11_kind_29 (by omega) ux_s1 rfl ?_
    refine go_iconst (pc := 32) hF dX11_kind_32 ?_
    refine go_iload_n (pc := 33) hF dX11_kind_33 2 rfl ?_
    refine go_iast (pc := 34) hF dX11_kind_34 (by omega) nw_s1 (by omega) (fun s2₉ u_s2 f_s2 => ?_)
    have x_s2 := (f_s2 94 (by omega)).trans ux_s1
    have pa_s2 := (f_s2 96 (by omega)).trans up_s1
    have rf_s2 := (f_s2 97 (by omega)).trans rf_s1
    have sn_s2 := (f_s2 98 (by omega)).trans sn_s1
    have eo_s2 := (f_s2 99 (by omega)).trans eo_s1
    have bo_s2 := (f_s2 100 (by omega)).trans bo_s1
    have tx_s2 := (f_s2 101 (by omega)).trans tx_s1
    have rr_s2 := (f_s2 119 (by omega)).trans rr_s1
    have readSign_s2 := (f_s2 102 (by omega)).trans readSign_s1
    have open_s2 := (f_s2 103 (by omega)).trans open_s1
    have isBarred_s2 := (f_s2 104 (by omega)).trans isBarred_s1
    have ages_s2 := (f_s2 105 (by omega)).trans ages_s1
    have entered_s2 := (f_s2 106 (by omega)).trans entered_s1
    have first_s2 := (f_s2 107 (by omega)).trans first_s1
    have mustAt_s2 := (f_s2 108 (by omega)).trans mustAt_s1
    have mayAt_s2 := (f_s2 109 (by omega)).trans mayAt_s1
    have sums_s2 := (f_s2 110 (by omega)).trans sums_s1
    have sumsFirst_s2 := (f_s2 111 (by omega)).trans sumsFirst_s1
    have took_s2 := (f_s2 112 (by omega)).trans took_s1
    have next_s2 := (f_s2 113 (by omega)).trans next_s1
    have inOf_s2 := (f_s2 114 (by omega)).trans inOf_s1
    have firstOf_s2 := (f_s2 115 (by omega)).trans firstOf_s1
    have rounds_s2 := (f_s2 116 (by omega)).trans rounds_s1
    have counts_s2 := (f_s2 117 (by omega)).trans counts_s1
    have countsFirst_s2 := (f_s2 118 (by omega)).trans countsFirst_s1
    refine go_iload_n (pc := 35) hF dX11_kind_35 0 rfl ?_
    exact go_iretQ hF hr hlk hQ dX11_kind_36 ⟨n5₉, ⟨_, _, _, _, _, _, _, _, _, _, _, _, _, x_s2, u_s2, pa_s2, rf_s2, sn_s2, eo_s2, bo_s2, tx_s2, rr_s2, ⟨⟨_, readSign_s2⟩, ⟨_, open_s2⟩, ⟨_, isBarred_s2⟩, ⟨_, ages_s2⟩, ⟨_, entered_s2⟩, ⟨_, first_s2⟩, ⟨_, mustAt_s2⟩, ⟨_, mayAt_s2⟩, ⟨_, sums_s2⟩, ⟨_, sumsFirst_s2⟩, ⟨_, took_s2⟩, ⟨_, next_s2⟩, ⟨_, inOf_s2⟩, ⟨_, firstOf_s2⟩, ⟨_, rounds_s2⟩, ⟨_, counts_s2⟩, ⟨_, countsFirst_s2⟩⟩, (hnw.w5 x₉), hp_s1, hrf, hrr, hMA⟩, (fun jj hjj => by rw [f_s2 jj (by omega), f_s1 jj (by omega)])⟩
  · exact absurd ((bI_0 _).mp bq9) (by omega)
set_option maxHeartbeats 4000000 in
set_option maxRecDepth 100000 in
theorem c_X11_price_ok (E : En) (N : Nat) (σ : Nat → va_E) (r₉ u₉ kd pr : Int) (yr yw yk yp : Int → Int) (hs : Int) (tx : Int → Int) (tl : Int) (t₉ : Tr) (xb xn xf q1₉ q2₉ q3₉ : Int) (hN₉ : 120 ≤ N) (hO : okS r₉ u₉ kd pr yr yw yk yp hs tx tl t₉ xb xn xf q1₉ q2₉ q3₉) (hS₉ : mdS E σ r₉ u₉ kd pr yr yw yk yp hs tx tl t₉ xb xn xf q1₉ q2₉ q3₉) (x₉ : Int) (hx : 2 ≤ x₉ ∧ x₉ ≤ 99) : CI E M_X11_price 16 [vr E 94, vi x₉] N σ (fun y₉ σ' => y₉ = pr ∧ mdS E σ' r₉ u₉ kd x₉ (psh yr r₉) (psh yw u₉) (psh yk kd) (psh yp pr) (min (hs + 1) 8) tx tl t₉ xb xn xf q1₉ q2₉ q3₉ ∧ ∀ q₉, q₉ < 94 → σ' q₉ = σ q₉) := by
  refine CT.of2 (own := RX11) (by decide) rfl (Nat.le_of_ble_eq_true rfl) ?_
  intro p e R s m args below meth c Q hF hr hlk hnm hz hR hQ
  obtain ⟨nw, pa, rf, sn, eo, bo, rr, rz, hi₉, mi, ak, rt, cn, z101, z102, z103, z104, z105, z106, z107, z108, z126, ⟨⟨g109, z109⟩, ⟨g110, z110⟩, ⟨g111, z111⟩, ⟨g112, z112⟩, ⟨g113, z113⟩, ⟨g114, z114⟩, ⟨g115, z115⟩, ⟨g116, z116⟩, ⟨g117, z117⟩, ⟨g118, z118⟩, ⟨g119, z119⟩, ⟨g120, z120⟩, ⟨g121, z121⟩, ⟨g122, z122⟩, ⟨g123, z123⟩, ⟨g124, z124⟩, ⟨g125, z125⟩⟩, hnw, hpa, hrf, hrr, hMA⟩ := hS₉
  obtain ⟨⟨hrw, hu, hkd, hpr⟩, hhs, hyy, htl, htx, hxb, hxn, hxf, hq1, hq2, hq3, hwf, hdp3, hl80, hl24⟩ := hO
  have hrw3 := vrow_up hrw (show u₉ ≤ 3 by omega)
  have hrr0 := hrw.1
  obtain ⟨n0₉, n1₉, n2₉, n3₉, n4₉, n5₉, n6₉⟩ := id hnw
  have gl := mLong_rg r₉
  refine go_iload_n (pc := 0) hF dX11_price_0 1 rfl ?_
  refine go_i2l (pc := 1) hF dX11_price_1 (by omega) ?_
  refine go_ldc2 (pc := 2) hF kc_X11_134 dX11_price_2 ?_
  refine go_ldc2 (pc := 5) hF kc_X11_136 dX11_price_5 ?_
  refine go_callSP (pc := 8) hF [vl x₉, vl 2, vl 99] [] ms_X11_89 dX11_price_8 (c_X11_in E N σ x₉ 2 99 (by omega) ⟨by decide, by decide⟩ ⟨by decide, by decide⟩) rfl rfl (Nat.le_of_ble_eq_true rfl) (by decide) ⟨Nat.zero_le _, Nat.zero_le _⟩ ?_
  refine go_if_ne (pc := 11) hF 19 dX11_price_11 (by decide) (bI_rg _) (fun bq11 => ?_) (fun bq11 => ?_)
  · refine go_aload_n (pc := 19) hF dX11_price_19 0 rfl ?_
    refine go_callVV (pc := 20) hF [] [] mv_X11_124 dX11_price_20 (by omega) z101 (c_X11_keep E N σ hN₉ z101 z102 z103 hhs hnw hpa) rfl rfl (Nat.le_of_ble_eq_true rfl) (by decide) ⟨Nat.zero_le _, Nat.zero_le _⟩ (fun s1₉ h_s1 => ?_)
    obtain ⟨pa_s1, ux_s1, up_s1, hp_s1, f_s1⟩ := h_s1
    have nw_s1 := (f_s1 95 (by omega)).trans z102
    have rf_s1 := (f_s1 97 (by omega)).trans z104
    have sn_s1 := (f_s1 98 (by omega)).trans z105
    have eo_s1 := (f_s1 99 (by omega)).trans z106
    have bo_s1 := (f_s1 100 (by omega)).trans z107
    have tx_s1 := (f_s1 101 (by omega)).trans z108
    have rr_s1 := (f_s1 119 (by omega)).trans z126
    have readSign_s1 := (f_s1 102 (by omega)).trans z109
    have open_s1 := (f_s1 103 (by omega)).trans z110
    have isBarred_s1 := (f_s1 104 (by omega)).trans z111
    have ages_s1 := (f_s1 105 (by omega)).trans z112
    have entered_s1 := (f_s1 106 (by omega)).trans z113
    have first_s1 := (f_s1 107 (by omega)).trans z114
    have mustAt_s1 := (f_s1 108 (by omega)).trans z115
    have mayAt_s1 := (f_s1 109 (by omega)).trans z116
    have sums_s1 := (f_s1 110 (by omega)).trans z117
    have sumsFirst_s1 := (f_s1 111 (by omega)).trans z118
    have took_s1 := (f_s1 112 (by omega)).trans z119
    have next_s1 := (f_s1 113 (by omega)).trans z120
    have inOf_s1 := (f_s1 114 (by omega)).trans z121
    have firstOf_s1 := (f_s1 115 (by omega)).trans z122
    have rounds_s1 := (f_s1 116 (by omega)).trans z123
    have counts_s1 := (f_s1 117 (by omega)).trans z124
    have countsFirst_s1 := (f_s1 118 (by omega)).trans z125
    refine go_aload_n (pc := 23) hF dX11_price_23 0 rfl ?_
    refine go_get (pc := 24) hF fl_X11_7 dX11_price_24 (by omega) ux_s1 rfl ?_
    refine go_bipush (pc := 27) hF dX11_price_27 (by decide) ?_
    refine go_iald (pc := 29) hF dX11_price_29 (by omega) nw_s1 (by omega)  ?_
    refine go_istore_n (pc := 30) hF [(2, vi (nw 6)), (0, vr E 94), (1, vi x₉)] dX11_price_30 rfl (by decide) ?_
    refine go_aload_n (pc := 31) hF dX11_price_31 1 rfl ?_
    refine go_get (pc := 32) hF fl_X11_7 dX11_price_32 (by omega) ux_s1 rfl ?_
    refine go_bipush (pc := 35) hF dX11_price_35 (by decide) ?_
    refine go_iload_n (pc := 37) hF dX11_price_37 2 rfl ?_
    refine go_iast (pc := 38) hF dX11_price_38 (by omega) nw_s1 (by omega) (fun s2₉ u_s2 f_s2 => ?_)
    have x_s2 := (f_s2 94 (by omega)).trans ux_s1
    have pa_s2 := (f_s2 96 (by omega)).trans up_s1
    have rf_s2 := (f_s2 97 (by omega)).trans rf_s1
    have sn_s2 := (f_s2 98 (by omega)).trans sn_s1
    have eo_s2 := (f_s2 99 (by omega)).trans eo_s1
    have bo_s2 := (f_s2 100 (by omega)).trans bo_s1
    have tx_s2 := (f_s2 101 (by omega)).trans tx_s1
    have rr_s2 := (f_s2 119 (by omega)).trans rr_s1
    have readSign_s2 := (f_s2 102 (by omega)).trans readSign_s1
    have open_s2 := (f_s2 103 (by omega)).trans open_s1
    have isBarred_s2 := (f_s2 104 (by omega)).trans isBarred_s1
    have ages_s2 := (f_s2 105 (by omega)).trans ages_s1
    have entered_s2 := (f_s2 106 (by omega)).trans entered_s1
    have first_s2 := (f_s2 107 (by omega)).trans first_s1
    have mustAt_s2 := (f_s2 108 (by omega)).trans mustAt_s1
    have mayAt_s2 := (f_s2 109 (by omega)).trans mayAt_s1
    have sums_s2 := (f_s2 110 (by omega)).trans sums_s1
    have sumsFirst_s2 := (f_s2 111 (by omega)).trans sumsFirst_s1
    have took_s2 := (f_s2 112 (by omega)).trans took_s1
    have next_s2 := (f_s2 113 (by omega)).trans next_s1
    have inOf_s2 := (f_s2 114 (by omega)).trans inOf_s1
    have firstOf_s2 := (f_s2 115 (by omega)).trans firstOf_s1
    have rounds_s2 := (f_s2 116 (by omega)).trans rounds_s1
    have counts_s2 := (f_s2 117 (by omega)).trans counts_s1
    have countsFirst_s2 := (f_s2 118 (by omega)).trans countsFirst_s1
    refine go_iload_n (pc := 39) hF dX11_price_39 0 rfl ?_
    exact go_iretQ hF hr hlk hQ dX11_price_40 ⟨n6₉, ⟨_, _, _, _, _, _, _, _, _, _, _, _, _, x_s2, u_s2, pa_s2, rf_s2, sn_s2, eo_s2, bo_s2, tx_s2, rr_s2, ⟨⟨_, readSign_s2⟩, ⟨_, open_s2⟩, ⟨_, isBarred_s2⟩, ⟨_, ages_s2⟩, ⟨_, entered_s2⟩, ⟨_, first_s2⟩, ⟨_, mustAt_s2⟩, ⟨_, mayAt_s2⟩, ⟨_, sums_s2⟩, ⟨_, sumsFirst_s2⟩, ⟨_, took_s2⟩, ⟨_, next_s2⟩, ⟨_, inOf_s2⟩, ⟨_, firstOf_s2⟩, ⟨_, rounds_s2⟩, ⟨_, counts_s2⟩, ⟨_, countsFirst_s2⟩⟩, (hnw.w6 x₉), hp_s1, hrf, hrr, hMA⟩, (fun jj hjj => by rw [f_s2 jj (by omega), f_s1 jj (by omega)])⟩
  · exact absurd ((bI_0 _).mp bq11) (by omega)
set_option maxHeartbeats 4000000 in
set_option maxRecDepth 100000 in
theorem c_X11_empties (E : En) (N : Nat) (σ : Nat → va_E) (r₉ u₉ kd pr : Int) (yr yw yk yp : Int → Int) (hs : Int) (tx : Int → Int) (tl : Int) (t₉ : Tr) (xb xn xf q1₉ q2₉ q3₉ : Int) (hN₉ : 120 ≤ N) (hO : okS r₉ u₉ kd pr yr yw yk yp hs tx tl t₉ xb xn xf q1₉ q2₉ q3₉) (hS₉ : mdS E σ r₉ u₉ kd pr yr yw yk yp hs tx tl t₉ xb xn xf q1₉ q2₉ q3₉) : CI E M_X11_empties 16 [vr E 94] N σ (fun y₉ σ' => y₉ = mLong r₉ ∧ mdS E σ' 0 u₉ kd pr (psh yr r₉) (psh yw u₉) (psh yk kd) (psh yp pr) (min (hs + 1) 8) tx tl t₉ xb xn xf q1₉ q2₉ q3₉ ∧ ∀ q₉, q₉ < 94 → σ' q₉ = σ q₉) := by
  refine CT.of2 (own := RX11) (by decide) rfl (Nat.le_of_ble_eq_true rfl) ?_
  intro p e R s m args below meth c Q hF hr hlk hnm hz hR hQ
  obtain ⟨nw, pa, rf, sn, eo, bo, rr, rz, hi₉, mi, ak, rt, cn, z101, z102, z103, z104, z105, z106, z107, z108, z126, ⟨⟨g109, z109⟩, ⟨g110, z110⟩, ⟨g111, z111⟩, ⟨g112, z112⟩, ⟨g113, z113⟩, ⟨g114, z114⟩, ⟨g115, z115⟩, ⟨g116, z116⟩, ⟨g117, z117⟩, ⟨g118, z118⟩, ⟨g119, z119⟩, ⟨g120, z120⟩, ⟨g121, z121⟩, ⟨g122, z122⟩, ⟨g123, z123⟩, ⟨g124, z124⟩, ⟨g125, z125⟩⟩, hnw, hpa, hrf, hrr, hMA⟩ := hS₉
  obtain ⟨⟨hrw, hu, hkd, hpr⟩, hhs, hyy, htl, htx, hxb, hxn, hxf, hq1, hq2, hq3, hwf, hdp3, hl80, hl24⟩ := hO
  have hrw3 := vrow_up hrw (show u₉ ≤ 3 by omega)
  have hrr0 := hrw.1
  obtain ⟨n0₉, n1₉, n2₉, n3₉, n4₉, n5₉, n6₉⟩ := id hnw
  have gl := mLong_rg r₉
  refine go_aload_n (pc := 0) hF dX11_empties_0 0 rfl ?_
  refine go_callVV (pc := 1) hF [] [] mv_X11_124 dX11_empties_1 (by omega) z101 (c_X11_keep E N σ hN₉ z101 z102 z103 hhs hnw hpa) rfl rfl (Nat.le_of_ble_eq_true rfl) (by decide) ⟨Nat.zero_le _, Nat.zero_le _⟩ (fun s1₉ h_s1 => ?_)
  obtain ⟨pa_s1, ux_s1, up_s1, hp_s1, f_s1⟩ := h_s1
  have nw_s1 := (f_s1 95 (by omega)).trans z102
  have rf_s1 := (f_s1 97 (by omega)).trans z104
  have sn_s1 := (f_s1 98 (by omega)).trans z105
  have eo_s1 := (f_s1 99 (by omega)).trans z106
  have bo_s1 := (f_s1 100 (by omega)).trans z107
  have tx_s1 := (f_s1 101 (by omega)).trans z108
  have rr_s1 := (f_s1 119 (by omega)).trans z126
  have readSign_s1 := (f_s1 102 (by omega)).trans z109
  have open_s1 := (f_s1 103 (by omega)).trans z110
  have isBarred_s1 := (f_s1 104 (by omega)).trans z111
  have ages_s1 := (f_s1 105 (by omega)).trans z112
  have entered_s1 := (f_s1 106 (by omega)).trans z113
  have first_s1 := (f_s1 107 (by omega)).trans z114
  have mustAt_s1 := (f_s1 108 (by omega)).trans z115
  have mayAt_s1 := (f_s1 109 (by omega)).trans z116
  have sums_s1 := (f_s1 110 (by omega)).trans z117
  have sumsFirst_s1 := (f_s1 111 (by omega)).trans z118
  have took_s1 := (f_s1 112 (by omega)).trans z119
  have next_s1 := (f_s1 113 (by omega)).trans z120
  have inOf_s1 := (f_s1 114 (by omega)).trans z121
  have firstOf_s1 := (f_s1 115 (by omega)).trans z122
  have rounds_s1 := (f_s1 116 (by omega)).trans z123
  have counts_s1 := (f_s1 117 (by omega)).trans z124
  have countsFirst_s1 := (f_s1 118 (by omega)).trans z125
  refine go_aload_n (pc := 4) hF dX11_empties_4 0 rfl ?_
  refine go_get (pc := 5) hF fl_X11_7 dX11_empties_5 (by omega) ux_s1 rfl ?_
  refine go_iconst (pc := 8) hF dX11_empties_8 ?_
  refine go_iald (pc := 9) hF dX11_empties_9 (by omega) nw_s1 (by omega)  ?_
  refine go_istore_n (pc := 10) hF [(1, vi (nw 0)), (0, vr E 94)] dX11_empties_10 rfl (by decide) ?_
  refine go_aload_n (pc := 11) hF dX11_empties_11 1 rfl ?_
  refine go_iconst (pc := 12) hF dX11_empties_12 ?_
  refine go_callVV (pc := 13) hF [vi 0] [] mv_X11_130 dX11_empties_13 (by omega) ux_s1 (c_X11_layRow E N s1₉ hN₉ ux_s1 nw_s1 0 ⟨by decide, by decide⟩) rfl rfl (Nat.le_of_ble_eq_true rfl) (by decide) ⟨Nat.zero_le _, Nat.zero_le _⟩ (fun s2₉ h_s2 => ?_)
  obtain ⟨nw_s2, un_s2, hn_s2, f_s2⟩ := h_s2
  have x_s2 := (f_s2 94 (by omega)).trans ux_s1
  have pa_s2 := (f_s2 96 (by omega)).trans up_s1
  have rf_s2 := (f_s2 97 (by omega)).trans rf_s1
  have sn_s2 := (f_s2 98 (by omega)).trans sn_s1
  have eo_s2 := (f_s2 99 (by omega)).trans eo_s1
  have bo_s2 := (f_s2 100 (by omega)).trans bo_s1
  have tx_s2 := (f_s2 101 (by omega)).trans tx_s1
  have rr_s2 := (f_s2 119 (by omega)).trans rr_s1
  have readSign_s2 := (f_s2 102 (by omega)).trans readSign_s1
  have open_s2 := (f_s2 103 (by omega)).trans open_s1
  have isBarred_s2 := (f_s2 104 (by omega)).trans isBarred_s1
  have ages_s2 := (f_s2 105 (by omega)).trans ages_s1
  have entered_s2 := (f_s2 106 (by omega)).trans entered_s1
  have first_s2 := (f_s2 107 (by omega)).trans first_s1
  have mustAt_s2 := (f_s2 108 (by omega)).trans mustAt_s1
  have mayAt_s2 := (f_s2 109 (by omega)).trans mayAt_s1
  have sums_s2 := (f_s2 110 (by omega)).trans sums_s1
  have sumsFirst_s2 := (f_s2 111 (by omega)).trans sumsFirst_s1
  have took_s2 := (f_s2 112 (by omega)).trans took_s1
  have next_s2 := (f_s2 113 (by omega)).trans next_s1
  have inOf_s2 := (f_s2 114 (by omega)).trans inOf_s1
  have firstOf_s2 := (f_s2 115 (by omega)).trans firstOf_s1
  have rounds_s2 := (f_s2 116 (by omega)).trans rounds_s1
  have counts_s2 := (f_s2 117 (by omega)).trans counts_s1
  have countsFirst_s2 := (f_s2 118 (by omega)).trans countsFirst_s1
  refine go_iload_n (pc := 16) hF dX11_empties_16 0 rfl ?_
  exact go_iretQ hF hr hlk hQ dX11_empties_17 ⟨n0₉, ⟨_, _, _, _, _, _, _, _, _, _, _, _, _, x_s2, un_s2, pa_s2, rf_s2, sn_s2, eo_s2, bo_s2, tx_s2, rr_s2, ⟨⟨_, readSign_s2⟩, ⟨_, open_s2⟩, ⟨_, isBarred_s2⟩, ⟨_, ages_s2⟩, ⟨_, entered_s2⟩, ⟨_, first_s2⟩, ⟨_, mustAt_s2⟩, ⟨_, mayAt_s2⟩, ⟨_, sums_s2⟩, ⟨_, sumsFirst_s2⟩, ⟨_, took_s2⟩, ⟨_, next_s2⟩, ⟨_, inOf_s2⟩, ⟨_, firstOf_s2⟩, ⟨_, rounds_s2⟩, ⟨_, counts_s2⟩, ⟨_, countsFirst_s2⟩⟩, (by have h := hn_s2; rw [n4₉, n5₉, n6₉] at h; exact h), hp_s1, hrf, hrr, hMA⟩, (fun jj hjj => by rw [f_s2 jj (by omega), f_s1 jj (by omega)])⟩
set_option maxHeartbeats 4000000 in
set_option maxRecDepth 100000 in
theorem c_X11_look_ok (E : En) (N : Nat) (σ : Nat → va_E) (r₉ u₉ kd pr : Int) (yr yw yk yp : Int → Int) (hs : Int) (tx : Int → Int) (tl : Int) (t₉ : Tr) (xb xn xf q1₉ q2₉ q3₉ : Int) (hN₉ : 120 ≤ N) (hO : okS r₉ u₉ kd pr yr yw yk yp hs tx tl t₉ xb xn xf q1₉ q2₉ q3₉) (hS₉ : mdS E σ r₉ u₉ kd pr yr yw yk yp hs tx tl t₉ xb xn xf q1₉ q2₉ q3₉) (x₉ : Int) (hx : 0 ≤ x₉ ∧ x₉ ≤ 5) : CI E M_X11_look 16 [vr E 94, vi x₉] N σ (fun y₉ σ' => y₉ = (if mPlace r₉ x₉ = -1 then pr else 1) ∧ mdS E σ' (mAfter r₉ x₉ u₉ kd) u₉ kd pr (psh yr r₉) (psh yw u₉) (psh yk kd) (psh yp pr) (min (hs + 1) 8) tx tl t₉ xb xn xf q1₉ q2₉ q3₉ ∧ ∀ q₉, q₉ < 94 → σ' q₉ = σ q₉) := by
  refine CT.of2 (own := RX11) (by decide) rfl (Nat.le_of_ble_eq_true rfl) ?_
  intro p e R s m args below meth c Q hF hr hlk hnm hz hR hQ
  obtain ⟨nw, pa, rf, sn, eo, bo, rr, rz, hi₉, mi, ak, rt, cn, z101, z102, z103, z104, z105, z106, z107, z108, z126, ⟨⟨g109, z109⟩, ⟨g110, z110⟩, ⟨g111, z111⟩, ⟨g112, z112⟩, ⟨g113, z113⟩, ⟨g114, z114⟩, ⟨g115, z115⟩, ⟨g116, z116⟩, ⟨g117, z117⟩, ⟨g118, z118⟩, ⟨g119, z119⟩, ⟨g120, z120⟩, ⟨g121, z121⟩, ⟨g122, z122⟩, ⟨g123, z123⟩, ⟨g124, z124⟩, ⟨g125, z125⟩⟩, hnw, hpa, hrf, hrr, hMA⟩ := hS₉
  obtain ⟨⟨hrw, hu, hkd, hpr⟩, hhs, hyy, htl, htx, hxb, hxn, hxf, hq1, hq2, hq3, hwf, hdp3, hl80, hl24⟩ := hO
  have hrw3 := vrow_up hrw (show u₉ ≤ 3 by omega)
  have hrr0 := hrw.1
  obtain ⟨n0₉, n1₉, n2₉, n3₉, n4₉, n5₉, n6₉⟩ := id hnw
  have gl := mLong_rg r₉
  refine go_iload_n (pc := 0) hF dX11_look_0 1 rfl ?_
  refine go_callSP (pc := 1) hF [vi x₉] [] ms_X11_138 dX11_look_1 (c_X11_isLine E N σ x₉ (by omega)) rfl rfl (Nat.le_of_ble_eq_true rfl) (by decide) ⟨Nat.zero_le _, Nat.zero_le _⟩ ?_
  refine go_if_ne (pc := 4) hF 12 dX11_look_4 (by decide) (bI_rg _) (fun bq4 => ?_) (fun bq4 => ?_)
  · refine go_aload_n (pc := 12) hF dX11_look_12 0 rfl ?_
    refine go_callVV (pc := 13) hF [] [] mv_X11_124 dX11_look_13 (by omega) z101 (c_X11_keep E N σ hN₉ z101 z102 z103 hhs hnw hpa) rfl rfl (Nat.le_of_ble_eq_true rfl) (by decide) ⟨Nat.zero_le _, Nat.zero_le _⟩ (fun s1₉ h_s1 => ?_)
    obtain ⟨pa_s1, ux_s1, up_s1, hp_s1, f_s1⟩ := h_s1
    have nw_s1 := (f_s1 95 (by omega)).trans z102
    have rf_s1 := (f_s1 97 (by omega)).trans z104
    have sn_s1 := (f_s1 98 (by omega)).trans z105
    have eo_s1 := (f_s1 99 (by omega)).trans z106
    have bo_s1 := (f_s1 100 (by omega)).trans z107
    have tx_s1 := (f_s1 101 (by omega)).trans z108
    have rr_s1 := (f_s1 119 (by omega)).trans z126
    have readSign_s1 := (f_s1 102 (by omega)).trans z109
    have open_s1 := (f_s1 103 (by omega)).trans z110
    have isBarred_s1 := (f_s1 104 (by omega)).trans z111
    have ages_s1 := (f_s1 105 (by omega)).trans z112
    have entered_s1 := (f_s1 106 (by omega)).trans z113
    have first_s1 := (f_s1 107 (by omega)).trans z114
    have mustAt_s1 := (f_s1 108 (by omega)).trans z115
    have mayAt_s1 := (f_s1 109 (by omega)).trans z116
    have sums_s1 := (f_s1 110 (by omega)).trans z117
    have sumsFirst_s1 := (f_s1 111 (by omega)).trans z118
    have took_s1 := (f_s1 112 (by omega)).trans z119
    have next_s1 := (f_s1 113 (by omega)).trans z120
    have inOf_s1 := (f_s1 114 (by omega)).trans z121
    have firstOf_s1 := (f_s1 115 (by omega)).trans z122
    have rounds_s1 := (f_s1 116 (by omega)).trans z123
    have counts_s1 := (f_s1 117 (by omega)).trans z124
    have countsFirst_s1 := (f_s1 118 (by omega)).trans z125
    refine go_aload_n (pc := 16) hF dX11_look_16 0 rfl ?_
    refine go_callVP (pc := 17) hF [] [] mv_X11_127 dX11_look_17 (by omega) ux_s1 (c_X11_rowNow E N s1₉ hN₉ ux_s1 nw_s1 hnw hrw3) rfl rfl (Nat.le_of_ble_eq_true rfl) (by decide) ⟨Nat.zero_le _, Nat.zero_le _⟩ ?_
    refine go_istore_n (pc := 20) hF [(2, vi r₉), (0, vr E 94), (1, vi x₉)] dX11_look_20 rfl (by decide) ?_
    refine go_aload_n (pc := 21) hF dX11_look_21 1 rfl ?_
    refine go_iload_n (pc := 22) hF dX11_look_22 0 rfl ?_
    refine go_iload_n (pc := 23) hF dX11_look_23 2 rfl ?_
    refine go_aload_n (pc := 24) hF dX11_look_24 1 rfl ?_
    refine go_get (pc := 25) hF fl_X11_7 dX11_look_25 (by omega) ux_s1 rfl ?_
    refine go_iconst (pc := 28) hF dX11_look_28 ?_
    refine go_iald (pc := 29) hF dX11_look_29 (by omega) nw_s1 (by omega)  ?_
    refine go_aload_n (pc := 30) hF dX11_look_30 1 rfl ?_
    refine go_get (pc := 31) hF fl_X11_7 dX11_look_31 (by omega) ux_s1 rfl ?_
    refine go_iconst (pc := 34) hF dX11_look_34 ?_
    refine go_iald (pc := 35) hF dX11_look_35 (by omega) nw_s1 (by omega)  ?_
    refine go_callSP (pc := 36) hF [vi r₉, vi x₉, vi (nw 4), vi (nw 5)] [vr E 94] ms_X11_142 dX11_look_36 (c_X11_after E N s1₉ r₉ x₉ (nw 4) (nw 5) (by omega) (by omega) (by omega) (by omega)) rfl rfl (Nat.le_of_ble_eq_true rfl) (by decide) ⟨Nat.zero_le _, Nat.zero_le _⟩ ?_
    refine go_callVV (pc := 39) hF [vi (mAfter r₉ x₉ (nw 4) (nw 5))] [] mv_X11_130 dX11_look_39 (by omega) ux_s1 (c_X11_layRow E N s1₉ hN₉ ux_s1 nw_s1 (mAfter r₉ x₉ (nw 4) (nw 5)) (by rw [n4₉, n5₉]; exact (row_ok hrw hx hu hkd).2.2.1)) rfl rfl (Nat.le_of_ble_eq_true rfl) (by decide) ⟨Nat.zero_le _, Nat.zero_le _⟩ (fun s2₉ h_s2 => ?_)
    obtain ⟨nw_s2, un_s2, hn_s2, f_s2⟩ := h_s2
    have x_s2 := (f_s2 94 (by omega)).trans ux_s1
    have pa_s2 := (f_s2 96 (by omega)).trans up_s1
    have rf_s2 := (f_s2 97 (by omega)).trans rf_s1
    have sn_s2 := (f_s2 98 (by omega)).trans sn_s1
    have eo_s2 := (f_s2 99 (by omega)).trans eo_s1
    have bo_s2 := (f_s2 100 (by omega)).trans bo_s1
    have tx_s2 := (f_s2 101 (by omega)).trans tx_s1
    have rr_s2 := (f_s2 119 (by omega)).trans rr_s1
    have readSign_s2 := (f_s2 102 (by omega)).trans readSign_s1
    have open_s2 := (f_s2 103 (by omega)).trans open_s1
    have isBarred_s2 := (f_s2 104 (by omega)).trans isBarred_s1
    have ages_s2 := (f_s2 105 (by omega)).trans ages_s1
    have entered_s2 := (f_s2 106 (by omega)).trans entered_s1
    have first_s2 := (f_s2 107 (by omega)).trans first_s1
    have mustAt_s2 := (f_s2 108 (by omega)).trans mustAt_s1
    have mayAt_s2 := (f_s2 109 (by omega)).trans mayAt_s1
    have sums_s2 := (f_s2 110 (by omega)).trans sums_s1
    have sumsFirst_s2 := (f_s2 111 (by omega)).trans sumsFirst_s1
    have took_s2 := (f_s2 112 (by omega)).trans took_s1
    have next_s2 := (f_s2 113 (by omega)).trans next_s1
    have inOf_s2 := (f_s2 114 (by omega)).trans inOf_s1
    have firstOf_s2 := (f_s2 115 (by omega)).trans firstOf_s1
    have rounds_s2 := (f_s2 116 (by omega)).trans rounds_s1
    have counts_s2 := (f_s2 117 (by omega)).trans counts_s1
    have countsFirst_s2 := (f_s2 118 (by omega)).trans countsFirst_s1
    refine go_aload_n (pc := 42) hF dX11_look_42 1 rfl ?_
    refine go_iload_n (pc := 43) hF dX11_look_43 0 rfl ?_
    refine go_iload_n (pc := 44) hF dX11_look_44 2 rfl ?_
    refine go_callVP (pc := 45) hF [vi r₉, vi x₉] [] mv_X11_146 dX11_look_45 (by omega) x_s2 (c_X11_costs E N s2₉ hN₉ x_s2 un_s2 r₉ x₉ (by omega) (by omega)) rfl rfl (Nat.le_of_ble_eq_true rfl) (by decide) ⟨Nat.zero_le _, Nat.zero_le _⟩ ?_
    exact go_iretQ hF hr hlk hQ dX11_look_48 ⟨by rw [hn_s2.2.2.2.2.2.2, n6₉], ⟨_, _, _, _, _, _, _, _, _, _, _, _, _, x_s2, un_s2, pa_s2, rf_s2, sn_s2, eo_s2, bo_s2, tx_s2, rr_s2, ⟨⟨_, readSign_s2⟩, ⟨_, open_s2⟩, ⟨_, isBarred_s2⟩, ⟨_, ages_s2⟩, ⟨_, entered_s2⟩, ⟨_, first_s2⟩, ⟨_, mustAt_s2⟩, ⟨_, mayAt_s2⟩, ⟨_, sums_s2⟩, ⟨_, sumsFirst_s2⟩, ⟨_, took_s2⟩, ⟨_, next_s2⟩, ⟨_, inOf_s2⟩, ⟨_, firstOf_s2⟩, ⟨_, rounds_s2⟩, ⟨_, counts_s2⟩, ⟨_, countsFirst_s2⟩⟩, (by have h := hn_s2; rw [n4₉, n5₉, n6₉] at h; exact h), hp_s1, hrf, hrr, hMA⟩, (fun jj hjj => by rw [f_s2 jj (by omega), f_s1 jj (by omega)])⟩
  · exact absurd ((bI_0 _).mp bq4) (by omega)
set_option maxHeartbeats 4000000 in
set_option maxRecDepth 100000 in
theorem c_X11_held_bad (E : En) (N : Nat) (σ : Nat → va_E) (r₉ u₉ kd pr : Int) (yr yw yk yp : Int → Int) (hs : Int) (tx : Int → Int) (tl : Int) (t₉ : Tr) (xb xn xf q1₉ q2₉ q3₉ : Int) (hN₉ : 120 ≤ N) (hO : okS r₉ u₉ kd pr yr yw yk yp hs tx tl t₉ xb xn xf q1₉ q2₉ q3₉) (hS₉ : mdS E σ r₉ u₉ kd pr yr yw yk yp hs tx tl t₉ xb xn xf q1₉ q2₉ q3₉) (x₉ : Int) (hx : rg x₉) (hno : x₉ < 0) : CI E M_X11_held 16 [vr E 94, vi x₉] N σ (fun y₉ σ' => y₉ = (-2) ∧ mdS E σ' r₉ u₉ kd pr yr yw yk yp hs tx tl t₉ (wr₉ (xb + 1)) xn xf q1₉ q2₉ q3₉ ∧ ∀ q₉, q₉ < 94 → σ' q₉ = σ q₉) := by
  refine CT.of2 (own := RX11) (by decide) rfl (Nat.le_of_ble_eq_true rfl) ?_
  intro p e R s m args below meth c Q hF hr hlk hnm hz hR hQ
  obtain ⟨nw, pa, rf, sn, eo, bo, rr, rz, hi₉, mi, ak, rt, cn, z101, z102, z103, z104, z105, z106, z107, z108, z126, ⟨⟨g109, z109⟩, ⟨g110, z110⟩, ⟨g111, z111⟩, ⟨g112, z112⟩, ⟨g113, z113⟩, ⟨g114, z114⟩, ⟨g115, z115⟩, ⟨g116, z116⟩, ⟨g117, z117⟩, ⟨g118, z118⟩, ⟨g119, z119⟩, ⟨g120, z120⟩, ⟨g121, z121⟩, ⟨g122, z122⟩, ⟨g123, z123⟩, ⟨g124, z124⟩, ⟨g125, z125⟩⟩, hnw, hpa, hrf, hrr, hMA⟩ := hS₉
  obtain ⟨⟨hrw, hu, hkd, hpr⟩, hhs, hyy, htl, htx, hxb, hxn, hxf, hq1, hq2, hq3, hwf, hdp3, hl80, hl24⟩ := hO
  have hrw3 := vrow_up hrw (show u₉ ≤ 3 by omega)
  have hrr0 := hrw.1
  obtain ⟨n0₉, n1₉, n2₉, n3₉, n4₉, n5₉, n6₉⟩ := id hnw
  have gl := mLong_rg r₉
  refine go_iload_n (pc := 0) hF dX11_held_0 1 rfl ?_
  refine go_if_ge (pc := 1) hF 9 dX11_held_1 (by decide) (by omega) (fun bq1 => ?_) (fun bq1 => ?_)
  · exact absurd bq1 (by omega)
  · refine go_aload_n (pc := 4) hF dX11_held_4 0 rfl ?_
    refine go_callVI (pc := 5) hF [] [] mv_X11_120 dX11_held_5 (by omega) z101 (c_X11_bad E N σ hN₉ z101 z104) rfl rfl (Nat.le_of_ble_eq_true rfl) (by decide) ⟨Nat.zero_le _, Nat.zero_le _⟩ (fun r_s1 s1₉ h_s1 => ?_)
    obtain ⟨e_s1, u_s1, f_s1⟩ := h_s1
    subst e_s1
    have x_s1 := (f_s1 94 (by omega)).trans z101
    have nw_s1 := (f_s1 95 (by omega)).trans z102
    have pa_s1 := (f_s1 96 (by omega)).trans z103
    have sn_s1 := (f_s1 98 (by omega)).trans z105
    have eo_s1 := (f_s1 99 (by omega)).trans z106
    have bo_s1 := (f_s1 100 (by omega)).trans z107
    have tx_s1 := (f_s1 101 (by omega)).trans z108
    have rr_s1 := (f_s1 119 (by omega)).trans z126
    have readSign_s1 := (f_s1 102 (by omega)).trans z109
    have open_s1 := (f_s1 103 (by omega)).trans z110
    have isBarred_s1 := (f_s1 104 (by omega)).trans z111
    have ages_s1 := (f_s1 105 (by omega)).trans z112
    have entered_s1 := (f_s1 106 (by omega)).trans z113
    have first_s1 := (f_s1 107 (by omega)).trans z114
    have mustAt_s1 := (f_s1 108 (by omega)).trans z115
    have mayAt_s1 := (f_s1 109 (by omega)).trans z116
    have sums_s1 := (f_s1 110 (by omega)).trans z117
    have sumsFirst_s1 := (f_s1 111 (by omega)).trans z118
    have took_s1 := (f_s1 112 (by omega)).trans z119
    have next_s1 := (f_s1 113 (by omega)).trans z120
    have inOf_s1 := (f_s1 114 (by omega)).trans z121
    have firstOf_s1 := (f_s1 115 (by omega)).trans z122
    have rounds_s1 := (f_s1 116 (by omega)).trans z123
    have counts_s1 := (f_s1 117 (by omega)).trans z124
    have countsFirst_s1 := (f_s1 118 (by omega)).trans z125
    exact go_iretQ hF hr hlk hQ dX11_held_8 ⟨rfl, ⟨_, _, _, _, _, _, _, _, _, _, _, _, _, x_s1, nw_s1, pa_s1, u_s1, sn_s1, eo_s1, bo_s1, tx_s1, rr_s1, ⟨⟨_, readSign_s1⟩, ⟨_, open_s1⟩, ⟨_, isBarred_s1⟩, ⟨_, ages_s1⟩, ⟨_, entered_s1⟩, ⟨_, first_s1⟩, ⟨_, mustAt_s1⟩, ⟨_, mayAt_s1⟩, ⟨_, sums_s1⟩, ⟨_, sumsFirst_s1⟩, ⟨_, took_s1⟩, ⟨_, next_s1⟩, ⟨_, inOf_s1⟩, ⟨_, firstOf_s1⟩, ⟨_, rounds_s1⟩, ⟨_, counts_s1⟩, ⟨_, countsFirst_s1⟩⟩, hnw, hpa, ⟨by rw [badF_at, hrf.1], by rw [badF_ne (by decide) (by rw [hrf.2.1]; exact hxn)]; exact hrf.2.1, by rw [badF_ne (by decide) (by rw [hrf.2.2]; exact hxf)]; exact hrf.2.2⟩, hrr, hMA⟩, (fun jj hjj => by rw [f_s1 jj (by omega)])⟩
set_option maxHeartbeats 4000000 in
set_option maxRecDepth 100000 in
theorem c_X11_held_ok (E : En) (N : Nat) (σ : Nat → va_E) (r₉ u₉ kd pr : Int) (yr yw yk yp : Int → Int) (hs : Int) (tx : Int → Int) (tl : Int) (t₉ : Tr) (xb xn xf q1₉ q2₉ q3₉ : Int) (hN₉ : 120 ≤ N) (hO : okS r₉ u₉ kd pr yr yw yk yp hs tx tl t₉ xb xn xf q1₉ q2₉ q3₉) (hS₉ : mdS E σ r₉ u₉ kd pr yr yw yk yp hs tx tl t₉ xb xn xf q1₉ q2₉ q3₉) (x₉ : Int) (hx : rg x₉) (h0 : 0 ≤ x₉) : CI E M_X11_held 16 [vr E 94, vi x₉] N σ (fun y₉ σ' => y₉ = (if x₉ = 0 then mAt r₉ 0 else if x₉ = 1 then mAt r₉ 1 else if x₉ = 2 then mAt r₉ 2 else -1) ∧ mdS E σ' r₉ u₉ kd pr yr yw yk yp hs tx tl t₉ xb xn xf q1₉ q2₉ q3₉ ∧ ∀ q₉, q₉ < 94 → σ' q₉ = σ q₉) := by
  refine CT.of2 (own := RX11) (by decide) rfl (Nat.le_of_ble_eq_true rfl) ?_
  intro p e R s m args below meth c Q hF hr hlk hnm hz hR hQ
  obtain ⟨nw, pa, rf, sn, eo, bo, rr, rz, hi₉, mi, ak, rt, cn, z101, z102, z103, z104, z105, z106, z107, z108, z126, ⟨⟨g109, z109⟩, ⟨g110, z110⟩, ⟨g111, z111⟩, ⟨g112, z112⟩, ⟨g113, z113⟩, ⟨g114, z114⟩, ⟨g115, z115⟩, ⟨g116, z116⟩, ⟨g117, z117⟩, ⟨g118, z118⟩, ⟨g119, z119⟩, ⟨g120, z120⟩, ⟨g121, z121⟩, ⟨g122, z122⟩, ⟨g123, z123⟩, ⟨g124, z124⟩, ⟨g125, z125⟩⟩, hnw, hpa, hrf, hrr, hMA⟩ := hS₉
  obtain ⟨⟨hrw, hu, hkd, hpr⟩, hhs, hyy, htl, htx, hxb, hxn, hxf, hq1, hq2, hq3, hwf, hdp3, hl80, hl24⟩ := hO
  have hrw3 := vrow_up hrw (show u₉ ≤ 3 by omega)
  have hrr0 := hrw.1
  obtain ⟨n0₉, n1₉, n2₉, n3₉, n4₉, n5₉, n6₉⟩ := id hnw
  have gl := mLong_rg r₉
  refine go_iload_n (pc := 0) hF dX11_held_0 1 rfl ?_
  refine go_if_ge (pc := 1) hF 9 dX11_held_1 (by decide) (by omega) (fun bq1 => ?_) (fun bq1 => ?_)
  · refine go_iload_n (pc := 9) hF dX11_held_9 1 rfl ?_
    refine go_aload_n (pc := 10) hF dX11_held_10 0 rfl ?_
    refine go_get (pc := 11) hF fl_X11_7 dX11_held_11 (by omega) z101 rfl ?_
    refine go_iconst (pc := 14) hF dX11_held_14 ?_
    refine go_iald (pc := 15) hF dX11_held_15 (by omega) z102 (by omega)  ?_
    refine go_icmp_ge (pc := 16) hF 30 dX11_held_16 (by decide) (by omega) (by omega) (fun bq16 => ?_) (fun bq16 => ?_)
    · refine go_iconst (pc := 30) hF dX11_held_30 ?_
      exact go_iretQ hF hr hlk hQ dX11_held_31 ⟨(held_eq hnw hrw3 h0).2 (by omega), ⟨_, _, _, _, _, _, _, _, _, _, _, _, _, z101, z102, z103, z104, z105, z106, z107, z108, z126, ⟨⟨_, z109⟩, ⟨_, z110⟩, ⟨_, z111⟩, ⟨_, z112⟩, ⟨_, z113⟩, ⟨_, z114⟩, ⟨_, z115⟩, ⟨_, z116⟩, ⟨_, z117⟩, ⟨_, z118⟩, ⟨_, z119⟩, ⟨_, z120⟩, ⟨_, z121⟩, ⟨_, z122⟩, ⟨_, z123⟩, ⟨_, z124⟩, ⟨_, z125⟩⟩, hnw, hpa, hrf, hrr, hMA⟩, (fun j₉ hj => rfl)⟩
    · refine go_aload_n (pc := 19) hF dX11_held_19 0 rfl ?_
      refine go_get (pc := 20) hF fl_X11_7 dX11_held_20 (by omega) z101 rfl ?_
      refine go_iconst (pc := 23) hF dX11_held_23 ?_
      refine go_iload_n (pc := 24) hF dX11_held_24 1 rfl ?_
      refine go_iadd (pc := 25) hF dX11_held_25 ?_
      refine go_iald (pc := 26) hF dX11_held_26 (by omega) z102 (by omega)  ?_
      refine go_goto (pc := 27) hF 31 dX11_held_27 (by decide) ?_
      exact go_iretQ hF hr hlk hQ dX11_held_31 ⟨(held_eq hnw hrw3 h0).1 (by omega), ⟨_, _, _, _, _, _, _, _, _, _, _, _, _, z101, z102, z103, z104, z105, z106, z107, z108, z126, ⟨⟨_, z109⟩, ⟨_, z110⟩, ⟨_, z111⟩, ⟨_, z112⟩, ⟨_, z113⟩, ⟨_, z114⟩, ⟨_, z115⟩, ⟨_, z116⟩, ⟨_, z117⟩, ⟨_, z118⟩, ⟨_, z119⟩, ⟨_, z120⟩, ⟨_, z121⟩, ⟨_, z122⟩, ⟨_, z123⟩, ⟨_, z124⟩, ⟨_, z125⟩⟩, hnw, hpa, hrf, hrr, hMA⟩, (fun j₉ hj => rfl)⟩
  · exact absurd bq1 (by omega)
set_option maxHeartbeats 4000000 in
set_option maxRecDepth 100000 in
theorem c_X11_type_full (E : En) (N : Nat) (σ : Nat → va_E) (r₉ u₉ kd pr : Int) (yr yw yk yp : Int → Int) (hs : Int) (tx : Int → Int) (tl : Int) (t₉ : Tr) (xb xn xf q1₉ q2₉ q3₉ : Int) (hN₉ : 120 ≤ N) (hO : okS r₉ u₉ kd pr yr yw yk yp hs tx tl t₉ xb xn xf q1₉ q2₉ q3₉) (hS₉ : mdS E σ r₉ u₉ kd pr yr yw yk yp hs tx tl t₉ xb xn xf q1₉ q2₉ q3₉) (x₉ : Int) (hx : 0 ≤ x₉ ∧ x₉ ≤ 127) (hf : tl = 80) : CI E M_X11_type 16 [vr E 94, vi x₉] N σ (fun y₉ σ' => y₉ = (-4) ∧ mdS E σ' r₉ u₉ kd pr yr yw yk yp hs tx tl t₉ xb xn (wr₉ (xf + 1)) q1₉ q2₉ q3₉ ∧ ∀ q₉, q₉ < 94 → σ' q₉ = σ q₉) := by
  refine CT.of2 (own := RX11) (by decide) rfl (Nat.le_of_ble_eq_true rfl) ?_
  intro p e R s m args below meth c Q hF hr hlk hnm hz hR hQ
  obtain ⟨nw, pa, rf, sn, eo, bo, rr, rz, hi₉, mi, ak, rt, cn, z101, z102, z103, z104, z105, z106, z107, z108, z126, ⟨⟨g109, z109⟩, ⟨g110, z110⟩, ⟨g111, z111⟩, ⟨g112, z112⟩, ⟨g113, z113⟩, ⟨g114, z114⟩, ⟨g115, z115⟩, ⟨g116, z116⟩, ⟨g117, z117⟩, ⟨g118, z118⟩, ⟨g119, z119⟩, ⟨g120, z120⟩, ⟨g121, z121⟩, ⟨g122, z122⟩, ⟨g123, z123⟩, ⟨g124, z124⟩, ⟨g125, z125⟩⟩, hnw, hpa, hrf, hrr, hMA⟩ := hS₉
  obtain ⟨⟨hrw, hu, hkd, hpr⟩, hhs, hyy, htl, htx, hxb, hxn, hxf, hq1, hq2, hq3, hwf, hdp3, hl80, hl24⟩ := hO
  have hrw3 := vrow_up hrw (show u₉ ≤ 3 by omega)
  have hrr0 := hrw.1
  obtain ⟨n0₉, n1₉, n2₉, n3₉, n4₉, n5₉, n6₉⟩ := id hnw
  have gl := mLong_rg r₉
  refine go_iload_n (pc := 0) hF dX11_type_0 1 rfl ?_
  refine go_i2l (pc := 1) hF dX11_type_1 (by omega) ?_
  refine go_lconst (pc := 2) (v := 0) hF dX11_type_2 (by decide) ?_
  refine go_ldc2 (pc := 3) hF kc_X11_149 dX11_type_3 ?_
  refine go_callSP (pc := 6) hF [vl x₉, vl 0, vl 127] [] ms_X11_89 dX11_type_6 (c_X11_in E N σ x₉ 0 127 (by omega) ⟨by decide, by decide⟩ ⟨by decide, by decide⟩) rfl rfl (Nat.le_of_ble_eq_true rfl) (by decide) ⟨Nat.zero_le _, Nat.zero_le _⟩ ?_
  refine go_if_ne (pc := 9) hF 17 dX11_type_9 (by decide) (bI_rg _) (fun bq9 => ?_) (fun bq9 => ?_)
  · refine go_aload_n (pc := 17) hF dX11_type_17 0 rfl ?_
    refine go_get (pc := 18) hF fl_X11_151 dX11_type_18 (by omega) z101 rfl ?_
    refine go_bipush (pc := 21) hF dX11_type_21 (by decide) ?_
    refine go_icmp_ne (pc := 23) hF 31 dX11_type_23 (by decide) (by omega) ⟨by decide, by decide⟩ (fun bq23 => ?_) (fun bq23 => ?_)
    · exact absurd hf bq23
    · refine go_aload_n (pc := 26) hF dX11_type_26 0 rfl ?_
      refine go_callVI (pc := 27) hF [] [] mv_X11_154 dX11_type_27 (by omega) z101 (c_X11_full E N σ hN₉ z101 z104) rfl rfl (Nat.le_of_ble_eq_true rfl) (by decide) ⟨Nat.zero_le _, Nat.zero_le _⟩ (fun r_s1 s1₉ h_s1 => ?_)
      obtain ⟨e_s1, u_s1, f_s1⟩ := h_s1
      subst e_s1
      have x_s1 := (f_s1 94 (by omega)).trans z101
      have nw_s1 := (f_s1 95 (by omega)).trans z102
      have pa_s1 := (f_s1 96 (by omega)).trans z103
      have sn_s1 := (f_s1 98 (by omega)).trans z105
      have eo_s1 := (f_s1 99 (by omega)).trans z106
      have bo_s1 := (f_s1 100 (by omega)).trans z107
      have tx_s1 := (f_s1 101 (by omega)).trans z108
      have rr_s1 := (f_s1 119 (by omega)).trans z126
      have readSign_s1 := (f_s1 102 (by omega)).trans z109
      have open_s1 := (f_s1 103 (by omega)).trans z110
      have isBarred_s1 := (f_s1 104 (by omega)).trans z111
      have ages_s1 := (f_s1 105 (by omega)).trans z112
      have entered_s1 := (f_s1 106 (by omega)).trans z113
      have first_s1 := (f_s1 107 (by omega)).trans z114
      have mustAt_s1 := (f_s1 108 (by omega)).trans z115
      have mayAt_s1 := (f_s1 109 (by omega)).trans z116
      have sums_s1 := (f_s1 110 (by omega)).trans z117
      have sumsFirst_s1 := (f_s1 111 (by omega)).trans z118
      have took_s1 := (f_s1 112 (by omega)).trans z119
      have next_s1 := (f_s1 113 (by omega)).trans z120
      have inOf_s1 := (f_s1 114 (by omega)).trans z121
      have firstOf_s1 := (f_s1 115 (by omega)).trans z122
      have rounds_s1 := (f_s1 116 (by omega)).trans z123
      have counts_s1 := (f_s1 117 (by omega)).trans z124
      have countsFirst_s1 := (f_s1 118 (by omega)).trans z125
      exact go_iretQ hF hr hlk hQ dX11_type_30 ⟨rfl, ⟨_, _, _, _, _, _, _, _, _, _, _, _, _, x_s1, nw_s1, pa_s1, u_s1, sn_s1, eo_s1, bo_s1, tx_s1, rr_s1, ⟨⟨_, readSign_s1⟩, ⟨_, open_s1⟩, ⟨_, isBarred_s1⟩, ⟨_, ages_s1⟩, ⟨_, entered_s1⟩, ⟨_, first_s1⟩, ⟨_, mustAt_s1⟩, ⟨_, mayAt_s1⟩, ⟨_, sums_s1⟩, ⟨_, sumsFirst_s1⟩, ⟨_, took_s1⟩, ⟨_, next_s1⟩, ⟨_, inOf_s1⟩, ⟨_, firstOf_s1⟩, ⟨_, rounds_s1⟩, ⟨_, counts_s1⟩, ⟨_, countsFirst_s1⟩⟩, hnw, hpa, ⟨by rw [badF_ne (by decide) (by rw [hrf.1]; exact hxb)]; exact hrf.1, by rw [badF_ne (by decide) (by rw [hrf.2.1]; exact hxn)]; exact hrf.2.1, by rw [badF_at, hrf.2.2]⟩, hrr, hMA⟩, (fun jj hjj => by rw [f_s1 jj (by omega)])⟩
  · exact absurd ((bI_0 _).mp bq9) (by omega)
set_option maxHeartbeats 4000000 in
set_option maxRecDepth 100000 in
theorem c_X11_type_ok (E : En) (N : Nat) (σ : Nat → va_E) (r₉ u₉ kd pr : Int) (yr yw yk yp : Int → Int) (hs : Int) (tx : Int → Int) (tl : Int) (t₉ : Tr) (xb xn xf q1₉ q2₉ q3₉ : Int) (hN₉ : 120 ≤ N) (hO : okS r₉ u₉ kd pr yr yw yk yp hs tx tl t₉ xb xn xf q1₉ q2₉ q3₉) (hS₉ : mdS E σ r₉ u₉ kd pr yr yw yk yp hs tx tl t₉ xb xn xf q1₉ q2₉ q3₉) (x₉ : Int) (hx : 0 ≤ x₉ ∧ x₉ ≤ 127) (hf : tl < 80) : CI E M_X11_type 16 [vr E 94, vi x₉] N σ (fun y₉ σ' => y₉ = (tl + 1) ∧ mdS E σ' r₉ u₉ kd pr yr yw yk yp hs (up tx tl x₉) (tl + 1) t₉ xb xn xf q1₉ q2₉ q3₉ ∧ ∀ q₉, q₉ < 94 → σ' q₉ = σ q₉) := by
  refine CT.of2 (own := RX11) (by decide) rfl (Nat.le_of_ble_eq_true rfl) ?_
  intro p e R s m args below meth c Q hF hr hlk hnm hz hR hQ
  obtain ⟨nw, pa, rf, sn, eo, bo, rr, rz, hi₉, mi, ak, rt, cn, z101, z102, z103, z104, z105, z106, z107, z108, z126, ⟨⟨g109, z109⟩, ⟨g110, z110⟩, ⟨g111, z111⟩, ⟨g112, z112⟩, ⟨g113, z113⟩, ⟨g114, z114⟩, ⟨g115, z115⟩, ⟨g116, z116⟩, ⟨g117, z117⟩, ⟨g118, z118⟩, ⟨g119, z119⟩, ⟨g120, z120⟩, ⟨g121, z121⟩, ⟨g122, z122⟩, ⟨g123, z123⟩, ⟨g124, z124⟩, ⟨g125, z125⟩⟩, hnw, hpa, hrf, hrr, hMA⟩ := hS₉
  obtain ⟨⟨hrw, hu, hkd, hpr⟩, hhs, hyy, htl, htx, hxb, hxn, hxf, hq1, hq2, hq3, hwf, hdp3, hl80, hl24⟩ := hO
  have hrw3 := vrow_up hrw (show u₉ ≤ 3 by omega)
  have hrr0 := hrw.1
  obtain ⟨n0₉, n1₉, n2₉, n3₉, n4₉, n5₉, n6₉⟩ := id hnw
  have gl := mLong_rg r₉
  refine go_iload_n (pc := 0) hF dX11_type_0 1 rfl ?_
  refine go_i2l (pc := 1) hF dX11_type_1 (by omega) ?_
  refine go_lconst (pc := 2) (v := 0) hF dX11_type_2 (by decide) ?_
  refine go_ldc2 (pc := 3) hF kc_X11_149 dX11_type_3 ?_
  refine go_callSP (pc := 6) hF [vl x₉, vl 0, vl 127] [] ms_X11_89 dX11_type_6 (c_X11_in E N σ x₉ 0 127 (by omega) ⟨by decide, by decide⟩ ⟨by decide, by decide⟩) rfl rfl (Nat.le_of_ble_eq_true rfl) (by decide) ⟨Nat.zero_le _, Nat.zero_le _⟩ ?_
  refine go_if_ne (pc := 9) hF 17 dX11_type_9 (by decide) (bI_rg _) (fun bq9 => ?_) (fun bq9 => ?_)
  · refine go_aload_n (pc := 17) hF dX11_type_17 0 rfl ?_
    refine go_get (pc := 18) hF fl_X11_151 dX11_type_18 (by omega) z101 rfl ?_
    refine go_bipush (pc := 21) hF dX11_type_21 (by decide) ?_
    refine go_icmp_ne (pc := 23) hF 31 dX11_type_23 (by decide) (by omega) ⟨by decide, by decide⟩ (fun bq23 => ?_) (fun bq23 => ?_)
    · refine go_aload_n (pc := 31) hF dX11_type_31 0 rfl ?_
      refine go_get (pc := 32) hF fl_X11_28 dX11_type_32 (by omega) z101 rfl ?_
      refine go_aload_n (pc := 35) hF dX11_type_35 0 rfl ?_
      refine go_get (pc := 36) hF fl_X11_151 dX11_type_36 (by omega) z101 rfl ?_
      refine go_iload_n (pc := 39) hF dX11_type_39 1 rfl ?_
      refine go_iast (pc := 40) hF dX11_type_40 (by omega) z108 (by omega) (fun s1₉ u_s1 f_s1 => ?_)
      have x_s1 := (f_s1 94 (by omega)).trans z101
      have nw_s1 := (f_s1 95 (by omega)).trans z102
      have pa_s1 := (f_s1 96 (by omega)).trans z103
      have rf_s1 := (f_s1 97 (by omega)).trans z104
      have sn_s1 := (f_s1 98 (by omega)).trans z105
      have eo_s1 := (f_s1 99 (by omega)).trans z106
      have bo_s1 := (f_s1 100 (by omega)).trans z107
      have rr_s1 := (f_s1 119 (by omega)).trans z126
      have readSign_s1 := (f_s1 102 (by omega)).trans z109
      have open_s1 := (f_s1 103 (by omega)).trans z110
      have isBarred_s1 := (f_s1 104 (by omega)).trans z111
      have ages_s1 := (f_s1 105 (by omega)).trans z112
      have entered_s1 := (f_s1 106 (by omega)).trans z113
      have first_s1 := (f_s1 107 (by omega)).trans z114
      have mustAt_s1 := (f_s1 108 (by omega)).trans z115
      have mayAt_s1 := (f_s1 109 (by omega)).trans z116
      have sums_s1 := (f_s1 110 (by omega)).trans z117
      have sumsFirst_s1 := (f_s1 111 (by omega)).trans z118
      have took_s1 := (f_s1 112 (by omega)).trans z119
      have next_s1 := (f_s1 113 (by omega)).trans z120
      have inOf_s1 := (f_s1 114 (by omega)).trans z121
      have firstOf_s1 := (f_s1 115 (by omega)).trans z122
      have rounds_s1 := (f_s1 116 (by omega)).trans z123
      have counts_s1 := (f_s1 117 (by omega)).trans z124
      have countsFirst_s1 := (f_s1 118 (by omega)).trans z125
      refine go_aload_n (pc := 41) hF dX11_type_41 0 rfl ?_
      refine go_dup (pc := 42) hF dX11_type_42 rfl ?_
      refine go_get (pc := 43) hF fl_X11_151 dX11_type_43 (by omega) x_s1 rfl ?_
      refine go_iconst (pc := 46) hF dX11_type_46 ?_
      refine go_iadd (pc := 47) hF dX11_type_47 ?_
      refine go_put (pc := 48) hF [vr E 95, vr E 96, vi hs, vr E 97, vr E 98, vr E 99, vr E 100, vi (tLen t₉ : Int), vr E 101, vi (tl + 1), vr E 102, vi rz, vr E 103, vr E 104, vr E 105, vr E 106, vr E 107, vr E 108, vr E 109, vr E 110, vr E 111, vr E 112, vr E 113, vr E 114, vr E 115, vr E 116, vr E 117, vr E 118, vr E 119, vi hi₉, vi mi, vi ak, vi rt, vi cn] fl_X11_151 dX11_type_48 (by omega) x_s1 rfl rfl rfl (Nat.le_of_ble_eq_true rfl) (fun s2₉ u_s2 f_s2 => ?_)
      have nw_s2 := (f_s2 95 (by omega)).trans nw_s1
      have pa_s2 := (f_s2 96 (by omega)).trans pa_s1
      have rf_s2 := (f_s2 97 (by omega)).trans rf_s1
      have sn_s2 := (f_s2 98 (by omega)).trans sn_s1
      have eo_s2 := (f_s2 99 (by omega)).trans eo_s1
      have bo_s2 := (f_s2 100 (by omega)).trans bo_s1
      have tx_s2 := (f_s2 101 (by omega)).trans u_s1
      have rr_s2 := (f_s2 119 (by omega)).trans rr_s1
      have readSign_s2 := (f_s2 102 (by omega)).trans readSign_s1
      have open_s2 := (f_s2 103 (by omega)).trans open_s1
      have isBarred_s2 := (f_s2 104 (by omega)).trans isBarred_s1
      have ages_s2 := (f_s2 105 (by omega)).trans ages_s1
      have entered_s2 := (f_s2 106 (by omega)).trans entered_s1
      have first_s2 := (f_s2 107 (by omega)).trans first_s1
      have mustAt_s2 := (f_s2 108 (by omega)).trans mustAt_s1
      have mayAt_s2 := (f_s2 109 (by omega)).trans mayAt_s1
      have sums_s2 := (f_s2 110 (by omega)).trans sums_s1
      have sumsFirst_s2 := (f_s2 111 (by omega)).trans sumsFirst_s1
      have took_s2 := (f_s2 112 (by omega)).trans took_s1
      have next_s2 := (f_s2 113 (by omega)).trans next_s1
      have inOf_s2 := (f_s2 114 (by omega)).trans inOf_s1
      have firstOf_s2 := (f_s2 115 (by omega)).trans firstOf_s1
      have rounds_s2 := (f_s2 116 (by omega)).trans rounds_s1
      have counts_s2 := (f_s2 117 (by omega)).trans counts_s1
      have countsFirst_s2 := (f_s2 118 (by omega)).trans countsFirst_s1
      refine go_aload_n (pc := 51) hF dX11_type_51 0 rfl ?_
      refine go_get (pc := 52) hF fl_X11_151 dX11_type_52 (by omega) u_s2 rfl ?_
      exact go_iretQ hF hr hlk hQ dX11_type_55 ⟨rfl, ⟨_, _, _, _, _, _, _, _, _, _, _, _, _, u_s2, nw_s2, pa_s2, rf_s2, sn_s2, eo_s2, bo_s2, tx_s2, rr_s2, ⟨⟨_, readSign_s2⟩, ⟨_, open_s2⟩, ⟨_, isBarred_s2⟩, ⟨_, ages_s2⟩, ⟨_, entered_s2⟩, ⟨_, first_s2⟩, ⟨_, mustAt_s2⟩, ⟨_, mayAt_s2⟩, ⟨_, sums_s2⟩, ⟨_, sumsFirst_s2⟩, ⟨_, took_s2⟩, ⟨_, next_s2⟩, ⟨_, inOf_s2⟩, ⟨_, firstOf_s2⟩, ⟨_, rounds_s2⟩, ⟨_, counts_s2⟩, ⟨_, countsFirst_s2⟩⟩, hnw, hpa, hrf, hrr, hMA⟩, (fun jj hjj => by rw [f_s2 jj (by omega), f_s1 jj (by omega)])⟩
    · exact absurd bq23 (by omega)
  · exact absurd ((bI_0 _).mp bq9) (by omega)
set_option maxHeartbeats 4000000 in
set_option maxRecDepth 100000 in
theorem c_X11_clear (E : En) (N : Nat) (σ : Nat → va_E) (r₉ u₉ kd pr : Int) (yr yw yk yp : Int → Int) (hs : Int) (tx : Int → Int) (tl : Int) (t₉ : Tr) (xb xn xf q1₉ q2₉ q3₉ : Int) (hN₉ : 120 ≤ N) (hO : okS r₉ u₉ kd pr yr yw yk yp hs tx tl t₉ xb xn xf q1₉ q2₉ q3₉) (hS₉ : mdS E σ r₉ u₉ kd pr yr yw yk yp hs tx tl t₉ xb xn xf q1₉ q2₉ q3₉) : CI E M_X11_clear 16 [vr E 94] N σ (fun y₉ σ' => y₉ = tl ∧ mdS E σ' r₉ u₉ kd pr yr yw yk yp hs tx 0 t₉ xb xn xf q1₉ q2₉ q3₉ ∧ ∀ q₉, q₉ < 94 → σ' q₉ = σ q₉) := by
  refine CT.of2 (own := RX11) (by decide) rfl (Nat.le_of_ble_eq_true rfl) ?_
  intro p e R s m args below meth c Q hF hr hlk hnm hz hR hQ
  obtain ⟨nw, pa, rf, sn, eo, bo, rr, rz, hi₉, mi, ak, rt, cn, z101, z102, z103, z104, z105, z106, z107, z108, z126, ⟨⟨g109, z109⟩, ⟨g110, z110⟩, ⟨g111, z111⟩, ⟨g112, z112⟩, ⟨g113, z113⟩, ⟨g114, z114⟩, ⟨g115, z115⟩, ⟨g116, z116⟩, ⟨g117, z117⟩, ⟨g118, z118⟩, ⟨g119, z119⟩, ⟨g120, z120⟩, ⟨g121, z121⟩, ⟨g122, z122⟩, ⟨g123, z123⟩, ⟨g124, z124⟩, ⟨g125, z125⟩⟩, hnw, hpa, hrf, hrr, hMA⟩ := hS₉
  obtain ⟨⟨hrw, hu, hkd, hpr⟩, hhs, hyy, htl, htx, hxb, hxn, hxf, hq1, hq2, hq3, hwf, hdp3, hl80, hl24⟩ := hO
  have hrw3 := vrow_up hrw (show u₉ ≤ 3 by omega)
  have hrr0 := hrw.1
  obtain ⟨n0₉, n1₉, n2₉, n3₉, n4₉, n5₉, n6₉⟩ := id hnw
  have gl := mLong_rg r₉
  refine go_aload_n (pc := 0) hF dX11_clear_0 0 rfl ?_
  refine go_get (pc := 1) hF fl_X11_151 dX11_clear_1 (by omega) z101 rfl ?_
  refine go_istore_n (pc := 4) hF [(1, vi tl), (0, vr E 94)] dX11_clear_4 rfl (by decide) ?_
  refine go_aload_n (pc := 5) hF dX11_clear_5 1 rfl ?_
  refine go_iconst (pc := 6) hF dX11_clear_6 ?_
  refine go_put (pc := 7) hF [vr E 95, vr E 96, vi hs, vr E 97, vr E 98, vr E 99, vr E 100, vi (tLen t₉ : Int), vr E 101, vi 0, vr E 102, vi rz, vr E 103, vr E 104, vr E 105, vr E 106, vr E 107, vr E 108, vr E 109, vr E 110, vr E 111, vr E 112, vr E 113, vr E 114, vr E 115, vr E 116, vr E 117, vr E 118, vr E 119, vi hi₉, vi mi, vi ak, vi rt, vi cn] fl_X11_151 dX11_clear_7 (by omega) z101 rfl rfl rfl (Nat.le_of_ble_eq_true rfl) (fun s1₉ u_s1 f_s1 => ?_)
  have nw_s1 := (f_s1 95 (by omega)).trans z102
  have pa_s1 := (f_s1 96 (by omega)).trans z103
  have rf_s1 := (f_s1 97 (by omega)).trans z104
  have sn_s1 := (f_s1 98 (by omega)).trans z105
  have eo_s1 := (f_s1 99 (by omega)).trans z106
  have bo_s1 := (f_s1 100 (by omega)).trans z107
  have tx_s1 := (f_s1 101 (by omega)).trans z108
  have rr_s1 := (f_s1 119 (by omega)).trans z126
  have readSign_s1 := (f_s1 102 (by omega)).trans z109
  have open_s1 := (f_s1 103 (by omega)).trans z110
  have isBarred_s1 := (f_s1 104 (by omega)).trans z111
  have ages_s1 := (f_s1 105 (by omega)).trans z112
  have entered_s1 := (f_s1 106 (by omega)).trans z113
  have first_s1 := (f_s1 107 (by omega)).trans z114
  have mustAt_s1 := (f_s1 108 (by omega)).trans z115
  have mayAt_s1 := (f_s1 109 (by omega)).trans z116
  have sums_s1 := (f_s1 110 (by omega)).trans z117
  have sumsFirst_s1 := (f_s1 111 (by omega)).trans z118
  have took_s1 := (f_s1 112 (by omega)).trans z119
  have next_s1 := (f_s1 113 (by omega)).trans z120
  have inOf_s1 := (f_s1 114 (by omega)).trans z121
  have firstOf_s1 := (f_s1 115 (by omega)).trans z122
  have rounds_s1 := (f_s1 116 (by omega)).trans z123
  have counts_s1 := (f_s1 117 (by omega)).trans z124
  have countsFirst_s1 := (f_s1 118 (by omega)).trans z125
  refine go_iload_n (pc := 10) hF dX11_clear_10 0 rfl ?_
  exact go_iretQ hF hr hlk hQ dX11_clear_11 ⟨rfl, ⟨_, _, _, _, _, _, _, _, _, _, _, _, _, u_s1, nw_s1, pa_s1, rf_s1, sn_s1, eo_s1, bo_s1, tx_s1, rr_s1, ⟨⟨_, readSign_s1⟩, ⟨_, open_s1⟩, ⟨_, isBarred_s1⟩, ⟨_, ages_s1⟩, ⟨_, entered_s1⟩, ⟨_, first_s1⟩, ⟨_, mustAt_s1⟩, ⟨_, mayAt_s1⟩, ⟨_, sums_s1⟩, ⟨_, sumsFirst_s1⟩, ⟨_, took_s1⟩, ⟨_, next_s1⟩, ⟨_, inOf_s1⟩, ⟨_, firstOf_s1⟩, ⟨_, rounds_s1⟩, ⟨_, counts_s1⟩, ⟨_, countsFirst_s1⟩⟩, hnw, hpa, hrf, hrr, hMA⟩, (fun jj hjj => by rw [f_s1 jj (by omega)])⟩
set_option maxHeartbeats 4000000 in
set_option maxRecDepth 100000 in
theorem c_X11_ran_ok (E : En) (N : Nat) (σ : Nat → va_E) (r₉ u₉ kd pr : Int) (yr yw yk yp : Int → Int) (hs : Int) (tx : Int → Int) (tl : Int) (t₉ : Tr) (xb xn xf q1₉ q2₉ q3₉ : Int) (hN₉ : 120 ≤ N) (hO : okS r₉ u₉ kd pr yr yw yk yp hs tx tl t₉ xb xn xf q1₉ q2₉ q3₉) (hS₉ : mdS E σ r₉ u₉ kd pr yr yw yk yp hs tx tl t₉ xb xn xf q1₉ q2₉ q3₉) (x₉ : Int) (hx : 0 ≤ x₉ ∧ x₉ ≤ 2) : CI E M_X11_ran 16 [vr E 94, vi x₉] N σ (fun y₉ σ' => y₉ = (if x₉ = 0 then q1₉ else if x₉ = 1 then q2₉ else q3₉) ∧ mdS E σ' r₉ u₉ kd pr yr yw yk yp hs tx tl t₉ xb xn xf q1₉ q2₉ q3₉ ∧ ∀ q₉, q₉ < 94 → σ' q₉ = σ q₉) := by
  refine CT.of2 (own := RX11) (by decide) rfl (Nat.le_of_ble_eq_true rfl) ?_
  intro p e R s m args below meth c Q hF hr hlk hnm hz hR hQ
  obtain ⟨nw, pa, rf, sn, eo, bo, rr, rz, hi₉, mi, ak, rt, cn, z101, z102, z103, z104, z105, z106, z107, z108, z126, ⟨⟨g109, z109⟩, ⟨g110, z110⟩, ⟨g111, z111⟩, ⟨g112, z112⟩, ⟨g113, z113⟩, ⟨g114, z114⟩, ⟨g115, z115⟩, ⟨g116, z116⟩, ⟨g117, z117⟩, ⟨g118, z118⟩, ⟨g119, z119⟩, ⟨g120, z120⟩, ⟨g121, z121⟩, ⟨g122, z122⟩, ⟨g123, z123⟩, ⟨g124, z124⟩, ⟨g125, z125⟩⟩, hnw, hpa, hrf, hrr, hMA⟩ := hS₉
  obtain ⟨⟨hrw, hu, hkd, hpr⟩, hhs, hyy, htl, htx, hxb, hxn, hxf, hq1, hq2, hq3, hwf, hdp3, hl80, hl24⟩ := hO
  have hrw3 := vrow_up hrw (show u₉ ≤ 3 by omega)
  have hrr0 := hrw.1
  obtain ⟨n0₉, n1₉, n2₉, n3₉, n4₉, n5₉, n6₉⟩ := id hnw
  have gl := mLong_rg r₉
  refine go_iload_n (pc := 0) hF dX11_ran_0 1 rfl ?_
  refine go_i2l (pc := 1) hF dX11_ran_1 (by omega) ?_
  refine go_lconst (pc := 2) (v := 0) hF dX11_ran_2 (by decide) ?_
  refine go_ldc2 (pc := 3) hF kc_X11_134 dX11_ran_3 ?_
  refine go_callSP (pc := 6) hF [vl x₉, vl 0, vl 2] [] ms_X11_89 dX11_ran_6 (c_X11_in E N σ x₉ 0 2 (by omega) ⟨by decide, by decide⟩ ⟨by decide, by decide⟩) rfl rfl (Nat.le_of_ble_eq_true rfl) (by decide) ⟨Nat.zero_le _, Nat.zero_le _⟩ ?_
  refine go_if_eq (pc := 9) hF 21 dX11_ran_9 (by decide) (bI_rg _) (fun bq9 => ?_) (fun bq9 => ?_)
  · exact absurd ((bI_0 _).mp bq9) (by omega)
  · refine go_aload_n (pc := 12) hF dX11_ran_12 0 rfl ?_
    refine go_get (pc := 13) hF fl_X11_84 dX11_ran_13 (by omega) z101 rfl ?_
    refine go_iload_n (pc := 16) hF dX11_ran_16 1 rfl ?_
    refine go_iald (pc := 17) hF dX11_ran_17 (by omega) z126 (by omega)  ?_
    refine go_goto (pc := 18) hF 25 dX11_ran_18 (by decide) ?_
    exact go_iretQ hF hr hlk hQ dX11_ran_25 ⟨(by rcases (show x₉ = 0 ∨ x₉ = 1 ∨ x₉ = 2 by omega) with e | e | e <;> subst e <;> first | exact hrr.1 | exact hrr.2.1 | exact hrr.2.2), ⟨_, _, _, _, _, _, _, _, _, _, _, _, _, z101, z102, z103, z104, z105, z106, z107, z108, z126, ⟨⟨_, z109⟩, ⟨_, z110⟩, ⟨_, z111⟩, ⟨_, z112⟩, ⟨_, z113⟩, ⟨_, z114⟩, ⟨_, z115⟩, ⟨_, z116⟩, ⟨_, z117⟩, ⟨_, z118⟩, ⟨_, z119⟩, ⟨_, z120⟩, ⟨_, z121⟩, ⟨_, z122⟩, ⟨_, z123⟩, ⟨_, z124⟩, ⟨_, z125⟩⟩, hnw, hpa, hrf, hrr, hMA⟩, (fun j₉ hj => rfl)⟩
set_option maxHeartbeats 4000000 in
set_option maxRecDepth 100000 in
theorem c_X11_undo_no (E : En) (N : Nat) (σ : Nat → va_E) (r₉ u₉ kd pr : Int) (yr yw yk yp : Int → Int) (hs : Int) (tx : Int → Int) (tl : Int) (t₉ : Tr) (xb xn xf q1₉ q2₉ q3₉ : Int) (hN₉ : 120 ≤ N) (hO : okS r₉ u₉ kd pr yr yw yk yp hs tx tl t₉ xb xn xf q1₉ q2₉ q3₉) (hS₉ : mdS E σ r₉ u₉ kd pr yr yw yk yp hs tx tl t₉ xb xn xf q1₉ q2₉ q3₉) (h0 : hs = 0) : CI E M_X11_undo 16 [vr E 94] N σ (fun y₉ σ' => y₉ = (-3) ∧ mdS E σ' r₉ u₉ kd pr yr yw yk yp hs tx tl t₉ xb (wr₉ (xn + 1)) xf q1₉ q2₉ q3₉ ∧ ∀ q₉, q₉ < 94 → σ' q₉ = σ q₉) := by
  refine CT.of2 (own := RX11) (by decide) rfl (Nat.le_of_ble_eq_true rfl) ?_
  intro p e R s m args below meth c Q hF hr hlk hnm hz hR hQ
  obtain ⟨nw, pa, rf, sn, eo, bo, rr, rz, hi₉, mi, ak, rt, cn, z101, z102, z103, z104, z105, z106, z107, z108, z126, ⟨⟨g109, z109⟩, ⟨g110, z110⟩, ⟨g111, z111⟩, ⟨g112, z112⟩, ⟨g113, z113⟩, ⟨g114, z114⟩, ⟨g115, z115⟩, ⟨g116, z116⟩, ⟨g117, z117⟩, ⟨g118, z118⟩, ⟨g119, z119⟩, ⟨g120, z120⟩, ⟨g121, z121⟩, ⟨g122, z122⟩, ⟨g123, z123⟩, ⟨g124, z124⟩, ⟨g125, z125⟩⟩, hnw, hpa, hrf, hrr, hMA⟩ := hS₉
  obtain ⟨⟨hrw, hu, hkd, hpr⟩, hhs, hyy, htl, htx, hxb, hxn, hxf, hq1, hq2, hq3, hwf, hdp3, hl80, hl24⟩ := hO
  have hrw3 := vrow_up hrw (show u₉ ≤ 3 by omega)
  have hrr0 := hrw.1
  obtain ⟨n0₉, n1₉, n2₉, n3₉, n4₉, n5₉, n6₉⟩ := id hnw
  have gl := mLong_rg r₉
  refine go_aload_n (pc := 0) hF dX11_undo_0 0 rfl ?_
  refine go_get (pc := 1) hF fl_X11_114 dX11_undo_1 (by omega) z101 rfl ?_
  refine go_if_ne (pc := 4) hF 12 dX11_undo_4 (by decide) (by omega) (fun bq4 => ?_) (fun bq4 => ?_)
  · exact absurd h0 bq4
  · refine go_aload_n (pc := 7) hF dX11_undo_7 0 rfl ?_
    refine go_callVI (pc := 8) hF [] [] mv_X11_298 dX11_undo_8 (by omega) z101 (c_X11_no E N σ hN₉ z101 z104) rfl rfl (Nat.le_of_ble_eq_true rfl) (by decide) ⟨Nat.zero_le _, Nat.zero_le _⟩ (fun r_s1 s1₉ h_s1 => ?_)
    obtain ⟨e_s1, u_s1, f_s1⟩ := h_s1
    subst e_s1
    have x_s1 := (f_s1 94 (by omega)).trans z101
    have nw_s1 := (f_s1 95 (by omega)).trans z102
    have pa_s1 := (f_s1 96 (by omega)).trans z103
    have sn_s1 := (f_s1 98 (by omega)).trans z105
    have eo_s1 := (f_s1 99 (by omega)).trans z106
    have bo_s1 := (f_s1 100 (by omega)).trans z107
    have tx_s1 := (f_s1 101 (by omega)).trans z108
    have rr_s1 := (f_s1 119 (by omega)).trans z126
    have readSign_s1 := (f_s1 102 (by omega)).trans z109
    have open_s1 := (f_s1 103 (by omega)).trans z110
    have isBarred_s1 := (f_s1 104 (by omega)).trans z111
    have ages_s1 := (f_s1 105 (by omega)).trans z112
    have entered_s1 := (f_s1 106 (by omega)).trans z113
    have first_s1 := (f_s1 107 (by omega)).trans z114
    have mustAt_s1 := (f_s1 108 (by omega)).trans z115
    have mayAt_s1 := (f_s1 109 (by omega)).trans z116
    have sums_s1 := (f_s1 110 (by omega)).trans z117
    have sumsFirst_s1 := (f_s1 111 (by omega)).trans z118
    have took_s1 := (f_s1 112 (by omega)).trans z119
    have next_s1 := (f_s1 113 (by omega)).trans z120
    have inOf_s1 := (f_s1 114 (by omega)).trans z121
    have firstOf_s1 := (f_s1 115 (by omega)).trans z122
    have rounds_s1 := (f_s1 116 (by omega)).trans z123
    have counts_s1 := (f_s1 117 (by omega)).trans z124
    have countsFirst_s1 := (f_s1 118 (by omega)).trans z125
    exact go_iretQ hF hr hlk hQ dX11_undo_11 ⟨rfl, ⟨_, _, _, _, _, _, _, _, _, _, _, _, _, x_s1, nw_s1, pa_s1, u_s1, sn_s1, eo_s1, bo_s1, tx_s1, rr_s1, ⟨⟨_, readSign_s1⟩, ⟨_, open_s1⟩, ⟨_, isBarred_s1⟩, ⟨_, ages_s1⟩, ⟨_, entered_s1⟩, ⟨_, first_s1⟩, ⟨_, mustAt_s1⟩, ⟨_, mayAt_s1⟩, ⟨_, sums_s1⟩, ⟨_, sumsFirst_s1⟩, ⟨_, took_s1⟩, ⟨_, next_s1⟩, ⟨_, inOf_s1⟩, ⟨_, firstOf_s1⟩, ⟨_, rounds_s1⟩, ⟨_, counts_s1⟩, ⟨_, countsFirst_s1⟩⟩, hnw, hpa, ⟨by rw [badF_ne (by decide) (by rw [hrf.1]; exact hxb)]; exact hrf.1, by rw [badF_at, hrf.2.1], by rw [badF_ne (by decide) (by rw [hrf.2.2]; exact hxf)]; exact hrf.2.2⟩, hrr, hMA⟩, (fun jj hjj => by rw [f_s1 jj (by omega)])⟩
set_option maxHeartbeats 4000000 in
set_option maxRecDepth 100000 in
theorem c_X11_undo_ok (E : En) (N : Nat) (σ : Nat → va_E) (r₉ u₉ kd pr : Int) (yr yw yk yp : Int → Int) (hs : Int) (tx : Int → Int) (tl : Int) (t₉ : Tr) (xb xn xf q1₉ q2₉ q3₉ : Int) (hN₉ : 120 ≤ N) (hO : okS r₉ u₉ kd pr yr yw yk yp hs tx tl t₉ xb xn xf q1₉ q2₉ q3₉) (hS₉ : mdS E σ r₉ u₉ kd pr yr yw yk yp hs tx tl t₉ xb xn xf q1₉ q2₉ q3₉) (h0 : 0 < hs) : CI E M_X11_undo 16 [vr E 94] N σ (fun y₉ σ' => y₉ = (hs - 1) ∧ mdS E σ' (yr 0) (yw 0) (yk 0) (yp 0) (fun i₉ => yr (i₉ + 1)) (fun i₉ => yw (i₉ + 1)) (fun i₉ => yk (i₉ + 1)) (fun i₉ => yp (i₉ + 1)) (hs - 1) tx tl t₉ xb xn xf q1₉ q2₉ q3₉ ∧ ∀ q₉, q₉ < 94 → σ' q₉ = σ q₉) := by
  refine CT.of2 (own := RX11) (by decide) rfl (Nat.le_of_ble_eq_true rfl) ?_
  intro p e R s m args below meth c Q hF hr hlk hnm hz hR hQ
  obtain ⟨nw, pa, rf, sn, eo, bo, rr, rz, hi₉, mi, ak, rt, cn, z101, z102, z103, z104, z105, z106, z107, z108, z126, ⟨⟨g109, z109⟩, ⟨g110, z110⟩, ⟨g111, z111⟩, ⟨g112, z112⟩, ⟨g113, z113⟩, ⟨g114, z114⟩, ⟨g115, z115⟩, ⟨g116, z116⟩, ⟨g117, z117⟩, ⟨g118, z118⟩, ⟨g119, z119⟩, ⟨g120, z120⟩, ⟨g121, z121⟩, ⟨g122, z122⟩, ⟨g123, z123⟩, ⟨g124, z124⟩, ⟨g125, z125⟩⟩, hnw, hpa, hrf, hrr, hMA⟩ := hS₉
  obtain ⟨⟨hrw, hu, hkd, hpr⟩, hhs, hyy, htl, htx, hxb, hxn, hxf, hq1, hq2, hq3, hwf, hdp3, hl80, hl24⟩ := hO
  have hrw3 := vrow_up hrw (show u₉ ≤ 3 by omega)
  have hrr0 := hrw.1
  obtain ⟨n0₉, n1₉, n2₉, n3₉, n4₉, n5₉, n6₉⟩ := id hnw
  have gl := mLong_rg r₉
  refine go_aload_n (pc := 0) hF dX11_undo_0 0 rfl ?_
  refine go_get (pc := 1) hF fl_X11_114 dX11_undo_1 (by omega) z101 rfl ?_
  refine go_if_ne (pc := 4) hF 12 dX11_undo_4 (by decide) (by omega) (fun bq4 => ?_) (fun bq4 => ?_)
  · refine go_aload_n (pc := 12) hF dX11_undo_12 0 rfl ?_
    refine go_dup (pc := 13) hF dX11_undo_13 rfl ?_
    refine go_get (pc := 14) hF fl_X11_114 dX11_undo_14 (by omega) z101 rfl ?_
    refine go_iconst (pc := 17) hF dX11_undo_17 ?_
    refine go_isub (pc := 18) hF dX11_undo_18 ?_
    refine go_put (pc := 19) hF [vr E 95, vr E 96, vi (hs - 1), vr E 97, vr E 98, vr E 99, vr E 100, vi (tLen t₉ : Int), vr E 101, vi tl, vr E 102, vi rz, vr E 103, vr E 104, vr E 105, vr E 106, vr E 107, vr E 108, vr E 109, vr E 110, vr E 111, vr E 112, vr E 113, vr E 114, vr E 115, vr E 116, vr E 117, vr E 118, vr E 119, vi hi₉, vi mi, vi ak, vi rt, vi cn] fl_X11_114 dX11_undo_19 (by omega) z101 rfl rfl rfl (Nat.le_of_ble_eq_true rfl) (fun s1₉ u_s1 f_s1 => ?_)
    have nw_s1 := (f_s1 95 (by omega)).trans z102
    have pa_s1 := (f_s1 96 (by omega)).trans z103
    have rf_s1 := (f_s1 97 (by omega)).trans z104
    have sn_s1 := (f_s1 98 (by omega)).trans z105
    have eo_s1 := (f_s1 99 (by omega)).trans z106
    have bo_s1 := (f_s1 100 (by omega)).trans z107
    have tx_s1 := (f_s1 101 (by omega)).trans z108
    have rr_s1 := (f_s1 119 (by omega)).trans z126
    have readSign_s1 := (f_s1 102 (by omega)).trans z109
    have open_s1 := (f_s1 103 (by omega)).trans z110
    have isBarred_s1 := (f_s1 104 (by omega)).trans z111
    have ages_s1 := (f_s1 105 (by omega)).trans z112
    have entered_s1 := (f_s1 106 (by omega)).trans z113
    have first_s1 := (f_s1 107 (by omega)).trans z114
    have mustAt_s1 := (f_s1 108 (by omega)).trans z115
    have mayAt_s1 := (f_s1 109 (by omega)).trans z116
    have sums_s1 := (f_s1 110 (by omega)).trans z117
    have sumsFirst_s1 := (f_s1 111 (by omega)).trans z118
    have took_s1 := (f_s1 112 (by omega)).trans z119
    have next_s1 := (f_s1 113 (by omega)).trans z120
    have inOf_s1 := (f_s1 114 (by omega)).trans z121
    have firstOf_s1 := (f_s1 115 (by omega)).trans z122
    have rounds_s1 := (f_s1 116 (by omega)).trans z123
    have counts_s1 := (f_s1 117 (by omega)).trans z124
    have countsFirst_s1 := (f_s1 118 (by omega)).trans z125
    refine go_iconst (pc := 22) hF dX11_undo_22 ?_
    refine go_istore_n (pc := 23) hF [(1, vi 0), (0, vr E 94)] dX11_undo_23 rfl (by decide) ?_
    have loopA : ∀ (n₉ : Nat) (j₉ : Nat) (g₉ : Int → Int) (τ : Nat → va_E), j₉ + n₉ = 9 → (j₉ : Int) ≤ 7 → (∀ z₉ : Int, 0 ≤ z₉ → z₉ < 7 → g₉ z₉ = if 0 ≤ z₉ ∧ z₉ < 0 + (j₉ : Int) then (fun z₉ : Int => pa (7 * (hs - 1) + z₉)) (z₉ - 0) else nw z₉) → τ 95 = ai E 7 g₉ → (∀ jj : Nat, jj ≠ 95 → τ jj = s1₉ jj) → Go E p e R s m args below meth c Q 2 (0, 0) N τ [(1, vi (j₉ : Int)), (0, vr E 94)] [] 24 := by
      intro n₉
      induction n₉ with
      | zero => intro j₉ g₉ τ hfu hj hg c_nw_loopA fr_loopA; exfalso; omega
      | succ n₉ ih₉ =>
        intro j₉ g₉ τ hfu hj hg c_nw_loopA fr_loopA
        have x_loopA := (fr_loopA 94 (by omega)).trans u_s1
        have pa_loopA := (fr_loopA 96 (by omega)).trans pa_s1
        have rf_loopA := (fr_loopA 97 (by omega)).trans rf_s1
        have sn_loopA := (fr_loopA 98 (by omega)).trans sn_s1
        have eo_loopA := (fr_loopA 99 (by omega)).trans eo_s1
        have bo_loopA := (fr_loopA 100 (by omega)).trans bo_s1
        have tx_loopA := (fr_loopA 101 (by omega)).trans tx_s1
        have rr_loopA := (fr_loopA 119 (by omega)).trans rr_s1
        have readSign_loopA := (fr_loopA 102 (by omega)).trans readSign_s1
        have open_loopA := (fr_loopA 103 (by omega)).trans open_s1
        have isBarred_loopA := (fr_loopA 104 (by omega)).trans isBarred_s1
        have ages_loopA := (fr_loopA 105 (by omega)).trans ages_s1
        have entered_loopA := (fr_loopA 106 (by omega)).trans entered_s1
        have first_loopA := (fr_loopA 107 (by omega)).trans first_s1
        have mustAt_loopA := (fr_loopA 108 (by omega)).trans mustAt_s1
        have mayAt_loopA := (fr_loopA 109 (by omega)).trans mayAt_s1
        have sums_loopA := (fr_loopA 110 (by omega)).trans sums_s1
        have sumsFirst_loopA := (fr_loopA 111 (by omega)).trans sumsFirst_s1
        have took_loopA := (fr_loopA 112 (by omega)).trans took_s1
        have next_loopA := (fr_loopA 113 (by omega)).trans next_s1
        have inOf_loopA := (fr_loopA 114 (by omega)).trans inOf_s1
        have firstOf_loopA := (fr_loopA 115 (by omega)).trans firstOf_s1
        have rounds_loopA := (fr_loopA 116 (by omega)).trans rounds_s1
        have counts_loopA := (fr_loopA 117 (by omega)).trans counts_s1
        have countsFirst_loopA := (fr_loopA 118 (by omega)).trans countsFirst_s1
        refine go_iload_n (pc := 24) hF dX11_undo_24 0 rfl ?_
        refine go_bipush (pc := 25) hF dX11_undo_25 (by decide) ?_
        refine go_icmp_ge (pc := 27) hF 56 dX11_undo_27 (by decide) (by omega) ⟨by decide, by decide⟩ (fun bq27 => ?_) (fun bq27 => ?_)
        · refine go_aload_n (pc := 56) hF dX11_undo_56 1 rfl ?_
          refine go_get (pc := 57) hF fl_X11_114 dX11_undo_57 (by omega) x_loopA rfl ?_
          have ej : j₉ = 7 := by omega
          subst ej
          exact go_iretQ hF hr hlk hQ dX11_undo_60 ⟨rfl, ⟨_, _, _, _, _, _, _, _, _, _, _, _, _, x_loopA, c_nw_loopA, pa_loopA, rf_loopA, sn_loopA, eo_loopA, bo_loopA, tx_loopA, rr_loopA, ⟨⟨_, readSign_loopA⟩, ⟨_, open_loopA⟩, ⟨_, isBarred_loopA⟩, ⟨_, ages_loopA⟩, ⟨_, entered_loopA⟩, ⟨_, first_loopA⟩, ⟨_, mustAt_loopA⟩, ⟨_, mayAt_loopA⟩, ⟨_, sums_loopA⟩, ⟨_, sumsFirst_loopA⟩, ⟨_, took_loopA⟩, ⟨_, next_loopA⟩, ⟨_, inOf_loopA⟩, ⟨_, firstOf_loopA⟩, ⟨_, rounds_loopA⟩, ⟨_, counts_loopA⟩, ⟨_, countsFirst_loopA⟩⟩, ((hpa 0 (by omega) (by omega)).ext (fun k₉ k0₉ k1₉ => by rw [hg k₉ k0₉ k1₉, if_pos (by omega)]; show pa (7 * (hs - 1) + (k₉ - 0)) = pa (7 * (hs - 1 - 0) + k₉); rw [Int.sub_zero, Int.sub_zero])), (undo_pa hpa h0), hrf, hrr, hMA⟩, (fun jj hjj => by rw [fr_loopA jj (by omega), f_s1 jj (by omega)])⟩
        · refine go_aload_n (pc := 30) hF dX11_undo_30 1 rfl ?_
          refine go_get (pc := 31) hF fl_X11_7 dX11_undo_31 (by omega) x_loopA rfl ?_
          refine go_iload_n (pc := 34) hF dX11_undo_34 0 rfl ?_
          refine go_aload_n (pc := 35) hF dX11_undo_35 1 rfl ?_
          refine go_get (pc := 36) hF fl_X11_13 dX11_undo_36 (by omega) x_loopA rfl ?_
          refine go_bipush (pc := 39) hF dX11_undo_39 (by decide) ?_
          refine go_aload_n (pc := 41) hF dX11_undo_41 1 rfl ?_
          refine go_get (pc := 42) hF fl_X11_114 dX11_undo_42 (by omega) x_loopA rfl ?_
          refine go_imul (pc := 45) hF dX11_undo_45 ?_
          refine go_iload_n (pc := 46) hF dX11_undo_46 0 rfl ?_
          refine go_iadd (pc := 47) hF dX11_undo_47 ?_
          refine go_iald (pc := 48) hF dX11_undo_48 (by omega) pa_loopA (by omega)  ?_
          refine go_iast (pc := 49) hF dX11_undo_49 (by omega) c_nw_loopA (by omega) (fun s2₉ u_s2 f_s2 => ?_)
          have x_s2 := (f_s2 94 (by omega)).trans x_loopA
          have pa_s2 := (f_s2 96 (by omega)).trans pa_loopA
          have rf_s2 := (f_s2 97 (by omega)).trans rf_loopA
          have sn_s2 := (f_s2 98 (by omega)).trans sn_loopA
          have eo_s2 := (f_s2 99 (by omega)).trans eo_loopA
          have bo_s2 := (f_s2 100 (by omega)).trans bo_loopA
          have tx_s2 := (f_s2 101 (by omega)).trans tx_loopA
          have rr_s2 := (f_s2 119 (by omega)).trans rr_loopA
          have readSign_s2 := (f_s2 102 (by omega)).trans readSign_loopA
          have open_s2 := (f_s2 103 (by omega)).trans open_loopA
          have isBarred_s2 := (f_s2 104 (by omega)).trans isBarred_loopA
          have ages_s2 := (f_s2 105 (by omega)).trans ages_loopA
          have entered_s2 := (f_s2 106 (by omega)).trans entered_loopA
          have first_s2 := (f_s2 107 (by omega)).trans first_loopA
          have mustAt_s2 := (f_s2 108 (by omega)).trans mustAt_loopA
          have mayAt_s2 := (f_s2 109 (by omega)).trans mayAt_loopA
          have sums_s2 := (f_s2 110 (by omega)).trans sums_loopA
          have sumsFirst_s2 := (f_s2 111 (by omega)).trans sumsFirst_loopA
          have took_s2 := (f_s2 112 (by omega)).trans took_loopA
          have next_s2 := (f_s2 113 (by omega)).trans next_loopA
          have inOf_s2 := (f_s2 114 (by omega)).trans inOf_loopA
          have firstOf_s2 := (f_s2 115 (by omega)).trans firstOf_loopA
          have rounds_s2 := (f_s2 116 (by omega)).trans rounds_loopA
          have counts_s2 := (f_s2 117 (by omega)).trans counts_loopA
          have countsFirst_s2 := (f_s2 118 (by omega)).trans countsFirst_loopA
          refine go_iinc (pc := 50) hF [(1, vi ((j₉ : Int) + 1)), (0, vr E 94)] dX11_undo_50 0 rfl rfl (by decide) ?_
          refine go_goto (pc := 53) hF 24 dX11_undo_53 (by decide) ?_
          exact ih₉ (j₉ + 1) _ s2₉ (by omega) (by omega) (fun z₉ z0 z1 => by have q₉ := @copy_step (fun z₉ : Int => pa (7 * (hs - 1) + z₉)) nw g₉ 0 j₉ 7 hg z₉ z0 z1; rw [Int.zero_add] at q₉; exact q₉) u_s2 (fun jj hjj => by rw [f_s2 jj (by omega), fr_loopA jj (by omega)])
    exact loopA 9 0 nw s1₉ rfl (by omega) (fun z₉ z0 z1 => by rw [if_neg (by omega)]) nw_s1 (fun _ _ => rfl)
  · exact absurd bq4 (by omega)
set_option maxHeartbeats 4000000 in
set_option maxRecDepth 100000 in
theorem c_X11_counted (E : En) (N : Nat) (σ : Nat → va_E) (r₉ u₉ kd pr : Int) (yr yw yk yp : Int → Int) (hs : Int) (tx : Int → Int) (tl : Int) (t₉ : Tr) (xb xn xf q1₉ q2₉ q3₉ : Int) (hN₉ : 120 ≤ N) (hO : okS r₉ u₉ kd pr yr yw yk yp hs tx tl t₉ xb xn xf q1₉ q2₉ q3₉) (hS₉ : mdS E σ r₉ u₉ kd pr yr yw yk yp hs tx tl t₉ xb xn xf q1₉ q2₉ q3₉) (x₉ : Int) (hx : 0 ≤ x₉ ∧ x₉ ≤ 8) : CP E M_X11_counted 1 [vr E 94, vi x₉] N σ (cntA xb xn xf tl u₉ kd pr (mLong r₉) hs x₉) := by
  refine CT.of2 (own := RX11) (by decide) rfl (Nat.le_of_ble_eq_true rfl) ?_
  intro p e R s m args below meth c Q hF hr hlk hnm hz hR hQ
  obtain ⟨nw, pa, rf, sn, eo, bo, rr, rz, hi₉, mi, ak, rt, cn, z101, z102, z103, z104, z105, z106, z107, z108, z126, ⟨⟨g109, z109⟩, ⟨g110, z110⟩, ⟨g111, z111⟩, ⟨g112, z112⟩, ⟨g113, z113⟩, ⟨g114, z114⟩, ⟨g115, z115⟩, ⟨g116, z116⟩, ⟨g117, z117⟩, ⟨g118, z118⟩, ⟨g119, z119⟩, ⟨g120, z120⟩, ⟨g121, z121⟩, ⟨g122, z122⟩, ⟨g123, z123⟩, ⟨g124, z124⟩, ⟨g125, z125⟩⟩, hnw, hpa, hrf, hrr, hMA⟩ := hS₉
  obtain ⟨⟨hrw, hu, hkd, hpr⟩, hhs, hyy, htl, htx, hxb, hxn, hxf, hq1, hq2, hq3, hwf, hdp3, hl80, hl24⟩ := hO
  have hrw3 := vrow_up hrw (show u₉ ≤ 3 by omega)
  have hrr0 := hrw.1
  obtain ⟨n0₉, n1₉, n2₉, n3₉, n4₉, n5₉, n6₉⟩ := id hnw
  have gl := mLong_rg r₉
  obtain rfl | rfl | rfl | rfl | rfl | rfl | rfl | rfl | rfl : x₉ = 0 ∨ x₉ = 1 ∨ x₉ = 2 ∨ x₉ = 3 ∨ x₉ = 4 ∨ x₉ = 5 ∨ x₉ = 6 ∨ x₉ = 7 ∨ x₉ = 8 := by omega
  · refine go_iload_n (pc := 0) hF dX11_counted_0 1 rfl ?_
    refine go_tableOut (pc := 1) hF 79 dX11_counted_1 ⟨by decide, by decide⟩ (by decide) (by decide) ?_
    refine go_aload_n (pc := 79) hF dX11_counted_79 0 rfl ?_
    refine go_get (pc := 80) hF fl_X11_16 dX11_counted_80 (by omega) z101 rfl ?_
    refine go_iload_n (pc := 83) hF dX11_counted_83 1 rfl ?_
    refine go_iald (pc := 84) hF dX11_counted_84 (by omega) z104 (by omega)  ?_
    exact go_iretQ hF hr hlk hQ dX11_counted_85 ⟨hrf.1, rfl⟩
  · refine go_iload_n (pc := 0) hF dX11_counted_0 1 rfl ?_
    refine go_tableOut (pc := 1) hF 79 dX11_counted_1 ⟨by decide, by decide⟩ (by decide) (by decide) ?_
    refine go_aload_n (pc := 79) hF dX11_counted_79 0 rfl ?_
    refine go_get (pc := 80) hF fl_X11_16 dX11_counted_80 (by omega) z101 rfl ?_
    refine go_iload_n (pc := 83) hF dX11_counted_83 1 rfl ?_
    refine go_iald (pc := 84) hF dX11_counted_84 (by omega) z104 (by omega)  ?_
    exact go_iretQ hF hr hlk hQ dX11_counted_85 ⟨hrf.2.1, rfl⟩
  · refine go_iload_n (pc := 0) hF dX11_counted_0 1 rfl ?_
    refine go_tableOut (pc := 1) hF 79 dX11_counted_1 ⟨by decide, by decide⟩ (by decide) (by decide) ?_
    refine go_aload_n (pc := 79) hF dX11_counted_79 0 rfl ?_
    refine go_get (pc := 80) hF fl_X11_16 dX11_counted_80 (by omega) z101 rfl ?_
    refine go_iload_n (pc := 83) hF dX11_counted_83 1 rfl ?_
    refine go_iald (pc := 84) hF dX11_counted_84 (by omega) z104 (by omega)  ?_
    exact go_iretQ hF hr hlk hQ dX11_counted_85 ⟨hrf.2.2, rfl⟩
  · refine go_iload_n (pc := 0) hF dX11_counted_0 1 rfl ?_
    refine go_tableIn (pc := 1) hF 40 dX11_counted_1 ⟨by decide, by decide⟩ (by decide) rfl (by decide) ?_
    refine go_aload_n (pc := 40) hF dX11_counted_40 0 rfl ?_
    refine go_get (pc := 41) hF fl_X11_151 dX11_counted_41 (by omega) z101 rfl ?_
    exact go_iretQ hF hr hlk hQ dX11_counted_44 ⟨rfl, rfl⟩
  · refine go_iload_n (pc := 0) hF dX11_counted_0 1 rfl ?_
    refine go_tableIn (pc := 1) hF 45 dX11_counted_1 ⟨by decide, by decide⟩ (by decide) rfl (by decide) ?_
    refine go_aload_n (pc := 45) hF dX11_counted_45 0 rfl ?_
    refine go_get (pc := 46) hF fl_X11_7 dX11_counted_46 (by omega) z101 rfl ?_
    refine go_iconst (pc := 49) hF dX11_counted_49 ?_
    refine go_iald (pc := 50) hF dX11_counted_50 (by omega) z102 (by omega)  ?_
    exact go_iretQ hF hr hlk hQ dX11_counted_51 ⟨n4₉, rfl⟩
  · refine go_iload_n (pc := 0) hF dX11_counted_0 1 rfl ?_
    refine go_tableIn (pc := 1) hF 52 dX11_counted_1 ⟨by decide, by decide⟩ (by decide) rfl (by decide) ?_
    refine go_aload_n (pc := 52) hF dX11_counted_52 0 rfl ?_
    refine go_get (pc := 53) hF fl_X11_7 dX11_counted_53 (by omega) z101 rfl ?_
    refine go_iconst (pc := 56) hF dX11_counted_56 ?_
    refine go_iald (pc := 57) hF dX11_counted_57 (by omega) z102 (by omega)  ?_
    exact go_iretQ hF hr hlk hQ dX11_counted_58 ⟨n5₉, rfl⟩
  · refine go_iload_n (pc := 0) hF dX11_counted_0 1 rfl ?_
    refine go_tableIn (pc := 1) hF 59 dX11_counted_1 ⟨by decide, by decide⟩ (by decide) rfl (by decide) ?_
    refine go_aload_n (pc := 59) hF dX11_counted_59 0 rfl ?_
    refine go_get (pc := 60) hF fl_X11_7 dX11_counted_60 (by omega) z101 rfl ?_
    refine go_bipush (pc := 63) hF dX11_counted_63 (by decide) ?_
    refine go_iald (pc := 65) hF dX11_counted_65 (by omega) z102 (by omega)  ?_
    exact go_iretQ hF hr hlk hQ dX11_counted_66 ⟨n6₉, rfl⟩
  · refine go_iload_n (pc := 0) hF dX11_counted_0 1 rfl ?_
    refine go_tableIn (pc := 1) hF 67 dX11_counted_1 ⟨by decide, by decide⟩ (by decide) rfl (by decide) ?_
    refine go_aload_n (pc := 67) hF dX11_counted_67 0 rfl ?_
    refine go_get (pc := 68) hF fl_X11_7 dX11_counted_68 (by omega) z101 rfl ?_
    refine go_iconst (pc := 71) hF dX11_counted_71 ?_
    refine go_iald (pc := 72) hF dX11_counted_72 (by omega) z102 (by omega)  ?_
    exact go_iretQ hF hr hlk hQ dX11_counted_73 ⟨n0₉, rfl⟩
  · refine go_iload_n (pc := 0) hF dX11_counted_0 1 rfl ?_
    refine go_tableIn (pc := 1) hF 74 dX11_counted_1 ⟨by decide, by decide⟩ (by decide) rfl (by decide) ?_
    refine go_aload_n (pc := 74) hF dX11_counted_74 0 rfl ?_
    refine go_get (pc := 75) hF fl_X11_114 dX11_counted_75 (by omega) z101 rfl ?_
    exact go_iretQ hF hr hlk hQ dX11_counted_78 ⟨rfl, rfl⟩
set_option maxHeartbeats 4000000 in
set_option maxRecDepth 100000 in
theorem c_X11_count_ok (E : En) (N : Nat) (σ : Nat → va_E) (r₉ u₉ kd pr : Int) (yr yw yk yp : Int → Int) (hs : Int) (tx : Int → Int) (tl : Int) (t₉ : Tr) (xb xn xf q1₉ q2₉ q3₉ : Int) (hN₉ : 120 ≤ N) (hO : okS r₉ u₉ kd pr yr yw yk yp hs tx tl t₉ xb xn xf q1₉ q2₉ q3₉) (hS₉ : mdS E σ r₉ u₉ kd pr yr yw yk yp hs tx tl t₉ xb xn xf q1₉ q2₉ q3₉) (x₉ : Int) (hx : 0 ≤ x₉ ∧ x₉ ≤ 8) : CI E M_X11_count 16 [vr E 94, vi x₉] N σ (fun y₉ σ' => y₉ = cntA xb xn xf tl u₉ kd pr (mLong r₉) hs x₉ ∧ mdS E σ' r₉ u₉ kd pr yr yw yk yp hs tx tl t₉ xb xn xf q1₉ q2₉ q3₉ ∧ ∀ q₉, q₉ < 94 → σ' q₉ = σ q₉) := by
  refine CT.of2 (own := RX11) (by decide) rfl (Nat.le_of_ble_eq_true rfl) ?_
  intro p e R s m args below meth c Q hF hr hlk hnm hz hR hQ
  obtain ⟨_, _, _, _, _, _, _, _, _, _, _, _, _, hob, -⟩ := id hS₉
  refine go_iload_n (pc := 0) hF dX11_count_0 1 rfl ?_
  refine go_i2l (pc := 1) hF dX11_count_1 (by omega) ?_
  refine go_lconst (pc := 2) (v := 0) hF dX11_count_2 (by decide) ?_
  refine go_ldc2 (pc := 3) hF kc_X11_315 dX11_count_3 ?_
  refine go_callSP (pc := 6) hF [vl x₉, vl 0, vl 8] [] ms_X11_89 dX11_count_6 (c_X11_in E N σ x₉ 0 8 (by omega) ⟨by decide, by decide⟩ ⟨by decide, by decide⟩) rfl rfl (Nat.le_of_ble_eq_true rfl) (by decide) ⟨Nat.zero_le _, Nat.zero_le _⟩ ?_
  refine go_if_eq (pc := 9) hF 20 dX11_count_9 (by decide) (bI_rg _) (fun bq9 => ?_) (fun bq9 => ?_)
  · exact absurd ((bI_0 _).mp bq9) (by omega)
  · refine go_aload_n (pc := 12) hF dX11_count_12 0 rfl ?_
    refine go_iload_n (pc := 13) hF dX11_count_13 1 rfl ?_
    refine go_callVP (pc := 14) hF [vi x₉] [] mv_X11_317 dX11_count_14 (by omega) hob (c_X11_counted E N σ r₉ u₉ kd pr yr yw yk yp hs tx tl t₉ xb xn xf q1₉ q2₉ q3₉ hN₉ hO hS₉ x₉ (by omega)) rfl rfl (Nat.le_of_ble_eq_true rfl) (by decide) ⟨Nat.zero_le _, Nat.zero_le _⟩ ?_
    refine go_goto (pc := 17) hF 24 dX11_count_17 (by decide) ?_
    exact go_iretQ hF hr hlk hQ dX11_count_24 ⟨rfl, hS₉, fun _ _ => rfl⟩
