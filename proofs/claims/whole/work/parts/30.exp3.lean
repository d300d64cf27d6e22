/-! Explorer: rows₉. -/
def updN (nw : Int → Nat) (d₉ : Int) (x₉ : Nat) : Int → Nat := fun z₉ => if z₉ = d₉ then x₉ else nw z₉
theorem updN_eq (nw : Int → Nat) (d₉ : Int) (x₉ : Nat) : up (fun z₉ => (nw z₉ : Int)) d₉ (x₉ : Int) = fun z₉ => ((updN nw d₉ x₉ z₉ : Nat) : Int) := by
  funext z₉
  unfold up updN
  split <;> rfl
theorem updN_ne {nw : Int → Nat} {d₉ z₉ : Int} {x₉ : Nat} (h : z₉ ≠ d₉) : updN nw d₉ x₉ z₉ = nw z₉ := if_neg h
theorem updN_self {nw : Int → Nat} {d₉ : Int} {x₉ : Nat} : updN nw d₉ x₉ d₉ = x₉ := if_pos rfl
theorem okN.swap {nw : Int → Nat} {un : Nat} (h : okN nw un) {d₉ : Int} (hd₉ : 0 ≤ d₉ ∧ d₉ ≤ 3) : okN (updN nw d₉ un) (nw d₉) := by
  obtain ⟨h1, h2, h3⟩ := h
  refine ⟨fun z₉ k1₉ k2₉ => ?_, (h1 d₉ hd₉.1 hd₉.2).1, fun z₉ z' k1₉ k2₉ k3₉ k4₉ e => ?_⟩
  · by_cases hz : z₉ = d₉
    · subst hz; rw [updN_self]; exact ⟨h2, fun e => (h1 z₉ k1₉ k2₉).2 e.symm⟩
    · rw [updN_ne hz]; exact ⟨(h1 z₉ k1₉ k2₉).1, fun e => hz (h3 z₉ d₉ k1₉ k2₉ hd₉.1 hd₉.2 e)⟩
  · by_cases hz : z₉ = d₉ <;> by_cases hz' : z' = d₉
    · omega
    · subst hz; rw [updN_self, updN_ne hz'] at e; exact absurd e.symm (h1 z' k3₉ k4₉).2
    · subst hz'; rw [updN_self, updN_ne hz] at e; exact absurd e (h1 z₉ k1₉ k2₉).2
    · rw [updN_ne hz, updN_ne hz'] at e; exact h3 z₉ z' k1₉ k2₉ k3₉ k4₉ e
theorem img_look {u₉ kd pr c : Int} {S₉ : XS} (h : vS u₉ S₉) (hc₉ : 97 ≤ c ∧ c ≤ 102) (hu : 1 ≤ u₉ ∧ u₉ ≤ 3) (hk : 0 ≤ kd ∧ kd ≤ 3) (R k₉ : Int) : (∃ a₉ b₉, img S₉ a₉ b₉ ∧ R = cAfter a₉ (c - 97) u₉ kd ∧ k₉ = b₉ + cCost a₉ (c - 97) pr) ↔ img (xLook u₉ kd pr c S₉) R k₉ := by
  unfold xLook
  rw [if_neg (by omega)]
  constructor
  · rintro ⟨_, b₉, ⟨r₉, hr, rfl⟩, h1, h2⟩
    obtain ⟨k1₉, k2₉, k3₉⟩ := row_ok (x₉ := c - 97) (h r₉ b₉ hr) (by omega) hu hk
    refine ⟨_, ⟨r₉, b₉, hr, rfl, ?_⟩, by rw [h1, k2₉]⟩
    rw [h2]; unfold cCost; rw [k1₉]
  · rintro ⟨_, ⟨r₉, b₉, hr, rfl, h2⟩, h1⟩
    obtain ⟨k1₉, k2₉, k3₉⟩ := row_ok (x₉ := c - 97) (h r₉ b₉ hr) (by omega) hu hk
    refine ⟨en r₉, b₉, ⟨r₉, hr, rfl⟩, by rw [h1, k2₉], ?_⟩
    rw [h2]; unfold cCost; rw [k1₉]
theorem img_work {u₉ kd pr c : Int} {S₉ : XS} (hc₉ : c = 46) (R k₉ : Int) : img S₉ R (k₉ - 1) ↔ img (xLook u₉ kd pr c S₉) R k₉ := by
  unfold xLook
  rw [if_pos hc₉]
  exact Iff.rfl
set_option maxHeartbeats 4000000 in
set_option maxRecDepth 100000 in
theorem exp_step (E : En) (N D₉ : Nat) (IH₉ : ∀ D9, D₉ = D9 + 1 → ExpRow E N D9) : ExpRow E N D₉ := by
  intro t₉ σ sg vl mt₉ lw ll la sz₉ lk₉ chs lps dp ln o k₉ lp dl nw un kn₉ r0 u₉ kd pr B₉ S₉ hN₉ hp ho hwf hdp hpa0 ho1 hk1 hdl hu hkd hpr hB₉ hok hx hst hvS hS₉ hall
  refine CT.of2 (own := RX2) (by decide) rfl (Nat.le_of_ble_eq_true rfl) ?_
  intro p e R s m args below meth c Q hF hr hlk hnm hz hR hQ
  refine go_iload (pc := 0) hF dX2_exploreRow_0 4 rfl ?_
  refine go_iconst (pc := 2) hF dX2_exploreRow_2 ?_
  refine go_iconst (pc := 3) hF dX2_exploreRow_3 ?_
  refine go_callNP (pc := 4) hF [vi (dl : Int), vi 0, vi 3] [] mn_X2_72 dX2_exploreRow_4 (c_X10_isWithin E N σ (dl : Int) 0 3 (by omega) ⟨by decide, by decide⟩ ⟨by decide, by decide⟩) rfl rfl (Nat.le_of_ble_eq_true rfl) (by omega) ⟨Nat.zero_le _, Nat.zero_le _⟩ ?_
  refine go_if_ne (pc := 7) hF 11 dX2_exploreRow_7 (by decide) (bI_rg _) (fun bq7 => ?_) (fun bq7 => ?_)
  · refine go_iload_n (pc := 11) hF dX2_exploreRow_11 2 rfl ?_
    refine go_istore (pc := 12) hF [(5, vi o), (0, vr E 56), (1, vr E 23), (2, vi o), (3, vi (o + (tLen t₉ : Int))), (4, vi (dl : Int))] dX2_exploreRow_12 rfl (by decide) ?_
    have hsz := ho.1
    have loop₉ : ∀ tt, wf tt → ∀ (oo kk : Int) (nwv : Int → Nat) (unv : Nat) (b₉ : Int) (X₉ : XS) (τ : Nat → va_E), tDep tt ≤ D₉ → tDep tt + dl ≤ 3 → PA₉ sg vl mt₉ lw ll la tt oo kk lp → (0 ≤ oo ∧ oo + tLen tt = o + tLen t₉) → (0 ≤ kk ∧ kk + tLks tt ≤ lk₉) → (0 ≤ b₉ ∧ b₉ + cB₉ tt = B₉ + cB₉ t₉) → okN nwv unv → (∀ d₉ : Int, d₉ < dl → nwv d₉ = nw d₉) → isEx E τ nwv unv kn₉ → frI E τ (nwv dl) (img X₉) b₉ → vS u₉ X₉ → ex₉ u₉ kd pr tt X₉ = ex₉ u₉ kd pr t₉ S₉ → allF E τ → (∀ d₉ : Int, 0 ≤ d₉ → d₉ < dl → ∀ q₉, nw d₉ ≤ q₉ → q₉ ≤ nw d₉ + 3 → τ q₉ = σ q₉) → (∀ d₉ : Nat, d₉ < dl → ∀ q₉, 80 + 4 * d₉ ≤ q₉ → q₉ ≤ 83 + 4 * d₉ → τ q₉ = σ q₉) → (∀ jj : Nat, (jj < 56 ∨ 91 < jj ∨ jj = 63) → τ jj = σ jj) → Go E p e R s m args below meth c Q 8 (0, 0) N τ [(5, vi oo), (0, vr E 56), (1, vr E 23), (2, vi o), (3, vi (o + (tLen t₉ : Int))), (4, vi (dl : Int))] [] 14 := by
      refine tInd ?_ ?_ ?_ ?_
      · intro oo kk nwv unv b₉ X₉ τ hd1 hd2 hpa hoo hkk hb₉ okv eq_b hxv hXf hvX hX hallv frd_loop fra_loop fr_loop
        have eq_nil : tLen Std.Format.nil = 0 := rfl
        have hpl := hp.keep (fun jj h1 h2 => fr_loop jj (by omega))
        have hstl := (fr_loop 63 (by omega)).trans hst
        have p0₉ := okv.1 (dl : Int) (by omega) (by omega)
        have ra := pool_rg p0₉.1
        have rb := pool_66 p0₉.1
        have pu := pool_rg okv.2.1
        have pv6 := pool_66 okv.2.1
        have apu := front_apart (Or.inl p0₉.1) (Or.inl okv.2.1) p0₉.2
        refine go_iload (pc := 14) hF dX2_exploreRow_14 0 rfl ?_
        refine go_iload_n (pc := 16) hF dX2_exploreRow_16 4 rfl ?_
        refine go_icmp_ge (pc := 17) hF 147 dX2_exploreRow_17 (by decide) (by omega) (by omega) (fun bq17 => ?_) (fun bq17 => ?_)
        · have e0₉ : B₉ + (cB₉ t₉ : Int) = b₉ := by have e1₉ : cB₉ Std.Format.nil = 0 := rfl; omega
          exact go_vretQ hF hr hlk hQ dX2_exploreRow_147 ⟨nwv, unv, okv, eq_b, hxv, by rw [← hX, e0₉]; exact hXf, hallv, fr_loop, frd_loop, fra_loop⟩
        · exact absurd bq17 (by omega)
      · intro cx rt hcx hwr ih₉
        have eq_tLen : tLen (Std.Format.append (Std.Format.nest cx Std.Format.nil) rt) = 1 + tLen rt := rfl
        have eq_tDep : tDep (Std.Format.append (Std.Format.nest cx Std.Format.nil) rt) = tDep rt := rfl
        have eq_tLks : tLks (Std.Format.append (Std.Format.nest cx Std.Format.nil) rt) = (if cx = 46 then 0 else 1) + tLks rt := rfl
        by_cases hc46 : cx = 46
        · intro oo kk nwv unv b₉ X₉ τ hd1 hd2 hpa hoo hkk hb₉ okv eq_b hxv hXf hvX hX hallv frd_loop fra_loop fr_loop
          obtain ⟨pa1, par_⟩ := hpa
          rw [if_pos hc46] at pa1 eq_tLks
          have eq_cB : cB₉ (Std.Format.append (Std.Format.nest cx Std.Format.nil) rt) = 99 + cB₉ rt := rfl
          have hpl := hp.keep (fun jj h1 h2 => fr_loop jj (by omega))
          have hstl := (fr_loop 63 (by omega)).trans hst
          have p0₉ := okv.1 (dl : Int) (by omega) (by omega)
          have ra := pool_rg p0₉.1
          have rb := pool_66 p0₉.1
          have pu := pool_rg okv.2.1
          have pv6 := pool_66 okv.2.1
          have apu := front_apart (Or.inl p0₉.1) (Or.inl okv.2.1) p0₉.2
          refine go_iload (pc := 14) hF dX2_exploreRow_14 0 rfl ?_
          refine go_iload_n (pc := 16) hF dX2_exploreRow_16 4 rfl ?_
          refine go_icmp_ge (pc := 17) hF 147 dX2_exploreRow_17 (by decide) (by omega) (by omega) (fun bq17 => ?_) (fun bq17 => ?_)
          · exact absurd bq17 (by omega)
          · refine go_aload_n (pc := 20) hF dX2_exploreRow_20 2 rfl ?_
            refine go_iload (pc := 21) hF dX2_exploreRow_21 0 rfl ?_
            have cm_k1 : CP E M_X6_signAt 2 [vr E 23, vi oo] N τ (1) := by
              have h := c_X6_signAt E N τ 23 oo (by omega) (by omega) hpl ho
              rw [show gSign sg sz₉ oo = 1 from by unfold gSign; rw [if_pos (by omega)]; exact pa1] at h
              exact h
            refine go_callVP (pc := 23) hF [vi oo] [] mv_X2_76 dX2_exploreRow_23 (by omega) hpl.1 cm_k1 rfl rfl (Nat.le_of_ble_eq_true rfl) (by omega) ⟨Nat.zero_le _, Nat.zero_le _⟩ ?_
            refine go_istore (pc := 26) hF [(6, vi 1), (5, vi oo), (0, vr E 56), (1, vr E 23), (2, vi o), (3, vi (o + (tLen t₉ : Int))), (4, vi (dl : Int))] dX2_exploreRow_26 rfl (by decide) ?_
            refine go_iload (pc := 28) hF dX2_exploreRow_28 0 rfl ?_
            refine go_if_ne (pc := 30) hF 85 dX2_exploreRow_30 (by decide) ⟨by decide, by decide⟩ (fun bq30 => ?_) (fun bq30 => ?_)
            · refine go_iload (pc := 85) hF dX2_exploreRow_85 0 rfl ?_
              refine go_iconst (pc := 87) hF dX2_exploreRow_87 ?_
              refine go_icmp_ne (pc := 88) hF 104 dX2_exploreRow_88 (by decide) ⟨by decide, by decide⟩ ⟨by decide, by decide⟩ (fun bq88 => ?_) (fun bq88 => ?_)
              · exact absurd bq88 (by decide)
              · refine go_aload_n (pc := 91) hF dX2_exploreRow_91 2 rfl ?_
                refine go_get (pc := 92) hF fl_X2_11 dX2_exploreRow_92 (by omega) hxv.1 rfl ?_
                refine go_iload (pc := 95) hF dX2_exploreRow_95 6 rfl ?_
                refine go_aald (pc := 97) hF 5 (nwv (dl)) dX2_exploreRow_97 rfl (by omega) hxv.2.1 (by omega) rfl ?_
                obtain ⟨fs_s2, hc_s2⟩ := (hallv (nwv (dl)) (Or.inl p0₉.1)).cell
                refine go_callVV (pc := 98) hF [] [] mv_X2_90 dX2_exploreRow_98 (show nwv (dl) < N by omega) hc_s2 (c_X4_work E N τ (nwv (dl)) (img X₉) b₉ (by omega) hXf (by omega)) rfl rfl (Nat.le_of_ble_eq_true rfl) (by omega) ⟨Nat.zero_le _, Nat.zero_le _⟩ (fun s2₉ h_s2 => ?_)
                obtain ⟨u_s2, f_s2⟩ := h_s2
                have all_s2 := hallv.step (Or.inl p0₉.1) u_s2 (by omega) f_s2
                have t_s2 := hpl.keep (fun jj h1 h2 => f_s2 jj (by omega))
                have st_s2 := (f_s2 63 (by omega)).trans hstl
                have ex_s2 := (f_s2 56 (by omega)).trans hxv.1
                have xn_s2 := (f_s2 57 (by omega)).trans hxv.2.1
                have xa_s2 := (f_s2 58 (by omega)).trans hxv.2.2
                refine go_goto (pc := 101) hF 141 dX2_exploreRow_101 (by decide) ?_
                refine go_iinc (pc := 141) hF [(5, vi (oo + 1)), (6, vi 1), (0, vr E 56), (1, vr E 23), (2, vi o), (3, vi (o + (tLen t₉ : Int))), (4, vi (dl : Int))] dX2_exploreRow_141 1 rfl rfl (by decide) ?_
                refine go_goto (pc := 144) hF 14 dX2_exploreRow_144 (by decide) ?_
                refine go_lv [(5, vi (oo + 1)), (0, vr E 56), (1, vr E 23), (2, vi o), (3, vi (o + (tLen t₉ : Int))), (4, vi (dl : Int))] [0, 2, 3, 4, 5, 6] rfl ?_
                exact ih₉ (oo + 1) kk nwv unv (b₉ + 99) (xLook u₉ kd pr cx X₉) s2₉ (by omega) (by omega) (by rw [if_pos hc46, Int.add_zero] at par_; exact par_) (by omega) (by omega) (by have e1₉ : cB₉ (Std.Format.append (Std.Format.nest cx Std.Format.nil) rt) = 99 + cB₉ rt := rfl; omega) okv eq_b ⟨ex_s2, xn_s2, xa_s2⟩ ((u_s2.wide (by omega)).iff (img_work hc46)) (vS_look hvX hcx hu hkd) hX all_s2 (fun d₉ h1 h2 jj h3 h4 => by have en_b := eq_b d₉ h2; have ap1 := okv.apart (d₉ := d₉) (d' := (dl : Int)) (by omega) (by omega) (by omega); have pd := okv.1 d₉ h1 (by omega); have ap2 := front_apart (Or.inl pd.1) (Or.inl okv.2.1) pd.2; have rd₉ := pool_rg pd.1; rw [f_s2 jj (by omega), frd_loop d₉ h1 h2 jj h3 h4]) (fun d₉ h1 jj h3 h4 => by have ap1 := pool_ahead (d₉ := d₉) p0₉.1 (by omega); have ap2 := pool_ahead (d₉ := d₉) okv.2.1 (by omega); rw [f_s2 jj (by omega), fra_loop d₉ h1 jj h3 h4]) (fun jj hjj => by rw [f_s2 jj (by omega), fr_loop jj (by omega)])
            · exact absurd bq30 (by decide)
        · intro oo kk nwv unv b₉ X₉ τ hd1 hd2 hpa hoo hkk hb₉ okv eq_b hxv hXf hvX hX hallv frd_loop fra_loop fr_loop
          obtain ⟨pa1, par_⟩ := hpa
          rw [if_neg hc46] at pa1 eq_tLks
          have hc9 : 97 ≤ cx ∧ cx ≤ 102 := by unfold okc at hcx; omega
          have hlk24 := ho.2.1
          have eq_cB : cB₉ (Std.Format.append (Std.Format.nest cx Std.Format.nil) rt) = 99 + cB₉ rt := rfl
          have hpl := hp.keep (fun jj h1 h2 => fr_loop jj (by omega))
          have hstl := (fr_loop 63 (by omega)).trans hst
          have p0₉ := okv.1 (dl : Int) (by omega) (by omega)
          have ra := pool_rg p0₉.1
          have rb := pool_66 p0₉.1
          have pu := pool_rg okv.2.1
          have pv6 := pool_66 okv.2.1
          have apu := front_apart (Or.inl p0₉.1) (Or.inl okv.2.1) p0₉.2
          refine go_iload (pc := 14) hF dX2_exploreRow_14 0 rfl ?_
          refine go_iload_n (pc := 16) hF dX2_exploreRow_16 4 rfl ?_
          refine go_icmp_ge (pc := 17) hF 147 dX2_exploreRow_17 (by decide) (by omega) (by omega) (fun bq17 => ?_) (fun bq17 => ?_)
          · exact absurd bq17 (by omega)
          · refine go_aload_n (pc := 20) hF dX2_exploreRow_20 2 rfl ?_
            refine go_iload (pc := 21) hF dX2_exploreRow_21 0 rfl ?_
            have cm_k3 : CP E M_X6_signAt 2 [vr E 23, vi oo] N τ (0) := by
              have h := c_X6_signAt E N τ 23 oo (by omega) (by omega) hpl ho
              rw [show gSign sg sz₉ oo = 0 from by unfold gSign; rw [if_pos (by omega)]; exact pa1.1] at h
              exact h
            refine go_callVP (pc := 23) hF [vi oo] [] mv_X2_76 dX2_exploreRow_23 (by omega) hpl.1 cm_k3 rfl rfl (Nat.le_of_ble_eq_true rfl) (by omega) ⟨Nat.zero_le _, Nat.zero_le _⟩ ?_
            refine go_istore (pc := 26) hF [(6, vi 0), (5, vi oo), (0, vr E 56), (1, vr E 23), (2, vi o), (3, vi (o + (tLen t₉ : Int))), (4, vi (dl : Int))] dX2_exploreRow_26 rfl (by decide) ?_
            refine go_iload (pc := 28) hF dX2_exploreRow_28 0 rfl ?_
            refine go_if_ne (pc := 30) hF 85 dX2_exploreRow_30 (by decide) ⟨by decide, by decide⟩ (fun bq30 => ?_) (fun bq30 => ?_)
            · exact absurd bq30 (by decide)
            · refine go_aload_n (pc := 33) hF dX2_exploreRow_33 2 rfl ?_
              refine go_get (pc := 34) hF fl_X2_11 dX2_exploreRow_34 (by omega) hxv.1 rfl ?_
              refine go_iload (pc := 37) hF dX2_exploreRow_37 6 rfl ?_
              refine go_aald (pc := 39) hF 5 (nwv (dl)) dX2_exploreRow_39 rfl (by omega) hxv.2.1 (by omega) rfl ?_
              refine go_astore (pc := 40) hF [(7, vr E (nwv (dl))), (6, vi 0), (5, vi oo), (0, vr E 56), (1, vr E 23), (2, vi o), (3, vi (o + (tLen t₉ : Int))), (4, vi (dl : Int))] dX2_exploreRow_40 rfl (by decide) ?_
              refine go_aload_n (pc := 42) hF dX2_exploreRow_42 3 rfl ?_
              refine go_get (pc := 43) hF fl_X2_21 dX2_exploreRow_43 (by omega) hxv.1 rfl ?_
              refine go_aload (pc := 46) hF dX2_exploreRow_46 0 rfl ?_
              refine go_aload_n (pc := 48) hF dX2_exploreRow_48 4 rfl ?_
              refine go_aload_n (pc := 49) hF dX2_exploreRow_49 4 rfl ?_
              refine go_iload (pc := 50) hF dX2_exploreRow_50 2 rfl ?_
              have cm_k4 : CP E M_X6_valueAt 2 [vr E 23, vi oo] N τ (kk) := by
                have h := c_X6_valueAt E N τ 23 oo (by omega) (by omega) hpl ho
                rw [show gVal vl sz₉ oo = kk from by unfold gVal; rw [if_pos (by omega)]; exact pa1.2.1] at h
                exact h
              refine go_callVP (pc := 52) hF [vi oo] [vr E 23, vr E (nwv (dl)), vr E unv] mv_X2_80 dX2_exploreRow_52 (by omega) hpl.1 cm_k4 rfl rfl (Nat.le_of_ble_eq_true rfl) (by omega) ⟨Nat.zero_le _, Nat.zero_le _⟩ ?_
              have cm_k5 : CP E M_X6_lineOfLook 2 [vr E 23, vi kk] N τ (cx - 97) := by
                have h := c_X6_lineOfLook E N τ 23 kk (by omega) (by omega) hpl ho
                rw [show gLine ll lk₉ kk = cx - 97 from by unfold gLine; rw [if_pos (by omega)]; exact pa1.2.2.1] at h
                exact h
              refine go_callVP (pc := 55) hF [vi kk] [vr E (nwv (dl)), vr E unv] mv_X2_83 dX2_exploreRow_55 (by omega) hpl.1 cm_k5 rfl rfl (Nat.le_of_ble_eq_true rfl) (by omega) ⟨Nat.zero_le _, Nat.zero_le _⟩ ?_
              refine go_aload_n (pc := 58) hF dX2_exploreRow_58 3 rfl ?_
              refine go_get (pc := 59) hF fl_X2_28 dX2_exploreRow_59 (by omega) hxv.1 rfl ?_
              obtain ⟨fs_s6, hc_s6⟩ := (hallv unv (Or.inl okv.2.1)).cell
              obtain ⟨Su, Bu, hfu, hBu⟩ := hallv unv (Or.inl okv.2.1)
              refine go_callVV (pc := 62) hF [vr E (nwv (dl)), vi (cx - 97), vr E 63] [] mv_X2_86 dX2_exploreRow_62 (show unv < N by omega) hc_s6 (c_X4_setAfterLook E N τ unv (nwv (dl)) 63 Su (img X₉) Bu b₉ (cx - 97) r0 u₉ kd pr (by omega) (by omega) (by omega) (by omega) (by omega) hstl (by omega) hu hkd hpr (by omega) hfu hXf (by omega)) rfl rfl (Nat.le_of_ble_eq_true rfl) (by omega) ⟨Nat.zero_le _, Nat.zero_le _⟩ (fun s6₉ h_s6 => ?_)
              obtain ⟨u_s6, f_s6⟩ := h_s6
              have all_s6 := hallv.step (Or.inl okv.2.1) u_s6 (by omega) f_s6
              have cell_s6 : ∃ fs, s6₉ unv = ob 4 fs := (all_s6 unv (Or.inl okv.2.1)).cell
              obtain ⟨fz_s6, hz_s6⟩ := cell_s6
              have t_s6 := hpl.keep (fun jj h1 h2 => f_s6 jj (by omega))
              have st_s6 := (f_s6 63 (by omega)).trans hstl
              have ex_s6 := (f_s6 56 (by omega)).trans hxv.1
              have xn_s6 := (f_s6 57 (by omega)).trans hxv.2.1
              have xa_s6 := (f_s6 58 (by omega)).trans hxv.2.2
              refine go_aload_n (pc := 65) hF dX2_exploreRow_65 3 rfl ?_
              refine go_get (pc := 66) hF fl_X2_11 dX2_exploreRow_66 (by omega) ex_s6 rfl ?_
              refine go_iload (pc := 69) hF dX2_exploreRow_69 7 rfl ?_
              refine go_aload_n (pc := 71) hF dX2_exploreRow_71 3 rfl ?_
              refine go_get (pc := 72) hF fl_X2_21 dX2_exploreRow_72 (by omega) ex_s6 rfl ?_
              refine go_aast (pc := 75) hF 5 4 dX2_exploreRow_75 rfl rfl (by omega) xn_s6 (show unv < N by omega) hz_s6 (by omega) (fun s7 u_s7 f_s7 => ?_)
              rw [updN_eq] at u_s7
              have t_s7 := t_s6.keep (fun jj h1 h2 => f_s7 jj (by omega))
              have st_s7 := (f_s7 63 (by omega)).trans st_s6
              have ex_s7 := (f_s7 56 (by omega)).trans ex_s6
              have xa_s7 := (f_s7 58 (by omega)).trans xa_s6
              refine go_aload_n (pc := 76) hF dX2_exploreRow_76 3 rfl ?_
              refine go_aload (pc := 77) hF dX2_exploreRow_77 0 rfl ?_
              refine go_put (pc := 79) hF [vr E 57, vr E 58, vr E (nwv (dl)), vr E 63, vi kn₉] fl_X2_21 dX2_exploreRow_79 (by omega) ex_s7 rfl rfl rfl (Nat.le_of_ble_eq_true rfl) (fun s8 u_s8 f_s8 => ?_)
              have t_s8 := t_s7.keep (fun jj h1 h2 => f_s8 jj (by omega))
              have st_s8 := (f_s8 63 (show 63 ≠ 56 by omega)).trans st_s7
              have xn_s8 := (f_s8 57 (show 57 ≠ 56 by omega)).trans u_s7
              have xa_s8 := (f_s8 58 (show 58 ≠ 56 by omega)).trans xa_s7
              refine go_goto (pc := 82) hF 141 dX2_exploreRow_82 (by decide) ?_
              refine go_iinc (pc := 141) hF [(5, vi (oo + 1)), (7, vr E (nwv (dl))), (6, vi 0), (0, vr E 56), (1, vr E 23), (2, vi o), (3, vi (o + (tLen t₉ : Int))), (4, vi (dl : Int))] dX2_exploreRow_141 2 rfl rfl (by decide) ?_
              refine go_goto (pc := 144) hF 14 dX2_exploreRow_144 (by decide) ?_
              refine go_lv [(5, vi (oo + 1)), (0, vr E 56), (1, vr E 23), (2, vi o), (3, vi (o + (tLen t₉ : Int))), (4, vi (dl : Int))] [0, 3, 4, 5, 6, 7] rfl ?_
              have allz := all_s6.keep (τ := s8) (fun jj h1 h2 h3 => by rw [f_s8 jj (by omega), f_s7 jj (by omega)])
              have ufz := u_s6.keep (τ := s8) (fun jj h1 h2 => by rw [f_s8 jj (by omega), f_s7 jj (by omega)])
              exact ih₉ (oo + 1) (kk + 1) (updN nwv dl unv) (nwv dl) (b₉ + 99) (xLook u₉ kd pr cx X₉) s8 (by omega) (by omega) (by rw [if_neg hc46] at par_; exact par_) (by omega) (by omega) (by have e1₉ : cB₉ (Std.Format.append (Std.Format.nest cx Std.Format.nil) rt) = 99 + cB₉ rt := rfl; omega) (okv.swap (by omega)) (fun d₉ h => by rw [updN_ne (by omega)]; exact eq_b d₉ h) ⟨u_s8, xn_s8, xa_s8⟩ (by rw [updN_self]; exact ufz.iff (img_look hvX hc9 hu hkd)) (vS_look hvX hcx hu hkd) hX allz (fun d₉ h1 h2 jj h3 h4 => by have en_b := eq_b d₉ h2; have ap1 := okv.apart (d₉ := d₉) (d' := (dl : Int)) (by omega) (by omega) (by omega); have pd := okv.1 d₉ h1 (by omega); have ap2 := front_apart (Or.inl pd.1) (Or.inl okv.2.1) pd.2; have rd₉ := pool_rg pd.1; rw [f_s8 jj (by omega), f_s7 jj (by omega), f_s6 jj (by omega), frd_loop d₉ h1 h2 jj h3 h4]) (fun d₉ h1 jj h3 h4 => by have ap1 := pool_ahead (d₉ := d₉) p0₉.1 (by omega); have ap2 := pool_ahead (d₉ := d₉) okv.2.1 (by omega); rw [f_s8 jj (by omega), f_s7 jj (by omega), f_s6 jj (by omega), fra_loop d₉ h1 jj h3 h4]) (fun jj hjj => by rw [f_s8 jj (by omega), f_s7 jj (by omega), f_s6 jj (by omega), fr_loop jj (by omega)])
      · intro ta_ tb_ rt hwa hwb hwr _ _ ih₉
        have eq_tLen : tLen (Std.Format.append (Std.Format.append ta_ tb_) rt) = 3 + tLen ta_ + tLen tb_ + tLen rt := rfl
        have eq_tDep : tDep (Std.Format.append (Std.Format.append ta_ tb_) rt) = max (1 + max (tDep ta_) (tDep tb_)) (tDep rt) := rfl
        have eq_tLks : tLks (Std.Format.append (Std.Format.append ta_ tb_) rt) = tLks ta_ + tLks tb_ + tLks rt := rfl
        by_cases hD0 : D₉ = 0
        · intro oo kk nwv unv b₉ X₉ τ hd1 hd2 hpa hoo hkk hb₉ okv eq_b hxv hXf hvX hX hallv frd_loop fra_loop fr_loop; exact absurd hd1 (by omega)
        · intro oo kk nwv unv b₉ X₉ τ hd1 hd2 hpa hoo hkk hb₉ okv eq_b hxv hXf hvX hX hallv frd_loop fra_loop fr_loop
          obtain ⟨D9, rfl⟩ : ∃ D9, D₉ = D9 + 1 := ⟨D₉ - 1, by omega⟩
          obtain ⟨pa1, paa, pab, par_⟩ := hpa
          have eq_cB : cB₉ (Std.Format.append (Std.Format.append ta_ tb_) rt) = cB₉ ta_ + cB₉ tb_ + cB₉ rt := rfl
          have hpl := hp.keep (fun jj h1 h2 => fr_loop jj (by omega))
          have hstl := (fr_loop 63 (by omega)).trans hst
          have p0₉ := okv.1 (dl : Int) (by omega) (by omega)
          have ra := pool_rg p0₉.1
          have rb := pool_66 p0₉.1
          have pu := pool_rg okv.2.1
          have pv6 := pool_66 okv.2.1
          have apu := front_apart (Or.inl p0₉.1) (Or.inl okv.2.1) p0₉.2
          refine go_iload (pc := 14) hF dX2_exploreRow_14 0 rfl ?_
          refine go_iload_n (pc := 16) hF dX2_exploreRow_16 4 rfl ?_
          refine go_icmp_ge (pc := 17) hF 147 dX2_exploreRow_17 (by decide) (by omega) (by omega) (fun bq17 => ?_) (fun bq17 => ?_)
          · exact absurd bq17 (by omega)
          · refine go_aload_n (pc := 20) hF dX2_exploreRow_20 2 rfl ?_
            refine go_iload (pc := 21) hF dX2_exploreRow_21 0 rfl ?_
            have cm_k9 : CP E M_X6_signAt 2 [vr E 23, vi oo] N τ (2) := by
              have h := c_X6_signAt E N τ 23 oo (by omega) (by omega) hpl ho
              rw [show gSign sg sz₉ oo = 2 from by unfold gSign; rw [if_pos (by omega)]; exact pa1.1] at h
              exact h
            refine go_callVP (pc := 23) hF [vi oo] [] mv_X2_76 dX2_exploreRow_23 (by omega) hpl.1 cm_k9 rfl rfl (Nat.le_of_ble_eq_true rfl) (by omega) ⟨Nat.zero_le _, Nat.zero_le _⟩ ?_
            refine go_istore (pc := 26) hF [(6, vi 2), (5, vi oo), (0, vr E 56), (1, vr E 23), (2, vi o), (3, vi (o + (tLen t₉ : Int))), (4, vi (dl : Int))] dX2_exploreRow_26 rfl (by decide) ?_
            refine go_iload (pc := 28) hF dX2_exploreRow_28 0 rfl ?_
            refine go_if_ne (pc := 30) hF 85 dX2_exploreRow_30 (by decide) ⟨by decide, by decide⟩ (fun bq30 => ?_) (fun bq30 => ?_)
            · refine go_iload (pc := 85) hF dX2_exploreRow_85 0 rfl ?_
              refine go_iconst (pc := 87) hF dX2_exploreRow_87 ?_
              refine go_icmp_ne (pc := 88) hF 104 dX2_exploreRow_88 (by decide) ⟨by decide, by decide⟩ ⟨by decide, by decide⟩ (fun bq88 => ?_) (fun bq88 => ?_)
              · refine go_iload (pc := 104) hF dX2_exploreRow_104 0 rfl ?_
                refine go_iconst (pc := 106) hF dX2_exploreRow_106 ?_
                refine go_icmp_ne (pc := 107) hF 124 dX2_exploreRow_107 (by decide) ⟨by decide, by decide⟩ ⟨by decide, by decide⟩ (fun bq107 => ?_) (fun bq107 => ?_)
                · exact absurd bq107 (by decide)
                · refine go_aload_n (pc := 110) hF dX2_exploreRow_110 2 rfl ?_
                  refine go_aload_n (pc := 111) hF dX2_exploreRow_111 3 rfl ?_
                  refine go_iload (pc := 112) hF dX2_exploreRow_112 1 rfl ?_
                  refine go_iload (pc := 114) hF dX2_exploreRow_114 6 rfl ?_
                  refine go_callVI (pc := 116) hF [vr E 23, vi oo, vi (dl : Int)] [] mv_X2_93 dX2_exploreRow_116 (by omega) hxv.1 (c_X2_exploreChoice E N D9 (IH₉ D9 rfl) τ sg vl mt₉ lw ll la sz₉ lk₉ chs lps dp ln oo kk lp dl nwv unv kn₉ r0 u₉ kd pr b₉ X₉ hN₉ hpl ho hu hkd hpr okv ⟨hxv.1, hxv.2.1, hxv.2.2⟩ hstl hvX hXf hallv ta_ tb_ hwa hwb (by omega) pa1 paa pab (by omega) (by omega) (by omega) (by omega)) rfl rfl (Nat.le_of_ble_eq_true rfl) (by omega) ⟨Nat.zero_le _, Nat.zero_le _⟩ (fun r_s10 s10 h_s10 => ?_)
                  obtain ⟨e_s10, nw_s10, un_s10, ok_s10, eq_s10, x_s10, u_s10, all_s10, fq_s10, fd_s10, fa_s10⟩ := h_s10
                  subst e_s10
                  refine go_istore (pc := 119) hF [(5, vi (oo + 2 + (tLen ta_ : Int) + (tLen tb_ : Int))), (6, vi 2), (0, vr E 56), (1, vr E 23), (2, vi o), (3, vi (o + (tLen t₉ : Int))), (4, vi (dl : Int))] dX2_exploreRow_119 rfl (by decide) ?_
                  refine go_goto (pc := 121) hF 141 dX2_exploreRow_121 (by decide) ?_
                  refine go_iinc (pc := 141) hF [(5, vi ((oo + 2 + (tLen ta_ : Int) + (tLen tb_ : Int)) + 1)), (6, vi 2), (0, vr E 56), (1, vr E 23), (2, vi o), (3, vi (o + (tLen t₉ : Int))), (4, vi (dl : Int))] dX2_exploreRow_141 0 rfl rfl (by decide) ?_
                  refine go_goto (pc := 144) hF 14 dX2_exploreRow_144 (by decide) ?_
                  refine go_lv [(5, vi ((oo + 2 + (tLen ta_ : Int) + (tLen tb_ : Int)) + 1)), (0, vr E 56), (1, vr E 23), (2, vi o), (3, vi (o + (tLen t₉ : Int))), (4, vi (dl : Int))] [0, 2, 3, 4, 5, 6] rfl ?_
                  exact ih₉ _ (kk + tLks ta_ + tLks tb_) nw_s10 un_s10 (b₉ + cB₉ ta_ + cB₉ tb_) (fun x₉ c => ex₉ u₉ kd pr ta_ X₉ x₉ c ∨ ex₉ u₉ kd pr tb_ X₉ x₉ c) s10 (by omega) (by omega) (by rw [show oo + 2 + (tLen ta_ : Int) + (tLen tb_ : Int) + 1 = oo + 3 + (tLen ta_ : Int) + (tLen tb_ : Int) by omega]; exact par_) (by omega) (by omega) (by omega) ok_s10 (fun d₉ h => by rw [eq_s10 d₉ h]; exact eq_b d₉ h) x_s10 u_s10 (fun r₉ c h => h.elim (vS_ex hu hkd ta_ hwa _ hvX r₉ c) (vS_ex hu hkd tb_ hwb _ hvX r₉ c)) hX all_s10 (fun d₉ h1 h2 jj h3 h4 => by have en_b := eq_b d₉ h2; rw [fd_s10 d₉ h1 h2 jj (by omega) (by omega), frd_loop d₉ h1 h2 jj h3 h4]) (fun d₉ h1 jj h3 h4 => by rw [fa_s10 d₉ h1 jj h3 h4, fra_loop d₉ h1 jj h3 h4]) (fun jj hjj => by rw [fq_s10 jj hjj, fr_loop jj hjj])
              · exact absurd bq88 (by decide)
            · exact absurd bq30 (by decide)
      · intro nn ta_ rt hnn₉ hwa hwr _ ih₉
        have eq_tLen : tLen (Std.Format.append (Std.Format.tag nn ta_) rt) = 2 + tLen ta_ + tLen rt := rfl
        have eq_tDep : tDep (Std.Format.append (Std.Format.tag nn ta_) rt) = max (1 + tDep ta_) (tDep rt) := rfl
        have eq_tLks : tLks (Std.Format.append (Std.Format.tag nn ta_) rt) = tLks ta_ + tLks rt := rfl
        by_cases hD0 : D₉ = 0
        · intro oo kk nwv unv b₉ X₉ τ hd1 hd2 hpa hoo hkk hb₉ okv eq_b hxv hXf hvX hX hallv frd_loop fra_loop fr_loop; exact absurd hd1 (by omega)
        · intro oo kk nwv unv b₉ X₉ τ hd1 hd2 hpa hoo hkk hb₉ okv eq_b hxv hXf hvX hX hallv frd_loop fra_loop fr_loop
          obtain ⟨D9, rfl⟩ : ∃ D9, D₉ = D9 + 1 := ⟨D₉ - 1, by omega⟩
          obtain ⟨pa1, paa, par_⟩ := hpa
          have eq_cB : cB₉ (Std.Format.append (Std.Format.tag nn ta_) rt) = nn * cB₉ ta_ + cB₉ rt := rfl
          have hpl := hp.keep (fun jj h1 h2 => fr_loop jj (by omega))
          have hstl := (fr_loop 63 (by omega)).trans hst
          have p0₉ := okv.1 (dl : Int) (by omega) (by omega)
          have ra := pool_rg p0₉.1
          have rb := pool_66 p0₉.1
          have pu := pool_rg okv.2.1
          have pv6 := pool_66 okv.2.1
          have apu := front_apart (Or.inl p0₉.1) (Or.inl okv.2.1) p0₉.2
          refine go_iload (pc := 14) hF dX2_exploreRow_14 0 rfl ?_
          refine go_iload_n (pc := 16) hF dX2_exploreRow_16 4 rfl ?_
          refine go_icmp_ge (pc := 17) hF 147 dX2_exploreRow_17 (by decide) (by omega) (by omega) (fun bq17 => ?_) (fun bq17 => ?_)
          · exact absurd bq17 (by omega)
          · refine go_aload_n (pc := 20) hF dX2_exploreRow_20 2 rfl ?_
            refine go_iload (pc := 21) hF dX2_exploreRow_21 0 rfl ?_
            have cm_k11 : CP E M_X6_signAt 2 [vr E 23, vi oo] N τ (5) := by
              have h := c_X6_signAt E N τ 23 oo (by omega) (by omega) hpl ho
              rw [show gSign sg sz₉ oo = 5 from by unfold gSign; rw [if_pos (by omega)]; exact pa1.1] at h
              exact h
            refine go_callVP (pc := 23) hF [vi oo] [] mv_X2_76 dX2_exploreRow_23 (by omega) hpl.1 cm_k11 rfl rfl (Nat.le_of_ble_eq_true rfl) (by omega) ⟨Nat.zero_le _, Nat.zero_le _⟩ ?_
            refine go_istore (pc := 26) hF [(6, vi 5), (5, vi oo), (0, vr E 56), (1, vr E 23), (2, vi o), (3, vi (o + (tLen t₉ : Int))), (4, vi (dl : Int))] dX2_exploreRow_26 rfl (by decide) ?_
            refine go_iload (pc := 28) hF dX2_exploreRow_28 0 rfl ?_
            refine go_if_ne (pc := 30) hF 85 dX2_exploreRow_30 (by decide) ⟨by decide, by decide⟩ (fun bq30 => ?_) (fun bq30 => ?_)
            · refine go_iload (pc := 85) hF dX2_exploreRow_85 0 rfl ?_
              refine go_iconst (pc := 87) hF dX2_exploreRow_87 ?_
              refine go_icmp_ne (pc := 88) hF 104 dX2_exploreRow_88 (by decide) ⟨by decide, by decide⟩ ⟨by decide, by decide⟩ (fun bq88 => ?_) (fun bq88 => ?_)
              · refine go_iload (pc := 104) hF dX2_exploreRow_104 0 rfl ?_
                refine go_iconst (pc := 106) hF dX2_exploreRow_106 ?_
                refine go_icmp_ne (pc := 107) hF 124 dX2_exploreRow_107 (by decide) ⟨by decide, by decide⟩ ⟨by decide, by decide⟩ (fun bq107 => ?_) (fun bq107 => ?_)
                · refine go_iload (pc := 124) hF dX2_exploreRow_124 0 rfl ?_
                  refine go_iconst (pc := 126) hF dX2_exploreRow_126 ?_
                  refine go_icmp_ne (pc := 127) hF 141 dX2_exploreRow_127 (by decide) ⟨by decide, by decide⟩ ⟨by decide, by decide⟩ (fun bq127 => ?_) (fun bq127 => ?_)
                  · exact absurd bq127 (by decide)
                  · refine go_aload_n (pc := 130) hF dX2_exploreRow_130 2 rfl ?_
                    refine go_aload_n (pc := 131) hF dX2_exploreRow_131 3 rfl ?_
                    refine go_iload (pc := 132) hF dX2_exploreRow_132 1 rfl ?_
                    refine go_iload (pc := 134) hF dX2_exploreRow_134 6 rfl ?_
                    refine go_callVI (pc := 136) hF [vr E 23, vi oo, vi (dl : Int)] [] mv_X2_97 dX2_exploreRow_136 (by omega) hxv.1 (c_X2_exploreLoop E N D9 (IH₉ D9 rfl) τ sg vl mt₉ lw ll la sz₉ lk₉ chs lps dp ln oo kk lp dl nwv unv kn₉ r0 u₉ kd pr b₉ X₉ hN₉ hpl ho hu hkd hpr okv ⟨hxv.1, hxv.2.1, hxv.2.2⟩ hstl hvX hXf hallv nn ta_ hwa (by omega) pa1 paa hnn₉ (by omega) (by omega) (by omega) (by omega)) rfl rfl (Nat.le_of_ble_eq_true rfl) (by omega) ⟨Nat.zero_le _, Nat.zero_le _⟩ (fun r_s12 s12 h_s12 => ?_)
                    obtain ⟨e_s12, nw_s12, un_s12, ok_s12, eq_s12, x_s12, u_s12, all_s12, fq_s12, fd_s12, fa_s12⟩ := h_s12
                    subst e_s12
                    refine go_istore (pc := 139) hF [(5, vi (oo + 1 + (tLen ta_ : Int))), (6, vi 5), (0, vr E 56), (1, vr E 23), (2, vi o), (3, vi (o + (tLen t₉ : Int))), (4, vi (dl : Int))] dX2_exploreRow_139 rfl (by decide) ?_
                    refine go_iinc (pc := 141) hF [(5, vi ((oo + 1 + (tLen ta_ : Int)) + 1)), (6, vi 5), (0, vr E 56), (1, vr E 23), (2, vi o), (3, vi (o + (tLen t₉ : Int))), (4, vi (dl : Int))] dX2_exploreRow_141 0 rfl rfl (by decide) ?_
                    refine go_goto (pc := 144) hF 14 dX2_exploreRow_144 (by decide) ?_
                    refine go_lv [(5, vi ((oo + 1 + (tLen ta_ : Int)) + 1)), (0, vr E 56), (1, vr E 23), (2, vi o), (3, vi (o + (tLen t₉ : Int))), (4, vi (dl : Int))] [0, 2, 3, 4, 5, 6] rfl ?_
                    exact ih₉ _ (kk + tLks ta_) nw_s12 un_s12 (b₉ + (nn * cB₉ ta_ : Nat)) (xLoop (ex₉ u₉ kd pr ta_) nn X₉) s12 (by omega) (by omega) (by rw [show oo + 1 + (tLen ta_ : Int) + 1 = oo + 2 + (tLen ta_ : Int) by omega]; exact par_) (by omega) (by omega) (by omega) ok_s12 (fun d₉ h => by rw [eq_s12 d₉ h]; exact eq_b d₉ h) x_s12 u_s12 (vS_loop (vS_ex hu hkd ta_ hwa) nn X₉ hvX) hX all_s12 (fun d₉ h1 h2 jj h3 h4 => by have en_b := eq_b d₉ h2; rw [fd_s12 d₉ h1 h2 jj (by omega) (by omega), frd_loop d₉ h1 h2 jj h3 h4]) (fun d₉ h1 jj h3 h4 => by rw [fa_s12 d₉ h1 jj h3 h4, fra_loop d₉ h1 jj h3 h4]) (fun jj hjj => by rw [fq_s12 jj hjj, fr_loop jj hjj])
                · exact absurd bq107 (by decide)
              · exact absurd bq88 (by decide)
            · exact absurd bq30 (by decide)
    exact loop₉ t₉ hwf o k₉ nw un B₉ S₉ σ hdp hdl hpa0 ⟨ho1.1, rfl⟩ hk1 ⟨hB₉.1, rfl⟩ hok (fun _ _ => rfl) hx hS₉ hvS rfl hall (fun _ _ _ _ _ _ => rfl) (fun _ _ _ _ _ => rfl) (fun _ _ => rfl)
  · exact absurd ((bI_0 _).mp bq7) (by omega)
theorem exp_row (E : En) (N : Nat) : ∀ D₉, ExpRow E N D₉
  | 0 => exp_step E N 0 (fun D₉ h => absurd h (by omega))
  | D₉ + 1 => exp_step E N (D₉ + 1) (fun D9 h => by cases h; exact exp_row E N D₉)
