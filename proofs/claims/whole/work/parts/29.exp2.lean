/-! Explorer: loops. -/
theorem xLoop_in {f₉ : XS → XS} : ∀ (n₉ : Nat) (S₉ : XS) (r₉ c : Int), S₉ r₉ c → xLoop f₉ n₉ S₉ r₉ c
  | 0, S₉, r₉, c, h => h
  | n₉ + 1, S₉, r₉, c, h => Or.inl h
theorem img_iff {S₉ T : XS} (h : ∀ r₉ c, S₉ r₉ c ↔ T r₉ c) (R c : Int) : img S₉ R c ↔ img T R c := ⟨fun ⟨r₉, a₉, b₉⟩ => ⟨r₉, (h r₉ c).mp a₉, b₉⟩, fun ⟨r₉, a₉, b₉⟩ => ⟨r₉, (h r₉ c).mpr a₉, b₉⟩⟩
set_option maxHeartbeats 4000000 in
set_option maxRecDepth 100000 in
theorem c_X2_exploreLoop (E : En) (N D₉ : Nat) (IH₉ : ExpRow E N D₉) (σ : Nat → va_E) (sg vl mt₉ lw ll la : Int → Int) (sz₉ lk₉ chs lps dp ln o k₉ lp : Int) (dl : Nat) (nw : Int → Nat) (un : Nat) (kn₉ r0 u₉ kd pr B₉ : Int) (S₉ : XS) (hN₉ : 101 ≤ N) (hp : isP E σ 23 sg vl mt₉ lw ll la sz₉ lk₉ chs lps dp ln) (ho : okP sg vl mt₉ lw ll la sz₉ lk₉ chs lps dp ln) (hu : 1 ≤ u₉ ∧ u₉ ≤ 3) (hkd : 0 ≤ kd ∧ kd ≤ 3) (hpr : 2 ≤ pr ∧ pr ≤ 99) (hok : okN nw un) (hx : isEx E σ nw un kn₉) (hst : σ 63 = ob 1 [vi r0, vi u₉, vi kd, vi pr]) (hvS : vS u₉ S₉) (hS₉ : frI E σ (nw dl) (img S₉) B₉) (hall : allF E σ) (nn : Nat) (ta_ : Tr) (hwa : wf ta_) (hda : tDep ta_ ≤ D₉) (pa0 : sg o = 5 ∧ vl o = nn ∧ mt₉ o = o + 1 + tLen ta_ ∧ lw o = tMsk ta_ 0) (paa : PA₉ sg vl mt₉ lw ll la ta_ (o + 1) k₉ o) (hnn₉ : 1 ≤ nn ∧ nn ≤ 9) (ho1 : 0 ≤ o ∧ o + 2 + tLen ta_ ≤ sz₉) (hk1 : 0 ≤ k₉ ∧ k₉ + tLks ta_ ≤ lk₉) (hdl : tDep ta_ + dl ≤ 2) (hB₉ : 0 ≤ B₉ ∧ B₉ + (nn * cB₉ ta_ : Nat) ≤ 1000000000) : CI E M_X2_exploreLoop (8 + 2 * D₉) [vr E 56, vr E 23, vi o, vi dl] N σ (fun y₉ σ' => y₉ = o + 1 + (tLen ta_ : Int) ∧ xPost E σ σ' nw kn₉ dl (xLoop (ex₉ u₉ kd pr ta_) nn S₉) (B₉ + (nn * cB₉ ta_ : Nat))) := by
  refine CT.of2 (own := RX2) (by decide) rfl (Nat.le_of_ble_eq_true rfl) ?_
  intro p e R s m args below meth c Q hF hr hlk hnm hz hR hQ
  have hsz := ho.1
  have p0_s0 := hok.1 (dl : Int) (by omega) (by omega)
  have p1_s0 := hok.1 ((dl : Int) + 1) (by omega) (by omega)
  have a1_s0 := hok.apart (d₉ := (dl : Int)) (d' := (dl : Int) + 1) (by omega) (by omega) (by omega)
  have a2_s0 := pool_ahead (d₉ := dl) p0_s0.1 (by omega)
  have a3_s0 := pool_ahead (d₉ := dl) p1_s0.1 (by omega)
  have r0_s0 := pool_rg p0_s0.1
  have r1_s0 := pool_rg p1_s0.1
  have r2_s0 := pool_66 p0_s0.1
  have r3_s0 := pool_66 p1_s0.1
  refine go_aload_n (pc := 0) hF dX2_exploreLoop_0 1 rfl ?_
  refine go_iload_n (pc := 1) hF dX2_exploreLoop_1 2 rfl ?_
  have cm_k1 : CP E M_X6_mateOf 2 [vr E 23, vi o] N σ (o + 1 + (tLen ta_ : Int)) := by
    have h := c_X6_mateOf E N σ 23 o (by omega) (by omega) hp ho
    rw [show gMate mt₉ sz₉ o = o + 1 + (tLen ta_ : Int) from by unfold gMate; rw [if_pos (by omega), pa0.2.2.1]; omega] at h
    exact h
  refine go_callVP (pc := 2) hF [vi o] [] mv_X2_100 dX2_exploreLoop_2 (by omega) hp.1 cm_k1 rfl rfl (Nat.le_of_ble_eq_true rfl) (by omega) ⟨Nat.zero_le _, Nat.zero_le _⟩ ?_
  refine go_istore (pc := 5) hF [(4, vi (o + 1 + (tLen ta_ : Int))), (0, vr E 56), (1, vr E 23), (2, vi o), (3, vi (dl : Int))] dX2_exploreLoop_5 rfl (by decide) ?_
  refine go_iload_n (pc := 7) hF dX2_exploreLoop_7 4 rfl ?_
  refine go_iconst (pc := 8) hF dX2_exploreLoop_8 ?_
  refine go_iconst (pc := 9) hF dX2_exploreLoop_9 ?_
  refine go_callNP (pc := 10) hF [vi (dl : Int), vi 0, vi 2] [] mn_X2_72 dX2_exploreLoop_10 (c_X10_isWithin E N σ (dl : Int) 0 2 (by omega) ⟨by decide, by decide⟩ ⟨by decide, by decide⟩) rfl rfl (Nat.le_of_ble_eq_true rfl) (by omega) ⟨Nat.zero_le _, Nat.zero_le _⟩ ?_
  refine go_if_eq (pc := 13) hF 86 dX2_exploreLoop_13 (by decide) (bI_rg _) (fun bq13 => ?_) (fun bq13 => ?_)
  · exact absurd ((bI_0 _).mp bq13) (by omega)
  · refine go_aload_n (pc := 16) hF dX2_exploreLoop_16 2 rfl ?_
    refine go_iload_n (pc := 17) hF dX2_exploreLoop_17 3 rfl ?_
    have cm_k2 : CP E M_X6_valueAt 2 [vr E 23, vi o] N σ ((nn : Int)) := by
      have h := c_X6_valueAt E N σ 23 o (by omega) (by omega) hp ho
      rw [show gVal vl sz₉ o = (nn : Int) from by unfold gVal; rw [if_pos (by omega), pa0.2.1]] at h
      exact h
    refine go_callVP (pc := 18) hF [vi o] [] mv_X2_80 dX2_exploreLoop_18 (by omega) hp.1 cm_k2 rfl rfl (Nat.le_of_ble_eq_true rfl) (by omega) ⟨Nat.zero_le _, Nat.zero_le _⟩ ?_
    refine go_istore (pc := 21) hF [(5, vi (nn : Int)), (4, vi (o + 1 + (tLen ta_ : Int))), (0, vr E 56), (1, vr E 23), (2, vi o), (3, vi (dl : Int))] dX2_exploreLoop_21 rfl (by decide) ?_
    refine go_aload_n (pc := 23) hF dX2_exploreLoop_23 2 rfl ?_
    refine go_get (pc := 24) hF fl_X2_11 dX2_exploreLoop_24 (by omega) hx.1 rfl ?_
    refine go_iload_n (pc := 27) hF dX2_exploreLoop_27 5 rfl ?_
    refine go_iconst (pc := 28) hF dX2_exploreLoop_28 ?_
    refine go_iadd (pc := 29) hF dX2_exploreLoop_29 ?_
    refine go_aald (pc := 30) hF 5 (nw ((dl : Int) + 1)) dX2_exploreLoop_30 rfl (by omega) hx.2.1 (by omega) rfl ?_
    refine go_aload_n (pc := 31) hF dX2_exploreLoop_31 2 rfl ?_
    refine go_get (pc := 32) hF fl_X2_11 dX2_exploreLoop_32 (by omega) hx.1 rfl ?_
    refine go_iload_n (pc := 35) hF dX2_exploreLoop_35 5 rfl ?_
    refine go_aald (pc := 36) hF 5 (nw (dl)) dX2_exploreLoop_36 rfl (by omega) hx.2.1 (by omega) rfl ?_
    obtain ⟨fs_s3, hc_s3⟩ := (hall _ (Or.inl (hok.1 ((dl : Int) + 1) (by omega) (by omega)).1)).cell
    refine go_callVV (pc := 37) hF [vr E (nw (dl))] [] mv_X2_103 dX2_exploreLoop_37 (show nw ((dl : Int) + 1) < N by omega) hc_s3 (frI.setAsP (by omega) (by omega) (by omega) (hall _ (Or.inl (hok.1 ((dl : Int) + 1) (by omega) (by omega)).1)) hS₉ (by omega)) rfl rfl (Nat.le_of_ble_eq_true rfl) (by omega) ⟨Nat.zero_le _, Nat.zero_le _⟩ (fun s3₉ h_s3 => ?_)
    obtain ⟨u_s3, f_s3⟩ := h_s3
    have all_s3 := hall.step (Or.inl (hok.1 ((dl : Int) + 1) (by omega) (by omega)).1) u_s3 (by omega) f_s3
    have t_s3 := hp.keep (fun jj h1 h2 => f_s3 jj (by omega))
    have ex_s3 := hx.keep (fun jj h1 h2 => f_s3 jj (by omega))
    have st_s3 := (f_s3 63 (by omega)).trans hst
    have kn0_s3 := hS₉.keep (fun jj h1 h2 => f_s3 jj (by omega))
    refine go_iconst (pc := 40) hF dX2_exploreLoop_40 ?_
    refine go_istore (pc := 41) hF [(6, vi 0), (5, vi (nn : Int)), (4, vi (o + 1 + (tLen ta_ : Int))), (0, vr E 56), (1, vr E 23), (2, vi o), (3, vi (dl : Int))] dX2_exploreLoop_41 rfl (by decide) ?_
    have loop₉ : ∀ (n₉ : Nat) (i₉ : Int) (b₉ : Int) (nwv : Int → Nat) (unv : Nat) (Z₉ : XS) (Y : XS) (τ : Nat → va_E), (nn : Int) - i₉ < n₉ → 0 ≤ i₉ ∧ i₉ ≤ nn → (0 ≤ b₉ ∧ b₉ + (((nn : Int) - i₉).toNat * cB₉ ta_ : Nat) ≤ (B₉ + (nn * cB₉ ta_ : Nat))) → okN nwv unv → (∀ d₉ : Int, d₉ < (dl : Int) + 1 → nwv d₉ = nw d₉) → isEx E τ nwv unv kn₉ → frI E τ (nwv dl) (img Z₉) b₉ → frI E τ (nwv ((dl : Int) + 1)) (img Y) b₉ → vS u₉ Z₉ → vS u₉ Y → (∀ r₉ c, Y r₉ c → Z₉ r₉ c) → (∀ r₉ c, (Z₉ r₉ c ∨ xLoop (ex₉ u₉ kd pr ta_) ((nn : Int) - i₉).toNat Y r₉ c) ↔ xLoop (ex₉ u₉ kd pr ta_) nn S₉ r₉ c) → allF E τ → (∀ d₉ : Int, 0 ≤ d₉ → d₉ < dl → ∀ q₉, nw d₉ ≤ q₉ → q₉ ≤ nw d₉ + 3 → τ q₉ = σ q₉) → (∀ d₉ : Nat, d₉ < dl → ∀ q₉, 80 + 4 * d₉ ≤ q₉ → q₉ ≤ 83 + 4 * d₉ → τ q₉ = σ q₉) → (∀ jj : Nat, (jj < 56 ∨ 91 < jj ∨ jj = 63) → τ jj = s3₉ jj) → Go E p e R s m args below meth c Q 7 (0, 0) N τ [(6, vi i₉), (5, vi (nn : Int)), (4, vi (o + 1 + (tLen ta_ : Int))), (0, vr E 56), (1, vr E 23), (2, vi o), (3, vi (dl : Int))] [] 43 := by
      intro n₉
      induction n₉ with
      | zero => intro i₉ b₉ nwv unv Z₉ Y τ hfu hi0₉ hb₉ okv eq_b hxv hZf hYf hvZ hvY hYZ hZ hallv frd_loop fra_loop fr_loop; exfalso; omega
      | succ n₉ ih₉ =>
        intro i₉ b₉ nwv unv Z₉ Y τ hfu hi0₉ hb₉ okv eq_b hxv hZf hYf hvZ hvY hYZ hZ hallv frd_loop fra_loop fr_loop
        have t_loop := t_s3.keep (fun jj h1 h2 => fr_loop jj (by omega))
        have st_loop := (fr_loop 63 (by omega)).trans st_s3
        have p0_l0 := okv.1 (dl : Int) (by omega) (by omega)
        have p1_l0 := okv.1 ((dl : Int) + 1) (by omega) (by omega)
        have a1_l0 := okv.apart (d₉ := (dl : Int)) (d' := (dl : Int) + 1) (by omega) (by omega) (by omega)
        have a2_l0 := pool_ahead (d₉ := dl) p0_l0.1 (by omega)
        have a3_l0 := pool_ahead (d₉ := dl) p1_l0.1 (by omega)
        have r0_l0 := pool_rg p0_l0.1
        have r1_l0 := pool_rg p1_l0.1
        have r2_l0 := pool_66 p0_l0.1
        have r3_l0 := pool_66 p1_l0.1
        have ze : i₉ < nn → (((nn : Int) - i₉).toNat * cB₉ ta_ : Nat) = ((nn : Int) - (i₉ + 1)).toNat * cB₉ ta_ + cB₉ ta_ := fun h => by rw [show ((nn : Int) - i₉).toNat = ((nn : Int) - (i₉ + 1)).toNat + 1 by omega, Nat.succ_mul]
        refine go_iload (pc := 43) hF dX2_exploreLoop_43 0 rfl ?_
        refine go_iload (pc := 45) hF dX2_exploreLoop_45 1 rfl ?_
        refine go_icmp_ge (pc := 47) hF 86 dX2_exploreLoop_47 (by decide) (by omega) (by omega) (fun bq47 => ?_) (fun bq47 => ?_)
        · refine go_iload (pc := 86) hF dX2_exploreLoop_86 2 rfl ?_
          have hZ2 : ∀ r₉ c, Z₉ r₉ c ↔ xLoop (ex₉ u₉ kd pr ta_) nn S₉ r₉ c := fun r₉ c => by have h := hZ r₉ c; rw [show ((nn : Int) - i₉).toNat = 0 by omega] at h; exact ⟨fun z₉ => h.mp (Or.inl z₉), fun z₉ => (h.mpr z₉).elim id (hYZ r₉ c)⟩
          refine go_iretQ hF hr hlk hQ dX2_exploreLoop_88 ⟨rfl, ⟨nwv, unv, okv, (fun d₉ h1 => by exact eq_b d₉ (by omega)), hxv, ((hZf.wide (by rw [show ((nn : Int) - i₉).toNat = 0 by omega] at hb₉; omega)).iff (img_iff hZ2)), hallv, (fun jj h1 => by rw [fr_loop jj (by omega), f_s3 jj (by omega)]), (fun d₉ h1 h2 jj h3 h4 => by have pd := (hok.1 d₉ h1 (by omega)).1; have rd₉ := pool_rg pd; have en_b := eq_b d₉ (by omega); rw [frd_loop d₉ h1 (by omega) jj (by omega) (by omega)]), fun d₉ h1 jj h3 h4 => by rw [fra_loop d₉ (by omega) jj (by omega) (by omega)]⟩⟩
        · refine go_aload_n (pc := 50) hF dX2_exploreLoop_50 3 rfl ?_
          refine go_aload_n (pc := 51) hF dX2_exploreLoop_51 4 rfl ?_
          refine go_iload_n (pc := 52) hF dX2_exploreLoop_52 5 rfl ?_
          refine go_iconst (pc := 53) hF dX2_exploreLoop_53 ?_
          refine go_iadd (pc := 54) hF dX2_exploreLoop_54 ?_
          refine go_iload (pc := 55) hF dX2_exploreLoop_55 2 rfl ?_
          refine go_iload_n (pc := 57) hF dX2_exploreLoop_57 6 rfl ?_
          refine go_iconst (pc := 58) hF dX2_exploreLoop_58 ?_
          refine go_iadd (pc := 59) hF dX2_exploreLoop_59 ?_
          have zq := ze (by omega)
          have cr_s4 := IH₉ ta_ τ sg vl mt₉ lw ll la sz₉ lk₉ chs lps dp ln (o + 1) k₉ o (dl + 1) nwv unv kn₉ r0 u₉ kd pr b₉ Y hN₉ t_loop ho hwa (by omega) paa (by omega) (by omega) (by omega) hu hkd hpr (by omega) okv hxv st_loop hvY (by show frI E τ (nwv (((dl + 1 : Nat)) : Int)) _ _; rw [show (((dl + 1 : Nat)) : Int) = (dl : Int) + 1 by omega]; exact hYf) hallv
          rw [show (o + 1) + (tLen ta_ : Int) = o + 1 + (tLen ta_ : Int) by omega] at cr_s4
          rw [show ((dl + 1 : Nat) : Int) = (dl : Int) + 1 by omega] at cr_s4
          refine go_callVV (pc := 60) hF [vr E 23, vi (o + 1), vi (o + 1 + (tLen ta_ : Int)), vi ((dl : Int) + 1)] [] mv_X2_60 dX2_exploreLoop_60 (by omega) hxv.1 cr_s4 rfl rfl (Nat.le_of_ble_eq_true rfl) (by omega) ⟨Nat.zero_le _, Nat.zero_le _⟩ (fun s4₉ h_s4 => ?_)
          obtain ⟨nw_s4, un_s4, ok_s4, eq_s4, x_s4, u_s4, all_s4, fq_s4, fd_s4, fa_s4⟩ := h_s4
          rw [show ((dl + 1 : Nat) : Int) = (dl : Int) + 1 by omega] at eq_s4 u_s4 fd_s4
          have e0_s4 : nw_s4 (dl : Int) = nwv (dl : Int) := eq_s4 _ (by omega)
          have t_s4 := t_loop.keep (fun jj h1 h2 => fq_s4 jj (by omega))
          have st_s4 := (fq_s4 63 (by omega)).trans st_loop
          have kn0_s4 : frI E s4₉ (nw_s4 (dl : Int)) (img Z₉) (b₉) := by rw [e0_s4]; exact hZf.keep (fun jj h1 h2 => fd_s4 (dl : Int) (by omega) (by omega) jj h1 h2)
          have p0_s4 := ok_s4.1 (dl : Int) (by omega) (by omega)
          have p1_s4 := ok_s4.1 ((dl : Int) + 1) (by omega) (by omega)
          have a1_s4 := ok_s4.apart (d₉ := (dl : Int)) (d' := (dl : Int) + 1) (by omega) (by omega) (by omega)
          have a2_s4 := pool_ahead (d₉ := dl) p0_s4.1 (by omega)
          have a3_s4 := pool_ahead (d₉ := dl) p1_s4.1 (by omega)
          have r0_s4 := pool_rg p0_s4.1
          have r1_s4 := pool_rg p1_s4.1
          have r2_s4 := pool_66 p0_s4.1
          have r3_s4 := pool_66 p1_s4.1
          refine go_aload_n (pc := 63) hF dX2_exploreLoop_63 3 rfl ?_
          refine go_get (pc := 64) hF fl_X2_11 dX2_exploreLoop_64 (by omega) x_s4.1 rfl ?_
          refine go_iload_n (pc := 67) hF dX2_exploreLoop_67 6 rfl ?_
          refine go_aald (pc := 68) hF 5 (nw_s4 (dl)) dX2_exploreLoop_68 rfl (by omega) x_s4.2.1 (by omega) rfl ?_
          refine go_aload_n (pc := 69) hF dX2_exploreLoop_69 3 rfl ?_
          refine go_get (pc := 70) hF fl_X2_11 dX2_exploreLoop_70 (by omega) x_s4.1 rfl ?_
          refine go_iload_n (pc := 73) hF dX2_exploreLoop_73 6 rfl ?_
          refine go_iconst (pc := 74) hF dX2_exploreLoop_74 ?_
          refine go_iadd (pc := 75) hF dX2_exploreLoop_75 ?_
          refine go_aald (pc := 76) hF 5 (nw_s4 ((dl : Int) + 1)) dX2_exploreLoop_76 rfl (by omega) x_s4.2.1 (by omega) rfl ?_
          obtain ⟨fs_s5, hc_s5⟩ := (all_s4 _ (Or.inl (ok_s4.1 (dl : Int) (by omega) (by omega)).1)).cell
          refine go_callVV (pc := 77) hF [vr E (nw_s4 ((dl : Int) + 1))] [] mv_X2_106 dX2_exploreLoop_77 (show nw_s4 (dl) < N by omega) hc_s5 (frI.putAllP (A₉ := (b₉ + cB₉ ta_)) (by omega) (by omega) (by omega) kn0_s4 u_s4 (by omega)) rfl rfl (Nat.le_of_ble_eq_true rfl) (by omega) ⟨Nat.zero_le _, Nat.zero_le _⟩ (fun s5 h_s5 => ?_)
          obtain ⟨u_s5, f_s5⟩ := h_s5
          have all_s5 := all_s4.step (Or.inl (ok_s4.1 (dl : Int) (by omega) (by omega)).1) u_s5 (by omega) f_s5
          have t_s5 := t_s4.keep (fun jj h1 h2 => f_s5 jj (by omega))
          have ex_s5 := x_s4.keep (fun jj h1 h2 => f_s5 jj (by omega))
          have st_s5 := (f_s5 63 (by omega)).trans st_s4
          have kn1_s5 := u_s4.keep (fun jj h1 h2 => f_s5 jj (by omega))
          refine go_iinc (pc := 80) hF [(6, vi (i₉ + 1)), (5, vi (nn : Int)), (4, vi (o + 1 + (tLen ta_ : Int))), (0, vr E 56), (1, vr E 23), (2, vi o), (3, vi (dl : Int))] dX2_exploreLoop_80 0 rfl rfl (by decide) ?_
          refine go_goto (pc := 83) hF 43 dX2_exploreLoop_83 (by decide) ?_
          exact ih₉ (i₉ + 1) (b₉ + cB₉ ta_) nw_s4 un_s4 (fun x₉ c => Z₉ x₉ c ∨ ex₉ u₉ kd pr ta_ Y x₉ c) (ex₉ u₉ kd pr ta_ Y) s5 (by omega) (by omega) (by have := ze (by omega); omega) ok_s4 (fun d₉ h => by rw [eq_s4 d₉ (by omega)]; exact eq_b d₉ h) ex_s5 (u_s5.iff (fun r₉ c => (img_or _ _ r₉ c).symm)) kn1_s5 (fun r₉ c h => h.elim (hvZ r₉ c) (vS_ex hu hkd ta_ hwa _ hvY r₉ c)) (vS_ex hu hkd ta_ hwa _ hvY) (fun r₉ c h => Or.inr h) (fun r₉ c => by rw [← hZ r₉ c, show ((nn : Int) - i₉).toNat = ((nn : Int) - (i₉ + 1)).toNat + 1 by omega]; simp only [xLoop]; constructor; (rintro ((h | h) | h); exact Or.inl h; exact Or.inr (Or.inr (xLoop_in _ _ _ _ h)); exact Or.inr (Or.inr h)); (rintro (h | h | h); exact Or.inl (Or.inl h); exact Or.inl (Or.inl (hYZ r₉ c h)); exact Or.inr h)) all_s5 (fun d₉ h1 h2 jj h3 h4 => by have pd := (hok.1 d₉ h1 (by omega)).1; have rd₉ := pool_rg pd; have ap1 := ok_s4.apart (d₉ := d₉) (d' := (dl : Int)) (by omega) (by omega) (by omega); have en_b := eq_b d₉ (by omega); have en_s4 := eq_s4 d₉ (by omega); rw [f_s5 jj (by omega), fd_s4 d₉ h1 (by omega) jj (by omega) (by omega), frd_loop d₉ h1 (by omega) jj (by omega) (by omega)]) (fun d₉ h1 jj h3 h4 => by have ap1 := pool_ahead (d₉ := d₉) (ok_s4.1 (dl : Int) (by omega) (by omega)).1 (by omega); rw [f_s5 jj (by omega), fa_s4 d₉ (by omega) jj (by omega) (by omega), fra_loop d₉ (by omega) jj (by omega) (by omega)])  (fun jj hjj => by rw [f_s5 jj (by omega), fq_s4 jj (by omega), fr_loop jj (by omega)])
    exact loop₉ (nn + 1) 0 B₉ nw un S₉ S₉ s3₉ (by omega) (by omega) (by rw [show ((nn : Int) - 0).toNat = nn by omega]; omega) hok (fun _ _ => rfl) ex_s3 kn0_s3 u_s3 hvS hvS (fun _ _ h => h) (fun r₉ c => ⟨fun h => h.elim (xLoop_in _ _ _ _) (by rw [show ((nn : Int) - 0).toNat = nn by omega]; exact id), fun h => Or.inr (by rw [show ((nn : Int) - 0).toNat = nn by omega]; exact h)⟩) all_s3 (fun d₉ h1 h2 jj h3 h4 => by have pd := (hok.1 d₉ h1 (by omega)).1; have rd₉ := pool_rg pd; have ap1 := hok.apart (d₉ := d₉) (d' := (dl : Int) + 1) (by omega) (by omega) (by omega); rw [f_s3 jj (by omega)]) (fun d₉ h1 jj h3 h4 => by have ap1 := pool_ahead (d₉ := d₉) (hok.1 ((dl : Int) + 1) (by omega) (by omega)).1 (by omega); rw [f_s3 jj (by omega)])  (fun _ _ => rfl)
