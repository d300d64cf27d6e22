/-! How many₉ ways. -/
def WayRow (E : En) (N D₉ : Nat) : Prop := ∀ (t₉ : Tr) (σ : Nat → va_E) (sg vls mt₉ lw ll la : Int → Int) (sz₉ lk₉ chs lps dp ln o k₉ lp dl : Int), 101 ≤ N → isP E σ 23 sg vls mt₉ lw ll la sz₉ lk₉ chs lps dp ln → okP sg vls mt₉ lw ll la sz₉ lk₉ chs lps dp ln → wf t₉ → tDep t₉ ≤ D₉ → PA₉ sg vls mt₉ lw ll la t₉ o k₉ lp → (0 ≤ o ∧ o + tLen t₉ ≤ sz₉) → (0 ≤ dl ∧ tDep t₉ + dl ≤ 3) → CPL E M_X6_waysThroughRow (6 + 2 * D₉) [vr E 23, vi o, vi (o + tLen t₉), vi dl] N σ (wyB t₉ 1)
set_option maxHeartbeats 4000000 in
set_option maxRecDepth 100000 in
theorem way_step (E : En) (N D₉ : Nat) (IH₉ : ∀ D9, D₉ = D9 + 1 → WayRow E N D9) : WayRow E N D₉ := by
  intro t₉ σ sg vls mt₉ lw ll la sz₉ lk₉ chs lps dp ln o k₉ lp dl hN₉ hp ho hwf hdp hpa0 ho1 hdl
  refine CT.of2 (own := RX6) (by decide) rfl (Nat.le_of_ble_eq_true rfl) ?_
  intro p e R s m args below meth c Q hF hr hlk hnm hz hR hQ
  refine go_lconst (pc := 0) (v := 1) hF dX6_waysThroughRow_0 (by decide) ?_
  refine go_lstore (pc := 1) hF [(4, vl 1), (0, vr E 23), (1, vi o), (2, vi (o + (tLen t₉ : Int))), (3, vi dl)] dX6_waysThroughRow_1 rfl (by decide) ?_
  refine go_iload_n (pc := 3) hF dX6_waysThroughRow_3 2 rfl ?_
  refine go_istore (pc := 4) hF [(6, vi o), (4, vl 1), (0, vr E 23), (1, vi o), (2, vi (o + (tLen t₉ : Int))), (3, vi dl)] dX6_waysThroughRow_4 rfl (by decide) ?_
  have hsz := ho.1
  have loop₉ : ∀ tt, wf tt → ∀ (oo kk S₉ : Int) (τ : Nat → va_E), tDep tt ≤ D₉ → (tDep tt : Int) + dl ≤ 3 → PA₉ sg vls mt₉ lw ll la tt oo kk lp → (0 ≤ oo ∧ oo + tLen tt = o + tLen t₉) → (1 ≤ S₉ ∧ S₉ ≤ 1000000000) → wyB tt S₉ = wyB t₉ 1 → τ = σ → Go E p e R s m args below meth c Q 9 (0, 0) N τ [(6, vi oo), (4, vl S₉), (0, vr E 23), (1, vi o), (2, vi (o + (tLen t₉ : Int))), (3, vi dl)] [] 6 := by
    refine tInd ?_ ?_ ?_ ?_
    · intro oo kk S₉ τ hd1 hd2 hpa hoo hSr hS₉ hts
      have eq_nil : tLen Std.Format.nil = 0 := rfl
      subst hts
      refine go_iload (pc := 6) hF dX6_waysThroughRow_6 0 rfl ?_
      refine go_iload_n (pc := 8) hF dX6_waysThroughRow_8 4 rfl ?_
      refine go_icmp_ge (pc := 9) hF 135 dX6_waysThroughRow_9 (by decide) (by omega) (by omega) (fun bq9 => ?_) (fun bq9 => ?_)
      · refine go_lload (pc := 135) hF dX6_waysThroughRow_135 1 rfl ?_
        exact go_lretQ hF hr hlk hQ dX6_waysThroughRow_137 ⟨hS₉, rfl⟩
      · exact absurd bq9 (by omega)
    · intro cx rt hcx hwr ih₉
      have eq_tLen : tLen (Std.Format.append (Std.Format.nest cx Std.Format.nil) rt) = 1 + tLen rt := rfl
      have eq_tDep : tDep (Std.Format.append (Std.Format.nest cx Std.Format.nil) rt) = tDep rt := rfl
      have eq_tLks : tLks (Std.Format.append (Std.Format.nest cx Std.Format.nil) rt) = (if cx = 46 then 0 else 1) + tLks rt := rfl
      by_cases hc46 : cx = 46
      · intro oo kk S₉ τ hd1 hd2 hpa hoo hSr hS₉ hts
        obtain ⟨pa1, par_⟩ := hpa
        rw [if_pos hc46] at pa1 eq_tLks
        subst hts
        refine go_iload (pc := 6) hF dX6_waysThroughRow_6 0 rfl ?_
        refine go_iload_n (pc := 8) hF dX6_waysThroughRow_8 4 rfl ?_
        refine go_icmp_ge (pc := 9) hF 135 dX6_waysThroughRow_9 (by decide) (by omega) (by omega) (fun bq9 => ?_) (fun bq9 => ?_)
        · exact absurd bq9 (by omega)
        · refine go_iload_n (pc := 12) hF dX6_waysThroughRow_12 5 rfl ?_
          refine go_iconst (pc := 13) hF dX6_waysThroughRow_13 ?_
          refine go_icmp_gt (pc := 14) hF 135 dX6_waysThroughRow_14 (by decide) (by omega) ⟨by decide, by decide⟩ (fun bq14 => ?_) (fun bq14 => ?_)
          · exact absurd bq14 (by omega)
          · refine go_aload_n (pc := 17) hF dX6_waysThroughRow_17 2 rfl ?_
            refine go_iload (pc := 18) hF dX6_waysThroughRow_18 0 rfl ?_
            refine go_callVP (pc := 20) hF [vi oo] [] mv_X6_85 dX6_waysThroughRow_20 (by omega) hp.1 (c_X6_mateOf E N τ 23 oo (by omega) (by omega) hp ho) rfl rfl (Nat.le_of_ble_eq_true rfl) (by omega) ⟨Nat.zero_le _, Nat.zero_le _⟩ ?_
            refine go_istore (pc := 23) hF [(7, vi (gMate mt₉ sz₉ oo)), (6, vi oo), (4, vl S₉), (0, vr E 23), (1, vi o), (2, vi (o + (tLen t₉ : Int))), (3, vi dl)] dX6_waysThroughRow_23 rfl (by decide) ?_
            refine go_aload_n (pc := 25) hF dX6_waysThroughRow_25 3 rfl ?_
            refine go_iload (pc := 26) hF dX6_waysThroughRow_26 1 rfl ?_
            have cm_k1 : CP E M_X6_signAt 2 [vr E 23, vi oo] N τ (1) := by
              have h := c_X6_signAt E N τ 23 oo (by omega) (by omega) hp ho
              rw [show gSign sg sz₉ oo = 1 from by unfold gSign; rw [if_pos (by omega)]; exact pa1] at h
              exact h
            refine go_callVP (pc := 28) hF [vi oo] [] mv_X6_88 dX6_waysThroughRow_28 (by omega) hp.1 cm_k1 rfl rfl (Nat.le_of_ble_eq_true rfl) (by omega) ⟨Nat.zero_le _, Nat.zero_le _⟩ ?_
            refine go_iconst (pc := 31) hF dX6_waysThroughRow_31 ?_
            refine go_icmp_ne (pc := 32) hF 85 dX6_waysThroughRow_32 (by decide) ⟨by decide, by decide⟩ ⟨by decide, by decide⟩ (fun bq32 => ?_) (fun bq32 => ?_)
            · refine go_aload_n (pc := 85) hF dX6_waysThroughRow_85 3 rfl ?_
              refine go_iload (pc := 86) hF dX6_waysThroughRow_86 1 rfl ?_
              have cm_k2 : CP E M_X6_signAt 2 [vr E 23, vi oo] N τ (1) := by
                have h := c_X6_signAt E N τ 23 oo (by omega) (by omega) hp ho
                rw [show gSign sg sz₉ oo = 1 from by unfold gSign; rw [if_pos (by omega)]; exact pa1] at h
                exact h
              refine go_callVP (pc := 88) hF [vi oo] [] mv_X6_88 dX6_waysThroughRow_88 (by omega) hp.1 cm_k2 rfl rfl (Nat.le_of_ble_eq_true rfl) (by omega) ⟨Nat.zero_le _, Nat.zero_le _⟩ ?_
              refine go_iconst (pc := 91) hF dX6_waysThroughRow_91 ?_
              refine go_icmp_ne (pc := 92) hF 129 dX6_waysThroughRow_92 (by decide) ⟨by decide, by decide⟩ ⟨by decide, by decide⟩ (fun bq92 => ?_) (fun bq92 => ?_)
              · refine go_iinc (pc := 129) hF [(6, vi (oo + 1)), (7, vi (gMate mt₉ sz₉ oo)), (4, vl S₉), (0, vr E 23), (1, vi o), (2, vi (o + (tLen t₉ : Int))), (3, vi dl)] dX6_waysThroughRow_129 1 rfl rfl (by decide) ?_
                refine go_goto (pc := 132) hF 6 dX6_waysThroughRow_132 (by decide) ?_
                refine go_lv [(6, vi (oo + 1)), (4, vl S₉), (0, vr E 23), (1, vi o), (2, vi (o + (tLen t₉ : Int))), (3, vi dl)] [0, 2, 3, 4, 5, 6] rfl ?_
                exact ih₉ (oo + 1) kk S₉ τ (by omega) (by omega) (by rw [if_pos hc46, Int.add_zero] at par_; exact par_) (by omega) hSr hS₉ rfl
              · exact absurd bq92 (by decide)
            · exact absurd bq32 (by decide)
      · intro oo kk S₉ τ hd1 hd2 hpa hoo hSr hS₉ hts
        obtain ⟨pa1, par_⟩ := hpa
        rw [if_neg hc46] at pa1 eq_tLks
        have hc9 : 97 ≤ cx ∧ cx ≤ 102 := by unfold okc at hcx; omega
        subst hts
        refine go_iload (pc := 6) hF dX6_waysThroughRow_6 0 rfl ?_
        refine go_iload_n (pc := 8) hF dX6_waysThroughRow_8 4 rfl ?_
        refine go_icmp_ge (pc := 9) hF 135 dX6_waysThroughRow_9 (by decide) (by omega) (by omega) (fun bq9 => ?_) (fun bq9 => ?_)
        · exact absurd bq9 (by omega)
        · refine go_iload_n (pc := 12) hF dX6_waysThroughRow_12 5 rfl ?_
          refine go_iconst (pc := 13) hF dX6_waysThroughRow_13 ?_
          refine go_icmp_gt (pc := 14) hF 135 dX6_waysThroughRow_14 (by decide) (by omega) ⟨by decide, by decide⟩ (fun bq14 => ?_) (fun bq14 => ?_)
          · exact absurd bq14 (by omega)
          · refine go_aload_n (pc := 17) hF dX6_waysThroughRow_17 2 rfl ?_
            refine go_iload (pc := 18) hF dX6_waysThroughRow_18 0 rfl ?_
            refine go_callVP (pc := 20) hF [vi oo] [] mv_X6_85 dX6_waysThroughRow_20 (by omega) hp.1 (c_X6_mateOf E N τ 23 oo (by omega) (by omega) hp ho) rfl rfl (Nat.le_of_ble_eq_true rfl) (by omega) ⟨Nat.zero_le _, Nat.zero_le _⟩ ?_
            refine go_istore (pc := 23) hF [(7, vi (gMate mt₉ sz₉ oo)), (6, vi oo), (4, vl S₉), (0, vr E 23), (1, vi o), (2, vi (o + (tLen t₉ : Int))), (3, vi dl)] dX6_waysThroughRow_23 rfl (by decide) ?_
            refine go_aload_n (pc := 25) hF dX6_waysThroughRow_25 3 rfl ?_
            refine go_iload (pc := 26) hF dX6_waysThroughRow_26 1 rfl ?_
            have cm_k3 : CP E M_X6_signAt 2 [vr E 23, vi oo] N τ (0) := by
              have h := c_X6_signAt E N τ 23 oo (by omega) (by omega) hp ho
              rw [show gSign sg sz₉ oo = 0 from by unfold gSign; rw [if_pos (by omega)]; exact pa1.1] at h
              exact h
            refine go_callVP (pc := 28) hF [vi oo] [] mv_X6_88 dX6_waysThroughRow_28 (by omega) hp.1 cm_k3 rfl rfl (Nat.le_of_ble_eq_true rfl) (by omega) ⟨Nat.zero_le _, Nat.zero_le _⟩ ?_
            refine go_iconst (pc := 31) hF dX6_waysThroughRow_31 ?_
            refine go_icmp_ne (pc := 32) hF 85 dX6_waysThroughRow_32 (by decide) ⟨by decide, by decide⟩ ⟨by decide, by decide⟩ (fun bq32 => ?_) (fun bq32 => ?_)
            · refine go_aload_n (pc := 85) hF dX6_waysThroughRow_85 3 rfl ?_
              refine go_iload (pc := 86) hF dX6_waysThroughRow_86 1 rfl ?_
              have cm_k4 : CP E M_X6_signAt 2 [vr E 23, vi oo] N τ (0) := by
                have h := c_X6_signAt E N τ 23 oo (by omega) (by omega) hp ho
                rw [show gSign sg sz₉ oo = 0 from by unfold gSign; rw [if_pos (by omega)]; exact pa1.1] at h
                exact h
              refine go_callVP (pc := 88) hF [vi oo] [] mv_X6_88 dX6_waysThroughRow_88 (by omega) hp.1 cm_k4 rfl rfl (Nat.le_of_ble_eq_true rfl) (by omega) ⟨Nat.zero_le _, Nat.zero_le _⟩ ?_
              refine go_iconst (pc := 91) hF dX6_waysThroughRow_91 ?_
              refine go_icmp_ne (pc := 92) hF 129 dX6_waysThroughRow_92 (by decide) ⟨by decide, by decide⟩ ⟨by decide, by decide⟩ (fun bq92 => ?_) (fun bq92 => ?_)
              · refine go_iinc (pc := 129) hF [(6, vi (oo + 1)), (7, vi (gMate mt₉ sz₉ oo)), (4, vl S₉), (0, vr E 23), (1, vi o), (2, vi (o + (tLen t₉ : Int))), (3, vi dl)] dX6_waysThroughRow_129 1 rfl rfl (by decide) ?_
                refine go_goto (pc := 132) hF 6 dX6_waysThroughRow_132 (by decide) ?_
                refine go_lv [(6, vi (oo + 1)), (4, vl S₉), (0, vr E 23), (1, vi o), (2, vi (o + (tLen t₉ : Int))), (3, vi dl)] [0, 2, 3, 4, 5, 6] rfl ?_
                exact ih₉ (oo + 1) (kk + 1) S₉ τ (by omega) (by omega) (by rw [if_neg hc46] at par_; exact par_) (by omega) hSr hS₉ rfl
              · exact absurd bq92 (by decide)
            · exact absurd bq32 (by decide)
    · intro ta_ tb_ rt hwa hwb hwr _ _ ih₉
      have eq_tLen : tLen (Std.Format.append (Std.Format.append ta_ tb_) rt) = 3 + tLen ta_ + tLen tb_ + tLen rt := rfl
      have eq_tDep : tDep (Std.Format.append (Std.Format.append ta_ tb_) rt) = max (1 + max (tDep ta_) (tDep tb_)) (tDep rt) := rfl
      have eq_tLks : tLks (Std.Format.append (Std.Format.append ta_ tb_) rt) = tLks ta_ + tLks tb_ + tLks rt := rfl
      by_cases hD0 : D₉ = 0
      · intro oo kk S₉ τ hd1 hd2 hpa hoo hSr hS₉ hts; exact absurd hd1 (by omega)
      · intro oo kk S₉ τ hd1 hd2 hpa hoo hSr hS₉ hts
        obtain ⟨D9, rfl⟩ : ∃ D9, D₉ = D9 + 1 := ⟨D₉ - 1, by omega⟩
        obtain ⟨pa1, paa, pab, par_⟩ := hpa
        subst hts
        refine go_iload (pc := 6) hF dX6_waysThroughRow_6 0 rfl ?_
        refine go_iload_n (pc := 8) hF dX6_waysThroughRow_8 4 rfl ?_
        refine go_icmp_ge (pc := 9) hF 135 dX6_waysThroughRow_9 (by decide) (by omega) (by omega) (fun bq9 => ?_) (fun bq9 => ?_)
        · exact absurd bq9 (by omega)
        · refine go_iload_n (pc := 12) hF dX6_waysThroughRow_12 5 rfl ?_
          refine go_iconst (pc := 13) hF dX6_waysThroughRow_13 ?_
          refine go_icmp_gt (pc := 14) hF 135 dX6_waysThroughRow_14 (by decide) (by omega) ⟨by decide, by decide⟩ (fun bq14 => ?_) (fun bq14 => ?_)
          · exact absurd bq14 (by omega)
          · refine go_aload_n (pc := 17) hF dX6_waysThroughRow_17 2 rfl ?_
            refine go_iload (pc := 18) hF dX6_waysThroughRow_18 0 rfl ?_
            have cm_k5 : CP E M_X6_mateOf 2 [vr E 23, vi oo] N τ (oo + 1 + (tLen ta_ : Int)) := by
              have h := c_X6_mateOf E N τ 23 oo (by omega) (by omega) hp ho
              rw [show gMate mt₉ sz₉ oo = oo + 1 + (tLen ta_ : Int) from by unfold gMate; rw [if_pos (by omega), pa1.2.1]; omega] at h
              exact h
            refine go_callVP (pc := 20) hF [vi oo] [] mv_X6_85 dX6_waysThroughRow_20 (by omega) hp.1 cm_k5 rfl rfl (Nat.le_of_ble_eq_true rfl) (by omega) ⟨Nat.zero_le _, Nat.zero_le _⟩ ?_
            refine go_istore (pc := 23) hF [(7, vi (oo + 1 + (tLen ta_ : Int))), (6, vi oo), (4, vl S₉), (0, vr E 23), (1, vi o), (2, vi (o + (tLen t₉ : Int))), (3, vi dl)] dX6_waysThroughRow_23 rfl (by decide) ?_
            refine go_aload_n (pc := 25) hF dX6_waysThroughRow_25 3 rfl ?_
            refine go_iload (pc := 26) hF dX6_waysThroughRow_26 1 rfl ?_
            have cm_k6 : CP E M_X6_signAt 2 [vr E 23, vi oo] N τ (2) := by
              have h := c_X6_signAt E N τ 23 oo (by omega) (by omega) hp ho
              rw [show gSign sg sz₉ oo = 2 from by unfold gSign; rw [if_pos (by omega)]; exact pa1.1] at h
              exact h
            refine go_callVP (pc := 28) hF [vi oo] [] mv_X6_88 dX6_waysThroughRow_28 (by omega) hp.1 cm_k6 rfl rfl (Nat.le_of_ble_eq_true rfl) (by omega) ⟨Nat.zero_le _, Nat.zero_le _⟩ ?_
            refine go_iconst (pc := 31) hF dX6_waysThroughRow_31 ?_
            refine go_icmp_ne (pc := 32) hF 85 dX6_waysThroughRow_32 (by decide) ⟨by decide, by decide⟩ ⟨by decide, by decide⟩ (fun bq32 => ?_) (fun bq32 => ?_)
            · exact absurd bq32 (by decide)
            · refine go_aload_n (pc := 35) hF dX6_waysThroughRow_35 3 rfl ?_
              refine go_iload (pc := 36) hF dX6_waysThroughRow_36 0 rfl ?_
              have cm_k7 : CP E M_X6_mateOf 2 [vr E 23, vi (oo + 1 + (tLen ta_ : Int))] N τ (oo + 2 + (tLen ta_ : Int) + (tLen tb_ : Int)) := by
                have h := c_X6_mateOf E N τ 23 (oo + 1 + (tLen ta_ : Int)) (by omega) (by omega) hp ho
                rw [show gMate mt₉ sz₉ (oo + 1 + (tLen ta_ : Int)) = oo + 2 + (tLen ta_ : Int) + (tLen tb_ : Int) from by unfold gMate; rw [if_pos (by omega), pa1.2.2]; omega] at h
                exact h
              refine go_callVP (pc := 38) hF [vi (oo + 1 + (tLen ta_ : Int))] [] mv_X6_85 dX6_waysThroughRow_38 (by omega) hp.1 cm_k7 rfl rfl (Nat.le_of_ble_eq_true rfl) (by omega) ⟨Nat.zero_le _, Nat.zero_le _⟩ ?_
              refine go_istore (pc := 41) hF [(8, vi (oo + 2 + (tLen ta_ : Int) + (tLen tb_ : Int))), (7, vi (oo + 1 + (tLen ta_ : Int))), (6, vi oo), (4, vl S₉), (0, vr E 23), (1, vi o), (2, vi (o + (tLen t₉ : Int))), (3, vi dl)] dX6_waysThroughRow_41 rfl (by decide) ?_
              refine go_lload (pc := 43) hF dX6_waysThroughRow_43 3 rfl ?_
              refine go_aload_n (pc := 45) hF dX6_waysThroughRow_45 4 rfl ?_
              refine go_iload (pc := 46) hF dX6_waysThroughRow_46 2 rfl ?_
              refine go_iconst (pc := 48) hF dX6_waysThroughRow_48 ?_
              refine go_iadd (pc := 49) hF dX6_waysThroughRow_49 ?_
              refine go_iload (pc := 50) hF dX6_waysThroughRow_50 1 rfl ?_
              refine go_iload_n (pc := 52) hF dX6_waysThroughRow_52 7 rfl ?_
              refine go_iconst (pc := 53) hF dX6_waysThroughRow_53 ?_
              refine go_iadd (pc := 54) hF dX6_waysThroughRow_54 ?_
              have cr_k8 := IH₉ D9 rfl ta_ τ sg vls mt₉ lw ll la sz₉ lk₉ chs lps dp ln (oo + 1) kk lp (dl + 1) hN₉ hp ho hwa (by omega) paa (by omega) (by omega)
              rw [show (oo + 1) + (tLen ta_ : Int) = oo + 1 + (tLen ta_ : Int) by omega] at cr_k8
              have z_k8 := wyB_rg ta_ hwa 1 (by omega)
              refine go_callVPL (pc := 55) hF [vi (oo + 1), vi (oo + 1 + (tLen ta_ : Int)), vi (dl + 1)] [vl S₉] mv_X6_81 dX6_waysThroughRow_55 (by omega) hp.1 cr_k8 rfl rfl (Nat.le_of_ble_eq_true rfl) (by omega) ⟨Nat.zero_le _, Nat.zero_le _⟩ ?_
              refine go_aload_n (pc := 58) hF dX6_waysThroughRow_58 4 rfl ?_
              refine go_iload (pc := 59) hF dX6_waysThroughRow_59 1 rfl ?_
              refine go_iconst (pc := 61) hF dX6_waysThroughRow_61 ?_
              refine go_iadd (pc := 62) hF dX6_waysThroughRow_62 ?_
              refine go_iload (pc := 63) hF dX6_waysThroughRow_63 0 rfl ?_
              refine go_iload_n (pc := 65) hF dX6_waysThroughRow_65 7 rfl ?_
              refine go_iconst (pc := 66) hF dX6_waysThroughRow_66 ?_
              refine go_iadd (pc := 67) hF dX6_waysThroughRow_67 ?_
              have cr_k9 := IH₉ D9 rfl tb_ τ sg vls mt₉ lw ll la sz₉ lk₉ chs lps dp ln ((oo + 1 + (tLen ta_ : Int)) + 1) (kk + tLks ta_) lp (dl + 1) hN₉ hp ho hwb (by omega) (by rw [show oo + 1 + (tLen ta_ : Int) + 1 = oo + 2 + (tLen ta_ : Int) by omega]; exact pab) (by omega) (by omega)
              rw [show ((oo + 1 + (tLen ta_ : Int)) + 1) + (tLen tb_ : Int) = oo + 2 + (tLen ta_ : Int) + (tLen tb_ : Int) by omega] at cr_k9
              have z_k9 := wyB_rg tb_ hwb 1 (by omega)
              refine go_callVPL (pc := 68) hF [vi ((oo + 1 + (tLen ta_ : Int)) + 1), vi (oo + 2 + (tLen ta_ : Int) + (tLen tb_ : Int)), vi (dl + 1)] [vl (wyB ta_ 1), vl S₉] mv_X6_81 dX6_waysThroughRow_68 (by omega) hp.1 cr_k9 rfl rfl (Nat.le_of_ble_eq_true rfl) (by omega) ⟨Nat.zero_le _, Nat.zero_le _⟩ ?_
              have zz := mul9 (a := S₉) (b := wyB ta_ 1 + wyB tb_ 1) (by omega) (by omega)
              have zy : 1 * (wyB ta_ 1 + wyB tb_ 1) ≤ S₉ * (wyB ta_ 1 + wyB tb_ 1) := Int.mul_le_mul_of_nonneg_right hSr.1 (by omega)
              refine go_ladd (pc := 71) hF dX6_waysThroughRow_71 ?_
              refine go_lmul (pc := 72) hF dX6_waysThroughRow_72 ?_
              refine go_callSPL (pc := 73) hF [vl (S₉ * ((wyB ta_ 1) + (wyB tb_ 1)))] [] ms_X6_91 dX6_waysThroughRow_73 (c_X6_cut E N τ (S₉ * ((wyB ta_ 1) + (wyB tb_ 1))) (by omega)) rfl rfl (Nat.le_of_ble_eq_true rfl) (by omega) ⟨Nat.zero_le _, Nat.zero_le _⟩ ?_
              refine go_lstore (pc := 76) hF [(4, vl (min (S₉ * ((wyB ta_ 1) + (wyB tb_ 1))) 1000000000)), (8, vi (oo + 2 + (tLen ta_ : Int) + (tLen tb_ : Int))), (7, vi (oo + 1 + (tLen ta_ : Int))), (6, vi oo), (0, vr E 23), (1, vi o), (2, vi (o + (tLen t₉ : Int))), (3, vi dl)] dX6_waysThroughRow_76 rfl (by decide) ?_
              refine go_iload (pc := 78) hF dX6_waysThroughRow_78 1 rfl ?_
              refine go_istore (pc := 80) hF [(6, vi (oo + 2 + (tLen ta_ : Int) + (tLen tb_ : Int))), (4, vl (min (S₉ * ((wyB ta_ 1) + (wyB tb_ 1))) 1000000000)), (8, vi (oo + 2 + (tLen ta_ : Int) + (tLen tb_ : Int))), (7, vi (oo + 1 + (tLen ta_ : Int))), (0, vr E 23), (1, vi o), (2, vi (o + (tLen t₉ : Int))), (3, vi dl)] dX6_waysThroughRow_80 rfl (by decide) ?_
              refine go_goto (pc := 82) hF 129 dX6_waysThroughRow_82 (by decide) ?_
              refine go_iinc (pc := 129) hF [(6, vi ((oo + 2 + (tLen ta_ : Int) + (tLen tb_ : Int)) + 1)), (4, vl (min (S₉ * ((wyB ta_ 1) + (wyB tb_ 1))) 1000000000)), (8, vi (oo + 2 + (tLen ta_ : Int) + (tLen tb_ : Int))), (7, vi (oo + 1 + (tLen ta_ : Int))), (0, vr E 23), (1, vi o), (2, vi (o + (tLen t₉ : Int))), (3, vi dl)] dX6_waysThroughRow_129 0 rfl rfl (by decide) ?_
              refine go_goto (pc := 132) hF 6 dX6_waysThroughRow_132 (by decide) ?_
              refine go_lv [(6, vi ((oo + 2 + (tLen ta_ : Int) + (tLen tb_ : Int)) + 1)), (4, vl (min (S₉ * ((wyB ta_ 1) + (wyB tb_ 1))) 1000000000)), (0, vr E 23), (1, vi o), (2, vi (o + (tLen t₉ : Int))), (3, vi dl)] [0, 1, 4, 5, 6, 7] rfl ?_
              exact ih₉ _ (kk + tLks ta_ + tLks tb_) (min (S₉ * (wyB ta_ 1 + wyB tb_ 1)) 1000000000) τ (by omega) (by omega) (by rw [show oo + 2 + (tLen ta_ : Int) + (tLen tb_ : Int) + 1 = oo + 3 + (tLen ta_ : Int) + (tLen tb_ : Int) by omega]; exact par_) (by omega) (by omega) hS₉ rfl
    · intro nn ta_ rt hnn₉ hwa hwr _ ih₉
      have eq_tLen : tLen (Std.Format.append (Std.Format.tag nn ta_) rt) = 2 + tLen ta_ + tLen rt := rfl
      have eq_tDep : tDep (Std.Format.append (Std.Format.tag nn ta_) rt) = max (1 + tDep ta_) (tDep rt) := rfl
      have eq_tLks : tLks (Std.Format.append (Std.Format.tag nn ta_) rt) = tLks ta_ + tLks rt := rfl
      by_cases hD0 : D₉ = 0
      · intro oo kk S₉ τ hd1 hd2 hpa hoo hSr hS₉ hts; exact absurd hd1 (by omega)
      · intro oo kk S₉ τ hd1 hd2 hpa hoo hSr hS₉ hts
        obtain ⟨D9, rfl⟩ : ∃ D9, D₉ = D9 + 1 := ⟨D₉ - 1, by omega⟩
        obtain ⟨pa1, paa, par_⟩ := hpa
        subst hts
        refine go_iload (pc := 6) hF dX6_waysThroughRow_6 0 rfl ?_
        refine go_iload_n (pc := 8) hF dX6_waysThroughRow_8 4 rfl ?_
        refine go_icmp_ge (pc := 9) hF 135 dX6_waysThroughRow_9 (by decide) (by omega) (by omega) (fun bq9 => ?_) (fun bq9 => ?_)
        · exact absurd bq9 (by omega)
        · refine go_iload_n (pc := 12) hF dX6_waysThroughRow_12 5 rfl ?_
          refine go_iconst (pc := 13) hF dX6_waysThroughRow_13 ?_
          refine go_icmp_gt (pc := 14) hF 135 dX6_waysThroughRow_14 (by decide) (by omega) ⟨by decide, by decide⟩ (fun bq14 => ?_) (fun bq14 => ?_)
          · exact absurd bq14 (by omega)
          · refine go_aload_n (pc := 17) hF dX6_waysThroughRow_17 2 rfl ?_
            refine go_iload (pc := 18) hF dX6_waysThroughRow_18 0 rfl ?_
            have cm_k10 : CP E M_X6_mateOf 2 [vr E 23, vi oo] N τ (oo + 1 + (tLen ta_ : Int)) := by
              have h := c_X6_mateOf E N τ 23 oo (by omega) (by omega) hp ho
              rw [show gMate mt₉ sz₉ oo = oo + 1 + (tLen ta_ : Int) from by unfold gMate; rw [if_pos (by omega), pa1.2.2.1]; omega] at h
              exact h
            refine go_callVP (pc := 20) hF [vi oo] [] mv_X6_85 dX6_waysThroughRow_20 (by omega) hp.1 cm_k10 rfl rfl (Nat.le_of_ble_eq_true rfl) (by omega) ⟨Nat.zero_le _, Nat.zero_le _⟩ ?_
            refine go_istore (pc := 23) hF [(7, vi (oo + 1 + (tLen ta_ : Int))), (6, vi oo), (4, vl S₉), (0, vr E 23), (1, vi o), (2, vi (o + (tLen t₉ : Int))), (3, vi dl)] dX6_waysThroughRow_23 rfl (by decide) ?_
            refine go_aload_n (pc := 25) hF dX6_waysThroughRow_25 3 rfl ?_
            refine go_iload (pc := 26) hF dX6_waysThroughRow_26 1 rfl ?_
            have cm_k11 : CP E M_X6_signAt 2 [vr E 23, vi oo] N τ (5) := by
              have h := c_X6_signAt E N τ 23 oo (by omega) (by omega) hp ho
              rw [show gSign sg sz₉ oo = 5 from by unfold gSign; rw [if_pos (by omega)]; exact pa1.1] at h
              exact h
            refine go_callVP (pc := 28) hF [vi oo] [] mv_X6_88 dX6_waysThroughRow_28 (by omega) hp.1 cm_k11 rfl rfl (Nat.le_of_ble_eq_true rfl) (by omega) ⟨Nat.zero_le _, Nat.zero_le _⟩ ?_
            refine go_iconst (pc := 31) hF dX6_waysThroughRow_31 ?_
            refine go_icmp_ne (pc := 32) hF 85 dX6_waysThroughRow_32 (by decide) ⟨by decide, by decide⟩ ⟨by decide, by decide⟩ (fun bq32 => ?_) (fun bq32 => ?_)
            · refine go_aload_n (pc := 85) hF dX6_waysThroughRow_85 3 rfl ?_
              refine go_iload (pc := 86) hF dX6_waysThroughRow_86 1 rfl ?_
              have cm_k12 : CP E M_X6_signAt 2 [vr E 23, vi oo] N τ (5) := by
                have h := c_X6_signAt E N τ 23 oo (by omega) (by omega) hp ho
                rw [show gSign sg sz₉ oo = 5 from by unfold gSign; rw [if_pos (by omega)]; exact pa1.1] at h
                exact h
              refine go_callVP (pc := 88) hF [vi oo] [] mv_X6_88 dX6_waysThroughRow_88 (by omega) hp.1 cm_k12 rfl rfl (Nat.le_of_ble_eq_true rfl) (by omega) ⟨Nat.zero_le _, Nat.zero_le _⟩ ?_
              refine go_iconst (pc := 91) hF dX6_waysThroughRow_91 ?_
              refine go_icmp_ne (pc := 92) hF 129 dX6_waysThroughRow_92 (by decide) ⟨by decide, by decide⟩ ⟨by decide, by decide⟩ (fun bq92 => ?_) (fun bq92 => ?_)
              · exact absurd bq92 (by decide)
              · refine go_lload (pc := 95) hF dX6_waysThroughRow_95 2 rfl ?_
                refine go_aload_n (pc := 97) hF dX6_waysThroughRow_97 3 rfl ?_
                refine go_iload (pc := 98) hF dX6_waysThroughRow_98 1 rfl ?_
                refine go_iconst (pc := 100) hF dX6_waysThroughRow_100 ?_
                refine go_iadd (pc := 101) hF dX6_waysThroughRow_101 ?_
                refine go_iload (pc := 102) hF dX6_waysThroughRow_102 0 rfl ?_
                refine go_iload_n (pc := 104) hF dX6_waysThroughRow_104 6 rfl ?_
                refine go_iconst (pc := 105) hF dX6_waysThroughRow_105 ?_
                refine go_iadd (pc := 106) hF dX6_waysThroughRow_106 ?_
                have cr_k13 := IH₉ D9 rfl ta_ τ sg vls mt₉ lw ll la sz₉ lk₉ chs lps dp ln (oo + 1) kk oo (dl + 1) hN₉ hp ho hwa (by omega) paa (by omega) (by omega)
                rw [show (oo + 1) + (tLen ta_ : Int) = oo + 1 + (tLen ta_ : Int) by omega] at cr_k13
                have z_k13 := wyB_rg ta_ hwa 1 (by omega)
                refine go_callVPL (pc := 107) hF [vi (oo + 1), vi (oo + 1 + (tLen ta_ : Int)), vi (dl + 1)] [vl S₉] mv_X6_81 dX6_waysThroughRow_107 (by omega) hp.1 cr_k13 rfl rfl (Nat.le_of_ble_eq_true rfl) (by omega) ⟨Nat.zero_le _, Nat.zero_le _⟩ ?_
                refine go_aload_n (pc := 110) hF dX6_waysThroughRow_110 3 rfl ?_
                refine go_iload (pc := 111) hF dX6_waysThroughRow_111 1 rfl ?_
                have cm_k14 : CP E M_X6_valueAt 2 [vr E 23, vi oo] N τ ((nn : Int)) := by
                  have h := c_X6_valueAt E N τ 23 oo (by omega) (by omega) hp ho
                  rw [show gVal vls sz₉ oo = (nn : Int) from by unfold gVal; rw [if_pos (by omega)]; exact pa1.2.1] at h
                  exact h
                refine go_callVP (pc := 113) hF [vi oo] [vl (wyB ta_ 1), vl S₉] mv_X6_72 dX6_waysThroughRow_113 (by omega) hp.1 cm_k14 rfl rfl (Nat.le_of_ble_eq_true rfl) (by omega) ⟨Nat.zero_le _, Nat.zero_le _⟩ ?_
                have zr := (pws_rg (v := wyB ta_ 1) (wyB_rg ta_ hwa 1 (by omega)) nn).1
                have cq := c_X6_waysRound E N τ (wyB ta_ 1) (nn : Int) (by omega) (by omega)
                rw [show (nn : Int).toNat = nn by omega] at cq
                refine go_callSPL (pc := 116) hF [vl (wyB ta_ 1), vi (nn : Int)] [vl S₉] ms_X6_95 dX6_waysThroughRow_116 cq rfl rfl (Nat.le_of_ble_eq_true rfl) (by omega) ⟨Nat.zero_le _, Nat.zero_le _⟩ ?_
                have zz := mul9 (a := S₉) (b := (pws (wyB ta_ 1) nn).1) (by omega) (by omega)
                have zy : 1 * (pws (wyB ta_ 1) nn).1 ≤ S₉ * (pws (wyB ta_ 1) nn).1 := Int.mul_le_mul_of_nonneg_right hSr.1 (by omega)
                refine go_lmul (pc := 119) hF dX6_waysThroughRow_119 ?_
                refine go_callSPL (pc := 120) hF [vl (S₉ * ((pws (wyB ta_ 1) nn).1))] [] ms_X6_91 dX6_waysThroughRow_120 (c_X6_cut E N τ (S₉ * ((pws (wyB ta_ 1) nn).1)) (by omega)) rfl rfl (Nat.le_of_ble_eq_true rfl) (by omega) ⟨Nat.zero_le _, Nat.zero_le _⟩ ?_
                refine go_lstore (pc := 123) hF [(4, vl (min (S₉ * ((pws (wyB ta_ 1) nn).1)) 1000000000)), (7, vi (oo + 1 + (tLen ta_ : Int))), (6, vi oo), (0, vr E 23), (1, vi o), (2, vi (o + (tLen t₉ : Int))), (3, vi dl)] dX6_waysThroughRow_123 rfl (by decide) ?_
                refine go_iload (pc := 125) hF dX6_waysThroughRow_125 1 rfl ?_
                refine go_istore (pc := 127) hF [(6, vi (oo + 1 + (tLen ta_ : Int))), (4, vl (min (S₉ * ((pws (wyB ta_ 1) nn).1)) 1000000000)), (7, vi (oo + 1 + (tLen ta_ : Int))), (0, vr E 23), (1, vi o), (2, vi (o + (tLen t₉ : Int))), (3, vi dl)] dX6_waysThroughRow_127 rfl (by decide) ?_
                refine go_iinc (pc := 129) hF [(6, vi ((oo + 1 + (tLen ta_ : Int)) + 1)), (4, vl (min (S₉ * ((pws (wyB ta_ 1) nn).1)) 1000000000)), (7, vi (oo + 1 + (tLen ta_ : Int))), (0, vr E 23), (1, vi o), (2, vi (o + (tLen t₉ : Int))), (3, vi dl)] dX6_waysThroughRow_129 0 rfl rfl (by decide) ?_
                refine go_goto (pc := 132) hF 6 dX6_waysThroughRow_132 (by decide) ?_
                refine go_lv [(6, vi ((oo + 1 + (tLen ta_ : Int)) + 1)), (4, vl (min (S₉ * ((pws (wyB ta_ 1) nn).1)) 1000000000)), (0, vr E 23), (1, vi o), (2, vi (o + (tLen t₉ : Int))), (3, vi dl)] [0, 1, 3, 4, 5, 6] rfl ?_
                exact ih₉ _ (kk + tLks ta_) (min (S₉ * (pws (wyB ta_ 1) nn).1) 1000000000) τ (by omega) (by omega) (by rw [show oo + 1 + (tLen ta_ : Int) + 1 = oo + 2 + (tLen ta_ : Int) by omega]; exact par_) (by omega) (by omega) hS₉ rfl
            · exact absurd bq32 (by decide)
  exact loop₉ t₉ hwf o k₉ 1 σ hdp (by omega) hpa0 ⟨ho1.1, rfl⟩ (by omega) rfl rfl
theorem way_all (E : En) (N : Nat) : ∀ D₉, WayRow E N D₉
  | 0 => way_step E N 0 (fun D₉ h => absurd h (by omega))
  | D₉ + 1 => way_step E N (D₉ + 1) (fun D9 h => by cases h; exact way_all E N D₉)
set_option maxHeartbeats 4000000 in
set_option maxRecDepth 100000 in
theorem c_X6_waysThrough (E : En) (N : Nat) (t₉ : Tr) (σ : Nat → va_E) (sg vls mt₉ lw ll la : Int → Int) (sz₉ lk₉ chs lps dp ln : Int) (hN₉ : 101 ≤ N) (hp : isP E σ 23 sg vls mt₉ lw ll la sz₉ lk₉ chs lps dp ln) (ho : okP sg vls mt₉ lw ll la sz₉ lk₉ chs lps dp ln) (hwf : wf t₉) (hdp : tDep t₉ ≤ 3) (hpa0 : PA₉ sg vls mt₉ lw ll la t₉ 0 0 (-1)) (htl : (tLen t₉ : Int) = sz₉) : CP E M_X6_waysThrough 13 [vr E 23] N σ (wyB t₉ 1) := by
  refine CT.of2 (own := RX6) (by decide) rfl (Nat.le_of_ble_eq_true rfl) ?_
  intro p e R s m args below meth c Q hF hr hlk hnm hz hR hQ
  have hsz := ho.1
  refine go_aload_n (pc := 0) hF dX6_waysThrough_0 0 rfl ?_
  refine go_iconst (pc := 1) hF dX6_waysThrough_1 ?_
  refine go_aload_n (pc := 2) hF dX6_waysThrough_2 0 rfl ?_
  refine go_get (pc := 3) hF fl_X6_30 dX6_waysThrough_3 (by omega) hp.1 rfl ?_
  refine go_iconst (pc := 6) hF dX6_waysThrough_6 ?_
  have cr := way_all E N 3 t₉ σ sg vls mt₉ lw ll la sz₉ lk₉ chs lps dp ln 0 0 (-1) 0 hN₉ hp ho hwf hdp hpa0 (by omega) (by omega)
  rw [show (0 : Int) + (tLen t₉ : Int) = sz₉ by omega] at cr
  refine go_callVPL (pc := 7) hF [vi 0, vi sz₉, vi 0] [] mv_X6_81 dX6_waysThrough_7 (by omega) hp.1 cr rfl rfl (Nat.le_of_ble_eq_true rfl) (by decide) ⟨Nat.zero_le _, Nat.zero_le _⟩ ?_
  refine go_l2i (pc := 10) hF dX6_waysThrough_10 ?_
  exact go_iretQ hF hr hlk hQ dX6_waysThrough_11 ⟨rfl, rfl⟩
