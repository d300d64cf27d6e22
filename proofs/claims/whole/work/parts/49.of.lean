/-! The reference₉: of₉, sure₉, behind₉. -/
set_option maxHeartbeats 4000000 in
set_option maxRecDepth 100000 in
theorem c_X11_lookAt (E : En) (N : Nat) (σ : Nat → va_E) {un tl rz hi₉ mi ak rt cn : Int} {t₉ : Tr} {sn eo bo : Int → Int} (hN₉ : 120 ≤ N) (z101 : σ 94 = mOb E un (tLen t₉ : Int) tl rz hi₉ mi ak rt cn) (z105 : σ 98 = ai E 80 sn) (hwf : wf t₉) (hMA : MA₉ sn eo bo t₉ 0) (hl80 : tLen t₉ ≤ 80) (kx : Int) (hkx : 0 ≤ kx ∧ kx < tLks t₉) : CI E M_X11_lookAt 3 [vr E 94, vi kx] N σ (fun y₉ σ' => (∃ j₉ : Nat, y₉ = (j₉ : Int) ∧ j₉ < tLen t₉ ∧ (97 ≤ sn j₉ ∧ sn j₉ ≤ 102) ∧ kN₉ sn j₉ = kx) ∧ ∀ q₉, q₉ < 120 → σ' q₉ = σ q₉) := by
  refine CT.of2 (own := RX11) (by decide) rfl (Nat.le_of_ble_eq_true rfl) ?_
  intro p e R s m args below meth c Q hF hr hlk hnm hz hR hQ
  have hsg0 := MA_sg t₉ hwf 0 hMA
  have hsg : ∀ p : Int, 0 ≤ p → p < (tLen t₉ : Int) → 40 ≤ sn p ∧ sn p ≤ 124 := fun p a₉ b₉ => hsg0 p a₉ (by omega)
  have hkr : kx ≤ 80 := by have h := kN_rg sn (tLen t₉); rw [kN_all hwf hMA] at h; omega
  refine go_iload_n (pc := 0) hF dX11_lookAt_0 1 rfl ?_
  refine go_istore_n (pc := 1) hF [(2, vi kx), (0, vr E 94), (1, vi kx)] dX11_lookAt_1 rfl (by decide) ?_
  refine go_iconst (pc := 2) hF dX11_lookAt_2 ?_
  refine go_istore_n (pc := 3) hF [(3, vi 0), (2, vi kx), (0, vr E 94), (1, vi kx)] dX11_lookAt_3 rfl (by decide) ?_
  refine go_lvE [(3, vi 0), (2, vi (kx - kN₉ sn 0)), (0, vr E 94), (1, vi kx)] (by rw [show kx - kN₉ sn 0 = kx by rw [kN_0]; omega]) ?_
  have loop₉ : ∀ (n₉ : Nat) (j₉ : Nat), j₉ + n₉ = 82 → j₉ ≤ tLen t₉ → kN₉ sn j₉ ≤ kx → Go E p e R s m args below meth c Q 4 (0, 0) N σ [(3, vi (j₉ : Int)), (2, vi (kx - kN₉ sn j₉)), (0, vr E 94), (1, vi kx)] [] 4 := by
    intro n₉
    induction n₉ with
    | zero => intro j₉ hfu hj hk; exfalso; omega
    | succ n₉ ih₉ =>
      intro j₉ hfu hj hk
      have hj2 := kN_lt hwf hMA hj (by omega)
      have gj := hsg j₉ (by omega) (by omega)
      have gk := kN_rg sn j₉
      refine go_aload_n (pc := 4) hF dX11_lookAt_4 2 rfl ?_
      refine go_get (pc := 5) hF fl_X11_19 dX11_lookAt_5 (by omega) z101 rfl ?_
      refine go_iload_n (pc := 8) hF dX11_lookAt_8 0 rfl ?_
      refine go_iald (pc := 9) hF dX11_lookAt_9 (by omega) z105 (by omega)  ?_
      refine go_callSP (pc := 10) hF [vi (sn (j₉ : Int))] [] ms_X11_168 dX11_lookAt_10 (c_X11_isLook E N σ (sn (j₉ : Int)) (by omega)) rfl rfl (Nat.le_of_ble_eq_true rfl) (by decide) ⟨Nat.zero_le _, Nat.zero_le _⟩ ?_
      refine go_if_eq (pc := 13) hF 20 dX11_lookAt_13 (by decide) (bI_rg _) (fun bq13 => ?_) (fun bq13 => ?_)
      · have hlk9 := (bI_0 _).mp bq13
        refine go_iload_n (pc := 20) hF dX11_lookAt_20 1 rfl ?_
        refine go_aload_n (pc := 21) hF dX11_lookAt_21 2 rfl ?_
        refine go_get (pc := 22) hF fl_X11_19 dX11_lookAt_22 (by omega) z101 rfl ?_
        refine go_iload_n (pc := 25) hF dX11_lookAt_25 0 rfl ?_
        refine go_iald (pc := 26) hF dX11_lookAt_26 (by omega) z105 (by omega)  ?_
        refine go_callSP (pc := 27) hF [vi (sn (j₉ : Int))] [vi (kx - kN₉ sn j₉)] ms_X11_168 dX11_lookAt_27 (c_X11_isLook E N σ (sn (j₉ : Int)) (by omega)) rfl rfl (Nat.le_of_ble_eq_true rfl) (by decide) ⟨Nat.zero_le _, Nat.zero_le _⟩ ?_
        refine go_if_eq (pc := 30) hF 37 dX11_lookAt_30 (by decide) (bI_rg _) (fun bq30 => ?_) (fun bq30 => ?_)
        · refine go_iconst (pc := 37) hF dX11_lookAt_37 ?_
          refine go_isub (pc := 38) hF dX11_lookAt_38 ?_
          refine go_istore_n (pc := 39) hF [(2, vi ((kx - kN₉ sn j₉) - 0)), (3, vi (j₉ : Int)), (0, vr E 94), (1, vi kx)] dX11_lookAt_39 rfl (by decide) ?_
          refine go_lvE [(2, vi (kx - kN₉ sn (j₉ + 1))), (3, vi (j₉ : Int)), (0, vr E 94), (1, vi kx)] (by rw [show (kx - kN₉ sn j₉) - 0 = kx - kN₉ sn (j₉ + 1) by rw [kN_no hlk9]; omega]) ?_
          refine go_iinc (pc := 40) hF [(3, vi ((j₉ : Int) + 1)), (2, vi (kx - kN₉ sn (j₉ + 1))), (0, vr E 94), (1, vi kx)] dX11_lookAt_40 1 rfl rfl (by decide) ?_
          refine go_goto (pc := 43) hF 4 dX11_lookAt_43 (by decide) ?_
          exact ih₉ (j₉ + 1) (by omega) (by omega) (by rw [kN_no hlk9]; omega)
        · exact absurd bq13 bq30
      · refine go_iload_n (pc := 16) hF dX11_lookAt_16 1 rfl ?_
        refine go_if_le (pc := 17) hF 46 dX11_lookAt_17 (by decide) (by omega) (fun bq17 => ?_) (fun bq17 => ?_)
        · refine go_iload_n (pc := 46) hF dX11_lookAt_46 0 rfl ?_
          have hlk9 : 97 ≤ sn (j₉ : Int) ∧ sn (j₉ : Int) ≤ 102 := Decidable.not_not.mp (fun z₉ => bq13 ((bI_0 _).mpr z₉))
          exact go_iretQ hF hr hlk hQ dX11_lookAt_47 ⟨⟨j₉, rfl, hj2, hlk9, by omega⟩, fun _ _ => rfl⟩
        · have hlk9 : 97 ≤ sn (j₉ : Int) ∧ sn (j₉ : Int) ≤ 102 := Decidable.not_not.mp (fun z₉ => bq13 ((bI_0 _).mpr z₉))
          refine go_iload_n (pc := 20) hF dX11_lookAt_20 1 rfl ?_
          refine go_aload_n (pc := 21) hF dX11_lookAt_21 2 rfl ?_
          refine go_get (pc := 22) hF fl_X11_19 dX11_lookAt_22 (by omega) z101 rfl ?_
          refine go_iload_n (pc := 25) hF dX11_lookAt_25 0 rfl ?_
          refine go_iald (pc := 26) hF dX11_lookAt_26 (by omega) z105 (by omega)  ?_
          refine go_callSP (pc := 27) hF [vi (sn (j₉ : Int))] [vi (kx - kN₉ sn j₉)] ms_X11_168 dX11_lookAt_27 (c_X11_isLook E N σ (sn (j₉ : Int)) (by omega)) rfl rfl (Nat.le_of_ble_eq_true rfl) (by decide) ⟨Nat.zero_le _, Nat.zero_le _⟩ ?_
          refine go_if_eq (pc := 30) hF 37 dX11_lookAt_30 (by decide) (bI_rg _) (fun bq30 => ?_) (fun bq30 => ?_)
          · exact absurd bq30 bq13
          · refine go_iconst (pc := 33) hF dX11_lookAt_33 ?_
            refine go_goto (pc := 34) hF 38 dX11_lookAt_34 (by decide) ?_
            refine go_isub (pc := 38) hF dX11_lookAt_38 ?_
            refine go_istore_n (pc := 39) hF [(2, vi ((kx - kN₉ sn j₉) - 1)), (3, vi (j₉ : Int)), (0, vr E 94), (1, vi kx)] dX11_lookAt_39 rfl (by decide) ?_
            refine go_lvE [(2, vi (kx - kN₉ sn (j₉ + 1))), (3, vi (j₉ : Int)), (0, vr E 94), (1, vi kx)] (by rw [show (kx - kN₉ sn j₉) - 1 = kx - kN₉ sn (j₉ + 1) by rw [kN_yes hlk9]; omega]) ?_
            refine go_iinc (pc := 40) hF [(3, vi ((j₉ : Int) + 1)), (2, vi (kx - kN₉ sn (j₉ + 1))), (0, vr E 94), (1, vi kx)] dX11_lookAt_40 1 rfl rfl (by decide) ?_
            refine go_goto (pc := 43) hF 4 dX11_lookAt_43 (by decide) ?_
            exact ih₉ (j₉ + 1) (by omega) (by omega) (by rw [kN_yes hlk9]; omega)
  exact loop₉ 82 0 rfl (by omega) (by rw [kN_0]; omega) 
set_option maxHeartbeats 4000000 in
set_option maxRecDepth 100000 in
theorem c_X11_loopAround (E : En) (N : Nat) (σ : Nat → va_E) {un tl rz hi₉ mi ak rt cn : Int} {t₉ : Tr} {sn eo bo : Int → Int} (hN₉ : 120 ≤ N) (z101 : σ 94 = mOb E un (tLen t₉ : Int) tl rz hi₉ mi ak rt cn) (z105 : σ 98 = ai E 80 sn) (z106 : σ 99 = ai E 80 eo) (hwf : wf t₉) (hMA : MA₉ sn eo bo t₉ 0) (hl80 : tLen t₉ ≤ 80) (jx : Nat) (hjx : jx < tLen t₉) : CP E M_X11_loopAround 3 [vr E 94, vi (jx : Int)] N σ (laS sn eo (jx : Int) 0 jx (-1)) := by
  refine CT.of2 (own := RX11) (by decide) rfl (Nat.le_of_ble_eq_true rfl) ?_
  intro p e R s m args below meth c Q hF hr hlk hnm hz hR hQ
  have hsg0 := MA_sg t₉ hwf 0 hMA
  have hsg : ∀ p : Int, 0 ≤ p → p < (tLen t₉ : Int) → 40 ≤ sn p ∧ sn p ≤ 124 := fun p a₉ b₉ => hsg0 p a₉ (by omega)
  refine go_iconst (pc := 0) hF dX11_loopAround_0 ?_
  refine go_istore_n (pc := 1) hF [(2, vi (-1)), (0, vr E 94), (1, vi (jx : Int))] dX11_loopAround_1 rfl (by decide) ?_
  refine go_iconst (pc := 2) hF dX11_loopAround_2 ?_
  refine go_istore_n (pc := 3) hF [(3, vi 0), (2, vi (-1)), (0, vr E 94), (1, vi (jx : Int))] dX11_loopAround_3 rfl (by decide) ?_
  have loop₉ : ∀ (n₉ : Nat) (j₉ : Nat), j₉ + n₉ = 82 → j₉ ≤ jx → Go E p e R s m args below meth c Q 4 (0, 0) N σ [(3, vi (j₉ : Int)), (2, vi (laS sn eo (jx : Int) 0 j₉ (-1))), (0, vr E 94), (1, vi (jx : Int))] [] 4 := by
    intro n₉
    induction n₉ with
    | zero => intro j₉ hfu hj; exfalso; omega
    | succ n₉ ih₉ =>
      intro j₉ hfu hj
      have ga := laS_rg sn eo jx j₉
      refine go_iload_n (pc := 4) hF dX11_loopAround_4 0 rfl ?_
      refine go_iload_n (pc := 5) hF dX11_loopAround_5 3 rfl ?_
      refine go_icmp_ge (pc := 6) hF 43 dX11_loopAround_6 (by decide) (by omega) (by omega) (fun bq6 => ?_) (fun bq6 => ?_)
      · refine go_iload_n (pc := 43) hF dX11_loopAround_43 1 rfl ?_
        have ej : j₉ = jx := by omega
        subst ej
        exact go_iretQ hF hr hlk hQ dX11_loopAround_44 ⟨rfl, rfl⟩
      · have gj := hsg j₉ (by omega) (by omega)
        refine go_aload_n (pc := 9) hF dX11_loopAround_9 2 rfl ?_
        refine go_get (pc := 10) hF fl_X11_19 dX11_loopAround_10 (by omega) z101 rfl ?_
        refine go_iload_n (pc := 13) hF dX11_loopAround_13 0 rfl ?_
        refine go_iald (pc := 14) hF dX11_loopAround_14 (by omega) z105 (by omega)  ?_
        refine go_callSP (pc := 15) hF [vi (sn (j₉ : Int))] [] ms_X11_171 dX11_loopAround_15 (c_X11_isFigure E N σ (sn (j₉ : Int)) (by omega)) rfl rfl (Nat.le_of_ble_eq_true rfl) (by decide) ⟨Nat.zero_le _, Nat.zero_le _⟩ ?_
        refine go_if_eq (pc := 18) hF 35 dX11_loopAround_18 (by decide) (bI_rg _) (fun bq18 => ?_) (fun bq18 => ?_)
        · refine go_iload_n (pc := 35) hF dX11_loopAround_35 1 rfl ?_
          have eS : laS sn eo (jx : Int) 0 (j₉ + 1) (-1) = laS sn eo (jx : Int) 0 j₉ (-1) := by
            show (if (49 ≤ sn (0 + (j₉ : Int)) ∧ sn (0 + (j₉ : Int)) ≤ 57) ∧ (jx : Int) < eo (0 + (j₉ : Int)) then 0 + (j₉ : Int) else laS sn eo (jx : Int) 0 j₉ (-1)) = _
            rw [Int.zero_add, if_neg (by have q9₉ := (bI_0 _).mp bq18; exact fun z₉ => q9₉ z₉.1)]
          refine go_istore_n (pc := 36) hF [(2, vi (laS sn eo (jx : Int) 0 j₉ (-1))), (3, vi (j₉ : Int)), (0, vr E 94), (1, vi (jx : Int))] dX11_loopAround_36 rfl (by decide) ?_
          refine go_lvE [(2, vi (laS sn eo (jx : Int) 0 (j₉ + 1) (-1))), (3, vi (j₉ : Int)), (0, vr E 94), (1, vi (jx : Int))] (by rw [eS]) ?_
          refine go_iinc (pc := 37) hF [(3, vi ((j₉ : Int) + 1)), (2, vi (laS sn eo (jx : Int) 0 (j₉ + 1) (-1))), (0, vr E 94), (1, vi (jx : Int))] dX11_loopAround_37 1 rfl rfl (by decide) ?_
          refine go_goto (pc := 40) hF 4 dX11_loopAround_40 (by decide) ?_
          exact ih₉ (j₉ + 1) (by omega) (by omega)
        · have hfg : 49 ≤ sn (j₉ : Int) ∧ sn (j₉ : Int) ≤ 57 := Decidable.not_not.mp (fun z₉ => bq18 ((bI_0 _).mpr z₉))
          have ge := MA_fig t₉ hwf 0 hMA j₉ (by omega) (by omega) hfg
          refine go_aload_n (pc := 21) hF dX11_loopAround_21 2 rfl ?_
          refine go_get (pc := 22) hF fl_X11_22 dX11_loopAround_22 (by omega) z101 rfl ?_
          refine go_iload_n (pc := 25) hF dX11_loopAround_25 0 rfl ?_
          refine go_iald (pc := 26) hF dX11_loopAround_26 (by omega) z106 (by omega)  ?_
          refine go_iload_n (pc := 27) hF dX11_loopAround_27 3 rfl ?_
          refine go_icmp_le (pc := 28) hF 35 dX11_loopAround_28 (by decide) (by omega) (by omega) (fun bq28 => ?_) (fun bq28 => ?_)
          · refine go_iload_n (pc := 35) hF dX11_loopAround_35 1 rfl ?_
            have eS : laS sn eo (jx : Int) 0 (j₉ + 1) (-1) = laS sn eo (jx : Int) 0 j₉ (-1) := by
              show (if (49 ≤ sn (0 + (j₉ : Int)) ∧ sn (0 + (j₉ : Int)) ≤ 57) ∧ (jx : Int) < eo (0 + (j₉ : Int)) then 0 + (j₉ : Int) else laS sn eo (jx : Int) 0 j₉ (-1)) = _
              rw [Int.zero_add, if_neg (by exact fun z₉ => absurd z₉.2 (by omega))]
            refine go_istore_n (pc := 36) hF [(2, vi (laS sn eo (jx : Int) 0 j₉ (-1))), (3, vi (j₉ : Int)), (0, vr E 94), (1, vi (jx : Int))] dX11_loopAround_36 rfl (by decide) ?_
            refine go_lvE [(2, vi (laS sn eo (jx : Int) 0 (j₉ + 1) (-1))), (3, vi (j₉ : Int)), (0, vr E 94), (1, vi (jx : Int))] (by rw [eS]) ?_
            refine go_iinc (pc := 37) hF [(3, vi ((j₉ : Int) + 1)), (2, vi (laS sn eo (jx : Int) 0 (j₉ + 1) (-1))), (0, vr E 94), (1, vi (jx : Int))] dX11_loopAround_37 1 rfl rfl (by decide) ?_
            refine go_goto (pc := 40) hF 4 dX11_loopAround_40 (by decide) ?_
            exact ih₉ (j₉ + 1) (by omega) (by omega)
          · refine go_iload_n (pc := 31) hF dX11_loopAround_31 0 rfl ?_
            refine go_goto (pc := 32) hF 36 dX11_loopAround_32 (by decide) ?_
            have eS : laS sn eo (jx : Int) 0 (j₉ + 1) (-1) = (j₉ : Int) := by
              show (if (49 ≤ sn (0 + (j₉ : Int)) ∧ sn (0 + (j₉ : Int)) ≤ 57) ∧ (jx : Int) < eo (0 + (j₉ : Int)) then 0 + (j₉ : Int) else laS sn eo (jx : Int) 0 j₉ (-1)) = _
              rw [Int.zero_add, if_pos ⟨hfg, by omega⟩]
            refine go_istore_n (pc := 36) hF [(2, vi (j₉ : Int)), (3, vi (j₉ : Int)), (0, vr E 94), (1, vi (jx : Int))] dX11_loopAround_36 rfl (by decide) ?_
            refine go_lvE [(2, vi (laS sn eo (jx : Int) 0 (j₉ + 1) (-1))), (3, vi (j₉ : Int)), (0, vr E 94), (1, vi (jx : Int))] (by rw [eS]) ?_
            refine go_iinc (pc := 37) hF [(3, vi ((j₉ : Int) + 1)), (2, vi (laS sn eo (jx : Int) 0 (j₉ + 1) (-1))), (0, vr E 94), (1, vi (jx : Int))] dX11_loopAround_37 1 rfl rfl (by decide) ?_
            refine go_goto (pc := 40) hF 4 dX11_loopAround_40 (by decide) ?_
            exact ih₉ (j₉ + 1) (by omega) (by omega)
  exact loop₉ 82 0 rfl (by omega) 
set_option maxHeartbeats 4000000 in
set_option maxRecDepth 100000 in
theorem c_X11_sureOf (E : En) (N : Nat) (σ : Nat → va_E) {un tl rz hi₉ mi ak rt cn : Int} {t₉ : Tr} {nw ma my : Int → Int} (hN₉ : 120 ≤ N) (z101 : σ 94 = mOb E un (tLen t₉ : Int) tl rz hi₉ mi ak rt cn) (z102 : σ 95 = ai E 7 nw) (z115 : σ 108 = ai E 80 ma) (z116 : σ 109 = ai E 80 my) (u₉ px : Int) (hn4 : nw 4 = u₉) (hu : 1 ≤ u₉ ∧ u₉ ≤ 3) (hpx : 0 ≤ px ∧ px < 80) (hm1 : rg (ma px)) (hm2 : rg (my px)) : CP E M_X11_sureOf 1 [vr E 94, vi px] N σ (soM u₉ (ma px) (my px)) := by
  refine CT.of2 (own := RX11) (by decide) rfl (Nat.le_of_ble_eq_true rfl) ?_
  intro p e R s m args below meth c Q hF hr hlk hnm hz hR hQ
  refine go_aload_n (pc := 0) hF dX11_sureOf_0 0 rfl ?_
  refine go_get (pc := 1) hF fl_X11_50 dX11_sureOf_1 (by omega) z101 rfl ?_
  refine go_iload_n (pc := 4) hF dX11_sureOf_4 1 rfl ?_
  refine go_iald (pc := 5) hF dX11_sureOf_5 (by omega) z115 (by omega)  ?_
  refine go_aload_n (pc := 6) hF dX11_sureOf_6 0 rfl ?_
  refine go_get (pc := 7) hF fl_X11_7 dX11_sureOf_7 (by omega) z101 rfl ?_
  refine go_iconst (pc := 10) hF dX11_sureOf_10 ?_
  refine go_iald (pc := 11) hF dX11_sureOf_11 (by omega) z102 (by omega)  ?_
  refine go_icmp_ge (pc := 12) hF 19 dX11_sureOf_12 (by decide) (by omega) (by omega) (fun bq12 => ?_) (fun bq12 => ?_)
  · refine go_aload_n (pc := 19) hF dX11_sureOf_19 0 rfl ?_
    refine go_get (pc := 20) hF fl_X11_53 dX11_sureOf_20 (by omega) z101 rfl ?_
    refine go_iload_n (pc := 23) hF dX11_sureOf_23 1 rfl ?_
    refine go_iald (pc := 24) hF dX11_sureOf_24 (by omega) z116 (by omega)  ?_
    refine go_aload_n (pc := 25) hF dX11_sureOf_25 0 rfl ?_
    refine go_get (pc := 26) hF fl_X11_7 dX11_sureOf_26 (by omega) z101 rfl ?_
    refine go_iconst (pc := 29) hF dX11_sureOf_29 ?_
    refine go_iald (pc := 30) hF dX11_sureOf_30 (by omega) z102 (by omega)  ?_
    refine go_icmp_ne (pc := 31) hF 38 dX11_sureOf_31 (by decide) (by omega) (by omega) (fun bq31 => ?_) (fun bq31 => ?_)
    · refine go_iconst (pc := 38) hF dX11_sureOf_38 ?_
      exact go_iretQ hF hr hlk hQ dX11_sureOf_39 ⟨by unfold soM; rw [if_neg (by omega), if_neg (by omega)], rfl⟩
    · refine go_iconst (pc := 34) hF dX11_sureOf_34 ?_
      refine go_goto (pc := 35) hF 39 dX11_sureOf_35 (by decide) ?_
      exact go_iretQ hF hr hlk hQ dX11_sureOf_39 ⟨by unfold soM; rw [if_neg (by omega), if_pos (by omega)], rfl⟩
  · refine go_iconst (pc := 15) hF dX11_sureOf_15 ?_
    refine go_goto (pc := 16) hF 39 dX11_sureOf_16 (by decide) ?_
    exact go_iretQ hF hr hlk hQ dX11_sureOf_39 ⟨by unfold soM; rw [if_pos (by omega)], rfl⟩
theorem soT_rg (t₉ : Tr) (u₉ k₉ : Int) : 0 ≤ soT t₉ u₉ k₉ ∧ soT t₉ u₉ k₉ ≤ 2 := by
  unfold soT
  repeat' split
  all_goals omega
theorem pc6_rg {m : Int} (h : 0 ≤ m ∧ m < 64) : 0 ≤ pc6 m ∧ pc6 m ≤ 6 := by
  unfold pc6; omega
set_option maxHeartbeats 4000000 in
set_option maxRecDepth 100000 in
theorem c_X11_isKept (E : En) (N : Nat) (σ : Nat → va_E) {un tl rz hi₉ mi ak rt cn : Int} {t₉ : Tr} {nw sn eo bo ma my : Int → Int} (hN₉ : 120 ≤ N) (z101 : σ 94 = mOb E un (tLen t₉ : Int) tl rz hi₉ mi ak rt cn) (z102 : σ 95 = ai E 7 nw) (z105 : σ 98 = ai E 80 sn) (z106 : σ 99 = ai E 80 eo) (z115 : σ 108 = ai E 80 ma) (z116 : σ 109 = ai E 80 my) (hwf : wf t₉) (hMA : MA₉ sn eo bo t₉ 0) (hl80 : tLen t₉ ≤ 80) (u₉ : Int) (hn4 : nw 4 = u₉) (hu : 1 ≤ u₉ ∧ u₉ ≤ 3) (jx : Nat) (hjx : jx < tLen t₉) (hlx : 97 ≤ sn jx ∧ sn jx ≤ 102) (hfR : foR sn t₉ u₉ ma my) : CP E M_X11_isKept 4 [vr E 94, vi (jx : Int)] N σ (kpT t₉ u₉ (kN₉ sn jx)) := by
  refine CT.of2 (own := RX11) (by decide) rfl (Nat.le_of_ble_eq_true rfl) ?_
  intro p e R s m args below meth c Q hF hr hlk hnm hz hR hQ
  have hsg0 := MA_sg t₉ hwf 0 hMA
  have hsg : ∀ p : Int, 0 ≤ p → p < (tLen t₉ : Int) → 40 ≤ sn p ∧ sn p ≤ 124 := fun p a₉ b₉ => hsg0 p a₉ (by omega)
  have hla := la_at hwf hMA hjx hlx
  refine go_aload_n (pc := 0) hF dX11_isKept_0 0 rfl ?_
  refine go_iload_n (pc := 1) hF dX11_isKept_1 1 rfl ?_
  refine go_callVP (pc := 2) hF [vi (jx : Int)] [] mv_X11_207 dX11_isKept_2 (by omega) z101 (c_X11_loopAround E N σ hN₉ z101 z105 z106 hwf hMA hl80 jx hjx) rfl rfl (Nat.le_of_ble_eq_true rfl) (by decide) ⟨Nat.zero_le _, Nat.zero_le _⟩ ?_
  have gso := soT_rg t₉ u₉ (kN₉ sn jx)
  have gla := laS_rg sn eo jx jx
  refine go_istore_n (pc := 5) hF [(2, vi (laS sn eo (jx : Int) 0 jx (-1))), (0, vr E 94), (1, vi (jx : Int))] dX11_isKept_5 rfl (by decide) ?_
  refine go_aload_n (pc := 6) hF dX11_isKept_6 1 rfl ?_
  refine go_iload_n (pc := 7) hF dX11_isKept_7 2 rfl ?_
  refine go_callVP (pc := 8) hF [vi (jx : Int)] [] mv_X11_210 dX11_isKept_8 (by omega) z101 (show CP E M_X11_sureOf 1 [vr E 94, vi (jx : Int)] N σ (soT t₉ u₉ (kN₉ sn jx)) from (by have q₉ := hfR jx hjx hlx; have h := c_X11_sureOf E N σ hN₉ z101 z102 z115 z116 u₉ jx hn4 hu (by omega) (by omega) (by omega); rw [soM_at hfR hjx hlx] at h; exact h)) rfl rfl (Nat.le_of_ble_eq_true rfl) (by decide) ⟨Nat.zero_le _, Nat.zero_le _⟩ ?_
  refine go_iconst (pc := 11) hF dX11_isKept_11 ?_
  refine go_icmp_eq (pc := 12) hF 47 dX11_isKept_12 (by decide) (by omega) ⟨by decide, by decide⟩ (fun bq12 => ?_) (fun bq12 => ?_)
  · refine go_iconst (pc := 47) hF dX11_isKept_47 ?_
    refine go_zretQ hF hr hlk hQ dX11_isKept_48 (by decide) ⟨?_, rfl⟩
    unfold kpT
    exact (bI_f (fun z₉ => z₉.1 bq12)).symm
  · refine go_iload_n (pc := 15) hF dX11_isKept_15 0 rfl ?_
    refine go_iconst (pc := 16) hF dX11_isKept_16 ?_
    refine go_icmp_eq (pc := 17) hF 47 dX11_isKept_17 (by decide) (by omega) ⟨by decide, by decide⟩ (fun bq17 => ?_) (fun bq17 => ?_)
    · refine go_iconst (pc := 47) hF dX11_isKept_47 ?_
      refine go_zretQ hF hr hlk hQ dX11_isKept_48 (by decide) ⟨?_, rfl⟩
      unfold kpT
      exact (bI_f (fun z₉ => (z₉.2.1 (hla.elim (fun q₉ => by rw [q₉.2]) (fun q₉ => absurd q₉.1 (by omega)))))).symm
    · have hlm := (hla.resolve_left (fun z₉ => bq17 z₉.1))
      have hmk : 0 ≤ (infT t₉ (kN₉ sn jx)).2 ∧ (infT t₉ (kN₉ sn jx)).2 < 64 := by rw [← hlm.2.2.2]; exact fs_I (I₉ := fun m => 0 ≤ m ∧ m < 64) mkF_rg sn _ ⟨by decide, by decide⟩ _
      have hpc := pc6_rg hmk
      refine go_aload_n (pc := 20) hF dX11_isKept_20 1 rfl ?_
      refine go_iload_n (pc := 21) hF dX11_isKept_21 0 rfl ?_
      refine go_aload_n (pc := 22) hF dX11_isKept_22 1 rfl ?_
      refine go_get (pc := 23) hF fl_X11_22 dX11_isKept_23 (by omega) z101 rfl ?_
      refine go_iload_n (pc := 26) hF dX11_isKept_26 0 rfl ?_
      refine go_iald (pc := 27) hF dX11_isKept_27 (by omega) z106 (by omega)  ?_
      refine go_callVP (pc := 28) hF [vi (laS sn eo (jx : Int) 0 jx (-1)), vi (eo (laS sn eo (jx : Int) 0 jx (-1)))] [] mv_X11_186 dX11_isKept_28 (by omega) z101 (show CP E M_X11_linesIn 3 [vr E 94, vi (laS sn eo (jx : Int) 0 jx (-1)), vi (eo (laS sn eo (jx : Int) 0 jx (-1)))] N σ (infT t₉ (kN₉ sn jx)).2 from (by have h := c_X11_linesIn E N σ hN₉ z101 z105 hsg (by omega) (laS sn eo (jx : Int) 0 jx (-1)) (eo (laS sn eo (jx : Int) 0 jx (-1))) (by omega); rw [hlm.2.2.2] at h; exact h)) rfl rfl (Nat.le_of_ble_eq_true rfl) (by decide) ⟨Nat.zero_le _, Nat.zero_le _⟩ ?_
      refine go_callSP (pc := 31) hF [vi ((infT t₉ (kN₉ sn jx)).2)] [] ms_X11_213 dX11_isKept_31 (c_X11_bits E N σ ((infT t₉ (kN₉ sn jx)).2) hmk) rfl rfl (Nat.le_of_ble_eq_true rfl) (by decide) ⟨Nat.zero_le _, Nat.zero_le _⟩ ?_
      refine go_aload_n (pc := 34) hF dX11_isKept_34 1 rfl ?_
      refine go_get (pc := 35) hF fl_X11_7 dX11_isKept_35 (by omega) z101 rfl ?_
      refine go_iconst (pc := 38) hF dX11_isKept_38 ?_
      refine go_iald (pc := 39) hF dX11_isKept_39 (by omega) z102 (by omega)  ?_
      refine go_icmp_gt (pc := 40) hF 47 dX11_isKept_40 (by decide) (by omega) (by omega) (fun bq40 => ?_) (fun bq40 => ?_)
      · refine go_iconst (pc := 47) hF dX11_isKept_47 ?_
        refine go_zretQ hF hr hlk hQ dX11_isKept_48 (by decide) ⟨?_, rfl⟩
        unfold kpT
        exact (bI_f (fun z₉ => absurd z₉.2.2 (by omega))).symm
      · refine go_iconst (pc := 43) hF dX11_isKept_43 ?_
        refine go_goto (pc := 44) hF 48 dX11_isKept_44 (by decide) ?_
        refine go_zretQ hF hr hlk hQ dX11_isKept_48 (by decide) ⟨?_, rfl⟩
        unfold kpT
        exact (bI_t ⟨bq12, fun z₉ => absurd hlm.2.2.1 (by rw [z₉]; omega), by omega⟩).symm
set_option maxHeartbeats 4000000 in
set_option maxRecDepth 100000 in
theorem c_X11_of_bad (E : En) (N : Nat) (σ : Nat → va_E) (r₉ u₉ kd pr : Int) (yr yw yk yp : Int → Int) (hs : Int) (tx : Int → Int) (tl : Int) (t₉ : Tr) (xb xn xf q1₉ q2₉ q3₉ : Int) (hN₉ : 120 ≤ N) (hO : okS r₉ u₉ kd pr yr yw yk yp hs tx tl t₉ xb xn xf q1₉ q2₉ q3₉) (hS₉ : mdS E σ r₉ u₉ kd pr yr yw yk yp hs tx tl t₉ xb xn xf q1₉ q2₉ q3₉) (k9 x₉ : Int) (hk9 : rg k9) (hx : rg x₉) (hno : ¬ ((0 ≤ k9 ∧ k9 ≤ tLks t₉ - 1) ∧ 0 ≤ x₉ ∧ x₉ ≤ 5)) : CI E M_X11_of 16 [vr E 94, vi k9, vi x₉] N σ (fun y₉ σ' => y₉ = (-2) ∧ mdS E σ' r₉ u₉ kd pr yr yw yk yp hs tx tl t₉ (wr₉ (xb + 1)) xn xf q1₉ q2₉ q3₉ ∧ ∀ q₉, q₉ < 94 → σ' q₉ = σ q₉) := by
  refine CT.of2 (own := RX11) (by decide) rfl (Nat.le_of_ble_eq_true rfl) ?_
  intro p e R s m args below meth c Q hF hr hlk hnm hz hR hQ
  obtain ⟨nw, pa, rf, sn, eo, bo, rr, rz, hi₉, mi, ak, rt, cn, z101, z102, z103, z104, z105, z106, z107, z108, z126, ⟨⟨g109, z109⟩, ⟨g110, z110⟩, ⟨g111, z111⟩, ⟨g112, z112⟩, ⟨g113, z113⟩, ⟨g114, z114⟩, ⟨g115, z115⟩, ⟨g116, z116⟩, ⟨g117, z117⟩, ⟨g118, z118⟩, ⟨g119, z119⟩, ⟨g120, z120⟩, ⟨g121, z121⟩, ⟨g122, z122⟩, ⟨g123, z123⟩, ⟨g124, z124⟩, ⟨g125, z125⟩⟩, hnw, hpa, hrf, hrr, hMA⟩ := hS₉
  obtain ⟨⟨hrw, hu, hkd, hpr⟩, hhs, hyy, htl, htx, hxb, hxn, hxf, hq1, hq2, hq3, hwf, hdp3, hl80, hl24⟩ := hO
  have hrw3 := vrow_up hrw (show u₉ ≤ 3 by omega)
  have hrr0 := hrw.1
  obtain ⟨n0₉, n1₉, n2₉, n3₉, n4₉, n5₉, n6₉⟩ := id hnw
  have gl := mLong_rg r₉
  have hsg0 := MA_sg t₉ hwf 0 hMA
  have hsg : ∀ p : Int, 0 ≤ p → p < (tLen t₉ : Int) → 40 ≤ sn p ∧ sn p ≤ 124 := fun p a₉ b₉ => hsg0 p a₉ (by omega)
  refine go_iload_n (pc := 0) hF dX11_of_0 1 rfl ?_
  refine go_i2l (pc := 1) hF dX11_of_1 (by omega) ?_
  refine go_lconst (pc := 2) (v := 0) hF dX11_of_2 (by decide) ?_
  refine go_aload_n (pc := 3) hF dX11_of_3 0 rfl ?_
  refine go_iconst (pc := 4) hF dX11_of_4 ?_
  refine go_callVP (pc := 5) hF [vi 0] [vl 0, vl k9] mv_X11_180 dX11_of_5 (by omega) z101 (show CP E M_X11_countOf 3 [vr E 94, vi 0] N σ (tLks t₉ : Int) from (by have h := c_X11_countOf E N σ hN₉ z101 z105 hsg (by omega) 0 (by omega); rw [Int.toNat_natCast, cnt_tree 0 (by omega) t₉ hwf 0 0 hMA, Int.zero_add] at h; exact h)) rfl rfl (Nat.le_of_ble_eq_true rfl) (by decide) ⟨Nat.zero_le _, Nat.zero_le _⟩ ?_
  refine go_iconst (pc := 8) hF dX11_of_8 ?_
  refine go_isub (pc := 9) hF dX11_of_9 ?_
  refine go_i2l (pc := 10) hF dX11_of_10 (by omega) ?_
  refine go_callSP (pc := 11) hF [vl k9, vl 0, vl ((tLks t₉ : Int) - 1)] [] ms_X11_89 dX11_of_11 (c_X11_in E N σ k9 0 ((tLks t₉ : Int) - 1) (by omega) ⟨by decide, by decide⟩ (by omega)) rfl rfl (Nat.le_of_ble_eq_true rfl) (by decide) ⟨Nat.zero_le _, Nat.zero_le _⟩ ?_
  refine go_if_eq (pc := 14) hF 29 dX11_of_14 (by decide) (bI_rg _) (fun bq14 => ?_) (fun bq14 => ?_)
  · refine go_aload_n (pc := 29) hF dX11_of_29 0 rfl ?_
    refine go_callVI (pc := 30) hF [] [] mv_X11_120 dX11_of_30 (by omega) z101 (c_X11_bad E N σ hN₉ z101 z104) rfl rfl (Nat.le_of_ble_eq_true rfl) (by decide) ⟨Nat.zero_le _, Nat.zero_le _⟩ (fun r_s1 s1₉ h_s1 => ?_)
    obtain ⟨e_s1, u_s1, f_s1⟩ := h_s1
    subst e_s1
    have x_s1 := (f_s1 94 (by omega)).trans z101
    have nw_s1 := (f_s1 95 (by omega)).trans z102
    have pa_s1 := (f_s1 96 (by omega)).trans z103
    have sn_s1 := (f_s1 98 (by omega)).trans z105
    have eo_s1 := (f_s1 99 (by omega)).trans z106
    have bo_s1 := (f_s1 100 (by omega)).trans z107
    have tx_s1 := (f_s1 101 (by omega)).trans z108
    have rr_s1 := (f_s1 119 (by omega)).trans z126
    have readSign_s1 := (f_s1 102 (by omega)).trans z109
    have open_s1 := (f_s1 103 (by omega)).trans z110
    have isBarred_s1 := (f_s1 104 (by omega)).trans z111
    have ages_s1 := (f_s1 105 (by omega)).trans z112
    have entered_s1 := (f_s1 106 (by omega)).trans z113
    have first_s1 := (f_s1 107 (by omega)).trans z114
    have mustAt_s1 := (f_s1 108 (by omega)).trans z115
    have mayAt_s1 := (f_s1 109 (by omega)).trans z116
    have sums_s1 := (f_s1 110 (by omega)).trans z117
    have sumsFirst_s1 := (f_s1 111 (by omega)).trans z118
    have took_s1 := (f_s1 112 (by omega)).trans z119
    have next_s1 := (f_s1 113 (by omega)).trans z120
    have inOf_s1 := (f_s1 114 (by omega)).trans z121
    have firstOf_s1 := (f_s1 115 (by omega)).trans z122
    have rounds_s1 := (f_s1 116 (by omega)).trans z123
    have counts_s1 := (f_s1 117 (by omega)).trans z124
    have countsFirst_s1 := (f_s1 118 (by omega)).trans z125
    exact go_iretQ hF hr hlk hQ dX11_of_33 ⟨rfl, ⟨_, _, _, _, _, _, _, _, _, _, _, _, _, x_s1, nw_s1, pa_s1, u_s1, sn_s1, eo_s1, bo_s1, tx_s1, rr_s1, ⟨⟨_, readSign_s1⟩, ⟨_, open_s1⟩, ⟨_, isBarred_s1⟩, ⟨_, ages_s1⟩, ⟨_, entered_s1⟩, ⟨_, first_s1⟩, ⟨_, mustAt_s1⟩, ⟨_, mayAt_s1⟩, ⟨_, sums_s1⟩, ⟨_, sumsFirst_s1⟩, ⟨_, took_s1⟩, ⟨_, next_s1⟩, ⟨_, inOf_s1⟩, ⟨_, firstOf_s1⟩, ⟨_, rounds_s1⟩, ⟨_, counts_s1⟩, ⟨_, countsFirst_s1⟩⟩, hnw, hpa, ⟨by rw [badF_at, hrf.1], by rw [badF_ne (by decide) (by rw [hrf.2.1]; exact hxn)]; exact hrf.2.1, by rw [badF_ne (by decide) (by rw [hrf.2.2]; exact hxf)]; exact hrf.2.2⟩, hrr, hMA⟩, (fun jj hjj => by rw [f_s1 jj (by omega)])⟩
  · refine go_iload_n (pc := 17) hF dX11_of_17 2 rfl ?_
    refine go_i2l (pc := 18) hF dX11_of_18 (by omega) ?_
    refine go_lconst (pc := 19) (v := 0) hF dX11_of_19 (by decide) ?_
    refine go_ldc2 (pc := 20) hF kc_X11_87 dX11_of_20 ?_
    refine go_callSP (pc := 23) hF [vl x₉, vl 0, vl 5] [] ms_X11_89 dX11_of_23 (c_X11_in E N σ x₉ 0 5 (by omega) ⟨by decide, by decide⟩ ⟨by decide, by decide⟩) rfl rfl (Nat.le_of_ble_eq_true rfl) (by decide) ⟨Nat.zero_le _, Nat.zero_le _⟩ ?_
    refine go_if_ne (pc := 26) hF 34 dX11_of_26 (by decide) (bI_rg _) (fun bq26 => ?_) (fun bq26 => ?_)
    · exact absurd ⟨Decidable.not_not.mp (fun z₉ => bq14 ((bI_0 _).mpr z₉)), Decidable.not_not.mp (fun z₉ => bq26 ((bI_0 _).mpr z₉))⟩ hno
    · refine go_aload_n (pc := 29) hF dX11_of_29 0 rfl ?_
      refine go_callVI (pc := 30) hF [] [] mv_X11_120 dX11_of_30 (by omega) z101 (c_X11_bad E N σ hN₉ z101 z104) rfl rfl (Nat.le_of_ble_eq_true rfl) (by decide) ⟨Nat.zero_le _, Nat.zero_le _⟩ (fun r_s2 s2₉ h_s2 => ?_)
      obtain ⟨e_s2, u_s2, f_s2⟩ := h_s2
      subst e_s2
      have x_s2 := (f_s2 94 (by omega)).trans z101
      have nw_s2 := (f_s2 95 (by omega)).trans z102
      have pa_s2 := (f_s2 96 (by omega)).trans z103
      have sn_s2 := (f_s2 98 (by omega)).trans z105
      have eo_s2 := (f_s2 99 (by omega)).trans z106
      have bo_s2 := (f_s2 100 (by omega)).trans z107
      have tx_s2 := (f_s2 101 (by omega)).trans z108
      have rr_s2 := (f_s2 119 (by omega)).trans z126
      have readSign_s2 := (f_s2 102 (by omega)).trans z109
      have open_s2 := (f_s2 103 (by omega)).trans z110
      have isBarred_s2 := (f_s2 104 (by omega)).trans z111
      have ages_s2 := (f_s2 105 (by omega)).trans z112
      have entered_s2 := (f_s2 106 (by omega)).trans z113
      have first_s2 := (f_s2 107 (by omega)).trans z114
      have mustAt_s2 := (f_s2 108 (by omega)).trans z115
      have mayAt_s2 := (f_s2 109 (by omega)).trans z116
      have sums_s2 := (f_s2 110 (by omega)).trans z117
      have sumsFirst_s2 := (f_s2 111 (by omega)).trans z118
      have took_s2 := (f_s2 112 (by omega)).trans z119
      have next_s2 := (f_s2 113 (by omega)).trans z120
      have inOf_s2 := (f_s2 114 (by omega)).trans z121
      have firstOf_s2 := (f_s2 115 (by omega)).trans z122
      have rounds_s2 := (f_s2 116 (by omega)).trans z123
      have counts_s2 := (f_s2 117 (by omega)).trans z124
      have countsFirst_s2 := (f_s2 118 (by omega)).trans z125
      exact go_iretQ hF hr hlk hQ dX11_of_33 ⟨rfl, ⟨_, _, _, _, _, _, _, _, _, _, _, _, _, x_s2, nw_s2, pa_s2, u_s2, sn_s2, eo_s2, bo_s2, tx_s2, rr_s2, ⟨⟨_, readSign_s2⟩, ⟨_, open_s2⟩, ⟨_, isBarred_s2⟩, ⟨_, ages_s2⟩, ⟨_, entered_s2⟩, ⟨_, first_s2⟩, ⟨_, mustAt_s2⟩, ⟨_, mayAt_s2⟩, ⟨_, sums_s2⟩, ⟨_, sumsFirst_s2⟩, ⟨_, took_s2⟩, ⟨_, next_s2⟩, ⟨_, inOf_s2⟩, ⟨_, firstOf_s2⟩, ⟨_, rounds_s2⟩, ⟨_, counts_s2⟩, ⟨_, countsFirst_s2⟩⟩, hnw, hpa, ⟨by rw [badF_at, hrf.1], by rw [badF_ne (by decide) (by rw [hrf.2.1]; exact hxn)]; exact hrf.2.1, by rw [badF_ne (by decide) (by rw [hrf.2.2]; exact hxf)]; exact hrf.2.2⟩, hrr, hMA⟩, (fun jj hjj => by rw [f_s2 jj (by omega)])⟩
theorem suG3_1 (t₉ : Tr) (u₉ k₉ : Int) (h : ¬ kpT t₉ u₉ k₉ = 0) : kpT t₉ u₉ k₉ = 1 := by
  unfold kpT bI at *
  split
  · rfl
  · rename_i q₉; rw [if_neg q₉] at h; exact absurd rfl h
set_option maxHeartbeats 4000000 in
set_option maxRecDepth 100000 in
theorem c_X11_of_ok (E : En) (N : Nat) (σ : Nat → va_E) (r₉ u₉ kd pr : Int) (yr yw yk yp : Int → Int) (hs : Int) (tx : Int → Int) (tl : Int) (t₉ : Tr) (xb xn xf q1₉ q2₉ q3₉ : Int) (hN₉ : 120 ≤ N) (hO : okS r₉ u₉ kd pr yr yw yk yp hs tx tl t₉ xb xn xf q1₉ q2₉ q3₉) (hS₉ : mdS E σ r₉ u₉ kd pr yr yw yk yp hs tx tl t₉ xb xn xf q1₉ q2₉ q3₉) (k9 x₉ : Int) (hk9 : 0 ≤ k9 ∧ k9 ≤ tLks t₉ - 1) (hx : 0 ≤ x₉ ∧ x₉ ≤ 5) : CI E M_X11_of 16 [vr E 94, vi k9, vi x₉] N σ (fun y₉ σ' => y₉ = ofA t₉ u₉ k9 x₉ ∧ mdS E σ' r₉ u₉ kd pr yr yw yk yp hs tx tl t₉ xb xn xf q1₉ q2₉ q3₉ ∧ ∀ q₉, q₉ < 94 → σ' q₉ = σ q₉) := by
  refine CT.of2 (own := RX11) (by decide) rfl (Nat.le_of_ble_eq_true rfl) ?_
  intro p e R s m args below meth c Q hF hr hlk hnm hz hR hQ
  obtain ⟨nw, pa, rf, sn, eo, bo, rr, rz, hi₉, mi, ak, rt, cn, z101, z102, z103, z104, z105, z106, z107, z108, z126, ⟨⟨g109, z109⟩, ⟨g110, z110⟩, ⟨g111, z111⟩, ⟨g112, z112⟩, ⟨g113, z113⟩, ⟨g114, z114⟩, ⟨g115, z115⟩, ⟨g116, z116⟩, ⟨g117, z117⟩, ⟨g118, z118⟩, ⟨g119, z119⟩, ⟨g120, z120⟩, ⟨g121, z121⟩, ⟨g122, z122⟩, ⟨g123, z123⟩, ⟨g124, z124⟩, ⟨g125, z125⟩⟩, hnw, hpa, hrf, hrr, hMA⟩ := hS₉
  obtain ⟨⟨hrw, hu, hkd, hpr⟩, hhs, hyy, htl, htx, hxb, hxn, hxf, hq1, hq2, hq3, hwf, hdp3, hl80, hl24⟩ := hO
  have hrw3 := vrow_up hrw (show u₉ ≤ 3 by omega)
  have hrr0 := hrw.1
  obtain ⟨n0₉, n1₉, n2₉, n3₉, n4₉, n5₉, n6₉⟩ := id hnw
  have gl := mLong_rg r₉
  have hsg0 := MA_sg t₉ hwf 0 hMA
  have hsg : ∀ p : Int, 0 ≤ p → p < (tLen t₉ : Int) → 40 ≤ sn p ∧ sn p ≤ 124 := fun p a₉ b₉ => hsg0 p a₉ (by omega)
  refine go_iload_n (pc := 0) hF dX11_of_0 1 rfl ?_
  refine go_i2l (pc := 1) hF dX11_of_1 (by omega) ?_
  refine go_lconst (pc := 2) (v := 0) hF dX11_of_2 (by decide) ?_
  refine go_aload_n (pc := 3) hF dX11_of_3 0 rfl ?_
  refine go_iconst (pc := 4) hF dX11_of_4 ?_
  refine go_callVP (pc := 5) hF [vi 0] [vl 0, vl k9] mv_X11_180 dX11_of_5 (by omega) z101 (show CP E M_X11_countOf 3 [vr E 94, vi 0] N σ (tLks t₉ : Int) from (by have h := c_X11_countOf E N σ hN₉ z101 z105 hsg (by omega) 0 (by omega); rw [Int.toNat_natCast, cnt_tree 0 (by omega) t₉ hwf 0 0 hMA, Int.zero_add] at h; exact h)) rfl rfl (Nat.le_of_ble_eq_true rfl) (by decide) ⟨Nat.zero_le _, Nat.zero_le _⟩ ?_
  refine go_iconst (pc := 8) hF dX11_of_8 ?_
  refine go_isub (pc := 9) hF dX11_of_9 ?_
  refine go_i2l (pc := 10) hF dX11_of_10 (by omega) ?_
  refine go_callSP (pc := 11) hF [vl k9, vl 0, vl ((tLks t₉ : Int) - 1)] [] ms_X11_89 dX11_of_11 (c_X11_in E N σ k9 0 ((tLks t₉ : Int) - 1) (by omega) ⟨by decide, by decide⟩ (by omega)) rfl rfl (Nat.le_of_ble_eq_true rfl) (by decide) ⟨Nat.zero_le _, Nat.zero_le _⟩ ?_
  refine go_if_eq (pc := 14) hF 29 dX11_of_14 (by decide) (bI_rg _) (fun bq14 => ?_) (fun bq14 => ?_)
  · exact absurd ((bI_0 _).mp bq14) (by omega)
  · refine go_iload_n (pc := 17) hF dX11_of_17 2 rfl ?_
    refine go_i2l (pc := 18) hF dX11_of_18 (by omega) ?_
    refine go_lconst (pc := 19) (v := 0) hF dX11_of_19 (by decide) ?_
    refine go_ldc2 (pc := 20) hF kc_X11_87 dX11_of_20 ?_
    refine go_callSP (pc := 23) hF [vl x₉, vl 0, vl 5] [] ms_X11_89 dX11_of_23 (c_X11_in E N σ x₉ 0 5 (by omega) ⟨by decide, by decide⟩ ⟨by decide, by decide⟩) rfl rfl (Nat.le_of_ble_eq_true rfl) (by decide) ⟨Nat.zero_le _, Nat.zero_le _⟩ ?_
    refine go_if_ne (pc := 26) hF 34 dX11_of_26 (by decide) (bI_rg _) (fun bq26 => ?_) (fun bq26 => ?_)
    · refine go_aload_n (pc := 34) hF dX11_of_34 0 rfl ?_
      refine go_callVV (pc := 35) hF [] [] mv_X11_216 dX11_of_35 (by omega) z101 (c_X11_follows E N σ hN₉ z101 z102 z105 z106 z112 z113 z114 z115 z116 hwf hMA hl80 hdp3 (by rw [n4₉]; exact hu)) rfl rfl (Nat.le_of_ble_eq_true rfl) (by decide) ⟨Nat.zero_le _, Nat.zero_le _⟩ (fun s1₉ h_s1 => ?_)
      obtain ⟨ag_s1, eg_s1, fg_s1, ma_s1, my_s1, ⟨w1_s1, w2_s1, w3_s1, w4_s1, w5_s1, f_s1⟩, ha_s1, hc_s1⟩ := h_s1
      rw [n4₉] at ha_s1 hc_s1
      have hfR := foR_of hwf hMA hu.1 hc_s1
      have x_s1 := (f_s1 94 (by omega)).trans z101
      have nw_s1 := (f_s1 95 (by omega)).trans z102
      have pa_s1 := (f_s1 96 (by omega)).trans z103
      have rf_s1 := (f_s1 97 (by omega)).trans z104
      have sn_s1 := (f_s1 98 (by omega)).trans z105
      have eo_s1 := (f_s1 99 (by omega)).trans z106
      have bo_s1 := (f_s1 100 (by omega)).trans z107
      have tx_s1 := (f_s1 101 (by omega)).trans z108
      have rr_s1 := (f_s1 119 (by omega)).trans z126
      have readSign_s1 := (f_s1 102 (by omega)).trans z109
      have open_s1 := (f_s1 103 (by omega)).trans z110
      have isBarred_s1 := (f_s1 104 (by omega)).trans z111
      have sums_s1 := (f_s1 110 (by omega)).trans z117
      have sumsFirst_s1 := (f_s1 111 (by omega)).trans z118
      have took_s1 := (f_s1 112 (by omega)).trans z119
      have next_s1 := (f_s1 113 (by omega)).trans z120
      have inOf_s1 := (f_s1 114 (by omega)).trans z121
      have firstOf_s1 := (f_s1 115 (by omega)).trans z122
      have rounds_s1 := (f_s1 116 (by omega)).trans z123
      have counts_s1 := (f_s1 117 (by omega)).trans z124
      have countsFirst_s1 := (f_s1 118 (by omega)).trans z125
      refine go_aload_n (pc := 38) hF dX11_of_38 0 rfl ?_
      refine go_iload_n (pc := 39) hF dX11_of_39 1 rfl ?_
      refine go_callVI (pc := 40) hF [vi k9] [] mv_X11_219 dX11_of_40 (by omega) x_s1 (c_X11_lookAt E N s1₉ hN₉ x_s1 sn_s1 hwf hMA hl80 k9 (by omega)) rfl rfl (Nat.le_of_ble_eq_true rfl) (by decide) ⟨Nat.zero_le _, Nat.zero_le _⟩ (fun r_s2 s2₉ h_s2 => ?_)
      obtain ⟨⟨jx, rfl, hjx, hlx, hkx⟩, f_s2⟩ := h_s2
      have x_s2 := (f_s2 94 (by omega)).trans x_s1
      have nw_s2 := (f_s2 95 (by omega)).trans nw_s1
      have pa_s2 := (f_s2 96 (by omega)).trans pa_s1
      have rf_s2 := (f_s2 97 (by omega)).trans rf_s1
      have sn_s2 := (f_s2 98 (by omega)).trans sn_s1
      have eo_s2 := (f_s2 99 (by omega)).trans eo_s1
      have bo_s2 := (f_s2 100 (by omega)).trans bo_s1
      have tx_s2 := (f_s2 101 (by omega)).trans tx_s1
      have rr_s2 := (f_s2 119 (by omega)).trans rr_s1
      have readSign_s2 := (f_s2 102 (by omega)).trans readSign_s1
      have open_s2 := (f_s2 103 (by omega)).trans open_s1
      have isBarred_s2 := (f_s2 104 (by omega)).trans isBarred_s1
      have ages_s2 := (f_s2 105 (by omega)).trans w1_s1
      have entered_s2 := (f_s2 106 (by omega)).trans w2_s1
      have first_s2 := (f_s2 107 (by omega)).trans w3_s1
      have mustAt_s2 := (f_s2 108 (by omega)).trans w4_s1
      have mayAt_s2 := (f_s2 109 (by omega)).trans w5_s1
      have sums_s2 := (f_s2 110 (by omega)).trans sums_s1
      have sumsFirst_s2 := (f_s2 111 (by omega)).trans sumsFirst_s1
      have took_s2 := (f_s2 112 (by omega)).trans took_s1
      have next_s2 := (f_s2 113 (by omega)).trans next_s1
      have inOf_s2 := (f_s2 114 (by omega)).trans inOf_s1
      have firstOf_s2 := (f_s2 115 (by omega)).trans firstOf_s1
      have rounds_s2 := (f_s2 116 (by omega)).trans rounds_s1
      have counts_s2 := (f_s2 117 (by omega)).trans counts_s1
      have countsFirst_s2 := (f_s2 118 (by omega)).trans countsFirst_s1
      refine go_istore_n (pc := 43) hF [(3, vi (jx : Int)), (0, vr E 94), (1, vi k9), (2, vi x₉)] dX11_of_43 rfl (by decide) ?_
      refine go_aload_n (pc := 44) hF dX11_of_44 1 rfl ?_
      refine go_iload_n (pc := 45) hF dX11_of_45 0 rfl ?_
      refine go_callVP (pc := 46) hF [vi (jx : Int)] [] mv_X11_207 dX11_of_46 (by omega) x_s2 (c_X11_loopAround E N s2₉ hN₉ x_s2 sn_s2 eo_s2 hwf hMA hl80 jx hjx) rfl rfl (Nat.le_of_ble_eq_true rfl) (by decide) ⟨Nat.zero_le _, Nat.zero_le _⟩ ?_
      refine go_istore (pc := 49) hF [(4, vi (laS sn eo (jx : Int) 0 jx (-1))), (3, vi (jx : Int)), (0, vr E 94), (1, vi k9), (2, vi x₉)] dX11_of_49 rfl (by decide) ?_
      have hla := la_at hwf hMA hjx hlx
      have gla := laS_rg sn eo jx jx
      have gkp : 0 ≤ kpT t₉ u₉ (kN₉ sn jx) ∧ kpT t₉ u₉ (kN₉ sn jx) ≤ 1 := bI_01 _
      obtain rfl | rfl | rfl | rfl | rfl | rfl : x₉ = 0 ∨ x₉ = 1 ∨ x₉ = 2 ∨ x₉ = 3 ∨ x₉ = 4 ∨ x₉ = 5 := by omega
      · refine go_iload_n (pc := 51) hF dX11_of_51 4 rfl ?_
        refine go_tableIn (pc := 52) hF 88 dX11_of_52 ⟨by decide, by decide⟩ (by decide) rfl (by decide) ?_
        refine go_aload_n (pc := 88) hF dX11_of_88 2 rfl ?_
        refine go_get (pc := 89) hF fl_X11_19 dX11_of_89 (by omega) x_s2 rfl ?_
        refine go_iload_n (pc := 92) hF dX11_of_92 1 rfl ?_
        refine go_iald (pc := 93) hF dX11_of_93 (by omega) sn_s2 (by omega)  ?_
        refine go_bipush (pc := 94) hF dX11_of_94 (by decide) ?_
        refine go_isub (pc := 96) hF dX11_of_96 ?_
        refine go_iretQ hF hr hlk hQ dX11_of_97 ⟨?_, ⟨_, _, _, _, _, _, _, _, _, _, _, _, _, x_s2, nw_s2, pa_s2, rf_s2, sn_s2, eo_s2, bo_s2, tx_s2, rr_s2, ⟨⟨_, readSign_s2⟩, ⟨_, open_s2⟩, ⟨_, isBarred_s2⟩, ⟨_, ages_s2⟩, ⟨_, entered_s2⟩, ⟨_, first_s2⟩, ⟨_, mustAt_s2⟩, ⟨_, mayAt_s2⟩, ⟨_, sums_s2⟩, ⟨_, sumsFirst_s2⟩, ⟨_, took_s2⟩, ⟨_, next_s2⟩, ⟨_, inOf_s2⟩, ⟨_, firstOf_s2⟩, ⟨_, rounds_s2⟩, ⟨_, counts_s2⟩, ⟨_, countsFirst_s2⟩⟩, hnw, hpa, hrf, hrr, hMA⟩, (fun jj hjj => by rw [f_s2 jj (by omega), f_s1 jj (by omega)])⟩
        show sn (jx : Int) - 97 = (tLn t₉).getD k9.toNat 0; rw [← hkx]; exact (ln_at hwf hMA hjx hlx).symm
      · refine go_iload_n (pc := 51) hF dX11_of_51 4 rfl ?_
        refine go_tableIn (pc := 52) hF 98 dX11_of_52 ⟨by decide, by decide⟩ (by decide) rfl (by decide) ?_
        refine go_aload_n (pc := 98) hF dX11_of_98 2 rfl ?_
        refine go_iload_n (pc := 99) hF dX11_of_99 1 rfl ?_
        refine go_callVP (pc := 100) hF [vi (jx : Int)] [] mv_X11_210 dX11_of_100 (by omega) x_s2 (show CP E M_X11_sureOf 1 [vr E 94, vi (jx : Int)] N s2₉ (soT t₉ u₉ (kN₉ sn jx)) from (by have q₉ := hfR jx hjx hlx; have h := c_X11_sureOf E N s2₉ hN₉ x_s2 nw_s2 mustAt_s2 mayAt_s2 u₉ jx n4₉ hu (by omega) (by omega) (by omega); rw [soM_at hfR hjx hlx] at h; exact h)) rfl rfl (Nat.le_of_ble_eq_true rfl) (by decide) ⟨Nat.zero_le _, Nat.zero_le _⟩ ?_
        refine go_iretQ hF hr hlk hQ dX11_of_103 ⟨?_, ⟨_, _, _, _, _, _, _, _, _, _, _, _, _, x_s2, nw_s2, pa_s2, rf_s2, sn_s2, eo_s2, bo_s2, tx_s2, rr_s2, ⟨⟨_, readSign_s2⟩, ⟨_, open_s2⟩, ⟨_, isBarred_s2⟩, ⟨_, ages_s2⟩, ⟨_, entered_s2⟩, ⟨_, first_s2⟩, ⟨_, mustAt_s2⟩, ⟨_, mayAt_s2⟩, ⟨_, sums_s2⟩, ⟨_, sumsFirst_s2⟩, ⟨_, took_s2⟩, ⟨_, next_s2⟩, ⟨_, inOf_s2⟩, ⟨_, firstOf_s2⟩, ⟨_, rounds_s2⟩, ⟨_, counts_s2⟩, ⟨_, countsFirst_s2⟩⟩, hnw, hpa, hrf, hrr, hMA⟩, (fun jj hjj => by rw [f_s2 jj (by omega), f_s1 jj (by omega)])⟩
        show soT t₉ u₉ (kN₉ sn jx) = soT t₉ u₉ k9; rw [hkx]
      · refine go_iload_n (pc := 51) hF dX11_of_51 4 rfl ?_
        refine go_tableIn (pc := 52) hF 104 dX11_of_52 ⟨by decide, by decide⟩ (by decide) rfl (by decide) ?_
        refine go_aload_n (pc := 104) hF dX11_of_104 2 rfl ?_
        refine go_get (pc := 105) hF fl_X11_50 dX11_of_105 (by omega) x_s2 rfl ?_
        refine go_iload_n (pc := 108) hF dX11_of_108 1 rfl ?_
        refine go_iald (pc := 109) hF dX11_of_109 (by omega) mustAt_s2 (by omega)  ?_
        refine go_iretQ hF hr hlk hQ dX11_of_110 ⟨?_, ⟨_, _, _, _, _, _, _, _, _, _, _, _, _, x_s2, nw_s2, pa_s2, rf_s2, sn_s2, eo_s2, bo_s2, tx_s2, rr_s2, ⟨⟨_, readSign_s2⟩, ⟨_, open_s2⟩, ⟨_, isBarred_s2⟩, ⟨_, ages_s2⟩, ⟨_, entered_s2⟩, ⟨_, first_s2⟩, ⟨_, mustAt_s2⟩, ⟨_, mayAt_s2⟩, ⟨_, sums_s2⟩, ⟨_, sumsFirst_s2⟩, ⟨_, took_s2⟩, ⟨_, next_s2⟩, ⟨_, inOf_s2⟩, ⟨_, firstOf_s2⟩, ⟨_, rounds_s2⟩, ⟨_, counts_s2⟩, ⟨_, countsFirst_s2⟩⟩, hnw, hpa, hrf, hrr, hMA⟩, (fun jj hjj => by rw [f_s2 jj (by omega), f_s1 jj (by omega)])⟩
        show _ = R1 t₉ u₉ k9; rw [← hkx]; exact (hfR jx hjx hlx).1.1
      · refine go_iload_n (pc := 51) hF dX11_of_51 4 rfl ?_
        refine go_tableIn (pc := 52) hF 111 dX11_of_52 ⟨by decide, by decide⟩ (by decide) rfl (by decide) ?_
        refine go_aload_n (pc := 111) hF dX11_of_111 2 rfl ?_
        refine go_get (pc := 112) hF fl_X11_53 dX11_of_112 (by omega) x_s2 rfl ?_
        refine go_iload_n (pc := 115) hF dX11_of_115 1 rfl ?_
        refine go_iald (pc := 116) hF dX11_of_116 (by omega) mayAt_s2 (by omega)  ?_
        refine go_iretQ hF hr hlk hQ dX11_of_117 ⟨?_, ⟨_, _, _, _, _, _, _, _, _, _, _, _, _, x_s2, nw_s2, pa_s2, rf_s2, sn_s2, eo_s2, bo_s2, tx_s2, rr_s2, ⟨⟨_, readSign_s2⟩, ⟨_, open_s2⟩, ⟨_, isBarred_s2⟩, ⟨_, ages_s2⟩, ⟨_, entered_s2⟩, ⟨_, first_s2⟩, ⟨_, mustAt_s2⟩, ⟨_, mayAt_s2⟩, ⟨_, sums_s2⟩, ⟨_, sumsFirst_s2⟩, ⟨_, took_s2⟩, ⟨_, next_s2⟩, ⟨_, inOf_s2⟩, ⟨_, firstOf_s2⟩, ⟨_, rounds_s2⟩, ⟨_, counts_s2⟩, ⟨_, countsFirst_s2⟩⟩, hnw, hpa, hrf, hrr, hMA⟩, (fun jj hjj => by rw [f_s2 jj (by omega), f_s1 jj (by omega)])⟩
        show _ = R2 t₉ u₉ k9; rw [← hkx]; exact (hfR jx hjx hlx).1.2
      · refine go_iload_n (pc := 51) hF dX11_of_51 4 rfl ?_
        refine go_tableIn (pc := 52) hF 118 dX11_of_52 ⟨by decide, by decide⟩ (by decide) rfl (by decide) ?_
        refine go_aload_n (pc := 118) hF dX11_of_118 2 rfl ?_
        refine go_iload_n (pc := 119) hF dX11_of_119 1 rfl ?_
        refine go_callVP (pc := 120) hF [vi (jx : Int)] [] mv_X11_222 dX11_of_120 (by omega) x_s2 (c_X11_isKept E N s2₉ hN₉ x_s2 nw_s2 sn_s2 eo_s2 mustAt_s2 mayAt_s2 hwf hMA hl80 u₉ n4₉ hu jx hjx hlx hfR) rfl rfl (Nat.le_of_ble_eq_true rfl) (by decide) ⟨Nat.zero_le _, Nat.zero_le _⟩ ?_
        refine go_if_eq (pc := 123) hF 130 dX11_of_123 (by decide) (by omega) (fun bq123 => ?_) (fun bq123 => ?_)
        · refine go_iconst (pc := 130) hF dX11_of_130 ?_
          refine go_iretQ hF hr hlk hQ dX11_of_131 ⟨?_, ⟨_, _, _, _, _, _, _, _, _, _, _, _, _, x_s2, nw_s2, pa_s2, rf_s2, sn_s2, eo_s2, bo_s2, tx_s2, rr_s2, ⟨⟨_, readSign_s2⟩, ⟨_, open_s2⟩, ⟨_, isBarred_s2⟩, ⟨_, ages_s2⟩, ⟨_, entered_s2⟩, ⟨_, first_s2⟩, ⟨_, mustAt_s2⟩, ⟨_, mayAt_s2⟩, ⟨_, sums_s2⟩, ⟨_, sumsFirst_s2⟩, ⟨_, took_s2⟩, ⟨_, next_s2⟩, ⟨_, inOf_s2⟩, ⟨_, firstOf_s2⟩, ⟨_, rounds_s2⟩, ⟨_, counts_s2⟩, ⟨_, countsFirst_s2⟩⟩, hnw, hpa, hrf, hrr, hMA⟩, (fun jj hjj => by rw [f_s2 jj (by omega), f_s1 jj (by omega)])⟩
          show _ = kpT t₉ u₉ k9; rw [← hkx]; exact bq123.symm
        · refine go_iconst (pc := 126) hF dX11_of_126 ?_
          refine go_goto (pc := 127) hF 131 dX11_of_127 (by decide) ?_
          refine go_iretQ hF hr hlk hQ dX11_of_131 ⟨?_, ⟨_, _, _, _, _, _, _, _, _, _, _, _, _, x_s2, nw_s2, pa_s2, rf_s2, sn_s2, eo_s2, bo_s2, tx_s2, rr_s2, ⟨⟨_, readSign_s2⟩, ⟨_, open_s2⟩, ⟨_, isBarred_s2⟩, ⟨_, ages_s2⟩, ⟨_, entered_s2⟩, ⟨_, first_s2⟩, ⟨_, mustAt_s2⟩, ⟨_, mayAt_s2⟩, ⟨_, sums_s2⟩, ⟨_, sumsFirst_s2⟩, ⟨_, took_s2⟩, ⟨_, next_s2⟩, ⟨_, inOf_s2⟩, ⟨_, firstOf_s2⟩, ⟨_, rounds_s2⟩, ⟨_, counts_s2⟩, ⟨_, countsFirst_s2⟩⟩, hnw, hpa, hrf, hrr, hMA⟩, (fun jj hjj => by rw [f_s2 jj (by omega), f_s1 jj (by omega)])⟩
          show _ = kpT t₉ u₉ k9; rw [← hkx]; exact ((suG3_1 _ _ _ bq123).symm)
      · refine go_iload_n (pc := 51) hF dX11_of_51 4 rfl ?_
        refine go_tableOut (pc := 52) hF 132 dX11_of_52 ⟨by decide, by decide⟩ (by decide) (by decide) ?_
        refine go_iload (pc := 132) hF dX11_of_132 0 rfl ?_
        refine go_iconst (pc := 134) hF dX11_of_134 ?_
        refine go_icmp_ne (pc := 135) hF 142 dX11_of_135 (by decide) (by omega) ⟨by decide, by decide⟩ (fun bq135 => ?_) (fun bq135 => ?_)
        · have hq9 := (hla.resolve_left (fun z₉ => bq135 z₉.1)).1
          refine go_aload_n (pc := 142) hF dX11_of_142 2 rfl ?_
          refine go_get (pc := 143) hF fl_X11_19 dX11_of_143 (by omega) x_s2 rfl ?_
          refine go_iload (pc := 146) hF dX11_of_146 0 rfl ?_
          refine go_iald (pc := 148) hF dX11_of_148 (by omega) sn_s2 (by omega)  ?_
          refine go_bipush (pc := 149) hF dX11_of_149 (by decide) ?_
          refine go_isub (pc := 151) hF dX11_of_151 ?_
          refine go_iretQ hF hr hlk hQ dX11_of_152 ⟨?_, ⟨_, _, _, _, _, _, _, _, _, _, _, _, _, x_s2, nw_s2, pa_s2, rf_s2, sn_s2, eo_s2, bo_s2, tx_s2, rr_s2, ⟨⟨_, readSign_s2⟩, ⟨_, open_s2⟩, ⟨_, isBarred_s2⟩, ⟨_, ages_s2⟩, ⟨_, entered_s2⟩, ⟨_, first_s2⟩, ⟨_, mustAt_s2⟩, ⟨_, mayAt_s2⟩, ⟨_, sums_s2⟩, ⟨_, sumsFirst_s2⟩, ⟨_, took_s2⟩, ⟨_, next_s2⟩, ⟨_, inOf_s2⟩, ⟨_, firstOf_s2⟩, ⟨_, rounds_s2⟩, ⟨_, counts_s2⟩, ⟨_, countsFirst_s2⟩⟩, hnw, hpa, hrf, hrr, hMA⟩, (fun jj hjj => by rw [f_s2 jj (by omega), f_s1 jj (by omega)])⟩
          show _ = (infT t₉ k9).1; rw [← hkx]; have q₉ := hla.resolve_left (fun z₉ => bq135 z₉.1); omega
        · refine go_iconst (pc := 138) hF dX11_of_138 ?_
          refine go_goto (pc := 139) hF 152 dX11_of_139 (by decide) ?_
          refine go_iretQ hF hr hlk hQ dX11_of_152 ⟨?_, ⟨_, _, _, _, _, _, _, _, _, _, _, _, _, x_s2, nw_s2, pa_s2, rf_s2, sn_s2, eo_s2, bo_s2, tx_s2, rr_s2, ⟨⟨_, readSign_s2⟩, ⟨_, open_s2⟩, ⟨_, isBarred_s2⟩, ⟨_, ages_s2⟩, ⟨_, entered_s2⟩, ⟨_, first_s2⟩, ⟨_, mustAt_s2⟩, ⟨_, mayAt_s2⟩, ⟨_, sums_s2⟩, ⟨_, sumsFirst_s2⟩, ⟨_, took_s2⟩, ⟨_, next_s2⟩, ⟨_, inOf_s2⟩, ⟨_, firstOf_s2⟩, ⟨_, rounds_s2⟩, ⟨_, counts_s2⟩, ⟨_, countsFirst_s2⟩⟩, hnw, hpa, hrf, hrr, hMA⟩, (fun jj hjj => by rw [f_s2 jj (by omega), f_s1 jj (by omega)])⟩
          show _ = (infT t₉ k9).1; rw [← hkx]; exact hla.elim (fun q₉ => by rw [q₉.2]) (fun q₉ => absurd q₉.1 (by omega))
    · exact absurd ((bI_0 _).mp bq26) (by omega)
set_option maxHeartbeats 4000000 in
set_option maxRecDepth 100000 in
theorem c_X11_behind_bad (E : En) (N : Nat) (σ : Nat → va_E) (r₉ u₉ kd pr : Int) (yr yw yk yp : Int → Int) (hs : Int) (tx : Int → Int) (tl : Int) (t₉ : Tr) (xb xn xf q1₉ q2₉ q3₉ : Int) (hN₉ : 120 ≤ N) (hO : okS r₉ u₉ kd pr yr yw yk yp hs tx tl t₉ xb xn xf q1₉ q2₉ q3₉) (hS₉ : mdS E σ r₉ u₉ kd pr yr yw yk yp hs tx tl t₉ xb xn xf q1₉ q2₉ q3₉) (sx x₉ : Int) (hsx : rg sx) (hx : rg x₉) (hno : ¬ ((0 ≤ sx ∧ sx ≤ 1) ∧ 0 ≤ x₉ ∧ x₉ ≤ 5)) : CI E M_X11_behind 16 [vr E 94, vi sx, vi x₉] N σ (fun y₉ σ' => y₉ = (-2) ∧ mdS E σ' r₉ u₉ kd pr yr yw yk yp hs tx tl t₉ (wr₉ (xb + 1)) xn xf q1₉ q2₉ q3₉ ∧ ∀ q₉, q₉ < 94 → σ' q₉ = σ q₉) := by
  refine CT.of2 (own := RX11) (by decide) rfl (Nat.le_of_ble_eq_true rfl) ?_
  intro p e R s m args below meth c Q hF hr hlk hnm hz hR hQ
  obtain ⟨nw, pa, rf, sn, eo, bo, rr, rz, hi₉, mi, ak, rt, cn, z101, z102, z103, z104, z105, z106, z107, z108, z126, ⟨⟨g109, z109⟩, ⟨g110, z110⟩, ⟨g111, z111⟩, ⟨g112, z112⟩, ⟨g113, z113⟩, ⟨g114, z114⟩, ⟨g115, z115⟩, ⟨g116, z116⟩, ⟨g117, z117⟩, ⟨g118, z118⟩, ⟨g119, z119⟩, ⟨g120, z120⟩, ⟨g121, z121⟩, ⟨g122, z122⟩, ⟨g123, z123⟩, ⟨g124, z124⟩, ⟨g125, z125⟩⟩, hnw, hpa, hrf, hrr, hMA⟩ := hS₉
  obtain ⟨⟨hrw, hu, hkd, hpr⟩, hhs, hyy, htl, htx, hxb, hxn, hxf, hq1, hq2, hq3, hwf, hdp3, hl80, hl24⟩ := hO
  have hrw3 := vrow_up hrw (show u₉ ≤ 3 by omega)
  have hrr0 := hrw.1
  obtain ⟨n0₉, n1₉, n2₉, n3₉, n4₉, n5₉, n6₉⟩ := id hnw
  have gl := mLong_rg r₉
  refine go_iload_n (pc := 0) hF dX11_behind_0 1 rfl ?_
  refine go_i2l (pc := 1) hF dX11_behind_1 (by omega) ?_
  refine go_lconst (pc := 2) (v := 0) hF dX11_behind_2 (by decide) ?_
  refine go_lconst (pc := 3) (v := 1) hF dX11_behind_3 (by decide) ?_
  refine go_callSP (pc := 4) hF [vl sx, vl 0, vl 1] [] ms_X11_89 dX11_behind_4 (c_X11_in E N σ sx 0 1 (by omega) ⟨by decide, by decide⟩ ⟨by decide, by decide⟩) rfl rfl (Nat.le_of_ble_eq_true rfl) (by decide) ⟨Nat.zero_le _, Nat.zero_le _⟩ ?_
  refine go_if_eq (pc := 7) hF 17 dX11_behind_7 (by decide) (bI_rg _) (fun bq7 => ?_) (fun bq7 => ?_)
  · refine go_aload_n (pc := 17) hF dX11_behind_17 0 rfl ?_
    refine go_callVI (pc := 18) hF [] [] mv_X11_120 dX11_behind_18 (by omega) z101 (c_X11_bad E N σ hN₉ z101 z104) rfl rfl (Nat.le_of_ble_eq_true rfl) (by decide) ⟨Nat.zero_le _, Nat.zero_le _⟩ (fun r_s1 s1₉ h_s1 => ?_)
    obtain ⟨e_s1, u_s1, f_s1⟩ := h_s1
    subst e_s1
    have x_s1 := (f_s1 94 (by omega)).trans z101
    have nw_s1 := (f_s1 95 (by omega)).trans z102
    have pa_s1 := (f_s1 96 (by omega)).trans z103
    have sn_s1 := (f_s1 98 (by omega)).trans z105
    have eo_s1 := (f_s1 99 (by omega)).trans z106
    have bo_s1 := (f_s1 100 (by omega)).trans z107
    have tx_s1 := (f_s1 101 (by omega)).trans z108
    have rr_s1 := (f_s1 119 (by omega)).trans z126
    have readSign_s1 := (f_s1 102 (by omega)).trans z109
    have open_s1 := (f_s1 103 (by omega)).trans z110
    have isBarred_s1 := (f_s1 104 (by omega)).trans z111
    have ages_s1 := (f_s1 105 (by omega)).trans z112
    have entered_s1 := (f_s1 106 (by omega)).trans z113
    have first_s1 := (f_s1 107 (by omega)).trans z114
    have mustAt_s1 := (f_s1 108 (by omega)).trans z115
    have mayAt_s1 := (f_s1 109 (by omega)).trans z116
    have sums_s1 := (f_s1 110 (by omega)).trans z117
    have sumsFirst_s1 := (f_s1 111 (by omega)).trans z118
    have took_s1 := (f_s1 112 (by omega)).trans z119
    have next_s1 := (f_s1 113 (by omega)).trans z120
    have inOf_s1 := (f_s1 114 (by omega)).trans z121
    have firstOf_s1 := (f_s1 115 (by omega)).trans z122
    have rounds_s1 := (f_s1 116 (by omega)).trans z123
    have counts_s1 := (f_s1 117 (by omega)).trans z124
    have countsFirst_s1 := (f_s1 118 (by omega)).trans z125
    exact go_iretQ hF hr hlk hQ dX11_behind_21 ⟨rfl, ⟨_, _, _, _, _, _, _, _, _, _, _, _, _, x_s1, nw_s1, pa_s1, u_s1, sn_s1, eo_s1, bo_s1, tx_s1, rr_s1, ⟨⟨_, readSign_s1⟩, ⟨_, open_s1⟩, ⟨_, isBarred_s1⟩, ⟨_, ages_s1⟩, ⟨_, entered_s1⟩, ⟨_, first_s1⟩, ⟨_, mustAt_s1⟩, ⟨_, mayAt_s1⟩, ⟨_, sums_s1⟩, ⟨_, sumsFirst_s1⟩, ⟨_, took_s1⟩, ⟨_, next_s1⟩, ⟨_, inOf_s1⟩, ⟨_, firstOf_s1⟩, ⟨_, rounds_s1⟩, ⟨_, counts_s1⟩, ⟨_, countsFirst_s1⟩⟩, hnw, hpa, ⟨by rw [badF_at, hrf.1], by rw [badF_ne (by decide) (by rw [hrf.2.1]; exact hxn)]; exact hrf.2.1, by rw [badF_ne (by decide) (by rw [hrf.2.2]; exact hxf)]; exact hrf.2.2⟩, hrr, hMA⟩, (fun jj hjj => by rw [f_s1 jj (by omega)])⟩
  · refine go_iload_n (pc := 10) hF dX11_behind_10 2 rfl ?_
    refine go_callSP (pc := 11) hF [vi x₉] [] ms_X11_138 dX11_behind_11 (c_X11_isLine E N σ x₉ (by omega)) rfl rfl (Nat.le_of_ble_eq_true rfl) (by decide) ⟨Nat.zero_le _, Nat.zero_le _⟩ ?_
    refine go_if_ne (pc := 14) hF 22 dX11_behind_14 (by decide) (bI_rg _) (fun bq14 => ?_) (fun bq14 => ?_)
    · exact absurd ⟨Decidable.not_not.mp (fun z₉ => bq7 ((bI_0 _).mpr z₉)), Decidable.not_not.mp (fun z₉ => bq14 ((bI_0 _).mpr z₉))⟩ hno
    · refine go_aload_n (pc := 17) hF dX11_behind_17 0 rfl ?_
      refine go_callVI (pc := 18) hF [] [] mv_X11_120 dX11_behind_18 (by omega) z101 (c_X11_bad E N σ hN₉ z101 z104) rfl rfl (Nat.le_of_ble_eq_true rfl) (by decide) ⟨Nat.zero_le _, Nat.zero_le _⟩ (fun r_s2 s2₉ h_s2 => ?_)
      obtain ⟨e_s2, u_s2, f_s2⟩ := h_s2
      subst e_s2
      have x_s2 := (f_s2 94 (by omega)).trans z101
      have nw_s2 := (f_s2 95 (by omega)).trans z102
      have pa_s2 := (f_s2 96 (by omega)).trans z103
      have sn_s2 := (f_s2 98 (by omega)).trans z105
      have eo_s2 := (f_s2 99 (by omega)).trans z106
      have bo_s2 := (f_s2 100 (by omega)).trans z107
      have tx_s2 := (f_s2 101 (by omega)).trans z108
      have rr_s2 := (f_s2 119 (by omega)).trans z126
      have readSign_s2 := (f_s2 102 (by omega)).trans z109
      have open_s2 := (f_s2 103 (by omega)).trans z110
      have isBarred_s2 := (f_s2 104 (by omega)).trans z111
      have ages_s2 := (f_s2 105 (by omega)).trans z112
      have entered_s2 := (f_s2 106 (by omega)).trans z113
      have first_s2 := (f_s2 107 (by omega)).trans z114
      have mustAt_s2 := (f_s2 108 (by omega)).trans z115
      have mayAt_s2 := (f_s2 109 (by omega)).trans z116
      have sums_s2 := (f_s2 110 (by omega)).trans z117
      have sumsFirst_s2 := (f_s2 111 (by omega)).trans z118
      have took_s2 := (f_s2 112 (by omega)).trans z119
      have next_s2 := (f_s2 113 (by omega)).trans z120
      have inOf_s2 := (f_s2 114 (by omega)).trans z121
      have firstOf_s2 := (f_s2 115 (by omega)).trans z122
      have rounds_s2 := (f_s2 116 (by omega)).trans z123
      have counts_s2 := (f_s2 117 (by omega)).trans z124
      have countsFirst_s2 := (f_s2 118 (by omega)).trans z125
      exact go_iretQ hF hr hlk hQ dX11_behind_21 ⟨rfl, ⟨_, _, _, _, _, _, _, _, _, _, _, _, _, x_s2, nw_s2, pa_s2, u_s2, sn_s2, eo_s2, bo_s2, tx_s2, rr_s2, ⟨⟨_, readSign_s2⟩, ⟨_, open_s2⟩, ⟨_, isBarred_s2⟩, ⟨_, ages_s2⟩, ⟨_, entered_s2⟩, ⟨_, first_s2⟩, ⟨_, mustAt_s2⟩, ⟨_, mayAt_s2⟩, ⟨_, sums_s2⟩, ⟨_, sumsFirst_s2⟩, ⟨_, took_s2⟩, ⟨_, next_s2⟩, ⟨_, inOf_s2⟩, ⟨_, firstOf_s2⟩, ⟨_, rounds_s2⟩, ⟨_, counts_s2⟩, ⟨_, countsFirst_s2⟩⟩, hnw, hpa, ⟨by rw [badF_at, hrf.1], by rw [badF_ne (by decide) (by rw [hrf.2.1]; exact hxn)]; exact hrf.2.1, by rw [badF_ne (by decide) (by rw [hrf.2.2]; exact hxf)]; exact hrf.2.2⟩, hrr, hMA⟩, (fun jj hjj => by rw [f_s2 jj (by omega)])⟩
set_option maxHeartbeats 4000000 in
set_option maxRecDepth 100000 in
theorem c_X11_behind_ok (E : En) (N : Nat) (σ : Nat → va_E) (r₉ u₉ kd pr : Int) (yr yw yk yp : Int → Int) (hs : Int) (tx : Int → Int) (tl : Int) (t₉ : Tr) (xb xn xf q1₉ q2₉ q3₉ : Int) (hN₉ : 120 ≤ N) (hO : okS r₉ u₉ kd pr yr yw yk yp hs tx tl t₉ xb xn xf q1₉ q2₉ q3₉) (hS₉ : mdS E σ r₉ u₉ kd pr yr yw yk yp hs tx tl t₉ xb xn xf q1₉ q2₉ q3₉) (sx x₉ : Int) (hsx : 0 ≤ sx ∧ sx ≤ 1) (hx : 0 ≤ x₉ ∧ x₉ ≤ 5) : CI E M_X11_behind 16 [vr E 94, vi sx, vi x₉] N σ (fun y₉ σ' => y₉ = (if sx = 0 then (fa u₉ t₉ (A0 u₉)).1 x₉ else (fa u₉ t₉ (A0 u₉)).2 x₉) ∧ mdS E σ' r₉ u₉ kd pr yr yw yk yp hs tx tl t₉ xb xn xf q1₉ q2₉ q3₉ ∧ ∀ q₉, q₉ < 94 → σ' q₉ = σ q₉) := by
  refine CT.of2 (own := RX11) (by decide) rfl (Nat.le_of_ble_eq_true rfl) ?_
  intro p e R s m args below meth c Q hF hr hlk hnm hz hR hQ
  obtain ⟨nw, pa, rf, sn, eo, bo, rr, rz, hi₉, mi, ak, rt, cn, z101, z102, z103, z104, z105, z106, z107, z108, z126, ⟨⟨g109, z109⟩, ⟨g110, z110⟩, ⟨g111, z111⟩, ⟨g112, z112⟩, ⟨g113, z113⟩, ⟨g114, z114⟩, ⟨g115, z115⟩, ⟨g116, z116⟩, ⟨g117, z117⟩, ⟨g118, z118⟩, ⟨g119, z119⟩, ⟨g120, z120⟩, ⟨g121, z121⟩, ⟨g122, z122⟩, ⟨g123, z123⟩, ⟨g124, z124⟩, ⟨g125, z125⟩⟩, hnw, hpa, hrf, hrr, hMA⟩ := hS₉
  obtain ⟨⟨hrw, hu, hkd, hpr⟩, hhs, hyy, htl, htx, hxb, hxn, hxf, hq1, hq2, hq3, hwf, hdp3, hl80, hl24⟩ := hO
  have hrw3 := vrow_up hrw (show u₉ ≤ 3 by omega)
  have hrr0 := hrw.1
  obtain ⟨n0₉, n1₉, n2₉, n3₉, n4₉, n5₉, n6₉⟩ := id hnw
  have gl := mLong_rg r₉
  refine go_iload_n (pc := 0) hF dX11_behind_0 1 rfl ?_
  refine go_i2l (pc := 1) hF dX11_behind_1 (by omega) ?_
  refine go_lconst (pc := 2) (v := 0) hF dX11_behind_2 (by decide) ?_
  refine go_lconst (pc := 3) (v := 1) hF dX11_behind_3 (by decide) ?_
  refine go_callSP (pc := 4) hF [vl sx, vl 0, vl 1] [] ms_X11_89 dX11_behind_4 (c_X11_in E N σ sx 0 1 (by omega) ⟨by decide, by decide⟩ ⟨by decide, by decide⟩) rfl rfl (Nat.le_of_ble_eq_true rfl) (by decide) ⟨Nat.zero_le _, Nat.zero_le _⟩ ?_
  refine go_if_eq (pc := 7) hF 17 dX11_behind_7 (by decide) (bI_rg _) (fun bq7 => ?_) (fun bq7 => ?_)
  · exact absurd ((bI_0 _).mp bq7) (by omega)
  · refine go_iload_n (pc := 10) hF dX11_behind_10 2 rfl ?_
    refine go_callSP (pc := 11) hF [vi x₉] [] ms_X11_138 dX11_behind_11 (c_X11_isLine E N σ x₉ (by omega)) rfl rfl (Nat.le_of_ble_eq_true rfl) (by decide) ⟨Nat.zero_le _, Nat.zero_le _⟩ ?_
    refine go_if_ne (pc := 14) hF 22 dX11_behind_14 (by decide) (bI_rg _) (fun bq14 => ?_) (fun bq14 => ?_)
    · refine go_aload_n (pc := 22) hF dX11_behind_22 0 rfl ?_
      refine go_callVV (pc := 23) hF [] [] mv_X11_216 dX11_behind_23 (by omega) z101 (c_X11_follows E N σ hN₉ z101 z102 z105 z106 z112 z113 z114 z115 z116 hwf hMA hl80 hdp3 (by rw [n4₉]; exact hu)) rfl rfl (Nat.le_of_ble_eq_true rfl) (by decide) ⟨Nat.zero_le _, Nat.zero_le _⟩ (fun s1₉ h_s1 => ?_)
      obtain ⟨ag_s1, eg_s1, fg_s1, ma_s1, my_s1, ⟨w1_s1, w2_s1, w3_s1, w4_s1, w5_s1, f_s1⟩, ha_s1, hc_s1⟩ := h_s1
      rw [n4₉] at ha_s1 hc_s1
      have hfR := foR_of hwf hMA hu.1 hc_s1
      have x_s1 := (f_s1 94 (by omega)).trans z101
      have nw_s1 := (f_s1 95 (by omega)).trans z102
      have pa_s1 := (f_s1 96 (by omega)).trans z103
      have rf_s1 := (f_s1 97 (by omega)).trans z104
      have sn_s1 := (f_s1 98 (by omega)).trans z105
      have eo_s1 := (f_s1 99 (by omega)).trans z106
      have bo_s1 := (f_s1 100 (by omega)).trans z107
      have tx_s1 := (f_s1 101 (by omega)).trans z108
      have rr_s1 := (f_s1 119 (by omega)).trans z126
      have readSign_s1 := (f_s1 102 (by omega)).trans z109
      have open_s1 := (f_s1 103 (by omega)).trans z110
      have isBarred_s1 := (f_s1 104 (by omega)).trans z111
      have sums_s1 := (f_s1 110 (by omega)).trans z117
      have sumsFirst_s1 := (f_s1 111 (by omega)).trans z118
      have took_s1 := (f_s1 112 (by omega)).trans z119
      have next_s1 := (f_s1 113 (by omega)).trans z120
      have inOf_s1 := (f_s1 114 (by omega)).trans z121
      have firstOf_s1 := (f_s1 115 (by omega)).trans z122
      have rounds_s1 := (f_s1 116 (by omega)).trans z123
      have counts_s1 := (f_s1 117 (by omega)).trans z124
      have countsFirst_s1 := (f_s1 118 (by omega)).trans z125
      obtain rfl | rfl : sx = 0 ∨ sx = 1 := by omega
      · refine go_aload_n (pc := 26) hF dX11_behind_26 0 rfl ?_
        refine go_get (pc := 27) hF fl_X11_41 dX11_behind_27 (by omega) x_s1 rfl ?_
        refine go_bipush (pc := 30) hF dX11_behind_30 (by decide) ?_
        refine go_iload_n (pc := 32) hF dX11_behind_32 1 rfl ?_
        refine go_imul (pc := 33) hF dX11_behind_33 ?_
        refine go_iload_n (pc := 34) hF dX11_behind_34 2 rfl ?_
        refine go_iadd (pc := 35) hF dX11_behind_35 ?_
        refine go_iald (pc := 36) hF dX11_behind_36 (by omega) w1_s1 (by omega)  ?_
        refine go_iretQ hF hr hlk hQ dX11_behind_37 ⟨?_, ⟨_, _, _, _, _, _, _, _, _, _, _, _, _, x_s1, nw_s1, pa_s1, rf_s1, sn_s1, eo_s1, bo_s1, tx_s1, rr_s1, ⟨⟨_, readSign_s1⟩, ⟨_, open_s1⟩, ⟨_, isBarred_s1⟩, ⟨_, w1_s1⟩, ⟨_, w2_s1⟩, ⟨_, w3_s1⟩, ⟨_, w4_s1⟩, ⟨_, w5_s1⟩, ⟨_, sums_s1⟩, ⟨_, sumsFirst_s1⟩, ⟨_, took_s1⟩, ⟨_, next_s1⟩, ⟨_, inOf_s1⟩, ⟨_, firstOf_s1⟩, ⟨_, rounds_s1⟩, ⟨_, counts_s1⟩, ⟨_, countsFirst_s1⟩⟩, hnw, hpa, hrf, hrr, hMA⟩, (fun jj hjj => by rw [f_s1 jj (by omega)])⟩
        show ag_s1 (0 + x₉) = (fa u₉ t₉ (A0 u₉)).1 x₉; rw [Int.zero_add]; exact (ha_s1 x₉ hx.1 (by omega)).1
      · refine go_aload_n (pc := 26) hF dX11_behind_26 0 rfl ?_
        refine go_get (pc := 27) hF fl_X11_41 dX11_behind_27 (by omega) x_s1 rfl ?_
        refine go_bipush (pc := 30) hF dX11_behind_30 (by decide) ?_
        refine go_iload_n (pc := 32) hF dX11_behind_32 1 rfl ?_
        refine go_imul (pc := 33) hF dX11_behind_33 ?_
        refine go_iload_n (pc := 34) hF dX11_behind_34 2 rfl ?_
        refine go_iadd (pc := 35) hF dX11_behind_35 ?_
        refine go_iald (pc := 36) hF dX11_behind_36 (by omega) w1_s1 (by omega)  ?_
        refine go_iretQ hF hr hlk hQ dX11_behind_37 ⟨?_, ⟨_, _, _, _, _, _, _, _, _, _, _, _, _, x_s1, nw_s1, pa_s1, rf_s1, sn_s1, eo_s1, bo_s1, tx_s1, rr_s1, ⟨⟨_, readSign_s1⟩, ⟨_, open_s1⟩, ⟨_, isBarred_s1⟩, ⟨_, w1_s1⟩, ⟨_, w2_s1⟩, ⟨_, w3_s1⟩, ⟨_, w4_s1⟩, ⟨_, w5_s1⟩, ⟨_, sums_s1⟩, ⟨_, sumsFirst_s1⟩, ⟨_, took_s1⟩, ⟨_, next_s1⟩, ⟨_, inOf_s1⟩, ⟨_, firstOf_s1⟩, ⟨_, rounds_s1⟩, ⟨_, counts_s1⟩, ⟨_, countsFirst_s1⟩⟩, hnw, hpa, hrf, hrr, hMA⟩, (fun jj hjj => by rw [f_s1 jj (by omega)])⟩
        exact (ha_s1 x₉ hx.1 (by omega)).2
    · exact absurd ((bI_0 _).mp bq14) (by omega)
set_option maxHeartbeats 4000000 in
set_option maxRecDepth 100000 in
theorem c_X11_sure_bad (E : En) (N : Nat) (σ : Nat → va_E) (r₉ u₉ kd pr : Int) (yr yw yk yp : Int → Int) (hs : Int) (tx : Int → Int) (tl : Int) (t₉ : Tr) (xb xn xf q1₉ q2₉ q3₉ : Int) (hN₉ : 120 ≤ N) (hO : okS r₉ u₉ kd pr yr yw yk yp hs tx tl t₉ xb xn xf q1₉ q2₉ q3₉) (hS₉ : mdS E σ r₉ u₉ kd pr yr yw yk yp hs tx tl t₉ xb xn xf q1₉ q2₉ q3₉) (x₉ : Int) (hx : rg x₉) (hno : ¬ (0 ≤ x₉ ∧ x₉ ≤ 3)) : CI E M_X11_sure 16 [vr E 94, vi x₉] N σ (fun y₉ σ' => y₉ = (-2) ∧ mdS E σ' r₉ u₉ kd pr yr yw yk yp hs tx tl t₉ (wr₉ (xb + 1)) xn xf q1₉ q2₉ q3₉ ∧ ∀ q₉, q₉ < 94 → σ' q₉ = σ q₉) := by
  refine CT.of2 (own := RX11) (by decide) rfl (Nat.le_of_ble_eq_true rfl) ?_
  intro p e R s m args below meth c Q hF hr hlk hnm hz hR hQ
  obtain ⟨nw, pa, rf, sn, eo, bo, rr, rz, hi₉, mi, ak, rt, cn, z101, z102, z103, z104, z105, z106, z107, z108, z126, ⟨⟨g109, z109⟩, ⟨g110, z110⟩, ⟨g111, z111⟩, ⟨g112, z112⟩, ⟨g113, z113⟩, ⟨g114, z114⟩, ⟨g115, z115⟩, ⟨g116, z116⟩, ⟨g117, z117⟩, ⟨g118, z118⟩, ⟨g119, z119⟩, ⟨g120, z120⟩, ⟨g121, z121⟩, ⟨g122, z122⟩, ⟨g123, z123⟩, ⟨g124, z124⟩, ⟨g125, z125⟩⟩, hnw, hpa, hrf, hrr, hMA⟩ := hS₉
  obtain ⟨⟨hrw, hu, hkd, hpr⟩, hhs, hyy, htl, htx, hxb, hxn, hxf, hq1, hq2, hq3, hwf, hdp3, hl80, hl24⟩ := hO
  have hrw3 := vrow_up hrw (show u₉ ≤ 3 by omega)
  have hrr0 := hrw.1
  obtain ⟨n0₉, n1₉, n2₉, n3₉, n4₉, n5₉, n6₉⟩ := id hnw
  have gl := mLong_rg r₉
  refine go_iload_n (pc := 0) hF dX11_sure_0 1 rfl ?_
  refine go_i2l (pc := 1) hF dX11_sure_1 (by omega) ?_
  refine go_lconst (pc := 2) (v := 0) hF dX11_sure_2 (by decide) ?_
  refine go_ldc2 (pc := 3) hF kc_X11_118 dX11_sure_3 ?_
  refine go_callSP (pc := 6) hF [vl x₉, vl 0, vl 3] [] ms_X11_89 dX11_sure_6 (c_X11_in E N σ x₉ 0 3 (by omega) ⟨by decide, by decide⟩ ⟨by decide, by decide⟩) rfl rfl (Nat.le_of_ble_eq_true rfl) (by decide) ⟨Nat.zero_le _, Nat.zero_le _⟩ ?_
  refine go_if_ne (pc := 9) hF 17 dX11_sure_9 (by decide) (bI_rg _) (fun bq9 => ?_) (fun bq9 => ?_)
  · exact absurd (Decidable.not_not.mp (fun z₉ => bq9 ((bI_0 _).mpr z₉))) hno
  · refine go_aload_n (pc := 12) hF dX11_sure_12 0 rfl ?_
    refine go_callVI (pc := 13) hF [] [] mv_X11_120 dX11_sure_13 (by omega) z101 (c_X11_bad E N σ hN₉ z101 z104) rfl rfl (Nat.le_of_ble_eq_true rfl) (by decide) ⟨Nat.zero_le _, Nat.zero_le _⟩ (fun r_s1 s1₉ h_s1 => ?_)
    obtain ⟨e_s1, u_s1, f_s1⟩ := h_s1
    subst e_s1
    have x_s1 := (f_s1 94 (by omega)).trans z101
    have nw_s1 := (f_s1 95 (by omega)).trans z102
    have pa_s1 := (f_s1 96 (by omega)).trans z103
    have sn_s1 := (f_s1 98 (by omega)).trans z105
    have eo_s1 := (f_s1 99 (by omega)).trans z106
    have bo_s1 := (f_s1 100 (by omega)).trans z107
    have tx_s1 := (f_s1 101 (by omega)).trans z108
    have rr_s1 := (f_s1 119 (by omega)).trans z126
    have readSign_s1 := (f_s1 102 (by omega)).trans z109
    have open_s1 := (f_s1 103 (by omega)).trans z110
    have isBarred_s1 := (f_s1 104 (by omega)).trans z111
    have ages_s1 := (f_s1 105 (by omega)).trans z112
    have entered_s1 := (f_s1 106 (by omega)).trans z113
    have first_s1 := (f_s1 107 (by omega)).trans z114
    have mustAt_s1 := (f_s1 108 (by omega)).trans z115
    have mayAt_s1 := (f_s1 109 (by omega)).trans z116
    have sums_s1 := (f_s1 110 (by omega)).trans z117
    have sumsFirst_s1 := (f_s1 111 (by omega)).trans z118
    have took_s1 := (f_s1 112 (by omega)).trans z119
    have next_s1 := (f_s1 113 (by omega)).trans z120
    have inOf_s1 := (f_s1 114 (by omega)).trans z121
    have firstOf_s1 := (f_s1 115 (by omega)).trans z122
    have rounds_s1 := (f_s1 116 (by omega)).trans z123
    have counts_s1 := (f_s1 117 (by omega)).trans z124
    have countsFirst_s1 := (f_s1 118 (by omega)).trans z125
    exact go_iretQ hF hr hlk hQ dX11_sure_16 ⟨rfl, ⟨_, _, _, _, _, _, _, _, _, _, _, _, _, x_s1, nw_s1, pa_s1, u_s1, sn_s1, eo_s1, bo_s1, tx_s1, rr_s1, ⟨⟨_, readSign_s1⟩, ⟨_, open_s1⟩, ⟨_, isBarred_s1⟩, ⟨_, ages_s1⟩, ⟨_, entered_s1⟩, ⟨_, first_s1⟩, ⟨_, mustAt_s1⟩, ⟨_, mayAt_s1⟩, ⟨_, sums_s1⟩, ⟨_, sumsFirst_s1⟩, ⟨_, took_s1⟩, ⟨_, next_s1⟩, ⟨_, inOf_s1⟩, ⟨_, firstOf_s1⟩, ⟨_, rounds_s1⟩, ⟨_, counts_s1⟩, ⟨_, countsFirst_s1⟩⟩, hnw, hpa, ⟨by rw [badF_at, hrf.1], by rw [badF_ne (by decide) (by rw [hrf.2.1]; exact hxn)]; exact hrf.2.1, by rw [badF_ne (by decide) (by rw [hrf.2.2]; exact hxf)]; exact hrf.2.2⟩, hrr, hMA⟩, (fun jj hjj => by rw [f_s1 jj (by omega)])⟩
set_option maxHeartbeats 4000000 in
set_option maxRecDepth 100000 in
theorem c_X11_sure_ok (E : En) (N : Nat) (σ : Nat → va_E) (r₉ u₉ kd pr : Int) (yr yw yk yp : Int → Int) (hs : Int) (tx : Int → Int) (tl : Int) (t₉ : Tr) (xb xn xf q1₉ q2₉ q3₉ : Int) (hN₉ : 120 ≤ N) (hO : okS r₉ u₉ kd pr yr yw yk yp hs tx tl t₉ xb xn xf q1₉ q2₉ q3₉) (hS₉ : mdS E σ r₉ u₉ kd pr yr yw yk yp hs tx tl t₉ xb xn xf q1₉ q2₉ q3₉) (x₉ : Int) (hx : 0 ≤ x₉ ∧ x₉ ≤ 3) : CI E M_X11_sure 16 [vr E 94, vi x₉] N σ (fun y₉ σ' => y₉ = suT t₉ u₉ x₉ (tLks t₉) ∧ mdS E σ' r₉ u₉ kd pr yr yw yk yp hs tx tl t₉ xb xn xf q1₉ q2₉ q3₉ ∧ ∀ q₉, q₉ < 94 → σ' q₉ = σ q₉) := by
  refine CT.of2 (own := RX11) (by decide) rfl (Nat.le_of_ble_eq_true rfl) ?_
  intro p e R s m args below meth c Q hF hr hlk hnm hz hR hQ
  obtain ⟨nw, pa, rf, sn, eo, bo, rr, rz, hi₉, mi, ak, rt, cn, z101, z102, z103, z104, z105, z106, z107, z108, z126, ⟨⟨g109, z109⟩, ⟨g110, z110⟩, ⟨g111, z111⟩, ⟨g112, z112⟩, ⟨g113, z113⟩, ⟨g114, z114⟩, ⟨g115, z115⟩, ⟨g116, z116⟩, ⟨g117, z117⟩, ⟨g118, z118⟩, ⟨g119, z119⟩, ⟨g120, z120⟩, ⟨g121, z121⟩, ⟨g122, z122⟩, ⟨g123, z123⟩, ⟨g124, z124⟩, ⟨g125, z125⟩⟩, hnw, hpa, hrf, hrr, hMA⟩ := hS₉
  obtain ⟨⟨hrw, hu, hkd, hpr⟩, hhs, hyy, htl, htx, hxb, hxn, hxf, hq1, hq2, hq3, hwf, hdp3, hl80, hl24⟩ := hO
  have hrw3 := vrow_up hrw (show u₉ ≤ 3 by omega)
  have hrr0 := hrw.1
  obtain ⟨n0₉, n1₉, n2₉, n3₉, n4₉, n5₉, n6₉⟩ := id hnw
  have gl := mLong_rg r₉
  have hsg0 := MA_sg t₉ hwf 0 hMA
  have hsg : ∀ p : Int, 0 ≤ p → p < (tLen t₉ : Int) → 40 ≤ sn p ∧ sn p ≤ 124 := fun p a₉ b₉ => hsg0 p a₉ (by omega)
  refine go_iload_n (pc := 0) hF dX11_sure_0 1 rfl ?_
  refine go_i2l (pc := 1) hF dX11_sure_1 (by omega) ?_
  refine go_lconst (pc := 2) (v := 0) hF dX11_sure_2 (by decide) ?_
  refine go_ldc2 (pc := 3) hF kc_X11_118 dX11_sure_3 ?_
  refine go_callSP (pc := 6) hF [vl x₉, vl 0, vl 3] [] ms_X11_89 dX11_sure_6 (c_X11_in E N σ x₉ 0 3 (by omega) ⟨by decide, by decide⟩ ⟨by decide, by decide⟩) rfl rfl (Nat.le_of_ble_eq_true rfl) (by decide) ⟨Nat.zero_le _, Nat.zero_le _⟩ ?_
  refine go_if_ne (pc := 9) hF 17 dX11_sure_9 (by decide) (bI_rg _) (fun bq9 => ?_) (fun bq9 => ?_)
  · refine go_iconst (pc := 17) hF dX11_sure_17 ?_
    refine go_istore_n (pc := 18) hF [(2, vi 0), (0, vr E 94), (1, vi x₉)] dX11_sure_18 rfl (by decide) ?_
    refine go_aload_n (pc := 19) hF dX11_sure_19 1 rfl ?_
    refine go_callVV (pc := 20) hF [] [] mv_X11_216 dX11_sure_20 (by omega) z101 (c_X11_follows E N σ hN₉ z101 z102 z105 z106 z112 z113 z114 z115 z116 hwf hMA hl80 hdp3 (by rw [n4₉]; exact hu)) rfl rfl (Nat.le_of_ble_eq_true rfl) (by decide) ⟨Nat.zero_le _, Nat.zero_le _⟩ (fun s1₉ h_s1 => ?_)
    obtain ⟨ag_s1, eg_s1, fg_s1, ma_s1, my_s1, ⟨w1_s1, w2_s1, w3_s1, w4_s1, w5_s1, f_s1⟩, ha_s1, hc_s1⟩ := h_s1
    rw [n4₉] at ha_s1 hc_s1
    have hfR := foR_of hwf hMA hu.1 hc_s1
    have x_s1 := (f_s1 94 (by omega)).trans z101
    have nw_s1 := (f_s1 95 (by omega)).trans z102
    have pa_s1 := (f_s1 96 (by omega)).trans z103
    have rf_s1 := (f_s1 97 (by omega)).trans z104
    have sn_s1 := (f_s1 98 (by omega)).trans z105
    have eo_s1 := (f_s1 99 (by omega)).trans z106
    have bo_s1 := (f_s1 100 (by omega)).trans z107
    have tx_s1 := (f_s1 101 (by omega)).trans z108
    have rr_s1 := (f_s1 119 (by omega)).trans z126
    have readSign_s1 := (f_s1 102 (by omega)).trans z109
    have open_s1 := (f_s1 103 (by omega)).trans z110
    have isBarred_s1 := (f_s1 104 (by omega)).trans z111
    have sums_s1 := (f_s1 110 (by omega)).trans z117
    have sumsFirst_s1 := (f_s1 111 (by omega)).trans z118
    have took_s1 := (f_s1 112 (by omega)).trans z119
    have next_s1 := (f_s1 113 (by omega)).trans z120
    have inOf_s1 := (f_s1 114 (by omega)).trans z121
    have firstOf_s1 := (f_s1 115 (by omega)).trans z122
    have rounds_s1 := (f_s1 116 (by omega)).trans z123
    have counts_s1 := (f_s1 117 (by omega)).trans z124
    have countsFirst_s1 := (f_s1 118 (by omega)).trans z125
    refine go_iconst (pc := 23) hF dX11_sure_23 ?_
    refine go_istore_n (pc := 24) hF [(3, vi 0), (2, vi 0), (0, vr E 94), (1, vi x₉)] dX11_sure_24 rfl (by decide) ?_
    have loop₉ : ∀ (n₉ : Nat) (j₉ : Nat), j₉ + n₉ = 82 → j₉ ≤ tLen t₉ → Go E p e R s m args below meth c Q 4 (0, 0) N s1₉ [(3, vi (j₉ : Int)), (2, vi (suT t₉ u₉ x₉ (kN₉ sn j₉).toNat)), (0, vr E 94), (1, vi x₉)] [] 25 := by
      intro n₉
      induction n₉ with
      | zero => intro j₉ hfu hj; exfalso; omega
      | succ n₉ ih₉ =>
        intro j₉ hfu hj
        have gs := suT_rg t₉ u₉ x₉ (kN₉ sn j₉).toNat
        have gk := kN_rg sn j₉
        refine go_iload_n (pc := 25) hF dX11_sure_25 0 rfl ?_
        refine go_aload_n (pc := 26) hF dX11_sure_26 2 rfl ?_
        refine go_get (pc := 27) hF fl_X11_177 dX11_sure_27 (by omega) x_s1 rfl ?_
        refine go_icmp_ge (pc := 30) hF 84 dX11_sure_30 (by decide) (by omega) (by omega) (fun bq30 => ?_) (fun bq30 => ?_)
        · refine go_iload_n (pc := 84) hF dX11_sure_84 1 rfl ?_
          have ej : j₉ = tLen t₉ := by omega
          subst ej
          exact go_iretQ hF hr hlk hQ dX11_sure_85 ⟨by rw [kN_all hwf hMA, Int.toNat_natCast], ⟨_, _, _, _, _, _, _, _, _, _, _, _, _, x_s1, nw_s1, pa_s1, rf_s1, sn_s1, eo_s1, bo_s1, tx_s1, rr_s1, ⟨⟨_, readSign_s1⟩, ⟨_, open_s1⟩, ⟨_, isBarred_s1⟩, ⟨_, w1_s1⟩, ⟨_, w2_s1⟩, ⟨_, w3_s1⟩, ⟨_, w4_s1⟩, ⟨_, w5_s1⟩, ⟨_, sums_s1⟩, ⟨_, sumsFirst_s1⟩, ⟨_, took_s1⟩, ⟨_, next_s1⟩, ⟨_, inOf_s1⟩, ⟨_, firstOf_s1⟩, ⟨_, rounds_s1⟩, ⟨_, counts_s1⟩, ⟨_, countsFirst_s1⟩⟩, hnw, hpa, hrf, hrr, hMA⟩, (fun jj hjj => by rw [f_s1 jj (by omega)])⟩
        · have hjx : j₉ < tLen t₉ := by omega
          have gj := hsg j₉ (by omega) (by omega)
          refine go_iload_n (pc := 33) hF dX11_sure_33 1 rfl ?_
          refine go_aload_n (pc := 34) hF dX11_sure_34 2 rfl ?_
          refine go_get (pc := 35) hF fl_X11_19 dX11_sure_35 (by omega) x_s1 rfl ?_
          refine go_iload_n (pc := 38) hF dX11_sure_38 0 rfl ?_
          refine go_iald (pc := 39) hF dX11_sure_39 (by omega) sn_s1 (by omega)  ?_
          refine go_callSP (pc := 40) hF [vi (sn (j₉ : Int))] [vi (suT t₉ u₉ x₉ (kN₉ sn j₉).toNat)] ms_X11_168 dX11_sure_40 (c_X11_isLook E N s1₉ (sn (j₉ : Int)) (by omega)) rfl rfl (Nat.le_of_ble_eq_true rfl) (by decide) ⟨Nat.zero_le _, Nat.zero_le _⟩ ?_
          refine go_if_eq (pc := 43) hF 75 dX11_sure_43 (by decide) (bI_rg _) (fun bq43 => ?_) (fun bq43 => ?_)
          · refine go_iconst (pc := 75) hF dX11_sure_75 ?_
            refine go_iadd (pc := 76) hF dX11_sure_76 ?_
            refine go_istore_n (pc := 77) hF [(2, vi ((suT t₉ u₉ x₉ (kN₉ sn j₉).toNat) + 0)), (3, vi (j₉ : Int)), (0, vr E 94), (1, vi x₉)] dX11_sure_77 rfl (by decide) ?_
            have eS : suT t₉ u₉ x₉ (kN₉ sn (j₉ + 1)).toNat = (suT t₉ u₉ x₉ (kN₉ sn j₉).toNat) + 0 := by rw [kN_no ((bI_0 _).mp bq43), Int.add_zero]
            refine go_lvE [(2, vi (suT t₉ u₉ x₉ (kN₉ sn (j₉ + 1)).toNat)), (3, vi (j₉ : Int)), (0, vr E 94), (1, vi x₉)] (by rw [eS]) ?_
            refine go_iinc (pc := 78) hF [(3, vi ((j₉ : Int) + 1)), (2, vi (suT t₉ u₉ x₉ (kN₉ sn (j₉ + 1)).toNat)), (0, vr E 94), (1, vi x₉)] dX11_sure_78 1 rfl rfl (by decide) ?_
            refine go_goto (pc := 81) hF 25 dX11_sure_81 (by decide) ?_
            exact ih₉ (j₉ + 1) (by omega) (by omega)
          · have hlx : 97 ≤ sn (j₉ : Int) ∧ sn (j₉ : Int) ≤ 102 := Decidable.not_not.mp (fun z₉ => bq43 ((bI_0 _).mpr z₉))
            have gso := soT_rg t₉ u₉ (kN₉ sn j₉)
            have gkp : 0 ≤ kpT t₉ u₉ (kN₉ sn j₉) ∧ kpT t₉ u₉ (kN₉ sn j₉) ≤ 1 := bI_01 _
            refine go_iload_n (pc := 46) hF dX11_sure_46 3 rfl ?_
            refine go_iconst (pc := 47) hF dX11_sure_47 ?_
            refine go_icmp_ne (pc := 48) hF 62 dX11_sure_48 (by decide) (by omega) ⟨by decide, by decide⟩ (fun bq48 => ?_) (fun bq48 => ?_)
            · refine go_aload_n (pc := 62) hF dX11_sure_62 2 rfl ?_
              refine go_iload_n (pc := 63) hF dX11_sure_63 0 rfl ?_
              refine go_callVP (pc := 64) hF [vi (j₉ : Int)] [vi (suT t₉ u₉ x₉ (kN₉ sn j₉).toNat)] mv_X11_210 dX11_sure_64 (by omega) x_s1 (show CP E M_X11_sureOf 1 [vr E 94, vi (j₉ : Int)] N s1₉ (soT t₉ u₉ (kN₉ sn j₉)) from (by have q₉ := hfR j₉ hjx hlx; have h := c_X11_sureOf E N s1₉ hN₉ x_s1 nw_s1 w4_s1 w5_s1 u₉ j₉ n4₉ hu (by omega) (by omega) (by omega); rw [soM_at hfR hjx hlx] at h; exact h)) rfl rfl (Nat.le_of_ble_eq_true rfl) (by decide) ⟨Nat.zero_le _, Nat.zero_le _⟩ ?_
              refine go_iload_n (pc := 67) hF dX11_sure_67 3 rfl ?_
              refine go_icmp_ne (pc := 68) hF 75 dX11_sure_68 (by decide) (by omega) (by omega) (fun bq68 => ?_) (fun bq68 => ?_)
              · refine go_iconst (pc := 75) hF dX11_sure_75 ?_
                refine go_iadd (pc := 76) hF dX11_sure_76 ?_
                refine go_istore_n (pc := 77) hF [(2, vi ((suT t₉ u₉ x₉ (kN₉ sn j₉).toNat) + 0)), (3, vi (j₉ : Int)), (0, vr E 94), (1, vi x₉)] dX11_sure_77 rfl (by decide) ?_
                have eG : suG t₉ u₉ x₉ (kN₉ sn j₉) = 0 := by unfold suG; rw [if_neg bq48]; exact bI_f bq68
                have eS : suT t₉ u₉ x₉ (kN₉ sn (j₉ + 1)).toNat = (suT t₉ u₉ x₉ (kN₉ sn j₉).toNat) + 0 := by
                  rw [kN_yes hlx, show (kN₉ sn j₉ + 1).toNat = (kN₉ sn j₉).toNat + 1 by omega]
                  show suT t₉ u₉ x₉ (kN₉ sn j₉).toNat + suG t₉ u₉ x₉ ((kN₉ sn j₉).toNat : Int) = _
                  rw [show ((kN₉ sn j₉).toNat : Int) = kN₉ sn j₉ by omega, eG]
                refine go_lvE [(2, vi (suT t₉ u₉ x₉ (kN₉ sn (j₉ + 1)).toNat)), (3, vi (j₉ : Int)), (0, vr E 94), (1, vi x₉)] (by rw [eS]) ?_
                refine go_iinc (pc := 78) hF [(3, vi ((j₉ : Int) + 1)), (2, vi (suT t₉ u₉ x₉ (kN₉ sn (j₉ + 1)).toNat)), (0, vr E 94), (1, vi x₉)] dX11_sure_78 1 rfl rfl (by decide) ?_
                refine go_goto (pc := 81) hF 25 dX11_sure_81 (by decide) ?_
                exact ih₉ (j₉ + 1) (by omega) (by omega)
              · refine go_iconst (pc := 71) hF dX11_sure_71 ?_
                refine go_goto (pc := 72) hF 76 dX11_sure_72 (by decide) ?_
                refine go_iadd (pc := 76) hF dX11_sure_76 ?_
                refine go_istore_n (pc := 77) hF [(2, vi ((suT t₉ u₉ x₉ (kN₉ sn j₉).toNat) + 1)), (3, vi (j₉ : Int)), (0, vr E 94), (1, vi x₉)] dX11_sure_77 rfl (by decide) ?_
                have eG : suG t₉ u₉ x₉ (kN₉ sn j₉) = 1 := by unfold suG; rw [if_neg bq48]; exact bI_t bq68
                have eS : suT t₉ u₉ x₉ (kN₉ sn (j₉ + 1)).toNat = (suT t₉ u₉ x₉ (kN₉ sn j₉).toNat) + 1 := by
                  rw [kN_yes hlx, show (kN₉ sn j₉ + 1).toNat = (kN₉ sn j₉).toNat + 1 by omega]
                  show suT t₉ u₉ x₉ (kN₉ sn j₉).toNat + suG t₉ u₉ x₉ ((kN₉ sn j₉).toNat : Int) = _
                  rw [show ((kN₉ sn j₉).toNat : Int) = kN₉ sn j₉ by omega, eG]
                refine go_lvE [(2, vi (suT t₉ u₉ x₉ (kN₉ sn (j₉ + 1)).toNat)), (3, vi (j₉ : Int)), (0, vr E 94), (1, vi x₉)] (by rw [eS]) ?_
                refine go_iinc (pc := 78) hF [(3, vi ((j₉ : Int) + 1)), (2, vi (suT t₉ u₉ x₉ (kN₉ sn (j₉ + 1)).toNat)), (0, vr E 94), (1, vi x₉)] dX11_sure_78 1 rfl rfl (by decide) ?_
                refine go_goto (pc := 81) hF 25 dX11_sure_81 (by decide) ?_
                exact ih₉ (j₉ + 1) (by omega) (by omega)
            · refine go_aload_n (pc := 51) hF dX11_sure_51 2 rfl ?_
              refine go_iload_n (pc := 52) hF dX11_sure_52 0 rfl ?_
              refine go_callVP (pc := 53) hF [vi (j₉ : Int)] [vi (suT t₉ u₉ x₉ (kN₉ sn j₉).toNat)] mv_X11_222 dX11_sure_53 (by omega) x_s1 (c_X11_isKept E N s1₉ hN₉ x_s1 nw_s1 sn_s1 eo_s1 w4_s1 w5_s1 hwf hMA hl80 u₉ n4₉ hu j₉ hjx hlx hfR) rfl rfl (Nat.le_of_ble_eq_true rfl) (by decide) ⟨Nat.zero_le _, Nat.zero_le _⟩ ?_
              refine go_if_eq (pc := 56) hF 75 dX11_sure_56 (by decide) (by omega) (fun bq56 => ?_) (fun bq56 => ?_)
              · refine go_iconst (pc := 75) hF dX11_sure_75 ?_
                refine go_iadd (pc := 76) hF dX11_sure_76 ?_
                refine go_istore_n (pc := 77) hF [(2, vi ((suT t₉ u₉ x₉ (kN₉ sn j₉).toNat) + 0)), (3, vi (j₉ : Int)), (0, vr E 94), (1, vi x₉)] dX11_sure_77 rfl (by decide) ?_
                have eG : suG t₉ u₉ x₉ (kN₉ sn j₉) = 0 := by unfold suG; rw [if_pos bq48]; exact bq56
                have eS : suT t₉ u₉ x₉ (kN₉ sn (j₉ + 1)).toNat = (suT t₉ u₉ x₉ (kN₉ sn j₉).toNat) + 0 := by
                  rw [kN_yes hlx, show (kN₉ sn j₉ + 1).toNat = (kN₉ sn j₉).toNat + 1 by omega]
                  show suT t₉ u₉ x₉ (kN₉ sn j₉).toNat + suG t₉ u₉ x₉ ((kN₉ sn j₉).toNat : Int) = _
                  rw [show ((kN₉ sn j₉).toNat : Int) = kN₉ sn j₉ by omega, eG]
                refine go_lvE [(2, vi (suT t₉ u₉ x₉ (kN₉ sn (j₉ + 1)).toNat)), (3, vi (j₉ : Int)), (0, vr E 94), (1, vi x₉)] (by rw [eS]) ?_
                refine go_iinc (pc := 78) hF [(3, vi ((j₉ : Int) + 1)), (2, vi (suT t₉ u₉ x₉ (kN₉ sn (j₉ + 1)).toNat)), (0, vr E 94), (1, vi x₉)] dX11_sure_78 1 rfl rfl (by decide) ?_
                refine go_goto (pc := 81) hF 25 dX11_sure_81 (by decide) ?_
                exact ih₉ (j₉ + 1) (by omega) (by omega)
              · refine go_goto (pc := 59) hF 71 dX11_sure_59 (by decide) ?_
                refine go_iconst (pc := 71) hF dX11_sure_71 ?_
                refine go_goto (pc := 72) hF 76 dX11_sure_72 (by decide) ?_
                refine go_iadd (pc := 76) hF dX11_sure_76 ?_
                refine go_istore_n (pc := 77) hF [(2, vi ((suT t₉ u₉ x₉ (kN₉ sn j₉).toNat) + 1)), (3, vi (j₉ : Int)), (0, vr E 94), (1, vi x₉)] dX11_sure_77 rfl (by decide) ?_
                have eG : suG t₉ u₉ x₉ (kN₉ sn j₉) = 1 := by unfold suG; rw [if_pos bq48]; exact suG3_1 _ _ _ bq56
                have eS : suT t₉ u₉ x₉ (kN₉ sn (j₉ + 1)).toNat = (suT t₉ u₉ x₉ (kN₉ sn j₉).toNat) + 1 := by
                  rw [kN_yes hlx, show (kN₉ sn j₉ + 1).toNat = (kN₉ sn j₉).toNat + 1 by omega]
                  show suT t₉ u₉ x₉ (kN₉ sn j₉).toNat + suG t₉ u₉ x₉ ((kN₉ sn j₉).toNat : Int) = _
                  rw [show ((kN₉ sn j₉).toNat : Int) = kN₉ sn j₉ by omega, eG]
                refine go_lvE [(2, vi (suT t₉ u₉ x₉ (kN₉ sn (j₉ + 1)).toNat)), (3, vi (j₉ : Int)), (0, vr E 94), (1, vi x₉)] (by rw [eS]) ?_
                refine go_iinc (pc := 78) hF [(3, vi ((j₉ : Int) + 1)), (2, vi (suT t₉ u₉ x₉ (kN₉ sn (j₉ + 1)).toNat)), (0, vr E 94), (1, vi x₉)] dX11_sure_78 1 rfl rfl (by decide) ?_
                refine go_goto (pc := 81) hF 25 dX11_sure_81 (by decide) ?_
                exact ih₉ (j₉ + 1) (by omega) (by omega)
    exact loop₉ 82 0 rfl (by omega) 
  · exact absurd ((bI_0 _).mp bq9) (by omega)
