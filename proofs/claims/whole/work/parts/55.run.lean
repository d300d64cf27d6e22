/-! The reference₉: runs, draws. -/
set_option maxHeartbeats 4000000 in
set_option maxRecDepth 100000 in
theorem c_X11_asks (E : En) (N : Nat) (σ : Nat → va_E) {un sz₉ tl rz hi₉ mi ak rt cn : Int} (hN₉ : 120 ≤ N) (z101 : σ 94 = mOb E un sz₉ tl rz hi₉ mi ak rt cn) (hch : 0 ≤ cn ∧ cn < 1048576) (hak : 0 ≤ ak ∧ ak < 1000000) : CI E M_X11_asks 1 [vr E 94] N σ (fun y₉ σ' => y₉ = bitOf cn ak ∧ σ' 94 = mOb E un sz₉ tl rz hi₉ mi (ak + 1) rt cn ∧ ∀ q₉, q₉ ≠ 94 → σ' q₉ = σ q₉) := by
  refine CT.of2 (own := RX11) (by decide) rfl (Nat.le_of_ble_eq_true rfl) ?_
  intro p e R s m args below meth c Q hF hr hlk hnm hz hR hQ
  refine go_aload_n (pc := 0) hF dX11_asks_0 0 rfl ?_
  refine go_get (pc := 1) hF fl_X11_271 dX11_asks_1 (by omega) z101 rfl ?_
  refine go_bipush (pc := 4) hF dX11_asks_4 (by decide) ?_
  refine go_icmp_ge (pc := 6) hF 28 dX11_asks_6 (by decide) (by omega) ⟨by decide, by decide⟩ (fun bq6 => ?_) (fun bq6 => ?_)
  · refine go_iconst (pc := 28) hF dX11_asks_28 ?_
    refine go_istore_n (pc := 29) hF [(1, vi 0), (0, vr E 94)] dX11_asks_29 rfl (by decide) ?_
    refine go_aload_n (pc := 30) hF dX11_asks_30 1 rfl ?_
    refine go_dup (pc := 31) hF dX11_asks_31 rfl ?_
    refine go_get (pc := 32) hF fl_X11_271 dX11_asks_32 (by omega) z101 rfl ?_
    refine go_iconst (pc := 35) hF dX11_asks_35 ?_
    refine go_iadd (pc := 36) hF dX11_asks_36 ?_
    refine go_put (pc := 37) hF [vr E 95, vr E 96, vi un, vr E 97, vr E 98, vr E 99, vr E 100, vi sz₉, vr E 101, vi tl, vr E 102, vi rz, vr E 103, vr E 104, vr E 105, vr E 106, vr E 107, vr E 108, vr E 109, vr E 110, vr E 111, vr E 112, vr E 113, vr E 114, vr E 115, vr E 116, vr E 117, vr E 118, vr E 119, vi hi₉, vi mi, vi (ak + 1), vi rt, vi cn] fl_X11_271 dX11_asks_37 (by omega) z101 rfl rfl rfl (Nat.le_of_ble_eq_true rfl) (fun s1₉ u_s1 f_s1 => ?_)
    refine go_iload_n (pc := 40) hF dX11_asks_40 0 rfl ?_
    exact go_zretQ hF hr hlk hQ dX11_asks_41 (by decide) ⟨by unfold bitOf; first | (rw [if_pos (by omega)]; omega) | (rw [if_neg (by omega)]), u_s1, (fun jj hjj => by rw [f_s1 jj (by omega)])⟩
  · have zs := bit_rg (a₉ := cn) ak.toNat hch.1
    refine go_aload_n (pc := 9) hF dX11_asks_9 0 rfl ?_
    refine go_get (pc := 10) hF fl_X11_274 dX11_asks_10 (by omega) z101 rfl ?_
    refine go_aload_n (pc := 13) hF dX11_asks_13 0 rfl ?_
    refine go_get (pc := 14) hF fl_X11_271 dX11_asks_14 (by omega) z101 rfl ?_
    refine go_ishr (pc := 17) hF (cn / 2 ^ ak.toNat) (shrV (by omega) (by omega)) dX11_asks_17 ?_
    refine go_iconst (pc := 18) hF dX11_asks_18 ?_
    refine go_iand (pc := 19) hF ((cn / 2 ^ ak.toNat) % 2) (b_and 1 1 2 (by decide) (by decide) (by omega)) dX11_asks_19 ?_
    refine go_iconst (pc := 20) hF dX11_asks_20 ?_
    refine go_icmp_ne (pc := 21) hF 28 dX11_asks_21 (by decide) (by omega) ⟨by decide, by decide⟩ (fun bq21 => ?_) (fun bq21 => ?_)
    · refine go_iconst (pc := 28) hF dX11_asks_28 ?_
      refine go_istore_n (pc := 29) hF [(1, vi 0), (0, vr E 94)] dX11_asks_29 rfl (by decide) ?_
      refine go_aload_n (pc := 30) hF dX11_asks_30 1 rfl ?_
      refine go_dup (pc := 31) hF dX11_asks_31 rfl ?_
      refine go_get (pc := 32) hF fl_X11_271 dX11_asks_32 (by omega) z101 rfl ?_
      refine go_iconst (pc := 35) hF dX11_asks_35 ?_
      refine go_iadd (pc := 36) hF dX11_asks_36 ?_
      refine go_put (pc := 37) hF [vr E 95, vr E 96, vi un, vr E 97, vr E 98, vr E 99, vr E 100, vi sz₉, vr E 101, vi tl, vr E 102, vi rz, vr E 103, vr E 104, vr E 105, vr E 106, vr E 107, vr E 108, vr E 109, vr E 110, vr E 111, vr E 112, vr E 113, vr E 114, vr E 115, vr E 116, vr E 117, vr E 118, vr E 119, vi hi₉, vi mi, vi (ak + 1), vi rt, vi cn] fl_X11_271 dX11_asks_37 (by omega) z101 rfl rfl rfl (Nat.le_of_ble_eq_true rfl) (fun s2₉ u_s2 f_s2 => ?_)
      refine go_iload_n (pc := 40) hF dX11_asks_40 0 rfl ?_
      exact go_zretQ hF hr hlk hQ dX11_asks_41 (by decide) ⟨by unfold bitOf; first | (rw [if_pos (by omega)]; omega) | (rw [if_neg (by omega)]), u_s2, (fun jj hjj => by rw [f_s2 jj (by omega)])⟩
    · refine go_iconst (pc := 24) hF dX11_asks_24 ?_
      refine go_goto (pc := 25) hF 29 dX11_asks_25 (by decide) ?_
      refine go_istore_n (pc := 29) hF [(1, vi 1), (0, vr E 94)] dX11_asks_29 rfl (by decide) ?_
      refine go_aload_n (pc := 30) hF dX11_asks_30 1 rfl ?_
      refine go_dup (pc := 31) hF dX11_asks_31 rfl ?_
      refine go_get (pc := 32) hF fl_X11_271 dX11_asks_32 (by omega) z101 rfl ?_
      refine go_iconst (pc := 35) hF dX11_asks_35 ?_
      refine go_iadd (pc := 36) hF dX11_asks_36 ?_
      refine go_put (pc := 37) hF [vr E 95, vr E 96, vi un, vr E 97, vr E 98, vr E 99, vr E 100, vi sz₉, vr E 101, vi tl, vr E 102, vi rz, vr E 103, vr E 104, vr E 105, vr E 106, vr E 107, vr E 108, vr E 109, vr E 110, vr E 111, vr E 112, vr E 113, vr E 114, vr E 115, vr E 116, vr E 117, vr E 118, vr E 119, vi hi₉, vi mi, vi (ak + 1), vi rt, vi cn] fl_X11_271 dX11_asks_37 (by omega) z101 rfl rfl rfl (Nat.le_of_ble_eq_true rfl) (fun s3₉ u_s3 f_s3 => ?_)
      refine go_iload_n (pc := 40) hF dX11_asks_40 0 rfl ?_
      exact go_zretQ hF hr hlk hQ dX11_asks_41 (by decide) ⟨by unfold bitOf; first | (rw [if_pos (by omega)]; omega) | (rw [if_neg (by omega)]), u_s3, (fun jj hjj => by rw [f_s3 jj (by omega)])⟩
set_option maxHeartbeats 4000000 in
set_option maxRecDepth 100000 in
theorem c_X11_endBehind (E : En) (N : Nat) (σ : Nat → va_E) {un tl rz hi₉ mi ak rt cn : Int} {t₉ : Tr} {sn eo bo : Int → Int} (hN₉ : 120 ≤ N) (z101 : σ 94 = mOb E un (tLen t₉ : Int) tl rz hi₉ mi ak rt cn) (z105 : σ 98 = ai E 80 sn) (z106 : σ 99 = ai E 80 eo) (z107 : σ 100 = ai E 80 bo) (hsg : ∀ p : Int, 0 ≤ p → p < (tLen t₉ : Int) → 40 ≤ sn p ∧ sn p ≤ 124) (hl80 : tLen t₉ ≤ 80) (hbr : ∀ q₉ : Int, 0 ≤ q₉ → q₉ < 80 → rg (bo q₉)) (ob9 o0₉ e1₉ : Int) (hob : 0 ≤ o0₉ ∧ o0₉ < ob9) (hs0 : sn o0₉ = 40) (hb0 : bo o0₉ = ob9) (he0 : eo o0₉ = e1₉) (hbe : ob9 < e1₉ ∧ e1₉ < (tLen t₉ : Int)) (hsb : sn ob9 = 124) (hin : ∀ q₉ : Int, o0₉ < q₉ → q₉ < ob9 → sn q₉ = 40 → q₉ < eo q₉ ∧ eo q₉ < ob9) : CP E M_X11_endBehind 1 [vr E 94, vi ob9] N σ e1₉ := by
  refine CT.of2 (own := RX11) (by decide) rfl (Nat.le_of_ble_eq_true rfl) ?_
  intro p e R s m args below meth c Q hF hr hlk hnm hz hR hQ
  refine go_iload_n (pc := 0) hF dX11_endBehind_0 1 rfl ?_
  refine go_istore_n (pc := 1) hF [(2, vi ob9), (0, vr E 94), (1, vi ob9)] dX11_endBehind_1 rfl (by decide) ?_
  refine go_lvE [(2, vi (ob9 - ((0 : Nat) : Int))), (0, vr E 94), (1, vi ob9)] (by rw [show ob9 - ((0 : Nat) : Int) = ob9 by omega]) ?_
  have loop₉ : ∀ (n₉ : Nat) (j₉ : Nat), (j₉ : Int) + (n₉ : Int) = 90 → (o0₉ : Int) ≤ ob9 - (j₉ : Int) → Go E p e R s m args below meth c Q 3 (0, 0) N σ [(2, vi (ob9 - (j₉ : Int))), (0, vr E 94), (1, vi ob9)] [] 2 := by
    intro n₉
    induction n₉ with
    | zero => intro j₉ hfu hj; exfalso; omega
    | succ n₉ ih₉ =>
      intro j₉ hfu hj
      have rb := hbr (ob9 - (j₉ : Int)) (by omega) (by omega)
      have rs := hsg (ob9 - (j₉ : Int)) (by omega) (by omega)
      refine go_aload_n (pc := 2) hF dX11_endBehind_2 1 rfl ?_
      refine go_get (pc := 3) hF fl_X11_25 dX11_endBehind_3 (by omega) z101 rfl ?_
      refine go_iload_n (pc := 6) hF dX11_endBehind_6 0 rfl ?_
      refine go_iald (pc := 7) hF dX11_endBehind_7 (by omega) z107 (by omega)  ?_
      refine go_iload_n (pc := 8) hF dX11_endBehind_8 2 rfl ?_
      refine go_icmp_ne (pc := 9) hF 33 dX11_endBehind_9 (by decide) (by omega) (by omega) (fun bq9 => ?_) (fun bq9 => ?_)
      · refine go_iinc (pc := 33) hF [(2, vi ((ob9 - (j₉ : Int)) + (-1))), (0, vr E 94), (1, vi ob9)] dX11_endBehind_33 0 rfl rfl (by decide) ?_
        have hne : ob9 - (j₉ : Int) ≠ o0₉ := fun z₉ => bq9 (by rw [z₉]; exact hb0)
        refine go_lvE [(2, vi (ob9 - ((j₉ + 1 : Nat) : Int))), (0, vr E 94), (1, vi ob9)] (by rw [show ob9 - ((j₉ + 1 : Nat) : Int) = (ob9 - (j₉ : Int)) + (-1) by omega]) ?_
        refine go_goto (pc := 36) hF 2 dX11_endBehind_36 (by decide) ?_
        exact ih₉ (j₉ + 1) (by omega) (by omega)
      · refine go_aload_n (pc := 12) hF dX11_endBehind_12 1 rfl ?_
        refine go_get (pc := 13) hF fl_X11_19 dX11_endBehind_13 (by omega) z101 rfl ?_
        refine go_iload_n (pc := 16) hF dX11_endBehind_16 0 rfl ?_
        refine go_iald (pc := 17) hF dX11_endBehind_17 (by omega) z105 (by omega)  ?_
        refine go_bipush (pc := 18) hF dX11_endBehind_18 (by decide) ?_
        refine go_icmp_ne (pc := 20) hF 33 dX11_endBehind_20 (by decide) (by omega) ⟨by decide, by decide⟩ (fun bq20 => ?_) (fun bq20 => ?_)
        · refine go_iinc (pc := 33) hF [(2, vi ((ob9 - (j₉ : Int)) + (-1))), (0, vr E 94), (1, vi ob9)] dX11_endBehind_33 0 rfl rfl (by decide) ?_
          have hne : ob9 - (j₉ : Int) ≠ o0₉ := fun z₉ => bq20 (by rw [z₉]; exact hs0)
          refine go_lvE [(2, vi (ob9 - ((j₉ + 1 : Nat) : Int))), (0, vr E 94), (1, vi ob9)] (by rw [show ob9 - ((j₉ + 1 : Nat) : Int) = (ob9 - (j₉ : Int)) + (-1) by omega]) ?_
          refine go_goto (pc := 36) hF 2 dX11_endBehind_36 (by decide) ?_
          exact ih₉ (j₉ + 1) (by omega) (by omega)
        · have qe : ob9 - (j₉ : Int) < eo (ob9 - (j₉ : Int)) ∧ eo (ob9 - (j₉ : Int)) < 80 := by
            by_cases z₉ : ob9 - (j₉ : Int) = o0₉
            · rw [z₉]; omega
            · have z2 : ob9 - (j₉ : Int) ≠ ob9 := fun z3 => by rw [z3, hsb] at bq20; omega
              have := hin _ (by omega) (by omega) bq20; omega
          refine go_aload_n (pc := 23) hF dX11_endBehind_23 1 rfl ?_
          refine go_get (pc := 24) hF fl_X11_22 dX11_endBehind_24 (by omega) z101 rfl ?_
          refine go_iload_n (pc := 27) hF dX11_endBehind_27 0 rfl ?_
          refine go_iald (pc := 28) hF dX11_endBehind_28 (by omega) z106 (by omega)  ?_
          refine go_iload_n (pc := 29) hF dX11_endBehind_29 2 rfl ?_
          refine go_icmp_ge (pc := 30) hF 39 dX11_endBehind_30 (by decide) (by omega) (by omega) (fun bq30 => ?_) (fun bq30 => ?_)
          · refine go_aload_n (pc := 39) hF dX11_endBehind_39 1 rfl ?_
            refine go_get (pc := 40) hF fl_X11_22 dX11_endBehind_40 (by omega) z101 rfl ?_
            refine go_iload_n (pc := 43) hF dX11_endBehind_43 0 rfl ?_
            refine go_iald (pc := 44) hF dX11_endBehind_44 (by omega) z106 (by omega)  ?_
            have z₉ : ob9 - (j₉ : Int) = o0₉ := by
              by_cases z₉ : ob9 - (j₉ : Int) = o0₉
              · exact z₉
              · have z2 : ob9 - (j₉ : Int) ≠ ob9 := fun z3 => by rw [z3, hsb] at bq20; omega
                have := hin _ (by omega) (by omega) bq20; omega
            exact go_iretQ hF hr hlk hQ dX11_endBehind_45 ⟨by rw [z₉]; exact he0, rfl⟩
          · refine go_iinc (pc := 33) hF [(2, vi ((ob9 - (j₉ : Int)) + (-1))), (0, vr E 94), (1, vi ob9)] dX11_endBehind_33 0 rfl rfl (by decide) ?_
            have hne : ob9 - (j₉ : Int) ≠ o0₉ := fun z₉ => by rw [z₉] at bq30; omega
            refine go_lvE [(2, vi (ob9 - ((j₉ + 1 : Nat) : Int))), (0, vr E 94), (1, vi ob9)] (by rw [show ob9 - ((j₉ + 1 : Nat) : Int) = (ob9 - (j₉ : Int)) + (-1) by omega]) ?_
            refine go_goto (pc := 36) hF 2 dX11_endBehind_36 (by decide) ?_
            exact ih₉ (j₉ + 1) (by omega) (by omega)
  exact loop₉ 90 0 (by omega) (by omega) 
set_option maxHeartbeats 4000000 in
set_option maxRecDepth 100000 in
theorem c_X11_run (E : En) (N : Nat) (σ : Nat → va_E) {un tl rz hi₉ mi ak rt cn : Int} {t₉ : Tr} {nw sn eo bo g123 : Int → Int} (hN₉ : 120 ≤ N) (z101 : σ 94 = mOb E un (tLen t₉ : Int) tl rz hi₉ mi ak rt cn) (z102 : σ 95 = ai E 7 nw) (z105 : σ 98 = ai E 80 sn) (z106 : σ 99 = ai E 80 eo) (z107 : σ 100 = ai E 80 bo) (z123 : σ 116 = ai E 3 g123) (hwf : wf t₉) (hMA : MA₉ sn eo bo t₉ 0) (hl80 : tLen t₉ ≤ 80) (hdp3 : tDep t₉ ≤ 3) (hbr : ∀ q₉ : Int, 0 ≤ q₉ → q₉ < 80 → rg (bo q₉)) (r₉ u₉ kd pr ch₉ : Int) (n4₉ : nw 4 = u₉) (n5₉ : nw 5 = kd) (n6₉ : nw 6 = pr) (hu : 1 ≤ u₉ ∧ u₉ ≤ 3) (hkd : 0 ≤ kd ∧ kd ≤ 3) (hpr : 2 ≤ pr ∧ pr ≤ 99) (hrw : vrow u₉ r₉) (hch : 0 ≤ ch₉ ∧ ch₉ < 1048576) : CI E M_X11_run 5 [vr E 94, vi r₉, vi ch₉] N σ (fun y₉ σ' => y₉ = (rn u₉ kd pr ch₉ t₉ (r₉, 0, 0, 0, 0)).2.1 ∧ σ' 94 = mOb E un (tLen t₉ : Int) tl rz ((rn u₉ kd pr ch₉ t₉ (r₉, 0, 0, 0, 0)).2.2.1) ((rn u₉ kd pr ch₉ t₉ (r₉, 0, 0, 0, 0)).2.2.2.1) ((rn u₉ kd pr ch₉ t₉ (r₉, 0, 0, 0, 0)).2.2.2.2) ((rn u₉ kd pr ch₉ t₉ (r₉, 0, 0, 0, 0)).1) ch₉ ∧ (∃ ro, σ' 116 = ai E 3 ro) ∧ ∀ q₉, (q₉ ≠ 94 ∧ q₉ ≠ 116) → σ' q₉ = σ q₉) := by
  refine CT.of2 (own := RX11) (by decide) rfl (Nat.le_of_ble_eq_true rfl) ?_
  intro p e R s m args below meth c Q hF hr hlk hnm hz hR hQ
  have hsg0 := MA_sg t₉ hwf 0 hMA
  have hsg : ∀ p : Int, 0 ≤ p → p < (tLen t₉ : Int) → 40 ≤ sn p ∧ sn p ≤ 124 := fun p a₉ b₉ => hsg0 p a₉ (by omega)
  refine go_iconst (pc := 0) hF dX11_run_0 ?_
  refine go_istore_n (pc := 1) hF [(3, vi 0), (0, vr E 94), (1, vi r₉), (2, vi ch₉)] dX11_run_1 rfl (by decide) ?_
  refine go_iconst (pc := 2) hF dX11_run_2 ?_
  refine go_istore (pc := 3) hF [(4, vi 0), (3, vi 0), (0, vr E 94), (1, vi r₉), (2, vi ch₉)] dX11_run_3 rfl (by decide) ?_
  refine go_aload_n (pc := 5) hF dX11_run_5 2 rfl ?_
  refine go_iconst (pc := 6) hF dX11_run_6 ?_
  refine go_put (pc := 7) hF [vr E 95, vr E 96, vi un, vr E 97, vr E 98, vr E 99, vr E 100, vi (tLen t₉ : Int), vr E 101, vi tl, vr E 102, vi rz, vr E 103, vr E 104, vr E 105, vr E 106, vr E 107, vr E 108, vr E 109, vr E 110, vr E 111, vr E 112, vr E 113, vr E 114, vr E 115, vr E 116, vr E 117, vr E 118, vr E 119, vi 0, vi mi, vi ak, vi rt, vi cn] fl_X11_277 dX11_run_7 (by omega) z101 rfl rfl rfl (Nat.le_of_ble_eq_true rfl) (fun s1₉ u_s1 f_s1 => ?_)
  have nw_s1 := (f_s1 95 (by omega)).trans z102
  have sn_s1 := (f_s1 98 (by omega)).trans z105
  have eo_s1 := (f_s1 99 (by omega)).trans z106
  have bo_s1 := (f_s1 100 (by omega)).trans z107
  have rounds_s1 := (f_s1 116 (by omega)).trans z123
  refine go_aload_n (pc := 10) hF dX11_run_10 2 rfl ?_
  refine go_iconst (pc := 11) hF dX11_run_11 ?_
  refine go_put (pc := 12) hF [vr E 95, vr E 96, vi un, vr E 97, vr E 98, vr E 99, vr E 100, vi (tLen t₉ : Int), vr E 101, vi tl, vr E 102, vi rz, vr E 103, vr E 104, vr E 105, vr E 106, vr E 107, vr E 108, vr E 109, vr E 110, vr E 111, vr E 112, vr E 113, vr E 114, vr E 115, vr E 116, vr E 117, vr E 118, vr E 119, vi 0, vi 0, vi ak, vi rt, vi cn] fl_X11_280 dX11_run_12 (by omega) u_s1 rfl rfl rfl (Nat.le_of_ble_eq_true rfl) (fun s2₉ u_s2 f_s2 => ?_)
  have nw_s2 := (f_s2 95 (by omega)).trans nw_s1
  have sn_s2 := (f_s2 98 (by omega)).trans sn_s1
  have eo_s2 := (f_s2 99 (by omega)).trans eo_s1
  have bo_s2 := (f_s2 100 (by omega)).trans bo_s1
  have rounds_s2 := (f_s2 116 (by omega)).trans rounds_s1
  refine go_aload_n (pc := 15) hF dX11_run_15 2 rfl ?_
  refine go_iconst (pc := 16) hF dX11_run_16 ?_
  refine go_put (pc := 17) hF [vr E 95, vr E 96, vi un, vr E 97, vr E 98, vr E 99, vr E 100, vi (tLen t₉ : Int), vr E 101, vi tl, vr E 102, vi rz, vr E 103, vr E 104, vr E 105, vr E 106, vr E 107, vr E 108, vr E 109, vr E 110, vr E 111, vr E 112, vr E 113, vr E 114, vr E 115, vr E 116, vr E 117, vr E 118, vr E 119, vi 0, vi 0, vi 0, vi rt, vi cn] fl_X11_271 dX11_run_17 (by omega) u_s2 rfl rfl rfl (Nat.le_of_ble_eq_true rfl) (fun s3₉ u_s3 f_s3 => ?_)
  have nw_s3 := (f_s3 95 (by omega)).trans nw_s2
  have sn_s3 := (f_s3 98 (by omega)).trans sn_s2
  have eo_s3 := (f_s3 99 (by omega)).trans eo_s2
  have bo_s3 := (f_s3 100 (by omega)).trans bo_s2
  have rounds_s3 := (f_s3 116 (by omega)).trans rounds_s2
  refine go_aload_n (pc := 20) hF dX11_run_20 2 rfl ?_
  refine go_iload_n (pc := 21) hF dX11_run_21 3 rfl ?_
  refine go_put (pc := 22) hF [vr E 95, vr E 96, vi un, vr E 97, vr E 98, vr E 99, vr E 100, vi (tLen t₉ : Int), vr E 101, vi tl, vr E 102, vi rz, vr E 103, vr E 104, vr E 105, vr E 106, vr E 107, vr E 108, vr E 109, vr E 110, vr E 111, vr E 112, vr E 113, vr E 114, vr E 115, vr E 116, vr E 117, vr E 118, vr E 119, vi 0, vi 0, vi 0, vi r₉, vi cn] fl_X11_283 dX11_run_22 (by omega) u_s3 rfl rfl rfl (Nat.le_of_ble_eq_true rfl) (fun s4₉ u_s4 f_s4 => ?_)
  have nw_s4 := (f_s4 95 (by omega)).trans nw_s3
  have sn_s4 := (f_s4 98 (by omega)).trans sn_s3
  have eo_s4 := (f_s4 99 (by omega)).trans eo_s3
  have bo_s4 := (f_s4 100 (by omega)).trans bo_s3
  have rounds_s4 := (f_s4 116 (by omega)).trans rounds_s3
  refine go_aload_n (pc := 25) hF dX11_run_25 2 rfl ?_
  refine go_iload_n (pc := 26) hF dX11_run_26 4 rfl ?_
  refine go_put (pc := 27) hF [vr E 95, vr E 96, vi un, vr E 97, vr E 98, vr E 99, vr E 100, vi (tLen t₉ : Int), vr E 101, vi tl, vr E 102, vi rz, vr E 103, vr E 104, vr E 105, vr E 106, vr E 107, vr E 108, vr E 109, vr E 110, vr E 111, vr E 112, vr E 113, vr E 114, vr E 115, vr E 116, vr E 117, vr E 118, vr E 119, vi 0, vi 0, vi 0, vi r₉, vi ch₉] fl_X11_274 dX11_run_27 (by omega) u_s4 rfl rfl rfl (Nat.le_of_ble_eq_true rfl) (fun s5 u_s5 f_s5 => ?_)
  have nw_s5 := (f_s5 95 (by omega)).trans nw_s4
  have sn_s5 := (f_s5 98 (by omega)).trans sn_s4
  have eo_s5 := (f_s5 99 (by omega)).trans eo_s4
  have bo_s5 := (f_s5 100 (by omega)).trans bo_s4
  have rounds_s5 := (f_s5 116 (by omega)).trans rounds_s4
  refine go_iconst (pc := 30) hF dX11_run_30 ?_
  refine go_istore (pc := 31) hF [(5, vi 0), (4, vi 0), (3, vi 0), (0, vr E 94), (1, vi r₉), (2, vi ch₉)] dX11_run_31 rfl (by decide) ?_
  have s_dot : ∀ (oo dl rt ta hi₉ mi ak : Int) (ro : Int → Int) (ρ : Nat → va_E), rW E s5 un (tLen t₉ : Int) tl rz ch₉ ρ rt hi₉ mi ak ro → 0 ≤ oo ∧ oo < (tLen t₉ : Int) → 0 ≤ dl ∧ dl ≤ 3 → sn oo = 46 → (Go E p e R s m args below meth c Q 9 (0, 0) N ρ [(5, vi (oo + 1)), (4, vi dl), (3, vi (ta + 1)), (0, vr E 94)] [] 33) → Go E p e R s m args below meth c Q 9 (0, 0) N ρ [(5, vi oo), (4, vi dl), (3, vi ta), (0, vr E 94)] [] 33 := by
    intro oo dl rt ta hi₉ mi ak ro ρ hW ho hd₉ hc₉ hK₉
    obtain ⟨zx, w2₉, fr₉⟩ := hW
    have zn := (fr₉ 95 (by omega)).trans nw_s5
    have zs := (fr₉ 98 (by omega)).trans sn_s5
    have ze := (fr₉ 99 (by omega)).trans eo_s5
    have zb := (fr₉ 100 (by omega)).trans bo_s5
    refine go_iload (pc := 33) hF dX11_run_33 0 rfl ?_
    refine go_aload_n (pc := 35) hF dX11_run_35 3 rfl ?_
    refine go_get (pc := 36) hF fl_X11_177 dX11_run_36 (by omega) zx rfl ?_
    refine go_icmp_ge (pc := 39) hF 393 dX11_run_39 (by decide) (by omega) (by omega) (fun bq39 => ?_) (fun bq39 => ?_)
    · exact absurd bq39 (by omega)
    · refine go_aload_n (pc := 42) hF dX11_run_42 3 rfl ?_
      refine go_get (pc := 43) hF fl_X11_19 dX11_run_43 (by omega) zx rfl ?_
      refine go_iload (pc := 46) hF dX11_run_46 0 rfl ?_
      refine go_iald (pc := 48) hF dX11_run_48 (by omega) zs (by omega)  ?_
      rw [hc₉]
      refine go_istore (pc := 49) hF [(6, vi 46), (5, vi oo), (4, vi dl), (3, vi ta), (0, vr E 94)] dX11_run_49 rfl (by decide) ?_
      refine go_iload (pc := 51) hF dX11_run_51 1 rfl ?_
      refine go_iconst (pc := 53) hF dX11_run_53 ?_
      refine go_iadd (pc := 54) hF dX11_run_54 ?_
      refine go_istore (pc := 55) hF [(7, vi (oo + 1)), (6, vi 46), (5, vi oo), (4, vi dl), (3, vi ta), (0, vr E 94)] dX11_run_55 rfl (by decide) ?_
      refine go_iload (pc := 57) hF dX11_run_57 1 rfl ?_
      refine go_callSP (pc := 59) hF [vi 46] [] ms_X11_168 dX11_run_59 (show CP E M_X11_isLook 2 [vi 46] N ρ 0 from (by have h := c_X11_isLook E N ρ 46 (by omega); rw [bI_f (by omega)] at h; exact h)) rfl rfl (Nat.le_of_ble_eq_true rfl) (by decide) ⟨Nat.zero_le _, Nat.zero_le _⟩ ?_
      refine go_if_eq (pc := 62) hF 156 dX11_run_62 (by decide) ⟨by decide, by decide⟩ (fun bq62 => ?_) (fun bq62 => ?_)
      · refine go_iload (pc := 156) hF dX11_run_156 1 rfl ?_
        refine go_bipush (pc := 158) hF dX11_run_158 (by decide) ?_
        refine go_icmp_ne (pc := 160) hF 169 dX11_run_160 (by decide) ⟨by decide, by decide⟩ ⟨by decide, by decide⟩ (fun bq160 => ?_) (fun bq160 => ?_)
        · exact absurd bq160 (by decide)
        · refine go_iinc (pc := 163) hF [(3, vi (ta + 1)), (7, vi (oo + 1)), (6, vi 46), (5, vi oo), (4, vi dl), (0, vr E 94)] dX11_run_163 4 rfl rfl (by decide) ?_
          refine go_goto (pc := 166) hF 386 dX11_run_166 (by decide) ?_
          refine go_iload (pc := 386) hF dX11_run_386 1 rfl ?_
          refine go_istore (pc := 388) hF [(5, vi (oo + 1)), (3, vi (ta + 1)), (7, vi (oo + 1)), (6, vi 46), (4, vi dl), (0, vr E 94)] dX11_run_388 rfl (by decide) ?_
          refine go_goto (pc := 390) hF 33 dX11_run_390 (by decide) ?_
          refine go_lv [(5, vi (oo + 1)), (4, vi dl), (3, vi (ta + 1)), (0, vr E 94)] [0, 4, 1, 5] rfl ?_
          exact hK₉
      · exact absurd bq62 (by decide)
  have s_miss : ∀ (oo dl rt ta hi₉ mi ak : Int) (ro : Int → Int) (ρ : Nat → va_E), rW E s5 un (tLen t₉ : Int) tl rz ch₉ ρ rt hi₉ mi ak ro → 0 ≤ oo ∧ oo < (tLen t₉ : Int) → 0 ≤ dl ∧ dl ≤ 3 → 97 ≤ sn oo ∧ sn oo ≤ 102 → 0 ≤ rt ∧ rt < 343 → mPlace rt (sn oo - 97) = -1 → (∀ ρ', rW E s5 un (tLen t₉ : Int) tl rz ch₉ ρ' (mAfter rt (sn oo - 97) u₉ kd) hi₉ (mi + 1) ak ro → Go E p e R s m args below meth c Q 9 (0, 0) N ρ' [(5, vi (oo + 1)), (4, vi dl), (3, vi (ta + pr)), (0, vr E 94)] [] 33) → Go E p e R s m args below meth c Q 9 (0, 0) N ρ [(5, vi oo), (4, vi dl), (3, vi ta), (0, vr E 94)] [] 33 := by
    intro oo dl rt ta hi₉ mi ak ro ρ hW ho hd₉ hx hrt hms hK₉
    obtain ⟨zx, w2₉, fr₉⟩ := hW
    have zn := (fr₉ 95 (by omega)).trans nw_s5
    have zs := (fr₉ 98 (by omega)).trans sn_s5
    have ze := (fr₉ 99 (by omega)).trans eo_s5
    have zb := (fr₉ 100 (by omega)).trans bo_s5
    refine go_iload (pc := 33) hF dX11_run_33 0 rfl ?_
    refine go_aload_n (pc := 35) hF dX11_run_35 3 rfl ?_
    refine go_get (pc := 36) hF fl_X11_177 dX11_run_36 (by omega) zx rfl ?_
    refine go_icmp_ge (pc := 39) hF 393 dX11_run_39 (by decide) (by omega) (by omega) (fun bq39 => ?_) (fun bq39 => ?_)
    · exact absurd bq39 (by omega)
    · refine go_aload_n (pc := 42) hF dX11_run_42 3 rfl ?_
      refine go_get (pc := 43) hF fl_X11_19 dX11_run_43 (by omega) zx rfl ?_
      refine go_iload (pc := 46) hF dX11_run_46 0 rfl ?_
      refine go_iald (pc := 48) hF dX11_run_48 (by omega) zs (by omega)  ?_
      refine go_istore (pc := 49) hF [(6, vi (sn oo)), (5, vi oo), (4, vi dl), (3, vi ta), (0, vr E 94)] dX11_run_49 rfl (by decide) ?_
      refine go_iload (pc := 51) hF dX11_run_51 1 rfl ?_
      refine go_iconst (pc := 53) hF dX11_run_53 ?_
      refine go_iadd (pc := 54) hF dX11_run_54 ?_
      refine go_istore (pc := 55) hF [(7, vi (oo + 1)), (6, vi (sn oo)), (5, vi oo), (4, vi dl), (3, vi ta), (0, vr E 94)] dX11_run_55 rfl (by decide) ?_
      refine go_iload (pc := 57) hF dX11_run_57 1 rfl ?_
      refine go_callSP (pc := 59) hF [vi (sn oo)] [] ms_X11_168 dX11_run_59 (show CP E M_X11_isLook 2 [vi (sn oo)] N ρ 1 from (by have h := c_X11_isLook E N ρ (sn oo) (by omega); rw [bI_t (by omega)] at h; exact h)) rfl rfl (Nat.le_of_ble_eq_true rfl) (by decide) ⟨Nat.zero_le _, Nat.zero_le _⟩ ?_
      refine go_if_eq (pc := 62) hF 156 dX11_run_62 (by decide) ⟨by decide, by decide⟩ (fun bq62 => ?_) (fun bq62 => ?_)
      · exact absurd bq62 (by decide)
      · refine go_aload_n (pc := 65) hF dX11_run_65 5 rfl ?_
        refine go_aload_n (pc := 66) hF dX11_run_66 5 rfl ?_
        refine go_get (pc := 67) hF fl_X11_283 dX11_run_67 (by omega) zx rfl ?_
        refine go_iload (pc := 70) hF dX11_run_70 1 rfl ?_
        refine go_bipush (pc := 72) hF dX11_run_72 (by decide) ?_
        refine go_isub (pc := 74) hF dX11_run_74 ?_
        refine go_callVP (pc := 75) hF [vi rt, vi ((sn oo) - 97)] [] mv_X11_146 dX11_run_75 (by omega) zx (c_X11_costs E N ρ hN₉ zx zn rt ((sn oo) - 97) (by omega) (by omega)) rfl rfl (Nat.le_of_ble_eq_true rfl) (by decide) ⟨Nat.zero_le _, Nat.zero_le _⟩ ?_
        rw [if_pos hms, n6₉]
        refine go_istore (pc := 78) hF [(8, vi pr), (7, vi (oo + 1)), (6, vi (sn oo)), (5, vi oo), (4, vi dl), (3, vi ta), (0, vr E 94)] dX11_run_78 rfl (by decide) ?_
        refine go_iload_n (pc := 80) hF dX11_run_80 5 rfl ?_
        refine go_iload (pc := 81) hF dX11_run_81 0 rfl ?_
        refine go_iadd (pc := 83) hF dX11_run_83 ?_
        refine go_istore_n (pc := 84) hF [(3, vi (ta + pr)), (8, vi pr), (7, vi (oo + 1)), (6, vi (sn oo)), (5, vi oo), (4, vi dl), (0, vr E 94)] dX11_run_84 rfl (by decide) ?_
        refine go_aload_n (pc := 85) hF dX11_run_85 6 rfl ?_
        refine go_dup (pc := 86) hF dX11_run_86 rfl ?_
        refine go_get (pc := 87) hF fl_X11_277 dX11_run_87 (by omega) zx rfl ?_
        refine go_iload (pc := 90) hF dX11_run_90 1 rfl ?_
        refine go_iconst (pc := 92) hF dX11_run_92 ?_
        refine go_icmp_ne (pc := 93) hF 100 dX11_run_93 (by decide) (by omega) ⟨by decide, by decide⟩ (fun bq93 => ?_) (fun bq93 => ?_)
        · refine go_iconst (pc := 100) hF dX11_run_100 ?_
          refine go_iadd (pc := 101) hF dX11_run_101 ?_
          rw [show hi₉ + 0 = hi₉ by omega]
          refine go_put (pc := 102) hF [vr E 95, vr E 96, vi un, vr E 97, vr E 98, vr E 99, vr E 100, vi (tLen t₉ : Int), vr E 101, vi tl, vr E 102, vi rz, vr E 103, vr E 104, vr E 105, vr E 106, vr E 107, vr E 108, vr E 109, vr E 110, vr E 111, vr E 112, vr E 113, vr E 114, vr E 115, vr E 116, vr E 117, vr E 118, vr E 119, vi hi₉, vi mi, vi ak, vi rt, vi ch₉] fl_X11_277 dX11_run_102 (by omega) zx rfl rfl rfl (Nat.le_of_ble_eq_true rfl) (fun s6₉ u_s6 f_s6 => ?_)
          have nw_s6 := (f_s6 95 (by omega)).trans zn
          have sn_s6 := (f_s6 98 (by omega)).trans zs
          have eo_s6 := (f_s6 99 (by omega)).trans ze
          have bo_s6 := (f_s6 100 (by omega)).trans zb
          have rounds_s6 := (f_s6 116 (by omega)).trans w2₉
          refine go_aload_n (pc := 105) hF dX11_run_105 6 rfl ?_
          refine go_dup (pc := 106) hF dX11_run_106 rfl ?_
          refine go_get (pc := 107) hF fl_X11_280 dX11_run_107 (by omega) u_s6 rfl ?_
          refine go_iload (pc := 110) hF dX11_run_110 1 rfl ?_
          refine go_iconst (pc := 112) hF dX11_run_112 ?_
          refine go_icmp_ne (pc := 113) hF 120 dX11_run_113 (by decide) (by omega) ⟨by decide, by decide⟩ (fun bq113 => ?_) (fun bq113 => ?_)
          · refine go_iconst (pc := 120) hF dX11_run_120 ?_
            refine go_iadd (pc := 121) hF dX11_run_121 ?_
            refine go_put (pc := 122) hF [vr E 95, vr E 96, vi un, vr E 97, vr E 98, vr E 99, vr E 100, vi (tLen t₉ : Int), vr E 101, vi tl, vr E 102, vi rz, vr E 103, vr E 104, vr E 105, vr E 106, vr E 107, vr E 108, vr E 109, vr E 110, vr E 111, vr E 112, vr E 113, vr E 114, vr E 115, vr E 116, vr E 117, vr E 118, vr E 119, vi hi₉, vi (mi + 1), vi ak, vi rt, vi ch₉] fl_X11_280 dX11_run_122 (by omega) u_s6 rfl rfl rfl (Nat.le_of_ble_eq_true rfl) (fun s7 u_s7 f_s7 => ?_)
            have nw_s7 := (f_s7 95 (by omega)).trans nw_s6
            have sn_s7 := (f_s7 98 (by omega)).trans sn_s6
            have eo_s7 := (f_s7 99 (by omega)).trans eo_s6
            have bo_s7 := (f_s7 100 (by omega)).trans bo_s6
            have rounds_s7 := (f_s7 116 (by omega)).trans rounds_s6
            refine go_aload_n (pc := 125) hF dX11_run_125 6 rfl ?_
            refine go_aload_n (pc := 126) hF dX11_run_126 6 rfl ?_
            refine go_get (pc := 127) hF fl_X11_283 dX11_run_127 (by omega) u_s7 rfl ?_
            refine go_iload (pc := 130) hF dX11_run_130 3 rfl ?_
            refine go_bipush (pc := 132) hF dX11_run_132 (by decide) ?_
            refine go_isub (pc := 134) hF dX11_run_134 ?_
            refine go_aload_n (pc := 135) hF dX11_run_135 6 rfl ?_
            refine go_get (pc := 136) hF fl_X11_7 dX11_run_136 (by omega) u_s7 rfl ?_
            refine go_iconst (pc := 139) hF dX11_run_139 ?_
            refine go_iald (pc := 140) hF dX11_run_140 (by omega) nw_s7 (by omega)  ?_
            refine go_aload_n (pc := 141) hF dX11_run_141 6 rfl ?_
            refine go_get (pc := 142) hF fl_X11_7 dX11_run_142 (by omega) u_s7 rfl ?_
            refine go_iconst (pc := 145) hF dX11_run_145 ?_
            refine go_iald (pc := 146) hF dX11_run_146 (by omega) nw_s7 (by omega)  ?_
            refine go_callSP (pc := 147) hF [vi rt, vi ((sn oo) - 97), vi (nw 4), vi (nw 5)] [vr E 94] ms_X11_142 dX11_run_147 (c_X11_after E N s7 rt ((sn oo) - 97) (nw 4) (nw 5) (by omega) (by omega) (by omega) (by omega)) rfl rfl (Nat.le_of_ble_eq_true rfl) (by decide) ⟨Nat.zero_le _, Nat.zero_le _⟩ ?_
            rw [n4₉, n5₉]
            refine go_put (pc := 150) hF [vr E 95, vr E 96, vi un, vr E 97, vr E 98, vr E 99, vr E 100, vi (tLen t₉ : Int), vr E 101, vi tl, vr E 102, vi rz, vr E 103, vr E 104, vr E 105, vr E 106, vr E 107, vr E 108, vr E 109, vr E 110, vr E 111, vr E 112, vr E 113, vr E 114, vr E 115, vr E 116, vr E 117, vr E 118, vr E 119, vi hi₉, vi (mi + 1), vi ak, vi (mAfter rt (sn oo - 97) u₉ kd), vi ch₉] fl_X11_283 dX11_run_150 (by omega) u_s7 rfl rfl rfl (Nat.le_of_ble_eq_true rfl) (fun s8 u_s8 f_s8 => ?_)
            have nw_s8 := (f_s8 95 (by omega)).trans nw_s7
            have sn_s8 := (f_s8 98 (by omega)).trans sn_s7
            have eo_s8 := (f_s8 99 (by omega)).trans eo_s7
            have bo_s8 := (f_s8 100 (by omega)).trans bo_s7
            have rounds_s8 := (f_s8 116 (by omega)).trans rounds_s7
            refine go_goto (pc := 153) hF 386 dX11_run_153 (by decide) ?_
            refine go_iload (pc := 386) hF dX11_run_386 2 rfl ?_
            refine go_istore (pc := 388) hF [(5, vi (oo + 1)), (3, vi (ta + pr)), (8, vi pr), (7, vi (oo + 1)), (6, vi (sn oo)), (4, vi dl), (0, vr E 94)] dX11_run_388 rfl (by decide) ?_
            refine go_goto (pc := 390) hF 33 dX11_run_390 (by decide) ?_
            refine go_lv [(5, vi (oo + 1)), (4, vi dl), (3, vi (ta + pr)), (0, vr E 94)] [0, 5, 1, 6] rfl ?_
            exact hK₉ _ ⟨u_s8, rounds_s8, (fun jj hjj => by rw [f_s8 jj (by omega), f_s7 jj (by omega), f_s6 jj (by omega), fr₉ jj (by omega)])⟩
          · exact absurd bq113 (by omega)
        · exact absurd bq93 (by omega)
  have s_hit : ∀ (oo dl rt ta hi₉ mi ak : Int) (ro : Int → Int) (ρ : Nat → va_E), rW E s5 un (tLen t₉ : Int) tl rz ch₉ ρ rt hi₉ mi ak ro → 0 ≤ oo ∧ oo < (tLen t₉ : Int) → 0 ≤ dl ∧ dl ≤ 3 → 97 ≤ sn oo ∧ sn oo ≤ 102 → 0 ≤ rt ∧ rt < 343 → ¬ mPlace rt (sn oo - 97) = -1 → (∀ ρ', rW E s5 un (tLen t₉ : Int) tl rz ch₉ ρ' (mAfter rt (sn oo - 97) u₉ kd) (hi₉ + 1) mi ak ro → Go E p e R s m args below meth c Q 9 (0, 0) N ρ' [(5, vi (oo + 1)), (4, vi dl), (3, vi (ta + 1)), (0, vr E 94)] [] 33) → Go E p e R s m args below meth c Q 9 (0, 0) N ρ [(5, vi oo), (4, vi dl), (3, vi ta), (0, vr E 94)] [] 33 := by
    intro oo dl rt ta hi₉ mi ak ro ρ hW ho hd₉ hx hrt hms hK₉
    obtain ⟨zx, w2₉, fr₉⟩ := hW
    have zn := (fr₉ 95 (by omega)).trans nw_s5
    have zs := (fr₉ 98 (by omega)).trans sn_s5
    have ze := (fr₉ 99 (by omega)).trans eo_s5
    have zb := (fr₉ 100 (by omega)).trans bo_s5
    refine go_iload (pc := 33) hF dX11_run_33 0 rfl ?_
    refine go_aload_n (pc := 35) hF dX11_run_35 3 rfl ?_
    refine go_get (pc := 36) hF fl_X11_177 dX11_run_36 (by omega) zx rfl ?_
    refine go_icmp_ge (pc := 39) hF 393 dX11_run_39 (by decide) (by omega) (by omega) (fun bq39 => ?_) (fun bq39 => ?_)
    · exact absurd bq39 (by omega)
    · refine go_aload_n (pc := 42) hF dX11_run_42 3 rfl ?_
      refine go_get (pc := 43) hF fl_X11_19 dX11_run_43 (by omega) zx rfl ?_
      refine go_iload (pc := 46) hF dX11_run_46 0 rfl ?_
      refine go_iald (pc := 48) hF dX11_run_48 (by omega) zs (by omega)  ?_
      refine go_istore (pc := 49) hF [(6, vi (sn oo)), (5, vi oo), (4, vi dl), (3, vi ta), (0, vr E 94)] dX11_run_49 rfl (by decide) ?_
      refine go_iload (pc := 51) hF dX11_run_51 1 rfl ?_
      refine go_iconst (pc := 53) hF dX11_run_53 ?_
      refine go_iadd (pc := 54) hF dX11_run_54 ?_
      refine go_istore (pc := 55) hF [(7, vi (oo + 1)), (6, vi (sn oo)), (5, vi oo), (4, vi dl), (3, vi ta), (0, vr E 94)] dX11_run_55 rfl (by decide) ?_
      refine go_iload (pc := 57) hF dX11_run_57 1 rfl ?_
      refine go_callSP (pc := 59) hF [vi (sn oo)] [] ms_X11_168 dX11_run_59 (show CP E M_X11_isLook 2 [vi (sn oo)] N ρ 1 from (by have h := c_X11_isLook E N ρ (sn oo) (by omega); rw [bI_t (by omega)] at h; exact h)) rfl rfl (Nat.le_of_ble_eq_true rfl) (by decide) ⟨Nat.zero_le _, Nat.zero_le _⟩ ?_
      refine go_if_eq (pc := 62) hF 156 dX11_run_62 (by decide) ⟨by decide, by decide⟩ (fun bq62 => ?_) (fun bq62 => ?_)
      · exact absurd bq62 (by decide)
      · refine go_aload_n (pc := 65) hF dX11_run_65 5 rfl ?_
        refine go_aload_n (pc := 66) hF dX11_run_66 5 rfl ?_
        refine go_get (pc := 67) hF fl_X11_283 dX11_run_67 (by omega) zx rfl ?_
        refine go_iload (pc := 70) hF dX11_run_70 1 rfl ?_
        refine go_bipush (pc := 72) hF dX11_run_72 (by decide) ?_
        refine go_isub (pc := 74) hF dX11_run_74 ?_
        refine go_callVP (pc := 75) hF [vi rt, vi ((sn oo) - 97)] [] mv_X11_146 dX11_run_75 (by omega) zx (c_X11_costs E N ρ hN₉ zx zn rt ((sn oo) - 97) (by omega) (by omega)) rfl rfl (Nat.le_of_ble_eq_true rfl) (by decide) ⟨Nat.zero_le _, Nat.zero_le _⟩ ?_
        rw [if_neg hms]
        refine go_istore (pc := 78) hF [(8, vi 1), (7, vi (oo + 1)), (6, vi (sn oo)), (5, vi oo), (4, vi dl), (3, vi ta), (0, vr E 94)] dX11_run_78 rfl (by decide) ?_
        refine go_iload_n (pc := 80) hF dX11_run_80 5 rfl ?_
        refine go_iload (pc := 81) hF dX11_run_81 0 rfl ?_
        refine go_iadd (pc := 83) hF dX11_run_83 ?_
        refine go_istore_n (pc := 84) hF [(3, vi (ta + 1)), (8, vi 1), (7, vi (oo + 1)), (6, vi (sn oo)), (5, vi oo), (4, vi dl), (0, vr E 94)] dX11_run_84 rfl (by decide) ?_
        refine go_aload_n (pc := 85) hF dX11_run_85 6 rfl ?_
        refine go_dup (pc := 86) hF dX11_run_86 rfl ?_
        refine go_get (pc := 87) hF fl_X11_277 dX11_run_87 (by omega) zx rfl ?_
        refine go_iload (pc := 90) hF dX11_run_90 1 rfl ?_
        refine go_iconst (pc := 92) hF dX11_run_92 ?_
        refine go_icmp_ne (pc := 93) hF 100 dX11_run_93 (by decide) ⟨by decide, by decide⟩ ⟨by decide, by decide⟩ (fun bq93 => ?_) (fun bq93 => ?_)
        · exact absurd bq93 (by decide)
        · refine go_iconst (pc := 96) hF dX11_run_96 ?_
          refine go_goto (pc := 97) hF 101 dX11_run_97 (by decide) ?_
          refine go_iadd (pc := 101) hF dX11_run_101 ?_
          refine go_put (pc := 102) hF [vr E 95, vr E 96, vi un, vr E 97, vr E 98, vr E 99, vr E 100, vi (tLen t₉ : Int), vr E 101, vi tl, vr E 102, vi rz, vr E 103, vr E 104, vr E 105, vr E 106, vr E 107, vr E 108, vr E 109, vr E 110, vr E 111, vr E 112, vr E 113, vr E 114, vr E 115, vr E 116, vr E 117, vr E 118, vr E 119, vi (hi₉ + 1), vi mi, vi ak, vi rt, vi ch₉] fl_X11_277 dX11_run_102 (by omega) zx rfl rfl rfl (Nat.le_of_ble_eq_true rfl) (fun s9 u_s9 f_s9 => ?_)
          have nw_s9 := (f_s9 95 (by omega)).trans zn
          have sn_s9 := (f_s9 98 (by omega)).trans zs
          have eo_s9 := (f_s9 99 (by omega)).trans ze
          have bo_s9 := (f_s9 100 (by omega)).trans zb
          have rounds_s9 := (f_s9 116 (by omega)).trans w2₉
          refine go_aload_n (pc := 105) hF dX11_run_105 6 rfl ?_
          refine go_dup (pc := 106) hF dX11_run_106 rfl ?_
          refine go_get (pc := 107) hF fl_X11_280 dX11_run_107 (by omega) u_s9 rfl ?_
          refine go_iload (pc := 110) hF dX11_run_110 1 rfl ?_
          refine go_iconst (pc := 112) hF dX11_run_112 ?_
          refine go_icmp_ne (pc := 113) hF 120 dX11_run_113 (by decide) ⟨by decide, by decide⟩ ⟨by decide, by decide⟩ (fun bq113 => ?_) (fun bq113 => ?_)
          · exact absurd bq113 (by decide)
          · refine go_iconst (pc := 116) hF dX11_run_116 ?_
            refine go_goto (pc := 117) hF 121 dX11_run_117 (by decide) ?_
            refine go_iadd (pc := 121) hF dX11_run_121 ?_
            rw [show mi + 0 = mi by omega]
            refine go_put (pc := 122) hF [vr E 95, vr E 96, vi un, vr E 97, vr E 98, vr E 99, vr E 100, vi (tLen t₉ : Int), vr E 101, vi tl, vr E 102, vi rz, vr E 103, vr E 104, vr E 105, vr E 106, vr E 107, vr E 108, vr E 109, vr E 110, vr E 111, vr E 112, vr E 113, vr E 114, vr E 115, vr E 116, vr E 117, vr E 118, vr E 119, vi (hi₉ + 1), vi mi, vi ak, vi rt, vi ch₉] fl_X11_280 dX11_run_122 (by omega) u_s9 rfl rfl rfl (Nat.le_of_ble_eq_true rfl) (fun s10 u_s10 f_s10 => ?_)
            have nw_s10 := (f_s10 95 (by omega)).trans nw_s9
            have sn_s10 := (f_s10 98 (by omega)).trans sn_s9
            have eo_s10 := (f_s10 99 (by omega)).trans eo_s9
            have bo_s10 := (f_s10 100 (by omega)).trans bo_s9
            have rounds_s10 := (f_s10 116 (by omega)).trans rounds_s9
            refine go_aload_n (pc := 125) hF dX11_run_125 6 rfl ?_
            refine go_aload_n (pc := 126) hF dX11_run_126 6 rfl ?_
            refine go_get (pc := 127) hF fl_X11_283 dX11_run_127 (by omega) u_s10 rfl ?_
            refine go_iload (pc := 130) hF dX11_run_130 3 rfl ?_
            refine go_bipush (pc := 132) hF dX11_run_132 (by decide) ?_
            refine go_isub (pc := 134) hF dX11_run_134 ?_
            refine go_aload_n (pc := 135) hF dX11_run_135 6 rfl ?_
            refine go_get (pc := 136) hF fl_X11_7 dX11_run_136 (by omega) u_s10 rfl ?_
            refine go_iconst (pc := 139) hF dX11_run_139 ?_
            refine go_iald (pc := 140) hF dX11_run_140 (by omega) nw_s10 (by omega)  ?_
            refine go_aload_n (pc := 141) hF dX11_run_141 6 rfl ?_
            refine go_get (pc := 142) hF fl_X11_7 dX11_run_142 (by omega) u_s10 rfl ?_
            refine go_iconst (pc := 145) hF dX11_run_145 ?_
            refine go_iald (pc := 146) hF dX11_run_146 (by omega) nw_s10 (by omega)  ?_
            refine go_callSP (pc := 147) hF [vi rt, vi ((sn oo) - 97), vi (nw 4), vi (nw 5)] [vr E 94] ms_X11_142 dX11_run_147 (c_X11_after E N s10 rt ((sn oo) - 97) (nw 4) (nw 5) (by omega) (by omega) (by omega) (by omega)) rfl rfl (Nat.le_of_ble_eq_true rfl) (by decide) ⟨Nat.zero_le _, Nat.zero_le _⟩ ?_
            rw [n4₉, n5₉]
            refine go_put (pc := 150) hF [vr E 95, vr E 96, vi un, vr E 97, vr E 98, vr E 99, vr E 100, vi (tLen t₉ : Int), vr E 101, vi tl, vr E 102, vi rz, vr E 103, vr E 104, vr E 105, vr E 106, vr E 107, vr E 108, vr E 109, vr E 110, vr E 111, vr E 112, vr E 113, vr E 114, vr E 115, vr E 116, vr E 117, vr E 118, vr E 119, vi (hi₉ + 1), vi mi, vi ak, vi (mAfter rt (sn oo - 97) u₉ kd), vi ch₉] fl_X11_283 dX11_run_150 (by omega) u_s10 rfl rfl rfl (Nat.le_of_ble_eq_true rfl) (fun s11 u_s11 f_s11 => ?_)
            have nw_s11 := (f_s11 95 (by omega)).trans nw_s10
            have sn_s11 := (f_s11 98 (by omega)).trans sn_s10
            have eo_s11 := (f_s11 99 (by omega)).trans eo_s10
            have bo_s11 := (f_s11 100 (by omega)).trans bo_s10
            have rounds_s11 := (f_s11 116 (by omega)).trans rounds_s10
            refine go_goto (pc := 153) hF 386 dX11_run_153 (by decide) ?_
            refine go_iload (pc := 386) hF dX11_run_386 2 rfl ?_
            refine go_istore (pc := 388) hF [(5, vi (oo + 1)), (3, vi (ta + 1)), (8, vi 1), (7, vi (oo + 1)), (6, vi (sn oo)), (4, vi dl), (0, vr E 94)] dX11_run_388 rfl (by decide) ?_
            refine go_goto (pc := 390) hF 33 dX11_run_390 (by decide) ?_
            refine go_lv [(5, vi (oo + 1)), (4, vi dl), (3, vi (ta + 1)), (0, vr E 94)] [0, 5, 1, 6] rfl ?_
            exact hK₉ _ ⟨u_s11, rounds_s11, (fun jj hjj => by rw [f_s11 jj (by omega), f_s10 jj (by omega), f_s9 jj (by omega), fr₉ jj (by omega)])⟩
  have s_open : ∀ (oo dl b1 rt ta hi₉ mi ak : Int) (ro : Int → Int) (ρ : Nat → va_E), rW E s5 un (tLen t₉ : Int) tl rz ch₉ ρ rt hi₉ mi ak ro → 0 ≤ oo ∧ oo < (tLen t₉ : Int) → 0 ≤ dl ∧ dl ≤ 3 → sn oo = 40 → bo oo = b1 → 0 ≤ ak ∧ ak < 1000000 → (bitOf ch₉ ak = 1 → ∀ ρ', rW E s5 un (tLen t₉ : Int) tl rz ch₉ ρ' rt hi₉ mi (ak + 1) ro → Go E p e R s m args below meth c Q 9 (0, 0) N ρ' [(5, vi (b1 + 1)), (4, vi dl), (3, vi ta), (0, vr E 94)] [] 33) → (¬ bitOf ch₉ ak = 1 → ∀ ρ', rW E s5 un (tLen t₉ : Int) tl rz ch₉ ρ' rt hi₉ mi (ak + 1) ro → Go E p e R s m args below meth c Q 9 (0, 0) N ρ' [(5, vi (oo + 1)), (4, vi dl), (3, vi ta), (0, vr E 94)] [] 33) → Go E p e R s m args below meth c Q 9 (0, 0) N ρ [(5, vi oo), (4, vi dl), (3, vi ta), (0, vr E 94)] [] 33 := by
    intro oo dl b1 rt ta hi₉ mi ak ro ρ hW ho hd₉ hc₉ hb₉ hak hK1 hK0
    obtain ⟨zx, w2₉, fr₉⟩ := hW
    have zn := (fr₉ 95 (by omega)).trans nw_s5
    have zs := (fr₉ 98 (by omega)).trans sn_s5
    have ze := (fr₉ 99 (by omega)).trans eo_s5
    have zb := (fr₉ 100 (by omega)).trans bo_s5
    have hb01 := bitOf_01 ch₉ ak
    refine go_iload (pc := 33) hF dX11_run_33 0 rfl ?_
    refine go_aload_n (pc := 35) hF dX11_run_35 3 rfl ?_
    refine go_get (pc := 36) hF fl_X11_177 dX11_run_36 (by omega) zx rfl ?_
    refine go_icmp_ge (pc := 39) hF 393 dX11_run_39 (by decide) (by omega) (by omega) (fun bq39 => ?_) (fun bq39 => ?_)
    · exact absurd bq39 (by omega)
    · refine go_aload_n (pc := 42) hF dX11_run_42 3 rfl ?_
      refine go_get (pc := 43) hF fl_X11_19 dX11_run_43 (by omega) zx rfl ?_
      refine go_iload (pc := 46) hF dX11_run_46 0 rfl ?_
      refine go_iald (pc := 48) hF dX11_run_48 (by omega) zs (by omega)  ?_
      rw [hc₉]
      refine go_istore (pc := 49) hF [(6, vi 40), (5, vi oo), (4, vi dl), (3, vi ta), (0, vr E 94)] dX11_run_49 rfl (by decide) ?_
      refine go_iload (pc := 51) hF dX11_run_51 1 rfl ?_
      refine go_iconst (pc := 53) hF dX11_run_53 ?_
      refine go_iadd (pc := 54) hF dX11_run_54 ?_
      refine go_istore (pc := 55) hF [(7, vi (oo + 1)), (6, vi 40), (5, vi oo), (4, vi dl), (3, vi ta), (0, vr E 94)] dX11_run_55 rfl (by decide) ?_
      refine go_iload (pc := 57) hF dX11_run_57 1 rfl ?_
      refine go_callSP (pc := 59) hF [vi 40] [] ms_X11_168 dX11_run_59 (show CP E M_X11_isLook 2 [vi 40] N ρ 0 from (by have h := c_X11_isLook E N ρ 40 (by omega); rw [bI_f (by omega)] at h; exact h)) rfl rfl (Nat.le_of_ble_eq_true rfl) (by decide) ⟨Nat.zero_le _, Nat.zero_le _⟩ ?_
      refine go_if_eq (pc := 62) hF 156 dX11_run_62 (by decide) ⟨by decide, by decide⟩ (fun bq62 => ?_) (fun bq62 => ?_)
      · refine go_iload (pc := 156) hF dX11_run_156 1 rfl ?_
        refine go_bipush (pc := 158) hF dX11_run_158 (by decide) ?_
        refine go_icmp_ne (pc := 160) hF 169 dX11_run_160 (by decide) ⟨by decide, by decide⟩ ⟨by decide, by decide⟩ (fun bq160 => ?_) (fun bq160 => ?_)
        · refine go_iload (pc := 169) hF dX11_run_169 1 rfl ?_
          refine go_bipush (pc := 171) hF dX11_run_171 (by decide) ?_
          refine go_icmp_ne (pc := 173) hF 204 dX11_run_173 (by decide) ⟨by decide, by decide⟩ ⟨by decide, by decide⟩ (fun bq173 => ?_) (fun bq173 => ?_)
          · exact absurd bq173 (by decide)
          · refine go_aload_n (pc := 176) hF dX11_run_176 5 rfl ?_
            refine go_callVI (pc := 177) hF [] [] mv_X11_286 dX11_run_177 (by omega) zx (c_X11_asks E N ρ hN₉ zx hch hak) rfl rfl (Nat.le_of_ble_eq_true rfl) (by decide) ⟨Nat.zero_le _, Nat.zero_le _⟩ (fun r_s12 s12 h_s12 => ?_)
            obtain ⟨e_s12, u_s12, f_s12⟩ := h_s12
            subst e_s12
            have nw_s12 := (f_s12 95 (by omega)).trans zn
            have sn_s12 := (f_s12 98 (by omega)).trans zs
            have eo_s12 := (f_s12 99 (by omega)).trans ze
            have bo_s12 := (f_s12 100 (by omega)).trans zb
            have rounds_s12 := (f_s12 116 (by omega)).trans w2₉
            refine go_if_eq (pc := 180) hF 195 dX11_run_180 (by decide) (by omega) (fun bq180 => ?_) (fun bq180 => ?_)
            · refine go_iload (pc := 195) hF dX11_run_195 2 rfl ?_
              refine go_iconst (pc := 197) hF dX11_run_197 ?_
              refine go_iadd (pc := 198) hF dX11_run_198 ?_
              refine go_istore (pc := 199) hF [(7, vi (oo + 1)), (6, vi 40), (5, vi oo), (4, vi dl), (3, vi ta), (0, vr E 94)] dX11_run_199 rfl (by decide) ?_
              refine go_goto (pc := 201) hF 386 dX11_run_201 (by decide) ?_
              refine go_iload (pc := 386) hF dX11_run_386 0 rfl ?_
              refine go_istore (pc := 388) hF [(5, vi (oo + 1)), (7, vi (oo + 1)), (6, vi 40), (4, vi dl), (3, vi ta), (0, vr E 94)] dX11_run_388 rfl (by decide) ?_
              refine go_goto (pc := 390) hF 33 dX11_run_390 (by decide) ?_
              refine go_lv [(5, vi (oo + 1)), (4, vi dl), (3, vi ta), (0, vr E 94)] [0, 3, 4, 5] rfl ?_
              exact hK0 (by omega) _ ⟨u_s12, rounds_s12, (fun jj hjj => by rw [f_s12 jj (by omega), fr₉ jj (by omega)])⟩
            · refine go_aload_n (pc := 183) hF dX11_run_183 5 rfl ?_
              refine go_get (pc := 184) hF fl_X11_25 dX11_run_184 (by omega) u_s12 rfl ?_
              refine go_iload (pc := 187) hF dX11_run_187 2 rfl ?_
              refine go_iald (pc := 189) hF dX11_run_189 (by omega) bo_s12 (by omega)  ?_
              rw [hb₉]
              refine go_iconst (pc := 190) hF dX11_run_190 ?_
              refine go_iadd (pc := 191) hF dX11_run_191 ?_
              refine go_goto (pc := 192) hF 199 dX11_run_192 (by decide) ?_
              refine go_istore (pc := 199) hF [(7, vi (b1 + 1)), (6, vi 40), (5, vi oo), (4, vi dl), (3, vi ta), (0, vr E 94)] dX11_run_199 rfl (by decide) ?_
              refine go_goto (pc := 201) hF 386 dX11_run_201 (by decide) ?_
              refine go_iload (pc := 386) hF dX11_run_386 0 rfl ?_
              refine go_istore (pc := 388) hF [(5, vi (b1 + 1)), (7, vi (b1 + 1)), (6, vi 40), (4, vi dl), (3, vi ta), (0, vr E 94)] dX11_run_388 rfl (by decide) ?_
              refine go_goto (pc := 390) hF 33 dX11_run_390 (by decide) ?_
              refine go_lv [(5, vi (b1 + 1)), (4, vi dl), (3, vi ta), (0, vr E 94)] [0, 3, 4, 5] rfl ?_
              exact hK1 (by omega) _ ⟨u_s12, rounds_s12, (fun jj hjj => by rw [f_s12 jj (by omega), fr₉ jj (by omega)])⟩
        · exact absurd bq160 (by decide)
      · exact absurd bq62 (by decide)
  have s_bar : ∀ (oo dl o0₉ e1₉ rt ta hi₉ mi ak : Int) (ro : Int → Int) (ρ : Nat → va_E), rW E s5 un (tLen t₉ : Int) tl rz ch₉ ρ rt hi₉ mi ak ro → 0 ≤ oo ∧ oo < (tLen t₉ : Int) → 0 ≤ dl ∧ dl ≤ 3 → sn oo = 124 → 0 ≤ o0₉ ∧ o0₉ < oo → sn o0₉ = 40 → bo o0₉ = oo → eo o0₉ = e1₉ → oo < e1₉ ∧ e1₉ < (tLen t₉ : Int) → (∀ q₉ : Int, o0₉ < q₉ → q₉ < oo → sn q₉ = 40 → q₉ < eo q₉ ∧ eo q₉ < oo) → (Go E p e R s m args below meth c Q 9 (0, 0) N ρ [(5, vi (e1₉ + 1)), (4, vi dl), (3, vi ta), (0, vr E 94)] [] 33) → Go E p e R s m args below meth c Q 9 (0, 0) N ρ [(5, vi oo), (4, vi dl), (3, vi ta), (0, vr E 94)] [] 33 := by
    intro oo dl o0₉ e1₉ rt ta hi₉ mi ak ro ρ hW ho hd₉ hc₉ ho0 hs0 hb0 he0 hbe hin hK₉
    obtain ⟨zx, w2₉, fr₉⟩ := hW
    have zn := (fr₉ 95 (by omega)).trans nw_s5
    have zs := (fr₉ 98 (by omega)).trans sn_s5
    have ze := (fr₉ 99 (by omega)).trans eo_s5
    have zb := (fr₉ 100 (by omega)).trans bo_s5
    refine go_iload (pc := 33) hF dX11_run_33 0 rfl ?_
    refine go_aload_n (pc := 35) hF dX11_run_35 3 rfl ?_
    refine go_get (pc := 36) hF fl_X11_177 dX11_run_36 (by omega) zx rfl ?_
    refine go_icmp_ge (pc := 39) hF 393 dX11_run_39 (by decide) (by omega) (by omega) (fun bq39 => ?_) (fun bq39 => ?_)
    · exact absurd bq39 (by omega)
    · refine go_aload_n (pc := 42) hF dX11_run_42 3 rfl ?_
      refine go_get (pc := 43) hF fl_X11_19 dX11_run_43 (by omega) zx rfl ?_
      refine go_iload (pc := 46) hF dX11_run_46 0 rfl ?_
      refine go_iald (pc := 48) hF dX11_run_48 (by omega) zs (by omega)  ?_
      rw [hc₉]
      refine go_istore (pc := 49) hF [(6, vi 124), (5, vi oo), (4, vi dl), (3, vi ta), (0, vr E 94)] dX11_run_49 rfl (by decide) ?_
      refine go_iload (pc := 51) hF dX11_run_51 1 rfl ?_
      refine go_iconst (pc := 53) hF dX11_run_53 ?_
      refine go_iadd (pc := 54) hF dX11_run_54 ?_
      refine go_istore (pc := 55) hF [(7, vi (oo + 1)), (6, vi 124), (5, vi oo), (4, vi dl), (3, vi ta), (0, vr E 94)] dX11_run_55 rfl (by decide) ?_
      refine go_iload (pc := 57) hF dX11_run_57 1 rfl ?_
      refine go_callSP (pc := 59) hF [vi 124] [] ms_X11_168 dX11_run_59 (show CP E M_X11_isLook 2 [vi 124] N ρ 0 from (by have h := c_X11_isLook E N ρ 124 (by omega); rw [bI_f (by omega)] at h; exact h)) rfl rfl (Nat.le_of_ble_eq_true rfl) (by decide) ⟨Nat.zero_le _, Nat.zero_le _⟩ ?_
      refine go_if_eq (pc := 62) hF 156 dX11_run_62 (by decide) ⟨by decide, by decide⟩ (fun bq62 => ?_) (fun bq62 => ?_)
      · refine go_iload (pc := 156) hF dX11_run_156 1 rfl ?_
        refine go_bipush (pc := 158) hF dX11_run_158 (by decide) ?_
        refine go_icmp_ne (pc := 160) hF 169 dX11_run_160 (by decide) ⟨by decide, by decide⟩ ⟨by decide, by decide⟩ (fun bq160 => ?_) (fun bq160 => ?_)
        · refine go_iload (pc := 169) hF dX11_run_169 1 rfl ?_
          refine go_bipush (pc := 171) hF dX11_run_171 (by decide) ?_
          refine go_icmp_ne (pc := 173) hF 204 dX11_run_173 (by decide) ⟨by decide, by decide⟩ ⟨by decide, by decide⟩ (fun bq173 => ?_) (fun bq173 => ?_)
          · refine go_iload (pc := 204) hF dX11_run_204 1 rfl ?_
            refine go_bipush (pc := 206) hF dX11_run_206 (by decide) ?_
            refine go_icmp_ne (pc := 208) hF 224 dX11_run_208 (by decide) ⟨by decide, by decide⟩ ⟨by decide, by decide⟩ (fun bq208 => ?_) (fun bq208 => ?_)
            · exact absurd bq208 (by decide)
            · refine go_aload_n (pc := 211) hF dX11_run_211 5 rfl ?_
              refine go_iload (pc := 212) hF dX11_run_212 2 rfl ?_
              refine go_callVP (pc := 214) hF [vi oo] [] mv_X11_290 dX11_run_214 (by omega) zx (c_X11_endBehind E N ρ hN₉ zx zs ze zb hsg hl80 hbr oo o0₉ e1₉ ho0 hs0 hb0 he0 hbe hc₉ hin) rfl rfl (Nat.le_of_ble_eq_true rfl) (by decide) ⟨Nat.zero_le _, Nat.zero_le _⟩ ?_
              refine go_iconst (pc := 217) hF dX11_run_217 ?_
              refine go_iadd (pc := 218) hF dX11_run_218 ?_
              refine go_istore (pc := 219) hF [(7, vi (e1₉ + 1)), (6, vi 124), (5, vi oo), (4, vi dl), (3, vi ta), (0, vr E 94)] dX11_run_219 rfl (by decide) ?_
              refine go_goto (pc := 221) hF 386 dX11_run_221 (by decide) ?_
              refine go_iload (pc := 386) hF dX11_run_386 0 rfl ?_
              refine go_istore (pc := 388) hF [(5, vi (e1₉ + 1)), (7, vi (e1₉ + 1)), (6, vi 124), (4, vi dl), (3, vi ta), (0, vr E 94)] dX11_run_388 rfl (by decide) ?_
              refine go_goto (pc := 390) hF 33 dX11_run_390 (by decide) ?_
              refine go_lv [(5, vi (e1₉ + 1)), (4, vi dl), (3, vi ta), (0, vr E 94)] [0, 3, 4, 5] rfl ?_
              exact hK₉
          · exact absurd bq173 (by decide)
        · exact absurd bq160 (by decide)
      · exact absurd bq62 (by decide)
  have s_close : ∀ (oo dl rt ta hi₉ mi ak : Int) (ro : Int → Int) (ρ : Nat → va_E), rW E s5 un (tLen t₉ : Int) tl rz ch₉ ρ rt hi₉ mi ak ro → 0 ≤ oo ∧ oo < (tLen t₉ : Int) → 0 ≤ dl ∧ dl ≤ 3 → sn oo = 41 → (Go E p e R s m args below meth c Q 9 (0, 0) N ρ [(5, vi (oo + 1)), (4, vi dl), (3, vi ta), (0, vr E 94)] [] 33) → Go E p e R s m args below meth c Q 9 (0, 0) N ρ [(5, vi oo), (4, vi dl), (3, vi ta), (0, vr E 94)] [] 33 := by
    intro oo dl rt ta hi₉ mi ak ro ρ hW ho hd₉ hc₉ hK₉
    obtain ⟨zx, w2₉, fr₉⟩ := hW
    have zn := (fr₉ 95 (by omega)).trans nw_s5
    have zs := (fr₉ 98 (by omega)).trans sn_s5
    have ze := (fr₉ 99 (by omega)).trans eo_s5
    have zb := (fr₉ 100 (by omega)).trans bo_s5
    refine go_iload (pc := 33) hF dX11_run_33 0 rfl ?_
    refine go_aload_n (pc := 35) hF dX11_run_35 3 rfl ?_
    refine go_get (pc := 36) hF fl_X11_177 dX11_run_36 (by omega) zx rfl ?_
    refine go_icmp_ge (pc := 39) hF 393 dX11_run_39 (by decide) (by omega) (by omega) (fun bq39 => ?_) (fun bq39 => ?_)
    · exact absurd bq39 (by omega)
    · refine go_aload_n (pc := 42) hF dX11_run_42 3 rfl ?_
      refine go_get (pc := 43) hF fl_X11_19 dX11_run_43 (by omega) zx rfl ?_
      refine go_iload (pc := 46) hF dX11_run_46 0 rfl ?_
      refine go_iald (pc := 48) hF dX11_run_48 (by omega) zs (by omega)  ?_
      rw [hc₉]
      refine go_istore (pc := 49) hF [(6, vi 41), (5, vi oo), (4, vi dl), (3, vi ta), (0, vr E 94)] dX11_run_49 rfl (by decide) ?_
      refine go_iload (pc := 51) hF dX11_run_51 1 rfl ?_
      refine go_iconst (pc := 53) hF dX11_run_53 ?_
      refine go_iadd (pc := 54) hF dX11_run_54 ?_
      refine go_istore (pc := 55) hF [(7, vi (oo + 1)), (6, vi 41), (5, vi oo), (4, vi dl), (3, vi ta), (0, vr E 94)] dX11_run_55 rfl (by decide) ?_
      refine go_iload (pc := 57) hF dX11_run_57 1 rfl ?_
      refine go_callSP (pc := 59) hF [vi 41] [] ms_X11_168 dX11_run_59 (show CP E M_X11_isLook 2 [vi 41] N ρ 0 from (by have h := c_X11_isLook E N ρ 41 (by omega); rw [bI_f (by omega)] at h; exact h)) rfl rfl (Nat.le_of_ble_eq_true rfl) (by decide) ⟨Nat.zero_le _, Nat.zero_le _⟩ ?_
      refine go_if_eq (pc := 62) hF 156 dX11_run_62 (by decide) ⟨by decide, by decide⟩ (fun bq62 => ?_) (fun bq62 => ?_)
      · refine go_iload (pc := 156) hF dX11_run_156 1 rfl ?_
        refine go_bipush (pc := 158) hF dX11_run_158 (by decide) ?_
        refine go_icmp_ne (pc := 160) hF 169 dX11_run_160 (by decide) ⟨by decide, by decide⟩ ⟨by decide, by decide⟩ (fun bq160 => ?_) (fun bq160 => ?_)
        · refine go_iload (pc := 169) hF dX11_run_169 1 rfl ?_
          refine go_bipush (pc := 171) hF dX11_run_171 (by decide) ?_
          refine go_icmp_ne (pc := 173) hF 204 dX11_run_173 (by decide) ⟨by decide, by decide⟩ ⟨by decide, by decide⟩ (fun bq173 => ?_) (fun bq173 => ?_)
          · refine go_iload (pc := 204) hF dX11_run_204 1 rfl ?_
            refine go_bipush (pc := 206) hF dX11_run_206 (by decide) ?_
            refine go_icmp_ne (pc := 208) hF 224 dX11_run_208 (by decide) ⟨by decide, by decide⟩ ⟨by decide, by decide⟩ (fun bq208 => ?_) (fun bq208 => ?_)
            · refine go_iload (pc := 224) hF dX11_run_224 1 rfl ?_
              refine go_callSP (pc := 226) hF [vi 41] [] ms_X11_171 dX11_run_226 (show CP E M_X11_isFigure 2 [vi 41] N ρ 0 from (by have h := c_X11_isFigure E N ρ 41 (by omega); rw [bI_f (by omega)] at h; exact h)) rfl rfl (Nat.le_of_ble_eq_true rfl) (by decide) ⟨Nat.zero_le _, Nat.zero_le _⟩ ?_
              refine go_if_eq (pc := 229) hF 287 dX11_run_229 (by decide) ⟨by decide, by decide⟩ (fun bq229 => ?_) (fun bq229 => ?_)
              · refine go_iload (pc := 287) hF dX11_run_287 1 rfl ?_
                refine go_bipush (pc := 289) hF dX11_run_289 (by decide) ?_
                refine go_icmp_ne (pc := 291) hF 386 dX11_run_291 (by decide) ⟨by decide, by decide⟩ ⟨by decide, by decide⟩ (fun bq291 => ?_) (fun bq291 => ?_)
                · refine go_iload (pc := 386) hF dX11_run_386 0 rfl ?_
                  refine go_istore (pc := 388) hF [(5, vi (oo + 1)), (7, vi (oo + 1)), (6, vi 41), (4, vi dl), (3, vi ta), (0, vr E 94)] dX11_run_388 rfl (by decide) ?_
                  refine go_goto (pc := 390) hF 33 dX11_run_390 (by decide) ?_
                  refine go_lv [(5, vi (oo + 1)), (4, vi dl), (3, vi ta), (0, vr E 94)] [0, 3, 4, 5] rfl ?_
                  exact hK₉
                · exact absurd bq291 (by decide)
              · exact absurd bq229 (by decide)
            · exact absurd bq208 (by decide)
          · exact absurd bq173 (by decide)
        · exact absurd bq160 (by decide)
      · exact absurd bq62 (by decide)
  have s_fig : ∀ (oo dl e1₉ rt ta hi₉ mi ak : Int) (ro : Int → Int) (ρ : Nat → va_E), rW E s5 un (tLen t₉ : Int) tl rz ch₉ ρ rt hi₉ mi ak ro → 0 ≤ oo ∧ oo < (tLen t₉ : Int) → 0 ≤ dl ∧ dl ≤ 2 → 49 ≤ sn oo ∧ sn oo ≤ 57 → eo oo = e1₉ → 0 ≤ ak ∧ ak < 1000000 → (bitOf ch₉ ak = 1 → ∀ ρ', rW E s5 un (tLen t₉ : Int) tl rz ch₉ ρ' rt hi₉ mi (ak + 1) (up ro dl 0) → Go E p e R s m args below meth c Q 9 (0, 0) N ρ' [(5, vi (oo + 1)), (4, vi (dl + 1)), (3, vi ta), (0, vr E 94)] [] 33) → (¬ bitOf ch₉ ak = 1 → ∀ ρ', rW E s5 un (tLen t₉ : Int) tl rz ch₉ ρ' rt hi₉ mi (ak + 1) (up ro dl 0) → Go E p e R s m args below meth c Q 9 (0, 0) N ρ' [(5, vi (e1₉ + 1)), (4, vi dl), (3, vi ta), (0, vr E 94)] [] 33) → Go E p e R s m args below meth c Q 9 (0, 0) N ρ [(5, vi oo), (4, vi dl), (3, vi ta), (0, vr E 94)] [] 33 := by
    intro oo dl e1₉ rt ta hi₉ mi ak ro ρ hW ho hd₉ hc₉ he hak hK1 hK0
    obtain ⟨zx, w2₉, fr₉⟩ := hW
    have zn := (fr₉ 95 (by omega)).trans nw_s5
    have zs := (fr₉ 98 (by omega)).trans sn_s5
    have ze := (fr₉ 99 (by omega)).trans eo_s5
    have zb := (fr₉ 100 (by omega)).trans bo_s5
    have hb01 := bitOf_01 ch₉ ak
    refine go_iload (pc := 33) hF dX11_run_33 0 rfl ?_
    refine go_aload_n (pc := 35) hF dX11_run_35 3 rfl ?_
    refine go_get (pc := 36) hF fl_X11_177 dX11_run_36 (by omega) zx rfl ?_
    refine go_icmp_ge (pc := 39) hF 393 dX11_run_39 (by decide) (by omega) (by omega) (fun bq39 => ?_) (fun bq39 => ?_)
    · exact absurd bq39 (by omega)
    · refine go_aload_n (pc := 42) hF dX11_run_42 3 rfl ?_
      refine go_get (pc := 43) hF fl_X11_19 dX11_run_43 (by omega) zx rfl ?_
      refine go_iload (pc := 46) hF dX11_run_46 0 rfl ?_
      refine go_iald (pc := 48) hF dX11_run_48 (by omega) zs (by omega)  ?_
      refine go_istore (pc := 49) hF [(6, vi (sn oo)), (5, vi oo), (4, vi dl), (3, vi ta), (0, vr E 94)] dX11_run_49 rfl (by decide) ?_
      refine go_iload (pc := 51) hF dX11_run_51 1 rfl ?_
      refine go_iconst (pc := 53) hF dX11_run_53 ?_
      refine go_iadd (pc := 54) hF dX11_run_54 ?_
      refine go_istore (pc := 55) hF [(7, vi (oo + 1)), (6, vi (sn oo)), (5, vi oo), (4, vi dl), (3, vi ta), (0, vr E 94)] dX11_run_55 rfl (by decide) ?_
      refine go_iload (pc := 57) hF dX11_run_57 1 rfl ?_
      refine go_callSP (pc := 59) hF [vi (sn oo)] [] ms_X11_168 dX11_run_59 (show CP E M_X11_isLook 2 [vi (sn oo)] N ρ 0 from (by have h := c_X11_isLook E N ρ (sn oo) (by omega); rw [bI_f (by omega)] at h; exact h)) rfl rfl (Nat.le_of_ble_eq_true rfl) (by decide) ⟨Nat.zero_le _, Nat.zero_le _⟩ ?_
      refine go_if_eq (pc := 62) hF 156 dX11_run_62 (by decide) ⟨by decide, by decide⟩ (fun bq62 => ?_) (fun bq62 => ?_)
      · refine go_iload (pc := 156) hF dX11_run_156 1 rfl ?_
        refine go_bipush (pc := 158) hF dX11_run_158 (by decide) ?_
        refine go_icmp_ne (pc := 160) hF 169 dX11_run_160 (by decide) (by omega) ⟨by decide, by decide⟩ (fun bq160 => ?_) (fun bq160 => ?_)
        · refine go_iload (pc := 169) hF dX11_run_169 1 rfl ?_
          refine go_bipush (pc := 171) hF dX11_run_171 (by decide) ?_
          refine go_icmp_ne (pc := 173) hF 204 dX11_run_173 (by decide) (by omega) ⟨by decide, by decide⟩ (fun bq173 => ?_) (fun bq173 => ?_)
          · refine go_iload (pc := 204) hF dX11_run_204 1 rfl ?_
            refine go_bipush (pc := 206) hF dX11_run_206 (by decide) ?_
            refine go_icmp_ne (pc := 208) hF 224 dX11_run_208 (by decide) (by omega) ⟨by decide, by decide⟩ (fun bq208 => ?_) (fun bq208 => ?_)
            · refine go_iload (pc := 224) hF dX11_run_224 1 rfl ?_
              refine go_callSP (pc := 226) hF [vi (sn oo)] [] ms_X11_171 dX11_run_226 (show CP E M_X11_isFigure 2 [vi (sn oo)] N ρ 1 from (by have h := c_X11_isFigure E N ρ (sn oo) (by omega); rw [bI_t (by omega)] at h; exact h)) rfl rfl (Nat.le_of_ble_eq_true rfl) (by decide) ⟨Nat.zero_le _, Nat.zero_le _⟩ ?_
              refine go_if_eq (pc := 229) hF 287 dX11_run_229 (by decide) ⟨by decide, by decide⟩ (fun bq229 => ?_) (fun bq229 => ?_)
              · exact absurd bq229 (by decide)
              · refine go_aload_n (pc := 232) hF dX11_run_232 5 rfl ?_
                refine go_get (pc := 233) hF fl_X11_74 dX11_run_233 (by omega) zx rfl ?_
                refine go_iload (pc := 236) hF dX11_run_236 3 rfl ?_
                refine go_iconst (pc := 238) hF dX11_run_238 ?_
                refine go_iast (pc := 239) hF dX11_run_239 (by omega) w2₉ (by omega) (fun s13 u_s13 f_s13 => ?_)
                have x_s13 := (f_s13 94 (by omega)).trans zx
                have nw_s13 := (f_s13 95 (by omega)).trans zn
                have sn_s13 := (f_s13 98 (by omega)).trans zs
                have eo_s13 := (f_s13 99 (by omega)).trans ze
                have bo_s13 := (f_s13 100 (by omega)).trans zb
                refine go_aload_n (pc := 240) hF dX11_run_240 5 rfl ?_
                refine go_callVI (pc := 241) hF [] [] mv_X11_286 dX11_run_241 (by omega) x_s13 (c_X11_asks E N s13 hN₉ x_s13 hch hak) rfl rfl (Nat.le_of_ble_eq_true rfl) (by decide) ⟨Nat.zero_le _, Nat.zero_le _⟩ (fun r_s14 s14 h_s14 => ?_)
                obtain ⟨e_s14, u_s14, f_s14⟩ := h_s14
                subst e_s14
                have nw_s14 := (f_s14 95 (by omega)).trans nw_s13
                have sn_s14 := (f_s14 98 (by omega)).trans sn_s13
                have eo_s14 := (f_s14 99 (by omega)).trans eo_s13
                have bo_s14 := (f_s14 100 (by omega)).trans bo_s13
                have rounds_s14 := (f_s14 116 (by omega)).trans u_s13
                refine go_istore (pc := 244) hF [(8, vi (bitOf ch₉ ak)), (7, vi (oo + 1)), (6, vi (sn oo)), (5, vi oo), (4, vi dl), (3, vi ta), (0, vr E 94)] dX11_run_244 rfl (by decide) ?_
                refine go_iload (pc := 246) hF dX11_run_246 0 rfl ?_
                refine go_if_eq (pc := 248) hF 258 dX11_run_248 (by decide) (by omega) (fun bq248 => ?_) (fun bq248 => ?_)
                · refine go_aload_n (pc := 258) hF dX11_run_258 6 rfl ?_
                  refine go_get (pc := 259) hF fl_X11_22 dX11_run_259 (by omega) u_s14 rfl ?_
                  refine go_iload (pc := 262) hF dX11_run_262 3 rfl ?_
                  refine go_iald (pc := 264) hF dX11_run_264 (by omega) eo_s14 (by omega)  ?_
                  rw [he]
                  refine go_iconst (pc := 265) hF dX11_run_265 ?_
                  refine go_iadd (pc := 266) hF dX11_run_266 ?_
                  refine go_istore (pc := 267) hF [(7, vi (e1₉ + 1)), (8, vi (bitOf ch₉ ak)), (6, vi (sn oo)), (5, vi oo), (4, vi dl), (3, vi ta), (0, vr E 94)] dX11_run_267 rfl (by decide) ?_
                  refine go_iload (pc := 269) hF dX11_run_269 4 rfl ?_
                  refine go_iload (pc := 271) hF dX11_run_271 1 rfl ?_
                  refine go_if_eq (pc := 273) hF 280 dX11_run_273 (by decide) (by omega) (fun bq273 => ?_) (fun bq273 => ?_)
                  · refine go_iconst (pc := 280) hF dX11_run_280 ?_
                    refine go_iadd (pc := 281) hF dX11_run_281 ?_
                    refine go_istore (pc := 282) hF [(4, vi (dl + 0)), (7, vi (e1₉ + 1)), (8, vi (bitOf ch₉ ak)), (6, vi (sn oo)), (5, vi oo), (3, vi ta), (0, vr E 94)] dX11_run_282 rfl (by decide) ?_
                    refine go_lvE [(4, vi dl), (7, vi (e1₉ + 1)), (8, vi (bitOf ch₉ ak)), (6, vi (sn oo)), (5, vi oo), (3, vi ta), (0, vr E 94)] (by rw [show dl + 0 = dl by omega]) ?_
                    refine go_goto (pc := 284) hF 386 dX11_run_284 (by decide) ?_
                    refine go_iload (pc := 386) hF dX11_run_386 1 rfl ?_
                    refine go_istore (pc := 388) hF [(5, vi (e1₉ + 1)), (4, vi dl), (7, vi (e1₉ + 1)), (8, vi (bitOf ch₉ ak)), (6, vi (sn oo)), (3, vi ta), (0, vr E 94)] dX11_run_388 rfl (by decide) ?_
                    refine go_goto (pc := 390) hF 33 dX11_run_390 (by decide) ?_
                    refine go_lv [(5, vi (e1₉ + 1)), (4, vi dl), (3, vi ta), (0, vr E 94)] [0, 1, 5, 6] rfl ?_
                    exact hK0 (by omega) _ ⟨u_s14, rounds_s14, (fun jj hjj => by rw [f_s14 jj (by omega), f_s13 jj (by omega), fr₉ jj (by omega)])⟩
                  · exact absurd bq273 (by omega)
                · refine go_iload (pc := 251) hF dX11_run_251 3 rfl ?_
                  refine go_iconst (pc := 253) hF dX11_run_253 ?_
                  refine go_iadd (pc := 254) hF dX11_run_254 ?_
                  refine go_goto (pc := 255) hF 267 dX11_run_255 (by decide) ?_
                  refine go_istore (pc := 267) hF [(7, vi (oo + 1)), (8, vi (bitOf ch₉ ak)), (6, vi (sn oo)), (5, vi oo), (4, vi dl), (3, vi ta), (0, vr E 94)] dX11_run_267 rfl (by decide) ?_
                  refine go_iload (pc := 269) hF dX11_run_269 4 rfl ?_
                  refine go_iload (pc := 271) hF dX11_run_271 1 rfl ?_
                  refine go_if_eq (pc := 273) hF 280 dX11_run_273 (by decide) (by omega) (fun bq273 => ?_) (fun bq273 => ?_)
                  · exact absurd bq273 (by omega)
                  · refine go_iconst (pc := 276) hF dX11_run_276 ?_
                    refine go_goto (pc := 277) hF 281 dX11_run_277 (by decide) ?_
                    refine go_iadd (pc := 281) hF dX11_run_281 ?_
                    refine go_istore (pc := 282) hF [(4, vi (dl + 1)), (7, vi (oo + 1)), (8, vi (bitOf ch₉ ak)), (6, vi (sn oo)), (5, vi oo), (3, vi ta), (0, vr E 94)] dX11_run_282 rfl (by decide) ?_
                    refine go_goto (pc := 284) hF 386 dX11_run_284 (by decide) ?_
                    refine go_iload (pc := 386) hF dX11_run_386 1 rfl ?_
                    refine go_istore (pc := 388) hF [(5, vi (oo + 1)), (4, vi (dl + 1)), (7, vi (oo + 1)), (8, vi (bitOf ch₉ ak)), (6, vi (sn oo)), (3, vi ta), (0, vr E 94)] dX11_run_388 rfl (by decide) ?_
                    refine go_goto (pc := 390) hF 33 dX11_run_390 (by decide) ?_
                    refine go_lv [(5, vi (oo + 1)), (4, vi (dl + 1)), (3, vi ta), (0, vr E 94)] [0, 1, 5, 6] rfl ?_
                    exact hK1 (by omega) _ ⟨u_s14, rounds_s14, (fun jj hjj => by rw [f_s14 jj (by omega), f_s13 jj (by omega), fr₉ jj (by omega)])⟩
            · exact absurd bq208 (by omega)
          · exact absurd bq173 (by omega)
        · exact absurd bq160 (by omega)
      · exact absurd bq62 (by decide)
  have s_back : ∀ (oo dl o1 rt ta hi₉ mi ak : Int) (n9 : Nat) (ro : Int → Int) (ρ : Nat → va_E), rW E s5 un (tLen t₉ : Int) tl rz ch₉ ρ rt hi₉ mi ak ro → 0 ≤ oo ∧ oo < (tLen t₉ : Int) → 0 ≤ dl ∧ dl ≤ 2 → sn oo = 93 → eo oo = o1 → 0 ≤ o1 ∧ o1 < (tLen t₉ : Int) → sn o1 = 48 + (n9 : Int) → 1 ≤ n9 ∧ n9 ≤ 9 → 0 ≤ ro dl ∧ ro dl ≤ 9 → 0 ≤ ak ∧ ak < 1000000 → (ro dl + 1 < n9 → bitOf ch₉ ak = 1 → ∀ ρ', rW E s5 un (tLen t₉ : Int) tl rz ch₉ ρ' rt hi₉ mi (ak + 1) (up ro dl (ro dl + 1)) → Go E p e R s m args below meth c Q 9 (0, 0) N ρ' [(5, vi (o1 + 1)), (4, vi (dl + 1)), (3, vi ta), (0, vr E 94)] [] 33) → (ro dl + 1 < n9 → ¬ bitOf ch₉ ak = 1 → ∀ ρ', rW E s5 un (tLen t₉ : Int) tl rz ch₉ ρ' rt hi₉ mi (ak + 1) (up ro dl (ro dl + 1)) → Go E p e R s m args below meth c Q 9 (0, 0) N ρ' [(5, vi (oo + 1)), (4, vi dl), (3, vi ta), (0, vr E 94)] [] 33) → (n9 ≤ ro dl + 1 → ∀ ρ', rW E s5 un (tLen t₉ : Int) tl rz ch₉ ρ' rt hi₉ mi ak (up ro dl (ro dl + 1)) → Go E p e R s m args below meth c Q 9 (0, 0) N ρ' [(5, vi (oo + 1)), (4, vi dl), (3, vi ta), (0, vr E 94)] [] 33) → Go E p e R s m args below meth c Q 9 (0, 0) N ρ [(5, vi oo), (4, vi (dl + 1)), (3, vi ta), (0, vr E 94)] [] 33 := by
    intro oo dl o1 rt ta hi₉ mi ak n9 ro ρ hW ho hd₉ hc₉ he ho1 hn9 hn hro hak hK1 hK0 hK9
    obtain ⟨zx, w2₉, fr₉⟩ := hW
    have zn := (fr₉ 95 (by omega)).trans nw_s5
    have zs := (fr₉ 98 (by omega)).trans sn_s5
    have ze := (fr₉ 99 (by omega)).trans eo_s5
    have zb := (fr₉ 100 (by omega)).trans bo_s5
    have hb01 := bitOf_01 ch₉ ak
    refine go_iload (pc := 33) hF dX11_run_33 0 rfl ?_
    refine go_aload_n (pc := 35) hF dX11_run_35 3 rfl ?_
    refine go_get (pc := 36) hF fl_X11_177 dX11_run_36 (by omega) zx rfl ?_
    refine go_icmp_ge (pc := 39) hF 393 dX11_run_39 (by decide) (by omega) (by omega) (fun bq39 => ?_) (fun bq39 => ?_)
    · exact absurd bq39 (by omega)
    · refine go_aload_n (pc := 42) hF dX11_run_42 3 rfl ?_
      refine go_get (pc := 43) hF fl_X11_19 dX11_run_43 (by omega) zx rfl ?_
      refine go_iload (pc := 46) hF dX11_run_46 0 rfl ?_
      refine go_iald (pc := 48) hF dX11_run_48 (by omega) zs (by omega)  ?_
      rw [hc₉]
      refine go_istore (pc := 49) hF [(6, vi 93), (5, vi oo), (4, vi (dl + 1)), (3, vi ta), (0, vr E 94)] dX11_run_49 rfl (by decide) ?_
      refine go_iload (pc := 51) hF dX11_run_51 1 rfl ?_
      refine go_iconst (pc := 53) hF dX11_run_53 ?_
      refine go_iadd (pc := 54) hF dX11_run_54 ?_
      refine go_istore (pc := 55) hF [(7, vi (oo + 1)), (6, vi 93), (5, vi oo), (4, vi (dl + 1)), (3, vi ta), (0, vr E 94)] dX11_run_55 rfl (by decide) ?_
      refine go_iload (pc := 57) hF dX11_run_57 1 rfl ?_
      refine go_callSP (pc := 59) hF [vi 93] [] ms_X11_168 dX11_run_59 (show CP E M_X11_isLook 2 [vi 93] N ρ 0 from (by have h := c_X11_isLook E N ρ 93 (by omega); rw [bI_f (by omega)] at h; exact h)) rfl rfl (Nat.le_of_ble_eq_true rfl) (by decide) ⟨Nat.zero_le _, Nat.zero_le _⟩ ?_
      refine go_if_eq (pc := 62) hF 156 dX11_run_62 (by decide) ⟨by decide, by decide⟩ (fun bq62 => ?_) (fun bq62 => ?_)
      · refine go_iload (pc := 156) hF dX11_run_156 1 rfl ?_
        refine go_bipush (pc := 158) hF dX11_run_158 (by decide) ?_
        refine go_icmp_ne (pc := 160) hF 169 dX11_run_160 (by decide) ⟨by decide, by decide⟩ ⟨by decide, by decide⟩ (fun bq160 => ?_) (fun bq160 => ?_)
        · refine go_iload (pc := 169) hF dX11_run_169 1 rfl ?_
          refine go_bipush (pc := 171) hF dX11_run_171 (by decide) ?_
          refine go_icmp_ne (pc := 173) hF 204 dX11_run_173 (by decide) ⟨by decide, by decide⟩ ⟨by decide, by decide⟩ (fun bq173 => ?_) (fun bq173 => ?_)
          · refine go_iload (pc := 204) hF dX11_run_204 1 rfl ?_
            refine go_bipush (pc := 206) hF dX11_run_206 (by decide) ?_
            refine go_icmp_ne (pc := 208) hF 224 dX11_run_208 (by decide) ⟨by decide, by decide⟩ ⟨by decide, by decide⟩ (fun bq208 => ?_) (fun bq208 => ?_)
            · refine go_iload (pc := 224) hF dX11_run_224 1 rfl ?_
              refine go_callSP (pc := 226) hF [vi 93] [] ms_X11_171 dX11_run_226 (show CP E M_X11_isFigure 2 [vi 93] N ρ 0 from (by have h := c_X11_isFigure E N ρ 93 (by omega); rw [bI_f (by omega)] at h; exact h)) rfl rfl (Nat.le_of_ble_eq_true rfl) (by decide) ⟨Nat.zero_le _, Nat.zero_le _⟩ ?_
              refine go_if_eq (pc := 229) hF 287 dX11_run_229 (by decide) ⟨by decide, by decide⟩ (fun bq229 => ?_) (fun bq229 => ?_)
              · refine go_iload (pc := 287) hF dX11_run_287 1 rfl ?_
                refine go_bipush (pc := 289) hF dX11_run_289 (by decide) ?_
                refine go_icmp_ne (pc := 291) hF 386 dX11_run_291 (by decide) ⟨by decide, by decide⟩ ⟨by decide, by decide⟩ (fun bq291 => ?_) (fun bq291 => ?_)
                · exact absurd bq291 (by decide)
                · refine go_aload_n (pc := 294) hF dX11_run_294 5 rfl ?_
                  refine go_get (pc := 295) hF fl_X11_74 dX11_run_295 (by omega) zx rfl ?_
                  refine go_iload (pc := 298) hF dX11_run_298 3 rfl ?_
                  refine go_iconst (pc := 300) hF dX11_run_300 ?_
                  refine go_isub (pc := 301) hF dX11_run_301 ?_
                  rw [show dl + 1 - 1 = dl by omega]
                  refine go_dup2 (pc := 302) hF dX11_run_302 rfl rfl ?_
                  refine go_iald (pc := 303) hF dX11_run_303 (by omega) w2₉ (by omega)  ?_
                  refine go_iconst (pc := 304) hF dX11_run_304 ?_
                  refine go_iadd (pc := 305) hF dX11_run_305 ?_
                  refine go_iast (pc := 306) hF dX11_run_306 (by omega) w2₉ (by omega) (fun s15 u_s15 f_s15 => ?_)
                  have x_s15 := (f_s15 94 (by omega)).trans zx
                  have nw_s15 := (f_s15 95 (by omega)).trans zn
                  have sn_s15 := (f_s15 98 (by omega)).trans zs
                  have eo_s15 := (f_s15 99 (by omega)).trans ze
                  have bo_s15 := (f_s15 100 (by omega)).trans zb
                  refine go_aload_n (pc := 307) hF dX11_run_307 5 rfl ?_
                  refine go_get (pc := 308) hF fl_X11_74 dX11_run_308 (by omega) x_s15 rfl ?_
                  refine go_iload (pc := 311) hF dX11_run_311 3 rfl ?_
                  refine go_iconst (pc := 313) hF dX11_run_313 ?_
                  refine go_isub (pc := 314) hF dX11_run_314 ?_
                  rw [show dl + 1 - 1 = dl by omega]
                  refine go_iald (pc := 315) hF dX11_run_315 (by omega) u_s15 (by omega)  ?_
                  rw [up_self]
                  refine go_aload_n (pc := 316) hF dX11_run_316 5 rfl ?_
                  refine go_get (pc := 317) hF fl_X11_19 dX11_run_317 (by omega) x_s15 rfl ?_
                  refine go_aload_n (pc := 320) hF dX11_run_320 5 rfl ?_
                  refine go_get (pc := 321) hF fl_X11_22 dX11_run_321 (by omega) x_s15 rfl ?_
                  refine go_iload (pc := 324) hF dX11_run_324 2 rfl ?_
                  refine go_iald (pc := 326) hF dX11_run_326 (by omega) eo_s15 (by omega)  ?_
                  rw [he]
                  refine go_iald (pc := 327) hF dX11_run_327 (by omega) sn_s15 (by omega)  ?_
                  rw [hn9]
                  refine go_bipush (pc := 328) hF dX11_run_328 (by decide) ?_
                  refine go_isub (pc := 330) hF dX11_run_330 ?_
                  rw [show 48 + (n9 : Int) - 48 = (n9 : Int) by omega]
                  refine go_icmp_ge (pc := 331) hF 345 dX11_run_331 (by decide) (by omega) (by omega) (fun bq331 => ?_) (fun bq331 => ?_)
                  · refine go_iconst (pc := 345) hF dX11_run_345 ?_
                    refine go_istore (pc := 346) hF [(8, vi 0), (7, vi (oo + 1)), (6, vi 93), (5, vi oo), (4, vi (dl + 1)), (3, vi ta), (0, vr E 94)] dX11_run_346 rfl (by decide) ?_
                    refine go_iload (pc := 348) hF dX11_run_348 0 rfl ?_
                    refine go_if_eq (pc := 350) hF 365 dX11_run_350 (by decide) ⟨by decide, by decide⟩ (fun bq350 => ?_) (fun bq350 => ?_)
                    · refine go_iload (pc := 365) hF dX11_run_365 3 rfl ?_
                      refine go_iconst (pc := 367) hF dX11_run_367 ?_
                      refine go_iadd (pc := 368) hF dX11_run_368 ?_
                      refine go_istore (pc := 369) hF [(7, vi (oo + 1)), (8, vi 0), (6, vi 93), (5, vi oo), (4, vi (dl + 1)), (3, vi ta), (0, vr E 94)] dX11_run_369 rfl (by decide) ?_
                      refine go_iload (pc := 371) hF dX11_run_371 4 rfl ?_
                      refine go_iload (pc := 373) hF dX11_run_373 1 rfl ?_
                      refine go_if_eq (pc := 375) hF 382 dX11_run_375 (by decide) ⟨by decide, by decide⟩ (fun bq375 => ?_) (fun bq375 => ?_)
                      · refine go_iconst (pc := 382) hF dX11_run_382 ?_
                        refine go_isub (pc := 383) hF dX11_run_383 ?_
                        refine go_istore (pc := 384) hF [(4, vi ((dl + 1) - 1)), (7, vi (oo + 1)), (8, vi 0), (6, vi 93), (5, vi oo), (3, vi ta), (0, vr E 94)] dX11_run_384 rfl (by decide) ?_
                        refine go_lvE [(4, vi dl), (7, vi (oo + 1)), (8, vi 0), (6, vi 93), (5, vi oo), (3, vi ta), (0, vr E 94)] (by rw [show (dl + 1) - 1 = dl by omega]) ?_
                        refine go_iload (pc := 386) hF dX11_run_386 1 rfl ?_
                        refine go_istore (pc := 388) hF [(5, vi (oo + 1)), (4, vi dl), (7, vi (oo + 1)), (8, vi 0), (6, vi 93), (3, vi ta), (0, vr E 94)] dX11_run_388 rfl (by decide) ?_
                        refine go_goto (pc := 390) hF 33 dX11_run_390 (by decide) ?_
                        refine go_lv [(5, vi (oo + 1)), (4, vi dl), (3, vi ta), (0, vr E 94)] [0, 1, 5, 6] rfl ?_
                        exact hK9 (by omega) _ ⟨x_s15, u_s15, (fun jj hjj => by rw [f_s15 jj (by omega), fr₉ jj (by omega)])⟩
                      · exact absurd bq375 (by decide)
                    · exact absurd bq350 (by decide)
                  · refine go_aload_n (pc := 334) hF dX11_run_334 5 rfl ?_
                    refine go_callVI (pc := 335) hF [] [] mv_X11_286 dX11_run_335 (by omega) x_s15 (c_X11_asks E N s15 hN₉ x_s15 hch hak) rfl rfl (Nat.le_of_ble_eq_true rfl) (by decide) ⟨Nat.zero_le _, Nat.zero_le _⟩ (fun r_s16 s16 h_s16 => ?_)
                    obtain ⟨e_s16, u_s16, f_s16⟩ := h_s16
                    subst e_s16
                    have nw_s16 := (f_s16 95 (by omega)).trans nw_s15
                    have sn_s16 := (f_s16 98 (by omega)).trans sn_s15
                    have eo_s16 := (f_s16 99 (by omega)).trans eo_s15
                    have bo_s16 := (f_s16 100 (by omega)).trans bo_s15
                    have rounds_s16 := (f_s16 116 (by omega)).trans u_s15
                    refine go_if_eq (pc := 338) hF 345 dX11_run_338 (by decide) (by omega) (fun bq338 => ?_) (fun bq338 => ?_)
                    · refine go_iconst (pc := 345) hF dX11_run_345 ?_
                      refine go_istore (pc := 346) hF [(8, vi 0), (7, vi (oo + 1)), (6, vi 93), (5, vi oo), (4, vi (dl + 1)), (3, vi ta), (0, vr E 94)] dX11_run_346 rfl (by decide) ?_
                      refine go_iload (pc := 348) hF dX11_run_348 0 rfl ?_
                      refine go_if_eq (pc := 350) hF 365 dX11_run_350 (by decide) ⟨by decide, by decide⟩ (fun bq350 => ?_) (fun bq350 => ?_)
                      · refine go_iload (pc := 365) hF dX11_run_365 3 rfl ?_
                        refine go_iconst (pc := 367) hF dX11_run_367 ?_
                        refine go_iadd (pc := 368) hF dX11_run_368 ?_
                        refine go_istore (pc := 369) hF [(7, vi (oo + 1)), (8, vi 0), (6, vi 93), (5, vi oo), (4, vi (dl + 1)), (3, vi ta), (0, vr E 94)] dX11_run_369 rfl (by decide) ?_
                        refine go_iload (pc := 371) hF dX11_run_371 4 rfl ?_
                        refine go_iload (pc := 373) hF dX11_run_373 1 rfl ?_
                        refine go_if_eq (pc := 375) hF 382 dX11_run_375 (by decide) ⟨by decide, by decide⟩ (fun bq375 => ?_) (fun bq375 => ?_)
                        · refine go_iconst (pc := 382) hF dX11_run_382 ?_
                          refine go_isub (pc := 383) hF dX11_run_383 ?_
                          refine go_istore (pc := 384) hF [(4, vi ((dl + 1) - 1)), (7, vi (oo + 1)), (8, vi 0), (6, vi 93), (5, vi oo), (3, vi ta), (0, vr E 94)] dX11_run_384 rfl (by decide) ?_
                          refine go_lvE [(4, vi dl), (7, vi (oo + 1)), (8, vi 0), (6, vi 93), (5, vi oo), (3, vi ta), (0, vr E 94)] (by rw [show (dl + 1) - 1 = dl by omega]) ?_
                          refine go_iload (pc := 386) hF dX11_run_386 1 rfl ?_
                          refine go_istore (pc := 388) hF [(5, vi (oo + 1)), (4, vi dl), (7, vi (oo + 1)), (8, vi 0), (6, vi 93), (3, vi ta), (0, vr E 94)] dX11_run_388 rfl (by decide) ?_
                          refine go_goto (pc := 390) hF 33 dX11_run_390 (by decide) ?_
                          refine go_lv [(5, vi (oo + 1)), (4, vi dl), (3, vi ta), (0, vr E 94)] [0, 1, 5, 6] rfl ?_
                          exact hK0 (by omega) (by omega) _ ⟨u_s16, rounds_s16, (fun jj hjj => by rw [f_s16 jj (by omega), f_s15 jj (by omega), fr₉ jj (by omega)])⟩
                        · exact absurd bq375 (by decide)
                      · exact absurd bq350 (by decide)
                    · refine go_iconst (pc := 341) hF dX11_run_341 ?_
                      refine go_goto (pc := 342) hF 346 dX11_run_342 (by decide) ?_
                      refine go_istore (pc := 346) hF [(8, vi 1), (7, vi (oo + 1)), (6, vi 93), (5, vi oo), (4, vi (dl + 1)), (3, vi ta), (0, vr E 94)] dX11_run_346 rfl (by decide) ?_
                      refine go_iload (pc := 348) hF dX11_run_348 0 rfl ?_
                      refine go_if_eq (pc := 350) hF 365 dX11_run_350 (by decide) ⟨by decide, by decide⟩ (fun bq350 => ?_) (fun bq350 => ?_)
                      · exact absurd bq350 (by decide)
                      · refine go_aload_n (pc := 353) hF dX11_run_353 6 rfl ?_
                        refine go_get (pc := 354) hF fl_X11_22 dX11_run_354 (by omega) u_s16 rfl ?_
                        refine go_iload (pc := 357) hF dX11_run_357 3 rfl ?_
                        refine go_iald (pc := 359) hF dX11_run_359 (by omega) eo_s16 (by omega)  ?_
                        rw [he]
                        refine go_iconst (pc := 360) hF dX11_run_360 ?_
                        refine go_iadd (pc := 361) hF dX11_run_361 ?_
                        refine go_goto (pc := 362) hF 369 dX11_run_362 (by decide) ?_
                        refine go_istore (pc := 369) hF [(7, vi (o1 + 1)), (8, vi 1), (6, vi 93), (5, vi oo), (4, vi (dl + 1)), (3, vi ta), (0, vr E 94)] dX11_run_369 rfl (by decide) ?_
                        refine go_iload (pc := 371) hF dX11_run_371 4 rfl ?_
                        refine go_iload (pc := 373) hF dX11_run_373 1 rfl ?_
                        refine go_if_eq (pc := 375) hF 382 dX11_run_375 (by decide) ⟨by decide, by decide⟩ (fun bq375 => ?_) (fun bq375 => ?_)
                        · exact absurd bq375 (by decide)
                        · refine go_iconst (pc := 378) hF dX11_run_378 ?_
                          refine go_goto (pc := 379) hF 383 dX11_run_379 (by decide) ?_
                          refine go_isub (pc := 383) hF dX11_run_383 ?_
                          refine go_istore (pc := 384) hF [(4, vi ((dl + 1) - 0)), (7, vi (o1 + 1)), (8, vi 1), (6, vi 93), (5, vi oo), (3, vi ta), (0, vr E 94)] dX11_run_384 rfl (by decide) ?_
                          refine go_lvE [(4, vi (dl + 1)), (7, vi (o1 + 1)), (8, vi 1), (6, vi 93), (5, vi oo), (3, vi ta), (0, vr E 94)] (by rw [show (dl + 1) - 0 = dl + 1 by omega]) ?_
                          refine go_iload (pc := 386) hF dX11_run_386 1 rfl ?_
                          refine go_istore (pc := 388) hF [(5, vi (o1 + 1)), (4, vi (dl + 1)), (7, vi (o1 + 1)), (8, vi 1), (6, vi 93), (3, vi ta), (0, vr E 94)] dX11_run_388 rfl (by decide) ?_
                          refine go_goto (pc := 390) hF 33 dX11_run_390 (by decide) ?_
                          refine go_lv [(5, vi (o1 + 1)), (4, vi (dl + 1)), (3, vi ta), (0, vr E 94)] [0, 1, 5, 6] rfl ?_
                          exact hK1 (by omega) (by omega) _ ⟨u_s16, rounds_s16, (fun jj hjj => by rw [f_s16 jj (by omega), f_s15 jj (by omega), fr₉ jj (by omega)])⟩
              · exact absurd bq229 (by decide)
            · exact absurd bq208 (by decide)
          · exact absurd bq173 (by decide)
        · exact absurd bq160 (by decide)
      · exact absurd bq62 (by decide)
  have s_end : ∀ (ro : Int → Int) (ρ : Nat → va_E), rW E s5 un (tLen t₉ : Int) tl rz ch₉ ρ ((rn u₉ kd pr ch₉ t₉ (r₉, 0, 0, 0, 0)).1) ((rn u₉ kd pr ch₉ t₉ (r₉, 0, 0, 0, 0)).2.2.1) ((rn u₉ kd pr ch₉ t₉ (r₉, 0, 0, 0, 0)).2.2.2.1) ((rn u₉ kd pr ch₉ t₉ (r₉, 0, 0, 0, 0)).2.2.2.2) ro → Go E p e R s m args below meth c Q 9 (0, 0) N ρ [(5, vi (0 + (tLen t₉ : Int))), (4, vi 0), (3, vi ((rn u₉ kd pr ch₉ t₉ (r₉, 0, 0, 0, 0)).2.1)), (0, vr E 94)] [] 33 := by
    intro ro ρ hW
    obtain ⟨zx, w2₉, fr₉⟩ := hW
    have zn := (fr₉ 95 (by omega)).trans nw_s5
    have zs := (fr₉ 98 (by omega)).trans sn_s5
    have ze := (fr₉ 99 (by omega)).trans eo_s5
    have zb := (fr₉ 100 (by omega)).trans bo_s5
    refine go_iload (pc := 33) hF dX11_run_33 0 rfl ?_
    refine go_aload_n (pc := 35) hF dX11_run_35 3 rfl ?_
    refine go_get (pc := 36) hF fl_X11_177 dX11_run_36 (by omega) zx rfl ?_
    refine go_icmp_ge (pc := 39) hF 393 dX11_run_39 (by decide) (by omega) (by omega) (fun bq39 => ?_) (fun bq39 => ?_)
    · refine go_iload_n (pc := 393) hF dX11_run_393 2 rfl ?_
      exact go_iretQ hF hr hlk hQ dX11_run_394 ⟨rfl, zx, ⟨_, w2₉⟩, (fun jj hjj => by rw [fr₉ jj (by omega), f_s5 jj (by omega), f_s4 jj (by omega), f_s3 jj (by omega), f_s2 jj (by omega), f_s1 jj (by omega)])⟩
    · exact absurd bq39 (by omega)
  refine go_lv [(5, vi 0), (4, vi 0), (3, vi 0), (0, vr E 94)] [0, 1, 2, 3] rfl ?_
  exact rn_walk (E := E) (pr := pr) hu hkd (fun ρ o d₉ ta => Go E p e R s m args below meth c Q 9 (0, 0) N ρ [(5, vi o), (4, vi d₉), (3, vi ta), (0, vr E 94)] [] 33) s_dot s_miss s_hit s_open s_bar s_close s_fig s_back t₉ hwf 0 0 (r₉, 0, 0, 0, 0) g123 s5 (by omega) (by omega) hMA hrw ⟨Int.le_refl _, by have q₉ := tAsk_max hwf hdp3 hl80; show (0 : Int) + tAsk t₉ < 900000; omega⟩ ⟨u_s5, rounds_s5, fun _ _ => rfl⟩ (fun ro ρ hW _ => s_end ro ρ hW)
