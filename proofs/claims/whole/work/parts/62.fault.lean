/-! The reference₉: faultOf. -/
set_option maxHeartbeats 4000000 in
set_option maxRecDepth 100000 in
theorem c_X11_faultOf (E : En) (N : Nat) (σ : Nat → va_E) {un sz₉ tl rz hi₉ mi ak rt cn : Int} {tx rs0 op0 ib0 : Int → Int} (hN₉ : 120 ≤ N) (z101 : σ 94 = mOb E un sz₉ tl rz hi₉ mi ak rt cn) (z108 : σ 101 = ai E 80 tx) (z109 : σ 102 = ai E 80 rs0) (z110 : σ 103 = ai E 4 op0) (z111 : σ 104 = az E 4 ib0) (htl : 0 ≤ tl ∧ tl ≤ 80) (htxr : ∀ z₉ : Int, 0 ≤ z₉ → z₉ < tl → 0 ≤ tx z₉ ∧ tx z₉ ≤ 127) : CI E M_X11_faultOf 3 [vr E 94] N σ (fun y₉ σ' => y₉ = zEnd tx tl ∧ ∃ rs op₉ ib rz, fW E σ un sz₉ tl hi₉ mi ak rt cn σ' rs op₉ ib rz ∧ (zEnd tx tl = -1 → ∃ t9, zR tx tl.toNat = .inr ([], t9, 0) ∧ wf t9 ∧ SGT rs t9 0 ∧ rz = tLen t9)) := by
  refine CT.of2 (own := RX11) (by decide) rfl (Nat.le_of_ble_eq_true rfl) ?_
  intro p e R s m args below meth c Q hF hr hlk hnm hz hR hQ
  refine go_iconst (pc := 0) hF dX11_faultOf_0 ?_
  refine go_istore_n (pc := 1) hF [(1, vi 0), (0, vr E 94)] dX11_faultOf_1 rfl (by decide) ?_
  refine go_iconst (pc := 2) hF dX11_faultOf_2 ?_
  refine go_istore_n (pc := 3) hF [(2, vi 0), (1, vi 0), (0, vr E 94)] dX11_faultOf_3 rfl (by decide) ?_
  refine go_iconst (pc := 4) hF dX11_faultOf_4 ?_
  refine go_istore_n (pc := 5) hF [(3, vi 0), (2, vi 0), (1, vi 0), (0, vr E 94)] dX11_faultOf_5 rfl (by decide) ?_
  refine go_aload_n (pc := 6) hF dX11_faultOf_6 3 rfl ?_
  refine go_iconst (pc := 7) hF dX11_faultOf_7 ?_
  refine go_put (pc := 8) hF [vr E 95, vr E 96, vi un, vr E 97, vr E 98, vr E 99, vr E 100, vi sz₉, vr E 101, vi tl, vr E 102, vi 0, vr E 103, vr E 104, vr E 105, vr E 106, vr E 107, vr E 108, vr E 109, vr E 110, vr E 111, vr E 112, vr E 113, vr E 114, vr E 115, vr E 116, vr E 117, vr E 118, vr E 119, vi hi₉, vi mi, vi ak, vi rt, vi cn] fl_X11_165 dX11_faultOf_8 (by omega) z101 rfl rfl rfl (Nat.le_of_ble_eq_true rfl) (fun s1₉ u_s1 f_s1 => ?_)
  have tx_s1 := (f_s1 101 (by omega)).trans z108
  have rs_s1 := (f_s1 102 (by omega)).trans z109
  have op_s1 := (f_s1 103 (by omega)).trans z110
  have ib_s1 := (f_s1 104 (by omega)).trans z111
  refine go_iconst (pc := 11) hF dX11_faultOf_11 ?_
  refine go_istore (pc := 12) hF [(4, vi 0), (3, vi 0), (2, vi 0), (1, vi 0), (0, vr E 94)] dX11_faultOf_12 rfl (by decide) ?_
  have h_sp0 : ∀ (ii dp lk₉ rz : Int) (rs op₉ ib : Int → Int) (ρ : Nat → va_E), fW E s1₉ un sz₉ tl hi₉ mi ak rt cn ρ rs op₉ ib rz → 0 ≤ ii ∧ ii < tl → (0 ≤ dp ∧ dp ≤ 3) ∧ (0 ≤ lk₉ ∧ lk₉ ≤ 24) ∧ 0 ≤ rz ∧ rz ≤ ii → tx ii = 32 → (∀ ρ', fW E s1₉ un sz₉ tl hi₉ mi ak rt cn ρ' rs op₉ ib rz → Go E p e R s m args below meth c Q 7 (0, 0) N ρ' [(4, vi (ii + 1)), (3, vi 0), (2, vi lk₉), (1, vi dp), (0, vr E 94)] [] 14) → Go E p e R s m args below meth c Q 7 (0, 0) N ρ [(4, vi ii), (3, vi 0), (2, vi lk₉), (1, vi dp), (0, vr E 94)] [] 14 := by
    intro ii dp lk₉ rz rs op₉ ib ρ hW hi9 hcm h0 hK₉
    obtain ⟨zx, w2₉, w3₉, w4₉, fr₉⟩ := hW
    have zt := (fr₉ 101 (by omega)).trans tx_s1
    refine go_iload (pc := 14) hF dX11_faultOf_14 0 rfl ?_
    refine go_aload_n (pc := 16) hF dX11_faultOf_16 4 rfl ?_
    refine go_get (pc := 17) hF fl_X11_151 dX11_faultOf_17 (by omega) zx rfl ?_
    refine go_icmp_ge (pc := 20) hF 386 dX11_faultOf_20 (by decide) (by omega) (by omega) (fun bq20 => ?_) (fun bq20 => ?_)
    · exact absurd bq20 (by omega)
    · refine go_aload_n (pc := 23) hF dX11_faultOf_23 4 rfl ?_
      refine go_get (pc := 24) hF fl_X11_28 dX11_faultOf_24 (by omega) zx rfl ?_
      refine go_iload (pc := 27) hF dX11_faultOf_27 0 rfl ?_
      refine go_iald (pc := 29) hF dX11_faultOf_29 (by omega) zt (by omega)  ?_
      rw [h0]
      refine go_istore (pc := 30) hF [(5, vi 32), (4, vi ii), (3, vi 0), (2, vi lk₉), (1, vi dp), (0, vr E 94)] dX11_faultOf_30 rfl (by decide) ?_
      refine go_iload (pc := 32) hF dX11_faultOf_32 0 rfl ?_
      refine go_bipush (pc := 34) hF dX11_faultOf_34 (by decide) ?_
      refine go_icmp_ne (pc := 36) hF 43 dX11_faultOf_36 (by decide) ⟨by decide, by decide⟩ ⟨by decide, by decide⟩ (fun bq36 => ?_) (fun bq36 => ?_)
      · exact absurd bq36 (by decide)
      · refine go_iconst (pc := 39) hF dX11_faultOf_39 ?_
        refine go_goto (pc := 40) hF 44 dX11_faultOf_40 (by decide) ?_
        refine go_istore (pc := 44) hF [(6, vi 1), (5, vi 32), (4, vi ii), (3, vi 0), (2, vi lk₉), (1, vi dp), (0, vr E 94)] dX11_faultOf_44 rfl (by decide) ?_
        refine go_iload_n (pc := 46) hF dX11_faultOf_46 3 rfl ?_
        refine go_if_eq (pc := 47) hF 85 dX11_faultOf_47 (by decide) ⟨by decide, by decide⟩ (fun bq47 => ?_) (fun bq47 => ?_)
        · refine go_iload (pc := 85) hF dX11_faultOf_85 1 rfl ?_
          refine go_callSP (pc := 87) hF [vi 32] [] ms_X11_168 dX11_faultOf_87 (show CP E M_X11_isLook 2 [vi 32] N ρ 0 from (by have h := c_X11_isLook E N ρ 32 (by omega); rw [bI_f (by omega)] at h; exact h)) rfl rfl (Nat.le_of_ble_eq_true rfl) (by decide) ⟨Nat.zero_le _, Nat.zero_le _⟩ ?_
          refine go_if_eq (pc := 90) hF 112 dX11_faultOf_90 (by decide) ⟨by decide, by decide⟩ (fun bq90 => ?_) (fun bq90 => ?_)
          · refine go_iload (pc := 112) hF dX11_faultOf_112 1 rfl ?_
            refine go_bipush (pc := 114) hF dX11_faultOf_114 (by decide) ?_
            refine go_icmp_eq (pc := 116) hF 127 dX11_faultOf_116 (by decide) ⟨by decide, by decide⟩ ⟨by decide, by decide⟩ (fun bq116 => ?_) (fun bq116 => ?_)
            · exact absurd bq116 (by decide)
            · refine go_iload (pc := 119) hF dX11_faultOf_119 1 rfl ?_
              refine go_callSP (pc := 121) hF [vi 32] [] ms_X11_171 dX11_faultOf_121 (show CP E M_X11_isFigure 2 [vi 32] N ρ 0 from (by have h := c_X11_isFigure E N ρ 32 (by omega); rw [bI_f (by omega)] at h; exact h)) rfl rfl (Nat.le_of_ble_eq_true rfl) (by decide) ⟨Nat.zero_le _, Nat.zero_le _⟩ ?_
              refine go_if_eq (pc := 124) hF 171 dX11_faultOf_124 (by decide) ⟨by decide, by decide⟩ (fun bq124 => ?_) (fun bq124 => ?_)
              · refine go_iload (pc := 171) hF dX11_faultOf_171 1 rfl ?_
                refine go_bipush (pc := 173) hF dX11_faultOf_173 (by decide) ?_
                refine go_icmp_ne (pc := 175) hF 230 dX11_faultOf_175 (by decide) ⟨by decide, by decide⟩ ⟨by decide, by decide⟩ (fun bq175 => ?_) (fun bq175 => ?_)
                · refine go_iload (pc := 230) hF dX11_faultOf_230 1 rfl ?_
                  refine go_bipush (pc := 232) hF dX11_faultOf_232 (by decide) ?_
                  refine go_icmp_eq (pc := 234) hF 244 dX11_faultOf_234 (by decide) ⟨by decide, by decide⟩ ⟨by decide, by decide⟩ (fun bq234 => ?_) (fun bq234 => ?_)
                  · exact absurd bq234 (by decide)
                  · refine go_iload (pc := 237) hF dX11_faultOf_237 1 rfl ?_
                    refine go_bipush (pc := 239) hF dX11_faultOf_239 (by decide) ?_
                    refine go_icmp_ne (pc := 241) hF 318 dX11_faultOf_241 (by decide) ⟨by decide, by decide⟩ ⟨by decide, by decide⟩ (fun bq241 => ?_) (fun bq241 => ?_)
                    · refine go_iload (pc := 318) hF dX11_faultOf_318 0 rfl ?_
                      refine go_if_ne (pc := 320) hF 330 dX11_faultOf_320 (by decide) ⟨by decide, by decide⟩ (fun bq320 => ?_) (fun bq320 => ?_)
                      · refine go_iconst (pc := 330) hF dX11_faultOf_330 ?_
                        refine go_goto (pc := 331) hF 335 dX11_faultOf_331 (by decide) ?_
                        refine go_istore (pc := 335) hF [(6, vi 1), (5, vi 32), (4, vi ii), (3, vi 0), (2, vi lk₉), (1, vi dp), (0, vr E 94)] dX11_faultOf_335 rfl (by decide) ?_
                        refine go_iload (pc := 337) hF dX11_faultOf_337 0 rfl ?_
                        refine go_if_ne (pc := 339) hF 345 dX11_faultOf_339 (by decide) ⟨by decide, by decide⟩ (fun bq339 => ?_) (fun bq339 => ?_)
                        · refine go_iload (pc := 345) hF dX11_faultOf_345 1 rfl ?_
                          refine go_bipush (pc := 347) hF dX11_faultOf_347 (by decide) ?_
                          refine go_icmp_eq (pc := 349) hF 380 dX11_faultOf_349 (by decide) ⟨by decide, by decide⟩ ⟨by decide, by decide⟩ (fun bq349 => ?_) (fun bq349 => ?_)
                          · refine go_iinc (pc := 380) hF [(4, vi (ii + 1)), (6, vi 1), (5, vi 32), (3, vi 0), (2, vi lk₉), (1, vi dp), (0, vr E 94)] dX11_faultOf_380 2 rfl rfl (by decide) ?_
                            refine go_goto (pc := 383) hF 14 dX11_faultOf_383 (by decide) ?_
                            refine go_lv [(4, vi (ii + 1)), (3, vi 0), (2, vi lk₉), (1, vi dp), (0, vr E 94)] [0, 3, 4, 5, 6] rfl ?_
                            exact hK₉ _ ⟨zx, w2₉, w3₉, w4₉, (fun jj hjj => by rw [fr₉ jj (by omega)])⟩
                          · exact absurd bq349 (by decide)
                        · exact absurd bq339 (by decide)
                      · exact absurd bq320 (by decide)
                    · exact absurd bq241 (by decide)
                · exact absurd bq175 (by decide)
              · exact absurd bq124 (by decide)
          · exact absurd bq90 (by decide)
        · exact absurd bq47 (by decide)
  have h_sp1 : ∀ (ii dp lk₉ rz : Int) (rs op₉ ib : Int → Int) (ρ : Nat → va_E), fW E s1₉ un sz₉ tl hi₉ mi ak rt cn ρ rs op₉ ib rz → 0 ≤ ii ∧ ii < tl → (0 ≤ dp ∧ dp ≤ 3) ∧ (0 ≤ lk₉ ∧ lk₉ ≤ 24) ∧ 0 ≤ rz ∧ rz ≤ ii → tx ii = 32 → (∀ ρ', fW E s1₉ un sz₉ tl hi₉ mi ak rt cn ρ' rs op₉ ib rz → Go E p e R s m args below meth c Q 7 (0, 0) N ρ' [(4, vi (ii + 1)), (3, vi 1), (2, vi lk₉), (1, vi dp), (0, vr E 94)] [] 14) → Go E p e R s m args below meth c Q 7 (0, 0) N ρ [(4, vi ii), (3, vi 1), (2, vi lk₉), (1, vi dp), (0, vr E 94)] [] 14 := by
    intro ii dp lk₉ rz rs op₉ ib ρ hW hi9 hcm h0 hK₉
    obtain ⟨zx, w2₉, w3₉, w4₉, fr₉⟩ := hW
    have zt := (fr₉ 101 (by omega)).trans tx_s1
    refine go_iload (pc := 14) hF dX11_faultOf_14 0 rfl ?_
    refine go_aload_n (pc := 16) hF dX11_faultOf_16 4 rfl ?_
    refine go_get (pc := 17) hF fl_X11_151 dX11_faultOf_17 (by omega) zx rfl ?_
    refine go_icmp_ge (pc := 20) hF 386 dX11_faultOf_20 (by decide) (by omega) (by omega) (fun bq20 => ?_) (fun bq20 => ?_)
    · exact absurd bq20 (by omega)
    · refine go_aload_n (pc := 23) hF dX11_faultOf_23 4 rfl ?_
      refine go_get (pc := 24) hF fl_X11_28 dX11_faultOf_24 (by omega) zx rfl ?_
      refine go_iload (pc := 27) hF dX11_faultOf_27 0 rfl ?_
      refine go_iald (pc := 29) hF dX11_faultOf_29 (by omega) zt (by omega)  ?_
      rw [h0]
      refine go_istore (pc := 30) hF [(5, vi 32), (4, vi ii), (3, vi 1), (2, vi lk₉), (1, vi dp), (0, vr E 94)] dX11_faultOf_30 rfl (by decide) ?_
      refine go_iload (pc := 32) hF dX11_faultOf_32 0 rfl ?_
      refine go_bipush (pc := 34) hF dX11_faultOf_34 (by decide) ?_
      refine go_icmp_ne (pc := 36) hF 43 dX11_faultOf_36 (by decide) ⟨by decide, by decide⟩ ⟨by decide, by decide⟩ (fun bq36 => ?_) (fun bq36 => ?_)
      · exact absurd bq36 (by decide)
      · refine go_iconst (pc := 39) hF dX11_faultOf_39 ?_
        refine go_goto (pc := 40) hF 44 dX11_faultOf_40 (by decide) ?_
        refine go_istore (pc := 44) hF [(6, vi 1), (5, vi 32), (4, vi ii), (3, vi 1), (2, vi lk₉), (1, vi dp), (0, vr E 94)] dX11_faultOf_44 rfl (by decide) ?_
        refine go_iload_n (pc := 46) hF dX11_faultOf_46 3 rfl ?_
        refine go_if_eq (pc := 47) hF 85 dX11_faultOf_47 (by decide) ⟨by decide, by decide⟩ (fun bq47 => ?_) (fun bq47 => ?_)
        · exact absurd bq47 (by decide)
        · refine go_iload (pc := 50) hF dX11_faultOf_50 0 rfl ?_
          refine go_if_ne (pc := 52) hF 62 dX11_faultOf_52 (by decide) ⟨by decide, by decide⟩ (fun bq52 => ?_) (fun bq52 => ?_)
          · refine go_iconst (pc := 62) hF dX11_faultOf_62 ?_
            refine go_goto (pc := 63) hF 67 dX11_faultOf_63 (by decide) ?_
            refine go_istore (pc := 67) hF [(6, vi 1), (5, vi 32), (4, vi ii), (3, vi 1), (2, vi lk₉), (1, vi dp), (0, vr E 94)] dX11_faultOf_67 rfl (by decide) ?_
            refine go_iload (pc := 69) hF dX11_faultOf_69 1 rfl ?_
            refine go_bipush (pc := 71) hF dX11_faultOf_71 (by decide) ?_
            refine go_icmp_eq (pc := 73) hF 80 dX11_faultOf_73 (by decide) ⟨by decide, by decide⟩ ⟨by decide, by decide⟩ (fun bq73 => ?_) (fun bq73 => ?_)
            · exact absurd bq73 (by decide)
            · refine go_iconst (pc := 76) hF dX11_faultOf_76 ?_
              refine go_goto (pc := 77) hF 81 dX11_faultOf_77 (by decide) ?_
              refine go_istore_n (pc := 81) hF [(3, vi 1), (6, vi 1), (5, vi 32), (4, vi ii), (2, vi lk₉), (1, vi dp), (0, vr E 94)] dX11_faultOf_81 rfl (by decide) ?_
              refine go_goto (pc := 82) hF 337 dX11_faultOf_82 (by decide) ?_
              refine go_iload (pc := 337) hF dX11_faultOf_337 1 rfl ?_
              refine go_if_ne (pc := 339) hF 345 dX11_faultOf_339 (by decide) ⟨by decide, by decide⟩ (fun bq339 => ?_) (fun bq339 => ?_)
              · refine go_iload (pc := 345) hF dX11_faultOf_345 2 rfl ?_
                refine go_bipush (pc := 347) hF dX11_faultOf_347 (by decide) ?_
                refine go_icmp_eq (pc := 349) hF 380 dX11_faultOf_349 (by decide) ⟨by decide, by decide⟩ ⟨by decide, by decide⟩ (fun bq349 => ?_) (fun bq349 => ?_)
                · refine go_iinc (pc := 380) hF [(4, vi (ii + 1)), (3, vi 1), (6, vi 1), (5, vi 32), (2, vi lk₉), (1, vi dp), (0, vr E 94)] dX11_faultOf_380 3 rfl rfl (by decide) ?_
                  refine go_goto (pc := 383) hF 14 dX11_faultOf_383 (by decide) ?_
                  refine go_lv [(4, vi (ii + 1)), (3, vi 1), (2, vi lk₉), (1, vi dp), (0, vr E 94)] [0, 1, 4, 5, 6] rfl ?_
                  exact hK₉ _ ⟨zx, w2₉, w3₉, w4₉, (fun jj hjj => by rw [fr₉ jj (by omega)])⟩
                · exact absurd bq349 (by decide)
              · exact absurd bq339 (by decide)
          · exact absurd bq52 (by decide)
  have h_f91 : ∀ (ii dp lk₉ rz : Int) (rs op₉ ib : Int → Int) (ρ : Nat → va_E), fW E s1₉ un sz₉ tl hi₉ mi ak rt cn ρ rs op₉ ib rz → 0 ≤ ii ∧ ii < tl → (0 ≤ dp ∧ dp ≤ 3) ∧ (0 ≤ lk₉ ∧ lk₉ ≤ 24) ∧ 0 ≤ rz ∧ rz ≤ ii → tx ii = 91 → (∀ ρ', fW E s1₉ un sz₉ tl hi₉ mi ak rt cn ρ' rs op₉ ib rz → Go E p e R s m args below meth c Q 7 (0, 0) N ρ' [(4, vi (ii + 1)), (3, vi 0), (2, vi lk₉), (1, vi dp), (0, vr E 94)] [] 14) → Go E p e R s m args below meth c Q 7 (0, 0) N ρ [(4, vi ii), (3, vi 1), (2, vi lk₉), (1, vi dp), (0, vr E 94)] [] 14 := by
    intro ii dp lk₉ rz rs op₉ ib ρ hW hi9 hcm h0 hK₉
    obtain ⟨zx, w2₉, w3₉, w4₉, fr₉⟩ := hW
    have zt := (fr₉ 101 (by omega)).trans tx_s1
    refine go_iload (pc := 14) hF dX11_faultOf_14 0 rfl ?_
    refine go_aload_n (pc := 16) hF dX11_faultOf_16 4 rfl ?_
    refine go_get (pc := 17) hF fl_X11_151 dX11_faultOf_17 (by omega) zx rfl ?_
    refine go_icmp_ge (pc := 20) hF 386 dX11_faultOf_20 (by decide) (by omega) (by omega) (fun bq20 => ?_) (fun bq20 => ?_)
    · exact absurd bq20 (by omega)
    · refine go_aload_n (pc := 23) hF dX11_faultOf_23 4 rfl ?_
      refine go_get (pc := 24) hF fl_X11_28 dX11_faultOf_24 (by omega) zx rfl ?_
      refine go_iload (pc := 27) hF dX11_faultOf_27 0 rfl ?_
      refine go_iald (pc := 29) hF dX11_faultOf_29 (by omega) zt (by omega)  ?_
      rw [h0]
      refine go_istore (pc := 30) hF [(5, vi 91), (4, vi ii), (3, vi 1), (2, vi lk₉), (1, vi dp), (0, vr E 94)] dX11_faultOf_30 rfl (by decide) ?_
      refine go_iload (pc := 32) hF dX11_faultOf_32 0 rfl ?_
      refine go_bipush (pc := 34) hF dX11_faultOf_34 (by decide) ?_
      refine go_icmp_ne (pc := 36) hF 43 dX11_faultOf_36 (by decide) ⟨by decide, by decide⟩ ⟨by decide, by decide⟩ (fun bq36 => ?_) (fun bq36 => ?_)
      · refine go_iconst (pc := 43) hF dX11_faultOf_43 ?_
        refine go_istore (pc := 44) hF [(6, vi 0), (5, vi 91), (4, vi ii), (3, vi 1), (2, vi lk₉), (1, vi dp), (0, vr E 94)] dX11_faultOf_44 rfl (by decide) ?_
        refine go_iload_n (pc := 46) hF dX11_faultOf_46 3 rfl ?_
        refine go_if_eq (pc := 47) hF 85 dX11_faultOf_47 (by decide) ⟨by decide, by decide⟩ (fun bq47 => ?_) (fun bq47 => ?_)
        · exact absurd bq47 (by decide)
        · refine go_iload (pc := 50) hF dX11_faultOf_50 0 rfl ?_
          refine go_if_ne (pc := 52) hF 62 dX11_faultOf_52 (by decide) ⟨by decide, by decide⟩ (fun bq52 => ?_) (fun bq52 => ?_)
          · exact absurd bq52 (by decide)
          · refine go_iload (pc := 55) hF dX11_faultOf_55 1 rfl ?_
            refine go_bipush (pc := 57) hF dX11_faultOf_57 (by decide) ?_
            refine go_icmp_ne (pc := 59) hF 66 dX11_faultOf_59 (by decide) ⟨by decide, by decide⟩ ⟨by decide, by decide⟩ (fun bq59 => ?_) (fun bq59 => ?_)
            · exact absurd bq59 (by decide)
            · refine go_iconst (pc := 62) hF dX11_faultOf_62 ?_
              refine go_goto (pc := 63) hF 67 dX11_faultOf_63 (by decide) ?_
              refine go_istore (pc := 67) hF [(6, vi 1), (5, vi 91), (4, vi ii), (3, vi 1), (2, vi lk₉), (1, vi dp), (0, vr E 94)] dX11_faultOf_67 rfl (by decide) ?_
              refine go_iload (pc := 69) hF dX11_faultOf_69 1 rfl ?_
              refine go_bipush (pc := 71) hF dX11_faultOf_71 (by decide) ?_
              refine go_icmp_eq (pc := 73) hF 80 dX11_faultOf_73 (by decide) ⟨by decide, by decide⟩ ⟨by decide, by decide⟩ (fun bq73 => ?_) (fun bq73 => ?_)
              · refine go_iconst (pc := 80) hF dX11_faultOf_80 ?_
                refine go_istore_n (pc := 81) hF [(3, vi 0), (6, vi 1), (5, vi 91), (4, vi ii), (2, vi lk₉), (1, vi dp), (0, vr E 94)] dX11_faultOf_81 rfl (by decide) ?_
                refine go_goto (pc := 82) hF 337 dX11_faultOf_82 (by decide) ?_
                refine go_iload (pc := 337) hF dX11_faultOf_337 1 rfl ?_
                refine go_if_ne (pc := 339) hF 345 dX11_faultOf_339 (by decide) ⟨by decide, by decide⟩ (fun bq339 => ?_) (fun bq339 => ?_)
                · refine go_iload (pc := 345) hF dX11_faultOf_345 2 rfl ?_
                  refine go_bipush (pc := 347) hF dX11_faultOf_347 (by decide) ?_
                  refine go_icmp_eq (pc := 349) hF 380 dX11_faultOf_349 (by decide) ⟨by decide, by decide⟩ ⟨by decide, by decide⟩ (fun bq349 => ?_) (fun bq349 => ?_)
                  · exact absurd bq349 (by decide)
                  · refine go_iload (pc := 352) hF dX11_faultOf_352 2 rfl ?_
                    refine go_bipush (pc := 354) hF dX11_faultOf_354 (by decide) ?_
                    refine go_icmp_eq (pc := 356) hF 380 dX11_faultOf_356 (by decide) ⟨by decide, by decide⟩ ⟨by decide, by decide⟩ (fun bq356 => ?_) (fun bq356 => ?_)
                    · refine go_iinc (pc := 380) hF [(4, vi (ii + 1)), (3, vi 0), (6, vi 1), (5, vi 91), (2, vi lk₉), (1, vi dp), (0, vr E 94)] dX11_faultOf_380 3 rfl rfl (by decide) ?_
                      refine go_goto (pc := 383) hF 14 dX11_faultOf_383 (by decide) ?_
                      refine go_lv [(4, vi (ii + 1)), (3, vi 0), (2, vi lk₉), (1, vi dp), (0, vr E 94)] [0, 1, 4, 5, 6] rfl ?_
                      exact hK₉ _ ⟨zx, w2₉, w3₉, w4₉, (fun jj hjj => by rw [fr₉ jj (by omega)])⟩
                    · exact absurd bq356 (by decide)
                · exact absurd bq339 (by decide)
              · exact absurd bq73 (by decide)
      · exact absurd bq36 (by decide)
  have h_fno : ∀ (ii dp lk₉ rz : Int) (rs op₉ ib : Int → Int) (ρ : Nat → va_E), fW E s1₉ un sz₉ tl hi₉ mi ak rt cn ρ rs op₉ ib rz → 0 ≤ ii ∧ ii < tl → (0 ≤ dp ∧ dp ≤ 3) ∧ (0 ≤ lk₉ ∧ lk₉ ≤ 24) ∧ 0 ≤ rz ∧ rz ≤ ii → (0 ≤ tx ii ∧ tx ii ≤ 127) → ¬ tx ii = 32 → ¬ tx ii = 91 → zEnd tx tl = ii → Go E p e R s m args below meth c Q 7 (0, 0) N ρ [(4, vi ii), (3, vi 1), (2, vi lk₉), (1, vi dp), (0, vr E 94)] [] 14 := by
    intro ii dp lk₉ rz rs op₉ ib ρ hW hi9 hcm h0 h1 h2 hz
    obtain ⟨zx, w2₉, w3₉, w4₉, fr₉⟩ := hW
    have zt := (fr₉ 101 (by omega)).trans tx_s1
    refine go_iload (pc := 14) hF dX11_faultOf_14 0 rfl ?_
    refine go_aload_n (pc := 16) hF dX11_faultOf_16 4 rfl ?_
    refine go_get (pc := 17) hF fl_X11_151 dX11_faultOf_17 (by omega) zx rfl ?_
    refine go_icmp_ge (pc := 20) hF 386 dX11_faultOf_20 (by decide) (by omega) (by omega) (fun bq20 => ?_) (fun bq20 => ?_)
    · exact absurd bq20 (by omega)
    · refine go_aload_n (pc := 23) hF dX11_faultOf_23 4 rfl ?_
      refine go_get (pc := 24) hF fl_X11_28 dX11_faultOf_24 (by omega) zx rfl ?_
      refine go_iload (pc := 27) hF dX11_faultOf_27 0 rfl ?_
      refine go_iald (pc := 29) hF dX11_faultOf_29 (by omega) zt (by omega)  ?_
      refine go_istore (pc := 30) hF [(5, vi (tx ii)), (4, vi ii), (3, vi 1), (2, vi lk₉), (1, vi dp), (0, vr E 94)] dX11_faultOf_30 rfl (by decide) ?_
      refine go_iload (pc := 32) hF dX11_faultOf_32 0 rfl ?_
      refine go_bipush (pc := 34) hF dX11_faultOf_34 (by decide) ?_
      refine go_icmp_ne (pc := 36) hF 43 dX11_faultOf_36 (by decide) (by omega) ⟨by decide, by decide⟩ (fun bq36 => ?_) (fun bq36 => ?_)
      · refine go_iconst (pc := 43) hF dX11_faultOf_43 ?_
        refine go_istore (pc := 44) hF [(6, vi 0), (5, vi (tx ii)), (4, vi ii), (3, vi 1), (2, vi lk₉), (1, vi dp), (0, vr E 94)] dX11_faultOf_44 rfl (by decide) ?_
        refine go_iload_n (pc := 46) hF dX11_faultOf_46 3 rfl ?_
        refine go_if_eq (pc := 47) hF 85 dX11_faultOf_47 (by decide) ⟨by decide, by decide⟩ (fun bq47 => ?_) (fun bq47 => ?_)
        · exact absurd bq47 (by decide)
        · refine go_iload (pc := 50) hF dX11_faultOf_50 0 rfl ?_
          refine go_if_ne (pc := 52) hF 62 dX11_faultOf_52 (by decide) ⟨by decide, by decide⟩ (fun bq52 => ?_) (fun bq52 => ?_)
          · exact absurd bq52 (by decide)
          · refine go_iload (pc := 55) hF dX11_faultOf_55 1 rfl ?_
            refine go_bipush (pc := 57) hF dX11_faultOf_57 (by decide) ?_
            refine go_icmp_ne (pc := 59) hF 66 dX11_faultOf_59 (by decide) (by omega) ⟨by decide, by decide⟩ (fun bq59 => ?_) (fun bq59 => ?_)
            · refine go_iconst (pc := 66) hF dX11_faultOf_66 ?_
              refine go_istore (pc := 67) hF [(6, vi 0), (5, vi (tx ii)), (4, vi ii), (3, vi 1), (2, vi lk₉), (1, vi dp), (0, vr E 94)] dX11_faultOf_67 rfl (by decide) ?_
              refine go_iload (pc := 69) hF dX11_faultOf_69 1 rfl ?_
              refine go_bipush (pc := 71) hF dX11_faultOf_71 (by decide) ?_
              refine go_icmp_eq (pc := 73) hF 80 dX11_faultOf_73 (by decide) (by omega) ⟨by decide, by decide⟩ (fun bq73 => ?_) (fun bq73 => ?_)
              · exact absurd bq73 (by omega)
              · refine go_iconst (pc := 76) hF dX11_faultOf_76 ?_
                refine go_goto (pc := 77) hF 81 dX11_faultOf_77 (by decide) ?_
                refine go_istore_n (pc := 81) hF [(3, vi 1), (6, vi 0), (5, vi (tx ii)), (4, vi ii), (2, vi lk₉), (1, vi dp), (0, vr E 94)] dX11_faultOf_81 rfl (by decide) ?_
                refine go_goto (pc := 82) hF 337 dX11_faultOf_82 (by decide) ?_
                refine go_iload (pc := 337) hF dX11_faultOf_337 1 rfl ?_
                refine go_if_ne (pc := 339) hF 345 dX11_faultOf_339 (by decide) ⟨by decide, by decide⟩ (fun bq339 => ?_) (fun bq339 => ?_)
                · exact absurd bq339 (by decide)
                · refine go_iload (pc := 342) hF dX11_faultOf_342 3 rfl ?_
                  exact go_iretQ hF hr hlk hQ dX11_faultOf_344 ⟨hz.symm, _, _, _, _, ⟨zx, w2₉, w3₉, w4₉, (fun jj hjj => by rw [fr₉ jj (by omega), f_s1 jj (by omega)])⟩, fun h => absurd h (by omega)⟩
            · exact absurd bq59 (by omega)
      · exact absurd bq36 (by omega)
  have h_look : ∀ (ii dp lk₉ rz : Int) (rs op₉ ib : Int → Int) (ρ : Nat → va_E), fW E s1₉ un sz₉ tl hi₉ mi ak rt cn ρ rs op₉ ib rz → 0 ≤ ii ∧ ii < tl → (0 ≤ dp ∧ dp ≤ 3) ∧ (0 ≤ lk₉ ∧ lk₉ ≤ 24) ∧ 0 ≤ rz ∧ rz ≤ ii → 97 ≤ tx ii ∧ tx ii ≤ 102 → lk₉ < 24 → (∀ ρ', fW E s1₉ un sz₉ tl hi₉ mi ak rt cn ρ' (up rs rz (tx ii)) op₉ ib (rz + 1) → Go E p e R s m args below meth c Q 7 (0, 0) N ρ' [(4, vi (ii + 1)), (3, vi 0), (2, vi (lk₉ + 1)), (1, vi dp), (0, vr E 94)] [] 14) → Go E p e R s m args below meth c Q 7 (0, 0) N ρ [(4, vi ii), (3, vi 0), (2, vi lk₉), (1, vi dp), (0, vr E 94)] [] 14 := by
    intro ii dp lk₉ rz rs op₉ ib ρ hW hi9 hcm h0 h1 hK₉
    obtain ⟨zx, w2₉, w3₉, w4₉, fr₉⟩ := hW
    have zt := (fr₉ 101 (by omega)).trans tx_s1
    refine go_iload (pc := 14) hF dX11_faultOf_14 0 rfl ?_
    refine go_aload_n (pc := 16) hF dX11_faultOf_16 4 rfl ?_
    refine go_get (pc := 17) hF fl_X11_151 dX11_faultOf_17 (by omega) zx rfl ?_
    refine go_icmp_ge (pc := 20) hF 386 dX11_faultOf_20 (by decide) (by omega) (by omega) (fun bq20 => ?_) (fun bq20 => ?_)
    · exact absurd bq20 (by omega)
    · refine go_aload_n (pc := 23) hF dX11_faultOf_23 4 rfl ?_
      refine go_get (pc := 24) hF fl_X11_28 dX11_faultOf_24 (by omega) zx rfl ?_
      refine go_iload (pc := 27) hF dX11_faultOf_27 0 rfl ?_
      refine go_iald (pc := 29) hF dX11_faultOf_29 (by omega) zt (by omega)  ?_
      refine go_istore (pc := 30) hF [(5, vi (tx ii)), (4, vi ii), (3, vi 0), (2, vi lk₉), (1, vi dp), (0, vr E 94)] dX11_faultOf_30 rfl (by decide) ?_
      refine go_iload (pc := 32) hF dX11_faultOf_32 0 rfl ?_
      refine go_bipush (pc := 34) hF dX11_faultOf_34 (by decide) ?_
      refine go_icmp_ne (pc := 36) hF 43 dX11_faultOf_36 (by decide) (by omega) ⟨by decide, by decide⟩ (fun bq36 => ?_) (fun bq36 => ?_)
      · refine go_iconst (pc := 43) hF dX11_faultOf_43 ?_
        refine go_istore (pc := 44) hF [(6, vi 0), (5, vi (tx ii)), (4, vi ii), (3, vi 0), (2, vi lk₉), (1, vi dp), (0, vr E 94)] dX11_faultOf_44 rfl (by decide) ?_
        refine go_iload_n (pc := 46) hF dX11_faultOf_46 3 rfl ?_
        refine go_if_eq (pc := 47) hF 85 dX11_faultOf_47 (by decide) ⟨by decide, by decide⟩ (fun bq47 => ?_) (fun bq47 => ?_)
        · refine go_iload (pc := 85) hF dX11_faultOf_85 1 rfl ?_
          refine go_callSP (pc := 87) hF [vi (tx ii)] [] ms_X11_168 dX11_faultOf_87 (show CP E M_X11_isLook 2 [vi (tx ii)] N ρ 1 from (by have h := c_X11_isLook E N ρ (tx ii) (by omega); rw [bI_t (by omega)] at h; exact h)) rfl rfl (Nat.le_of_ble_eq_true rfl) (by decide) ⟨Nat.zero_le _, Nat.zero_le _⟩ ?_
          refine go_if_eq (pc := 90) hF 112 dX11_faultOf_90 (by decide) ⟨by decide, by decide⟩ (fun bq90 => ?_) (fun bq90 => ?_)
          · exact absurd bq90 (by decide)
          · refine go_iinc (pc := 93) hF [(2, vi (lk₉ + 1)), (6, vi 0), (5, vi (tx ii)), (4, vi ii), (3, vi 0), (1, vi dp), (0, vr E 94)] dX11_faultOf_93 4 rfl rfl (by decide) ?_
            refine go_iload_n (pc := 96) hF dX11_faultOf_96 0 rfl ?_
            refine go_bipush (pc := 97) hF dX11_faultOf_97 (by decide) ?_
            refine go_icmp_gt (pc := 99) hF 106 dX11_faultOf_99 (by decide) (by omega) ⟨by decide, by decide⟩ (fun bq99 => ?_) (fun bq99 => ?_)
            · exact absurd bq99 (by omega)
            · refine go_iconst (pc := 102) hF dX11_faultOf_102 ?_
              refine go_goto (pc := 103) hF 107 dX11_faultOf_103 (by decide) ?_
              refine go_istore (pc := 107) hF [(6, vi 1), (2, vi (lk₉ + 1)), (5, vi (tx ii)), (4, vi ii), (3, vi 0), (1, vi dp), (0, vr E 94)] dX11_faultOf_107 rfl (by decide) ?_
              refine go_goto (pc := 109) hF 337 dX11_faultOf_109 (by decide) ?_
              refine go_iload (pc := 337) hF dX11_faultOf_337 0 rfl ?_
              refine go_if_ne (pc := 339) hF 345 dX11_faultOf_339 (by decide) ⟨by decide, by decide⟩ (fun bq339 => ?_) (fun bq339 => ?_)
              · refine go_iload (pc := 345) hF dX11_faultOf_345 2 rfl ?_
                refine go_bipush (pc := 347) hF dX11_faultOf_347 (by decide) ?_
                refine go_icmp_eq (pc := 349) hF 380 dX11_faultOf_349 (by decide) (by omega) ⟨by decide, by decide⟩ (fun bq349 => ?_) (fun bq349 => ?_)
                · exact absurd bq349 (by omega)
                · refine go_iload (pc := 352) hF dX11_faultOf_352 2 rfl ?_
                  refine go_bipush (pc := 354) hF dX11_faultOf_354 (by decide) ?_
                  refine go_icmp_eq (pc := 356) hF 380 dX11_faultOf_356 (by decide) (by omega) ⟨by decide, by decide⟩ (fun bq356 => ?_) (fun bq356 => ?_)
                  · exact absurd bq356 (by omega)
                  · refine go_aload_n (pc := 359) hF dX11_faultOf_359 6 rfl ?_
                    refine go_get (pc := 360) hF fl_X11_31 dX11_faultOf_360 (by omega) zx rfl ?_
                    refine go_aload_n (pc := 363) hF dX11_faultOf_363 6 rfl ?_
                    refine go_get (pc := 364) hF fl_X11_165 dX11_faultOf_364 (by omega) zx rfl ?_
                    refine go_iload (pc := 367) hF dX11_faultOf_367 2 rfl ?_
                    refine go_iast (pc := 369) hF dX11_faultOf_369 (by omega) w2₉ (by omega) (fun s2₉ u_s2 f_s2 => ?_)
                    have x_s2 := (f_s2 94 (by omega)).trans zx
                    have tx_s2 := (f_s2 101 (by omega)).trans zt
                    have op_s2 := (f_s2 103 (by omega)).trans w3₉
                    have ib_s2 := (f_s2 104 (by omega)).trans w4₉
                    refine go_aload_n (pc := 370) hF dX11_faultOf_370 6 rfl ?_
                    refine go_dup (pc := 371) hF dX11_faultOf_371 rfl ?_
                    refine go_get (pc := 372) hF fl_X11_165 dX11_faultOf_372 (by omega) x_s2 rfl ?_
                    refine go_iconst (pc := 375) hF dX11_faultOf_375 ?_
                    refine go_iadd (pc := 376) hF dX11_faultOf_376 ?_
                    refine go_put (pc := 377) hF [vr E 95, vr E 96, vi un, vr E 97, vr E 98, vr E 99, vr E 100, vi sz₉, vr E 101, vi tl, vr E 102, vi (rz + 1), vr E 103, vr E 104, vr E 105, vr E 106, vr E 107, vr E 108, vr E 109, vr E 110, vr E 111, vr E 112, vr E 113, vr E 114, vr E 115, vr E 116, vr E 117, vr E 118, vr E 119, vi hi₉, vi mi, vi ak, vi rt, vi cn] fl_X11_165 dX11_faultOf_377 (by omega) x_s2 rfl rfl rfl (Nat.le_of_ble_eq_true rfl) (fun s3₉ u_s3 f_s3 => ?_)
                    have tx_s3 := (f_s3 101 (by omega)).trans tx_s2
                    have rs_s3 := (f_s3 102 (by omega)).trans u_s2
                    have op_s3 := (f_s3 103 (by omega)).trans op_s2
                    have ib_s3 := (f_s3 104 (by omega)).trans ib_s2
                    refine go_iinc (pc := 380) hF [(4, vi (ii + 1)), (6, vi 1), (2, vi (lk₉ + 1)), (5, vi (tx ii)), (3, vi 0), (1, vi dp), (0, vr E 94)] dX11_faultOf_380 3 rfl rfl (by decide) ?_
                    refine go_goto (pc := 383) hF 14 dX11_faultOf_383 (by decide) ?_
                    refine go_lv [(4, vi (ii + 1)), (3, vi 0), (2, vi (lk₉ + 1)), (1, vi dp), (0, vr E 94)] [0, 4, 2, 5, 6] rfl ?_
                    exact hK₉ _ ⟨u_s3, rs_s3, op_s3, ib_s3, (fun jj hjj => by rw [f_s3 jj (by omega), f_s2 jj (by omega), fr₉ jj (by omega)])⟩
              · exact absurd bq339 (by decide)
        · exact absurd bq47 (by decide)
      · exact absurd bq36 (by omega)
  have h_lookno : ∀ (ii dp lk₉ rz : Int) (rs op₉ ib : Int → Int) (ρ : Nat → va_E), fW E s1₉ un sz₉ tl hi₉ mi ak rt cn ρ rs op₉ ib rz → 0 ≤ ii ∧ ii < tl → (0 ≤ dp ∧ dp ≤ 3) ∧ (0 ≤ lk₉ ∧ lk₉ ≤ 24) ∧ 0 ≤ rz ∧ rz ≤ ii → 97 ≤ tx ii ∧ tx ii ≤ 102 → 24 ≤ lk₉ → zEnd tx tl = ii → Go E p e R s m args below meth c Q 7 (0, 0) N ρ [(4, vi ii), (3, vi 0), (2, vi lk₉), (1, vi dp), (0, vr E 94)] [] 14 := by
    intro ii dp lk₉ rz rs op₉ ib ρ hW hi9 hcm h0 h1 hz
    obtain ⟨zx, w2₉, w3₉, w4₉, fr₉⟩ := hW
    have zt := (fr₉ 101 (by omega)).trans tx_s1
    refine go_iload (pc := 14) hF dX11_faultOf_14 0 rfl ?_
    refine go_aload_n (pc := 16) hF dX11_faultOf_16 4 rfl ?_
    refine go_get (pc := 17) hF fl_X11_151 dX11_faultOf_17 (by omega) zx rfl ?_
    refine go_icmp_ge (pc := 20) hF 386 dX11_faultOf_20 (by decide) (by omega) (by omega) (fun bq20 => ?_) (fun bq20 => ?_)
    · exact absurd bq20 (by omega)
    · refine go_aload_n (pc := 23) hF dX11_faultOf_23 4 rfl ?_
      refine go_get (pc := 24) hF fl_X11_28 dX11_faultOf_24 (by omega) zx rfl ?_
      refine go_iload (pc := 27) hF dX11_faultOf_27 0 rfl ?_
      refine go_iald (pc := 29) hF dX11_faultOf_29 (by omega) zt (by omega)  ?_
      refine go_istore (pc := 30) hF [(5, vi (tx ii)), (4, vi ii), (3, vi 0), (2, vi lk₉), (1, vi dp), (0, vr E 94)] dX11_faultOf_30 rfl (by decide) ?_
      refine go_iload (pc := 32) hF dX11_faultOf_32 0 rfl ?_
      refine go_bipush (pc := 34) hF dX11_faultOf_34 (by decide) ?_
      refine go_icmp_ne (pc := 36) hF 43 dX11_faultOf_36 (by decide) (by omega) ⟨by decide, by decide⟩ (fun bq36 => ?_) (fun bq36 => ?_)
      · refine go_iconst (pc := 43) hF dX11_faultOf_43 ?_
        refine go_istore (pc := 44) hF [(6, vi 0), (5, vi (tx ii)), (4, vi ii), (3, vi 0), (2, vi lk₉), (1, vi dp), (0, vr E 94)] dX11_faultOf_44 rfl (by decide) ?_
        refine go_iload_n (pc := 46) hF dX11_faultOf_46 3 rfl ?_
        refine go_if_eq (pc := 47) hF 85 dX11_faultOf_47 (by decide) ⟨by decide, by decide⟩ (fun bq47 => ?_) (fun bq47 => ?_)
        · refine go_iload (pc := 85) hF dX11_faultOf_85 1 rfl ?_
          refine go_callSP (pc := 87) hF [vi (tx ii)] [] ms_X11_168 dX11_faultOf_87 (show CP E M_X11_isLook 2 [vi (tx ii)] N ρ 1 from (by have h := c_X11_isLook E N ρ (tx ii) (by omega); rw [bI_t (by omega)] at h; exact h)) rfl rfl (Nat.le_of_ble_eq_true rfl) (by decide) ⟨Nat.zero_le _, Nat.zero_le _⟩ ?_
          refine go_if_eq (pc := 90) hF 112 dX11_faultOf_90 (by decide) ⟨by decide, by decide⟩ (fun bq90 => ?_) (fun bq90 => ?_)
          · exact absurd bq90 (by decide)
          · refine go_iinc (pc := 93) hF [(2, vi (lk₉ + 1)), (6, vi 0), (5, vi (tx ii)), (4, vi ii), (3, vi 0), (1, vi dp), (0, vr E 94)] dX11_faultOf_93 4 rfl rfl (by decide) ?_
            refine go_iload_n (pc := 96) hF dX11_faultOf_96 0 rfl ?_
            refine go_bipush (pc := 97) hF dX11_faultOf_97 (by decide) ?_
            refine go_icmp_gt (pc := 99) hF 106 dX11_faultOf_99 (by decide) (by omega) ⟨by decide, by decide⟩ (fun bq99 => ?_) (fun bq99 => ?_)
            · refine go_iconst (pc := 106) hF dX11_faultOf_106 ?_
              refine go_istore (pc := 107) hF [(6, vi 0), (2, vi (lk₉ + 1)), (5, vi (tx ii)), (4, vi ii), (3, vi 0), (1, vi dp), (0, vr E 94)] dX11_faultOf_107 rfl (by decide) ?_
              refine go_goto (pc := 109) hF 337 dX11_faultOf_109 (by decide) ?_
              refine go_iload (pc := 337) hF dX11_faultOf_337 0 rfl ?_
              refine go_if_ne (pc := 339) hF 345 dX11_faultOf_339 (by decide) ⟨by decide, by decide⟩ (fun bq339 => ?_) (fun bq339 => ?_)
              · exact absurd bq339 (by decide)
              · refine go_iload (pc := 342) hF dX11_faultOf_342 3 rfl ?_
                exact go_iretQ hF hr hlk hQ dX11_faultOf_344 ⟨hz.symm, _, _, _, _, ⟨zx, w2₉, w3₉, w4₉, (fun jj hjj => by rw [fr₉ jj (by omega), f_s1 jj (by omega)])⟩, fun h => absurd h (by omega)⟩
            · exact absurd bq99 (by omega)
        · exact absurd bq47 (by decide)
      · exact absurd bq36 (by omega)
  have h_opn : ∀ (ii dp lk₉ rz : Int) (rs op₉ ib : Int → Int) (ρ : Nat → va_E), fW E s1₉ un sz₉ tl hi₉ mi ak rt cn ρ rs op₉ ib rz → 0 ≤ ii ∧ ii < tl → (0 ≤ dp ∧ dp ≤ 3) ∧ (0 ≤ lk₉ ∧ lk₉ ≤ 24) ∧ 0 ≤ rz ∧ rz ≤ ii → tx ii = 40 → dp < 3 → (∀ ρ', fW E s1₉ un sz₉ tl hi₉ mi ak rt cn ρ' (up rs rz 40) (up op₉ dp 40) (up ib dp 0) (rz + 1) → Go E p e R s m args below meth c Q 7 (0, 0) N ρ' [(4, vi (ii + 1)), (3, vi 0), (2, vi lk₉), (1, vi (dp + 1)), (0, vr E 94)] [] 14) → Go E p e R s m args below meth c Q 7 (0, 0) N ρ [(4, vi ii), (3, vi 0), (2, vi lk₉), (1, vi dp), (0, vr E 94)] [] 14 := by
    intro ii dp lk₉ rz rs op₉ ib ρ hW hi9 hcm h0 h1 hK₉
    obtain ⟨zx, w2₉, w3₉, w4₉, fr₉⟩ := hW
    have zt := (fr₉ 101 (by omega)).trans tx_s1
    refine go_iload (pc := 14) hF dX11_faultOf_14 0 rfl ?_
    refine go_aload_n (pc := 16) hF dX11_faultOf_16 4 rfl ?_
    refine go_get (pc := 17) hF fl_X11_151 dX11_faultOf_17 (by omega) zx rfl ?_
    refine go_icmp_ge (pc := 20) hF 386 dX11_faultOf_20 (by decide) (by omega) (by omega) (fun bq20 => ?_) (fun bq20 => ?_)
    · exact absurd bq20 (by omega)
    · refine go_aload_n (pc := 23) hF dX11_faultOf_23 4 rfl ?_
      refine go_get (pc := 24) hF fl_X11_28 dX11_faultOf_24 (by omega) zx rfl ?_
      refine go_iload (pc := 27) hF dX11_faultOf_27 0 rfl ?_
      refine go_iald (pc := 29) hF dX11_faultOf_29 (by omega) zt (by omega)  ?_
      rw [h0]
      refine go_istore (pc := 30) hF [(5, vi 40), (4, vi ii), (3, vi 0), (2, vi lk₉), (1, vi dp), (0, vr E 94)] dX11_faultOf_30 rfl (by decide) ?_
      refine go_iload (pc := 32) hF dX11_faultOf_32 0 rfl ?_
      refine go_bipush (pc := 34) hF dX11_faultOf_34 (by decide) ?_
      refine go_icmp_ne (pc := 36) hF 43 dX11_faultOf_36 (by decide) ⟨by decide, by decide⟩ ⟨by decide, by decide⟩ (fun bq36 => ?_) (fun bq36 => ?_)
      · refine go_iconst (pc := 43) hF dX11_faultOf_43 ?_
        refine go_istore (pc := 44) hF [(6, vi 0), (5, vi 40), (4, vi ii), (3, vi 0), (2, vi lk₉), (1, vi dp), (0, vr E 94)] dX11_faultOf_44 rfl (by decide) ?_
        refine go_iload_n (pc := 46) hF dX11_faultOf_46 3 rfl ?_
        refine go_if_eq (pc := 47) hF 85 dX11_faultOf_47 (by decide) ⟨by decide, by decide⟩ (fun bq47 => ?_) (fun bq47 => ?_)
        · refine go_iload (pc := 85) hF dX11_faultOf_85 1 rfl ?_
          refine go_callSP (pc := 87) hF [vi 40] [] ms_X11_168 dX11_faultOf_87 (show CP E M_X11_isLook 2 [vi 40] N ρ 0 from (by have h := c_X11_isLook E N ρ 40 (by omega); rw [bI_f (by omega)] at h; exact h)) rfl rfl (Nat.le_of_ble_eq_true rfl) (by decide) ⟨Nat.zero_le _, Nat.zero_le _⟩ ?_
          refine go_if_eq (pc := 90) hF 112 dX11_faultOf_90 (by decide) ⟨by decide, by decide⟩ (fun bq90 => ?_) (fun bq90 => ?_)
          · refine go_iload (pc := 112) hF dX11_faultOf_112 1 rfl ?_
            refine go_bipush (pc := 114) hF dX11_faultOf_114 (by decide) ?_
            refine go_icmp_eq (pc := 116) hF 127 dX11_faultOf_116 (by decide) ⟨by decide, by decide⟩ ⟨by decide, by decide⟩ (fun bq116 => ?_) (fun bq116 => ?_)
            · refine go_iload_n (pc := 127) hF dX11_faultOf_127 5 rfl ?_
              refine go_iconst (pc := 128) hF dX11_faultOf_128 ?_
              refine go_icmp_ge (pc := 129) hF 136 dX11_faultOf_129 (by decide) (by omega) ⟨by decide, by decide⟩ (fun bq129 => ?_) (fun bq129 => ?_)
              · exact absurd bq129 (by omega)
              · refine go_iconst (pc := 132) hF dX11_faultOf_132 ?_
                refine go_goto (pc := 133) hF 137 dX11_faultOf_133 (by decide) ?_
                refine go_istore (pc := 137) hF [(6, vi 1), (5, vi 40), (4, vi ii), (3, vi 0), (2, vi lk₉), (1, vi dp), (0, vr E 94)] dX11_faultOf_137 rfl (by decide) ?_
                refine go_iload (pc := 139) hF dX11_faultOf_139 0 rfl ?_
                refine go_if_eq (pc := 141) hF 162 dX11_faultOf_141 (by decide) ⟨by decide, by decide⟩ (fun bq141 => ?_) (fun bq141 => ?_)
                · exact absurd bq141 (by decide)
                · refine go_aload_n (pc := 144) hF dX11_faultOf_144 6 rfl ?_
                  refine go_get (pc := 145) hF fl_X11_34 dX11_faultOf_145 (by omega) zx rfl ?_
                  refine go_iload_n (pc := 148) hF dX11_faultOf_148 5 rfl ?_
                  refine go_iload (pc := 149) hF dX11_faultOf_149 1 rfl ?_
                  refine go_iast (pc := 151) hF dX11_faultOf_151 (by omega) w3₉ (by omega) (fun s4₉ u_s4 f_s4 => ?_)
                  have x_s4 := (f_s4 94 (by omega)).trans zx
                  have tx_s4 := (f_s4 101 (by omega)).trans zt
                  have rs_s4 := (f_s4 102 (by omega)).trans w2₉
                  have ib_s4 := (f_s4 104 (by omega)).trans w4₉
                  refine go_aload_n (pc := 152) hF dX11_faultOf_152 6 rfl ?_
                  refine go_get (pc := 153) hF fl_X11_37 dX11_faultOf_153 (by omega) x_s4 rfl ?_
                  refine go_iload_n (pc := 156) hF dX11_faultOf_156 5 rfl ?_
                  refine go_iconst (pc := 157) hF dX11_faultOf_157 ?_
                  refine go_zast (pc := 158) hF dX11_faultOf_158 (by omega) ib_s4 (by omega) (by decide) (fun s5 u_s5 f_s5 => ?_)
                  have x_s5 := (f_s5 94 (by omega)).trans x_s4
                  have tx_s5 := (f_s5 101 (by omega)).trans tx_s4
                  have rs_s5 := (f_s5 102 (by omega)).trans rs_s4
                  have op_s5 := (f_s5 103 (by omega)).trans u_s4
                  refine go_iinc (pc := 159) hF [(1, vi (dp + 1)), (6, vi 1), (5, vi 40), (4, vi ii), (3, vi 0), (2, vi lk₉), (0, vr E 94)] dX11_faultOf_159 5 rfl rfl (by decide) ?_
                  refine go_iload (pc := 162) hF dX11_faultOf_162 2 rfl ?_
                  refine go_callSP (pc := 164) hF [vi 40] [] ms_X11_171 dX11_faultOf_164 (show CP E M_X11_isFigure 2 [vi 40] N s5 0 from (by have h := c_X11_isFigure E N s5 40 (by omega); rw [bI_f (by omega)] at h; exact h)) rfl rfl (Nat.le_of_ble_eq_true rfl) (by decide) ⟨Nat.zero_le _, Nat.zero_le _⟩ ?_
                  refine go_istore_n (pc := 167) hF [(3, vi 0), (1, vi (dp + 1)), (6, vi 1), (5, vi 40), (4, vi ii), (2, vi lk₉), (0, vr E 94)] dX11_faultOf_167 rfl (by decide) ?_
                  refine go_goto (pc := 168) hF 337 dX11_faultOf_168 (by decide) ?_
                  refine go_iload (pc := 337) hF dX11_faultOf_337 2 rfl ?_
                  refine go_if_ne (pc := 339) hF 345 dX11_faultOf_339 (by decide) ⟨by decide, by decide⟩ (fun bq339 => ?_) (fun bq339 => ?_)
                  · refine go_iload (pc := 345) hF dX11_faultOf_345 3 rfl ?_
                    refine go_bipush (pc := 347) hF dX11_faultOf_347 (by decide) ?_
                    refine go_icmp_eq (pc := 349) hF 380 dX11_faultOf_349 (by decide) ⟨by decide, by decide⟩ ⟨by decide, by decide⟩ (fun bq349 => ?_) (fun bq349 => ?_)
                    · exact absurd bq349 (by decide)
                    · refine go_iload (pc := 352) hF dX11_faultOf_352 3 rfl ?_
                      refine go_bipush (pc := 354) hF dX11_faultOf_354 (by decide) ?_
                      refine go_icmp_eq (pc := 356) hF 380 dX11_faultOf_356 (by decide) ⟨by decide, by decide⟩ ⟨by decide, by decide⟩ (fun bq356 => ?_) (fun bq356 => ?_)
                      · exact absurd bq356 (by decide)
                      · refine go_aload_n (pc := 359) hF dX11_faultOf_359 6 rfl ?_
                        refine go_get (pc := 360) hF fl_X11_31 dX11_faultOf_360 (by omega) x_s5 rfl ?_
                        refine go_aload_n (pc := 363) hF dX11_faultOf_363 6 rfl ?_
                        refine go_get (pc := 364) hF fl_X11_165 dX11_faultOf_364 (by omega) x_s5 rfl ?_
                        refine go_iload (pc := 367) hF dX11_faultOf_367 3 rfl ?_
                        refine go_iast (pc := 369) hF dX11_faultOf_369 (by omega) rs_s5 (by omega) (fun s6₉ u_s6 f_s6 => ?_)
                        have x_s6 := (f_s6 94 (by omega)).trans x_s5
                        have tx_s6 := (f_s6 101 (by omega)).trans tx_s5
                        have op_s6 := (f_s6 103 (by omega)).trans op_s5
                        have ib_s6 := (f_s6 104 (by omega)).trans u_s5
                        refine go_aload_n (pc := 370) hF dX11_faultOf_370 6 rfl ?_
                        refine go_dup (pc := 371) hF dX11_faultOf_371 rfl ?_
                        refine go_get (pc := 372) hF fl_X11_165 dX11_faultOf_372 (by omega) x_s6 rfl ?_
                        refine go_iconst (pc := 375) hF dX11_faultOf_375 ?_
                        refine go_iadd (pc := 376) hF dX11_faultOf_376 ?_
                        refine go_put (pc := 377) hF [vr E 95, vr E 96, vi un, vr E 97, vr E 98, vr E 99, vr E 100, vi sz₉, vr E 101, vi tl, vr E 102, vi (rz + 1), vr E 103, vr E 104, vr E 105, vr E 106, vr E 107, vr E 108, vr E 109, vr E 110, vr E 111, vr E 112, vr E 113, vr E 114, vr E 115, vr E 116, vr E 117, vr E 118, vr E 119, vi hi₉, vi mi, vi ak, vi rt, vi cn] fl_X11_165 dX11_faultOf_377 (by omega) x_s6 rfl rfl rfl (Nat.le_of_ble_eq_true rfl) (fun s7 u_s7 f_s7 => ?_)
                        have tx_s7 := (f_s7 101 (by omega)).trans tx_s6
                        have rs_s7 := (f_s7 102 (by omega)).trans u_s6
                        have op_s7 := (f_s7 103 (by omega)).trans op_s6
                        have ib_s7 := (f_s7 104 (by omega)).trans ib_s6
                        refine go_iinc (pc := 380) hF [(4, vi (ii + 1)), (3, vi 0), (1, vi (dp + 1)), (6, vi 1), (5, vi 40), (2, vi lk₉), (0, vr E 94)] dX11_faultOf_380 4 rfl rfl (by decide) ?_
                        refine go_goto (pc := 383) hF 14 dX11_faultOf_383 (by decide) ?_
                        refine go_lv [(4, vi (ii + 1)), (3, vi 0), (2, vi lk₉), (1, vi (dp + 1)), (0, vr E 94)] [0, 1, 5, 2, 6] rfl ?_
                        exact hK₉ _ ⟨u_s7, rs_s7, op_s7, ib_s7, (fun jj hjj => by rw [f_s7 jj (by omega), f_s6 jj (by omega), f_s5 jj (by omega), f_s4 jj (by omega), fr₉ jj (by omega)])⟩
                  · exact absurd bq339 (by decide)
            · exact absurd bq116 (by decide)
          · exact absurd bq90 (by decide)
        · exact absurd bq47 (by decide)
      · exact absurd bq36 (by decide)
  have h_opnno : ∀ (ii dp lk₉ rz : Int) (rs op₉ ib : Int → Int) (ρ : Nat → va_E), fW E s1₉ un sz₉ tl hi₉ mi ak rt cn ρ rs op₉ ib rz → 0 ≤ ii ∧ ii < tl → (0 ≤ dp ∧ dp ≤ 3) ∧ (0 ≤ lk₉ ∧ lk₉ ≤ 24) ∧ 0 ≤ rz ∧ rz ≤ ii → tx ii = 40 → 3 ≤ dp → zEnd tx tl = ii → Go E p e R s m args below meth c Q 7 (0, 0) N ρ [(4, vi ii), (3, vi 0), (2, vi lk₉), (1, vi dp), (0, vr E 94)] [] 14 := by
    intro ii dp lk₉ rz rs op₉ ib ρ hW hi9 hcm h0 h1 hz
    obtain ⟨zx, w2₉, w3₉, w4₉, fr₉⟩ := hW
    have zt := (fr₉ 101 (by omega)).trans tx_s1
    refine go_iload (pc := 14) hF dX11_faultOf_14 0 rfl ?_
    refine go_aload_n (pc := 16) hF dX11_faultOf_16 4 rfl ?_
    refine go_get (pc := 17) hF fl_X11_151 dX11_faultOf_17 (by omega) zx rfl ?_
    refine go_icmp_ge (pc := 20) hF 386 dX11_faultOf_20 (by decide) (by omega) (by omega) (fun bq20 => ?_) (fun bq20 => ?_)
    · exact absurd bq20 (by omega)
    · refine go_aload_n (pc := 23) hF dX11_faultOf_23 4 rfl ?_
      refine go_get (pc := 24) hF fl_X11_28 dX11_faultOf_24 (by omega) zx rfl ?_
      refine go_iload (pc := 27) hF dX11_faultOf_27 0 rfl ?_
      refine go_iald (pc := 29) hF dX11_faultOf_29 (by omega) zt (by omega)  ?_
      rw [h0]
      refine go_istore (pc := 30) hF [(5, vi 40), (4, vi ii), (3, vi 0), (2, vi lk₉), (1, vi dp), (0, vr E 94)] dX11_faultOf_30 rfl (by decide) ?_
      refine go_iload (pc := 32) hF dX11_faultOf_32 0 rfl ?_
      refine go_bipush (pc := 34) hF dX11_faultOf_34 (by decide) ?_
      refine go_icmp_ne (pc := 36) hF 43 dX11_faultOf_36 (by decide) ⟨by decide, by decide⟩ ⟨by decide, by decide⟩ (fun bq36 => ?_) (fun bq36 => ?_)
      · refine go_iconst (pc := 43) hF dX11_faultOf_43 ?_
        refine go_istore (pc := 44) hF [(6, vi 0), (5, vi 40), (4, vi ii), (3, vi 0), (2, vi lk₉), (1, vi dp), (0, vr E 94)] dX11_faultOf_44 rfl (by decide) ?_
        refine go_iload_n (pc := 46) hF dX11_faultOf_46 3 rfl ?_
        refine go_if_eq (pc := 47) hF 85 dX11_faultOf_47 (by decide) ⟨by decide, by decide⟩ (fun bq47 => ?_) (fun bq47 => ?_)
        · refine go_iload (pc := 85) hF dX11_faultOf_85 1 rfl ?_
          refine go_callSP (pc := 87) hF [vi 40] [] ms_X11_168 dX11_faultOf_87 (show CP E M_X11_isLook 2 [vi 40] N ρ 0 from (by have h := c_X11_isLook E N ρ 40 (by omega); rw [bI_f (by omega)] at h; exact h)) rfl rfl (Nat.le_of_ble_eq_true rfl) (by decide) ⟨Nat.zero_le _, Nat.zero_le _⟩ ?_
          refine go_if_eq (pc := 90) hF 112 dX11_faultOf_90 (by decide) ⟨by decide, by decide⟩ (fun bq90 => ?_) (fun bq90 => ?_)
          · refine go_iload (pc := 112) hF dX11_faultOf_112 1 rfl ?_
            refine go_bipush (pc := 114) hF dX11_faultOf_114 (by decide) ?_
            refine go_icmp_eq (pc := 116) hF 127 dX11_faultOf_116 (by decide) ⟨by decide, by decide⟩ ⟨by decide, by decide⟩ (fun bq116 => ?_) (fun bq116 => ?_)
            · refine go_iload_n (pc := 127) hF dX11_faultOf_127 5 rfl ?_
              refine go_iconst (pc := 128) hF dX11_faultOf_128 ?_
              refine go_icmp_ge (pc := 129) hF 136 dX11_faultOf_129 (by decide) (by omega) ⟨by decide, by decide⟩ (fun bq129 => ?_) (fun bq129 => ?_)
              · refine go_iconst (pc := 136) hF dX11_faultOf_136 ?_
                refine go_istore (pc := 137) hF [(6, vi 0), (5, vi 40), (4, vi ii), (3, vi 0), (2, vi lk₉), (1, vi dp), (0, vr E 94)] dX11_faultOf_137 rfl (by decide) ?_
                refine go_iload (pc := 139) hF dX11_faultOf_139 0 rfl ?_
                refine go_if_eq (pc := 141) hF 162 dX11_faultOf_141 (by decide) ⟨by decide, by decide⟩ (fun bq141 => ?_) (fun bq141 => ?_)
                · refine go_iload (pc := 162) hF dX11_faultOf_162 1 rfl ?_
                  refine go_callSP (pc := 164) hF [vi 40] [] ms_X11_171 dX11_faultOf_164 (show CP E M_X11_isFigure 2 [vi 40] N ρ 0 from (by have h := c_X11_isFigure E N ρ 40 (by omega); rw [bI_f (by omega)] at h; exact h)) rfl rfl (Nat.le_of_ble_eq_true rfl) (by decide) ⟨Nat.zero_le _, Nat.zero_le _⟩ ?_
                  refine go_istore_n (pc := 167) hF [(3, vi 0), (6, vi 0), (5, vi 40), (4, vi ii), (2, vi lk₉), (1, vi dp), (0, vr E 94)] dX11_faultOf_167 rfl (by decide) ?_
                  refine go_goto (pc := 168) hF 337 dX11_faultOf_168 (by decide) ?_
                  refine go_iload (pc := 337) hF dX11_faultOf_337 1 rfl ?_
                  refine go_if_ne (pc := 339) hF 345 dX11_faultOf_339 (by decide) ⟨by decide, by decide⟩ (fun bq339 => ?_) (fun bq339 => ?_)
                  · exact absurd bq339 (by decide)
                  · refine go_iload (pc := 342) hF dX11_faultOf_342 3 rfl ?_
                    exact go_iretQ hF hr hlk hQ dX11_faultOf_344 ⟨hz.symm, _, _, _, _, ⟨zx, w2₉, w3₉, w4₉, (fun jj hjj => by rw [fr₉ jj (by omega), f_s1 jj (by omega)])⟩, fun h => absurd h (by omega)⟩
                · exact absurd bq141 (by decide)
              · exact absurd bq129 (by omega)
            · exact absurd bq116 (by decide)
          · exact absurd bq90 (by decide)
        · exact absurd bq47 (by decide)
      · exact absurd bq36 (by decide)
  have h_fig : ∀ (ii dp lk₉ rz : Int) (rs op₉ ib : Int → Int) (ρ : Nat → va_E), fW E s1₉ un sz₉ tl hi₉ mi ak rt cn ρ rs op₉ ib rz → 0 ≤ ii ∧ ii < tl → (0 ≤ dp ∧ dp ≤ 3) ∧ (0 ≤ lk₉ ∧ lk₉ ≤ 24) ∧ 0 ≤ rz ∧ rz ≤ ii → 49 ≤ tx ii ∧ tx ii ≤ 57 → dp < 3 → (∀ ρ', fW E s1₉ un sz₉ tl hi₉ mi ak rt cn ρ' (up rs rz (tx ii)) (up op₉ dp (tx ii)) (up ib dp 0) (rz + 1) → Go E p e R s m args below meth c Q 7 (0, 0) N ρ' [(4, vi (ii + 1)), (3, vi 1), (2, vi lk₉), (1, vi (dp + 1)), (0, vr E 94)] [] 14) → Go E p e R s m args below meth c Q 7 (0, 0) N ρ [(4, vi ii), (3, vi 0), (2, vi lk₉), (1, vi dp), (0, vr E 94)] [] 14 := by
    intro ii dp lk₉ rz rs op₉ ib ρ hW hi9 hcm h0 h1 hK₉
    obtain ⟨zx, w2₉, w3₉, w4₉, fr₉⟩ := hW
    have zt := (fr₉ 101 (by omega)).trans tx_s1
    refine go_iload (pc := 14) hF dX11_faultOf_14 0 rfl ?_
    refine go_aload_n (pc := 16) hF dX11_faultOf_16 4 rfl ?_
    refine go_get (pc := 17) hF fl_X11_151 dX11_faultOf_17 (by omega) zx rfl ?_
    refine go_icmp_ge (pc := 20) hF 386 dX11_faultOf_20 (by decide) (by omega) (by omega) (fun bq20 => ?_) (fun bq20 => ?_)
    · exact absurd bq20 (by omega)
    · refine go_aload_n (pc := 23) hF dX11_faultOf_23 4 rfl ?_
      refine go_get (pc := 24) hF fl_X11_28 dX11_faultOf_24 (by omega) zx rfl ?_
      refine go_iload (pc := 27) hF dX11_faultOf_27 0 rfl ?_
      refine go_iald (pc := 29) hF dX11_faultOf_29 (by omega) zt (by omega)  ?_
      refine go_istore (pc := 30) hF [(5, vi (tx ii)), (4, vi ii), (3, vi 0), (2, vi lk₉), (1, vi dp), (0, vr E 94)] dX11_faultOf_30 rfl (by decide) ?_
      refine go_iload (pc := 32) hF dX11_faultOf_32 0 rfl ?_
      refine go_bipush (pc := 34) hF dX11_faultOf_34 (by decide) ?_
      refine go_icmp_ne (pc := 36) hF 43 dX11_faultOf_36 (by decide) (by omega) ⟨by decide, by decide⟩ (fun bq36 => ?_) (fun bq36 => ?_)
      · refine go_iconst (pc := 43) hF dX11_faultOf_43 ?_
        refine go_istore (pc := 44) hF [(6, vi 0), (5, vi (tx ii)), (4, vi ii), (3, vi 0), (2, vi lk₉), (1, vi dp), (0, vr E 94)] dX11_faultOf_44 rfl (by decide) ?_
        refine go_iload_n (pc := 46) hF dX11_faultOf_46 3 rfl ?_
        refine go_if_eq (pc := 47) hF 85 dX11_faultOf_47 (by decide) ⟨by decide, by decide⟩ (fun bq47 => ?_) (fun bq47 => ?_)
        · refine go_iload (pc := 85) hF dX11_faultOf_85 1 rfl ?_
          refine go_callSP (pc := 87) hF [vi (tx ii)] [] ms_X11_168 dX11_faultOf_87 (show CP E M_X11_isLook 2 [vi (tx ii)] N ρ 0 from (by have h := c_X11_isLook E N ρ (tx ii) (by omega); rw [bI_f (by omega)] at h; exact h)) rfl rfl (Nat.le_of_ble_eq_true rfl) (by decide) ⟨Nat.zero_le _, Nat.zero_le _⟩ ?_
          refine go_if_eq (pc := 90) hF 112 dX11_faultOf_90 (by decide) ⟨by decide, by decide⟩ (fun bq90 => ?_) (fun bq90 => ?_)
          · refine go_iload (pc := 112) hF dX11_faultOf_112 1 rfl ?_
            refine go_bipush (pc := 114) hF dX11_faultOf_114 (by decide) ?_
            refine go_icmp_eq (pc := 116) hF 127 dX11_faultOf_116 (by decide) (by omega) ⟨by decide, by decide⟩ (fun bq116 => ?_) (fun bq116 => ?_)
            · exact absurd bq116 (by omega)
            · refine go_iload (pc := 119) hF dX11_faultOf_119 1 rfl ?_
              refine go_callSP (pc := 121) hF [vi (tx ii)] [] ms_X11_171 dX11_faultOf_121 (show CP E M_X11_isFigure 2 [vi (tx ii)] N ρ 1 from (by have h := c_X11_isFigure E N ρ (tx ii) (by omega); rw [bI_t (by omega)] at h; exact h)) rfl rfl (Nat.le_of_ble_eq_true rfl) (by decide) ⟨Nat.zero_le _, Nat.zero_le _⟩ ?_
              refine go_if_eq (pc := 124) hF 171 dX11_faultOf_124 (by decide) ⟨by decide, by decide⟩ (fun bq124 => ?_) (fun bq124 => ?_)
              · exact absurd bq124 (by decide)
              · refine go_iload_n (pc := 127) hF dX11_faultOf_127 5 rfl ?_
                refine go_iconst (pc := 128) hF dX11_faultOf_128 ?_
                refine go_icmp_ge (pc := 129) hF 136 dX11_faultOf_129 (by decide) (by omega) ⟨by decide, by decide⟩ (fun bq129 => ?_) (fun bq129 => ?_)
                · exact absurd bq129 (by omega)
                · refine go_iconst (pc := 132) hF dX11_faultOf_132 ?_
                  refine go_goto (pc := 133) hF 137 dX11_faultOf_133 (by decide) ?_
                  refine go_istore (pc := 137) hF [(6, vi 1), (5, vi (tx ii)), (4, vi ii), (3, vi 0), (2, vi lk₉), (1, vi dp), (0, vr E 94)] dX11_faultOf_137 rfl (by decide) ?_
                  refine go_iload (pc := 139) hF dX11_faultOf_139 0 rfl ?_
                  refine go_if_eq (pc := 141) hF 162 dX11_faultOf_141 (by decide) ⟨by decide, by decide⟩ (fun bq141 => ?_) (fun bq141 => ?_)
                  · exact absurd bq141 (by decide)
                  · refine go_aload_n (pc := 144) hF dX11_faultOf_144 6 rfl ?_
                    refine go_get (pc := 145) hF fl_X11_34 dX11_faultOf_145 (by omega) zx rfl ?_
                    refine go_iload_n (pc := 148) hF dX11_faultOf_148 5 rfl ?_
                    refine go_iload (pc := 149) hF dX11_faultOf_149 1 rfl ?_
                    refine go_iast (pc := 151) hF dX11_faultOf_151 (by omega) w3₉ (by omega) (fun s8 u_s8 f_s8 => ?_)
                    have x_s8 := (f_s8 94 (by omega)).trans zx
                    have tx_s8 := (f_s8 101 (by omega)).trans zt
                    have rs_s8 := (f_s8 102 (by omega)).trans w2₉
                    have ib_s8 := (f_s8 104 (by omega)).trans w4₉
                    refine go_aload_n (pc := 152) hF dX11_faultOf_152 6 rfl ?_
                    refine go_get (pc := 153) hF fl_X11_37 dX11_faultOf_153 (by omega) x_s8 rfl ?_
                    refine go_iload_n (pc := 156) hF dX11_faultOf_156 5 rfl ?_
                    refine go_iconst (pc := 157) hF dX11_faultOf_157 ?_
                    refine go_zast (pc := 158) hF dX11_faultOf_158 (by omega) ib_s8 (by omega) (by decide) (fun s9 u_s9 f_s9 => ?_)
                    have x_s9 := (f_s9 94 (by omega)).trans x_s8
                    have tx_s9 := (f_s9 101 (by omega)).trans tx_s8
                    have rs_s9 := (f_s9 102 (by omega)).trans rs_s8
                    have op_s9 := (f_s9 103 (by omega)).trans u_s8
                    refine go_iinc (pc := 159) hF [(1, vi (dp + 1)), (6, vi 1), (5, vi (tx ii)), (4, vi ii), (3, vi 0), (2, vi lk₉), (0, vr E 94)] dX11_faultOf_159 5 rfl rfl (by decide) ?_
                    refine go_iload (pc := 162) hF dX11_faultOf_162 2 rfl ?_
                    refine go_callSP (pc := 164) hF [vi (tx ii)] [] ms_X11_171 dX11_faultOf_164 (show CP E M_X11_isFigure 2 [vi (tx ii)] N s9 1 from (by have h := c_X11_isFigure E N s9 (tx ii) (by omega); rw [bI_t (by omega)] at h; exact h)) rfl rfl (Nat.le_of_ble_eq_true rfl) (by decide) ⟨Nat.zero_le _, Nat.zero_le _⟩ ?_
                    refine go_istore_n (pc := 167) hF [(3, vi 1), (1, vi (dp + 1)), (6, vi 1), (5, vi (tx ii)), (4, vi ii), (2, vi lk₉), (0, vr E 94)] dX11_faultOf_167 rfl (by decide) ?_
                    refine go_goto (pc := 168) hF 337 dX11_faultOf_168 (by decide) ?_
                    refine go_iload (pc := 337) hF dX11_faultOf_337 2 rfl ?_
                    refine go_if_ne (pc := 339) hF 345 dX11_faultOf_339 (by decide) ⟨by decide, by decide⟩ (fun bq339 => ?_) (fun bq339 => ?_)
                    · refine go_iload (pc := 345) hF dX11_faultOf_345 3 rfl ?_
                      refine go_bipush (pc := 347) hF dX11_faultOf_347 (by decide) ?_
                      refine go_icmp_eq (pc := 349) hF 380 dX11_faultOf_349 (by decide) (by omega) ⟨by decide, by decide⟩ (fun bq349 => ?_) (fun bq349 => ?_)
                      · exact absurd bq349 (by omega)
                      · refine go_iload (pc := 352) hF dX11_faultOf_352 3 rfl ?_
                        refine go_bipush (pc := 354) hF dX11_faultOf_354 (by decide) ?_
                        refine go_icmp_eq (pc := 356) hF 380 dX11_faultOf_356 (by decide) (by omega) ⟨by decide, by decide⟩ (fun bq356 => ?_) (fun bq356 => ?_)
                        · exact absurd bq356 (by omega)
                        · refine go_aload_n (pc := 359) hF dX11_faultOf_359 6 rfl ?_
                          refine go_get (pc := 360) hF fl_X11_31 dX11_faultOf_360 (by omega) x_s9 rfl ?_
                          refine go_aload_n (pc := 363) hF dX11_faultOf_363 6 rfl ?_
                          refine go_get (pc := 364) hF fl_X11_165 dX11_faultOf_364 (by omega) x_s9 rfl ?_
                          refine go_iload (pc := 367) hF dX11_faultOf_367 3 rfl ?_
                          refine go_iast (pc := 369) hF dX11_faultOf_369 (by omega) rs_s9 (by omega) (fun s10 u_s10 f_s10 => ?_)
                          have x_s10 := (f_s10 94 (by omega)).trans x_s9
                          have tx_s10 := (f_s10 101 (by omega)).trans tx_s9
                          have op_s10 := (f_s10 103 (by omega)).trans op_s9
                          have ib_s10 := (f_s10 104 (by omega)).trans u_s9
                          refine go_aload_n (pc := 370) hF dX11_faultOf_370 6 rfl ?_
                          refine go_dup (pc := 371) hF dX11_faultOf_371 rfl ?_
                          refine go_get (pc := 372) hF fl_X11_165 dX11_faultOf_372 (by omega) x_s10 rfl ?_
                          refine go_iconst (pc := 375) hF dX11_faultOf_375 ?_
                          refine go_iadd (pc := 376) hF dX11_faultOf_376 ?_
                          refine go_put (pc := 377) hF [vr E 95, vr E 96, vi un, vr E 97, vr E 98, vr E 99, vr E 100, vi sz₉, vr E 101, vi tl, vr E 102, vi (rz + 1), vr E 103, vr E 104, vr E 105, vr E 106, vr E 107, vr E 108, vr E 109, vr E 110, vr E 111, vr E 112, vr E 113, vr E 114, vr E 115, vr E 116, vr E 117, vr E 118, vr E 119, vi hi₉, vi mi, vi ak, vi rt, vi cn] fl_X11_165 dX11_faultOf_377 (by omega) x_s10 rfl rfl rfl (Nat.le_of_ble_eq_true rfl) (fun s11 u_s11 f_s11 => ?_)
                          have tx_s11 := (f_s11 101 (by omega)).trans tx_s10
                          have rs_s11 := (f_s11 102 (by omega)).trans u_s10
                          have op_s11 := (f_s11 103 (by omega)).trans op_s10
                          have ib_s11 := (f_s11 104 (by omega)).trans ib_s10
                          refine go_iinc (pc := 380) hF [(4, vi (ii + 1)), (3, vi 1), (1, vi (dp + 1)), (6, vi 1), (5, vi (tx ii)), (2, vi lk₉), (0, vr E 94)] dX11_faultOf_380 4 rfl rfl (by decide) ?_
                          refine go_goto (pc := 383) hF 14 dX11_faultOf_383 (by decide) ?_
                          refine go_lv [(4, vi (ii + 1)), (3, vi 1), (2, vi lk₉), (1, vi (dp + 1)), (0, vr E 94)] [0, 1, 5, 2, 6] rfl ?_
                          exact hK₉ _ ⟨u_s11, rs_s11, op_s11, ib_s11, (fun jj hjj => by rw [f_s11 jj (by omega), f_s10 jj (by omega), f_s9 jj (by omega), f_s8 jj (by omega), fr₉ jj (by omega)])⟩
                    · exact absurd bq339 (by decide)
          · exact absurd bq90 (by decide)
        · exact absurd bq47 (by decide)
      · exact absurd bq36 (by omega)
  have h_figno : ∀ (ii dp lk₉ rz : Int) (rs op₉ ib : Int → Int) (ρ : Nat → va_E), fW E s1₉ un sz₉ tl hi₉ mi ak rt cn ρ rs op₉ ib rz → 0 ≤ ii ∧ ii < tl → (0 ≤ dp ∧ dp ≤ 3) ∧ (0 ≤ lk₉ ∧ lk₉ ≤ 24) ∧ 0 ≤ rz ∧ rz ≤ ii → 49 ≤ tx ii ∧ tx ii ≤ 57 → 3 ≤ dp → zEnd tx tl = ii → Go E p e R s m args below meth c Q 7 (0, 0) N ρ [(4, vi ii), (3, vi 0), (2, vi lk₉), (1, vi dp), (0, vr E 94)] [] 14 := by
    intro ii dp lk₉ rz rs op₉ ib ρ hW hi9 hcm h0 h1 hz
    obtain ⟨zx, w2₉, w3₉, w4₉, fr₉⟩ := hW
    have zt := (fr₉ 101 (by omega)).trans tx_s1
    refine go_iload (pc := 14) hF dX11_faultOf_14 0 rfl ?_
    refine go_aload_n (pc := 16) hF dX11_faultOf_16 4 rfl ?_
    refine go_get (pc := 17) hF fl_X11_151 dX11_faultOf_17 (by omega) zx rfl ?_
    refine go_icmp_ge (pc := 20) hF 386 dX11_faultOf_20 (by decide) (by omega) (by omega) (fun bq20 => ?_) (fun bq20 => ?_)
    · exact absurd bq20 (by omega)
    · refine go_aload_n (pc := 23) hF dX11_faultOf_23 4 rfl ?_
      refine go_get (pc := 24) hF fl_X11_28 dX11_faultOf_24 (by omega) zx rfl ?_
      refine go_iload (pc := 27) hF dX11_faultOf_27 0 rfl ?_
      refine go_iald (pc := 29) hF dX11_faultOf_29 (by omega) zt (by omega)  ?_
      refine go_istore (pc := 30) hF [(5, vi (tx ii)), (4, vi ii), (3, vi 0), (2, vi lk₉), (1, vi dp), (0, vr E 94)] dX11_faultOf_30 rfl (by decide) ?_
      refine go_iload (pc := 32) hF dX11_faultOf_32 0 rfl ?_
      refine go_bipush (pc := 34) hF dX11_faultOf_34 (by decide) ?_
      refine go_icmp_ne (pc := 36) hF 43 dX11_faultOf_36 (by decide) (by omega) ⟨by decide, by decide⟩ (fun bq36 => ?_) (fun bq36 => ?_)
      · refine go_iconst (pc := 43) hF dX11_faultOf_43 ?_
        refine go_istore (pc := 44) hF [(6, vi 0), (5, vi (tx ii)), (4, vi ii), (3, vi 0), (2, vi lk₉), (1, vi dp), (0, vr E 94)] dX11_faultOf_44 rfl (by decide) ?_
        refine go_iload_n (pc := 46) hF dX11_faultOf_46 3 rfl ?_
        refine go_if_eq (pc := 47) hF 85 dX11_faultOf_47 (by decide) ⟨by decide, by decide⟩ (fun bq47 => ?_) (fun bq47 => ?_)
        · refine go_iload (pc := 85) hF dX11_faultOf_85 1 rfl ?_
          refine go_callSP (pc := 87) hF [vi (tx ii)] [] ms_X11_168 dX11_faultOf_87 (show CP E M_X11_isLook 2 [vi (tx ii)] N ρ 0 from (by have h := c_X11_isLook E N ρ (tx ii) (by omega); rw [bI_f (by omega)] at h; exact h)) rfl rfl (Nat.le_of_ble_eq_true rfl) (by decide) ⟨Nat.zero_le _, Nat.zero_le _⟩ ?_
          refine go_if_eq (pc := 90) hF 112 dX11_faultOf_90 (by decide) ⟨by decide, by decide⟩ (fun bq90 => ?_) (fun bq90 => ?_)
          · refine go_iload (pc := 112) hF dX11_faultOf_112 1 rfl ?_
            refine go_bipush (pc := 114) hF dX11_faultOf_114 (by decide) ?_
            refine go_icmp_eq (pc := 116) hF 127 dX11_faultOf_116 (by decide) (by omega) ⟨by decide, by decide⟩ (fun bq116 => ?_) (fun bq116 => ?_)
            · exact absurd bq116 (by omega)
            · refine go_iload (pc := 119) hF dX11_faultOf_119 1 rfl ?_
              refine go_callSP (pc := 121) hF [vi (tx ii)] [] ms_X11_171 dX11_faultOf_121 (show CP E M_X11_isFigure 2 [vi (tx ii)] N ρ 1 from (by have h := c_X11_isFigure E N ρ (tx ii) (by omega); rw [bI_t (by omega)] at h; exact h)) rfl rfl (Nat.le_of_ble_eq_true rfl) (by decide) ⟨Nat.zero_le _, Nat.zero_le _⟩ ?_
              refine go_if_eq (pc := 124) hF 171 dX11_faultOf_124 (by decide) ⟨by decide, by decide⟩ (fun bq124 => ?_) (fun bq124 => ?_)
              · exact absurd bq124 (by decide)
              · refine go_iload_n (pc := 127) hF dX11_faultOf_127 5 rfl ?_
                refine go_iconst (pc := 128) hF dX11_faultOf_128 ?_
                refine go_icmp_ge (pc := 129) hF 136 dX11_faultOf_129 (by decide) (by omega) ⟨by decide, by decide⟩ (fun bq129 => ?_) (fun bq129 => ?_)
                · refine go_iconst (pc := 136) hF dX11_faultOf_136 ?_
                  refine go_istore (pc := 137) hF [(6, vi 0), (5, vi (tx ii)), (4, vi ii), (3, vi 0), (2, vi lk₉), (1, vi dp), (0, vr E 94)] dX11_faultOf_137 rfl (by decide) ?_
                  refine go_iload (pc := 139) hF dX11_faultOf_139 0 rfl ?_
                  refine go_if_eq (pc := 141) hF 162 dX11_faultOf_141 (by decide) ⟨by decide, by decide⟩ (fun bq141 => ?_) (fun bq141 => ?_)
                  · refine go_iload (pc := 162) hF dX11_faultOf_162 1 rfl ?_
                    refine go_callSP (pc := 164) hF [vi (tx ii)] [] ms_X11_171 dX11_faultOf_164 (show CP E M_X11_isFigure 2 [vi (tx ii)] N ρ 1 from (by have h := c_X11_isFigure E N ρ (tx ii) (by omega); rw [bI_t (by omega)] at h; exact h)) rfl rfl (Nat.le_of_ble_eq_true rfl) (by decide) ⟨Nat.zero_le _, Nat.zero_le _⟩ ?_
                    refine go_istore_n (pc := 167) hF [(3, vi 1), (6, vi 0), (5, vi (tx ii)), (4, vi ii), (2, vi lk₉), (1, vi dp), (0, vr E 94)] dX11_faultOf_167 rfl (by decide) ?_
                    refine go_goto (pc := 168) hF 337 dX11_faultOf_168 (by decide) ?_
                    refine go_iload (pc := 337) hF dX11_faultOf_337 1 rfl ?_
                    refine go_if_ne (pc := 339) hF 345 dX11_faultOf_339 (by decide) ⟨by decide, by decide⟩ (fun bq339 => ?_) (fun bq339 => ?_)
                    · exact absurd bq339 (by decide)
                    · refine go_iload (pc := 342) hF dX11_faultOf_342 3 rfl ?_
                      exact go_iretQ hF hr hlk hQ dX11_faultOf_344 ⟨hz.symm, _, _, _, _, ⟨zx, w2₉, w3₉, w4₉, (fun jj hjj => by rw [fr₉ jj (by omega), f_s1 jj (by omega)])⟩, fun h => absurd h (by omega)⟩
                  · exact absurd bq141 (by decide)
                · exact absurd bq129 (by omega)
          · exact absurd bq90 (by decide)
        · exact absurd bq47 (by decide)
      · exact absurd bq36 (by omega)
  have h_bar : ∀ (ii dp lk₉ rz : Int) (rs op₉ ib : Int → Int) (ρ : Nat → va_E), fW E s1₉ un sz₉ tl hi₉ mi ak rt cn ρ rs op₉ ib rz → 0 ≤ ii ∧ ii < tl → (0 ≤ dp ∧ dp ≤ 3) ∧ (0 ≤ lk₉ ∧ lk₉ ≤ 24) ∧ 0 ≤ rz ∧ rz ≤ ii → tx ii = 124 → 0 < dp → op₉ (dp - 1) = 40 → ib (dp - 1) = 0 → (∀ ρ', fW E s1₉ un sz₉ tl hi₉ mi ak rt cn ρ' (up rs rz 124) op₉ (up ib (dp - 1) 1) (rz + 1) → Go E p e R s m args below meth c Q 7 (0, 0) N ρ' [(4, vi (ii + 1)), (3, vi 0), (2, vi lk₉), (1, vi dp), (0, vr E 94)] [] 14) → Go E p e R s m args below meth c Q 7 (0, 0) N ρ [(4, vi ii), (3, vi 0), (2, vi lk₉), (1, vi dp), (0, vr E 94)] [] 14 := by
    intro ii dp lk₉ rz rs op₉ ib ρ hW hi9 hcm h0 h1 h2 h3 hK₉
    obtain ⟨zx, w2₉, w3₉, w4₉, fr₉⟩ := hW
    have zt := (fr₉ 101 (by omega)).trans tx_s1
    refine go_iload (pc := 14) hF dX11_faultOf_14 0 rfl ?_
    refine go_aload_n (pc := 16) hF dX11_faultOf_16 4 rfl ?_
    refine go_get (pc := 17) hF fl_X11_151 dX11_faultOf_17 (by omega) zx rfl ?_
    refine go_icmp_ge (pc := 20) hF 386 dX11_faultOf_20 (by decide) (by omega) (by omega) (fun bq20 => ?_) (fun bq20 => ?_)
    · exact absurd bq20 (by omega)
    · refine go_aload_n (pc := 23) hF dX11_faultOf_23 4 rfl ?_
      refine go_get (pc := 24) hF fl_X11_28 dX11_faultOf_24 (by omega) zx rfl ?_
      refine go_iload (pc := 27) hF dX11_faultOf_27 0 rfl ?_
      refine go_iald (pc := 29) hF dX11_faultOf_29 (by omega) zt (by omega)  ?_
      rw [h0]
      refine go_istore (pc := 30) hF [(5, vi 124), (4, vi ii), (3, vi 0), (2, vi lk₉), (1, vi dp), (0, vr E 94)] dX11_faultOf_30 rfl (by decide) ?_
      refine go_iload (pc := 32) hF dX11_faultOf_32 0 rfl ?_
      refine go_bipush (pc := 34) hF dX11_faultOf_34 (by decide) ?_
      refine go_icmp_ne (pc := 36) hF 43 dX11_faultOf_36 (by decide) ⟨by decide, by decide⟩ ⟨by decide, by decide⟩ (fun bq36 => ?_) (fun bq36 => ?_)
      · refine go_iconst (pc := 43) hF dX11_faultOf_43 ?_
        refine go_istore (pc := 44) hF [(6, vi 0), (5, vi 124), (4, vi ii), (3, vi 0), (2, vi lk₉), (1, vi dp), (0, vr E 94)] dX11_faultOf_44 rfl (by decide) ?_
        refine go_iload_n (pc := 46) hF dX11_faultOf_46 3 rfl ?_
        refine go_if_eq (pc := 47) hF 85 dX11_faultOf_47 (by decide) ⟨by decide, by decide⟩ (fun bq47 => ?_) (fun bq47 => ?_)
        · refine go_iload (pc := 85) hF dX11_faultOf_85 1 rfl ?_
          refine go_callSP (pc := 87) hF [vi 124] [] ms_X11_168 dX11_faultOf_87 (show CP E M_X11_isLook 2 [vi 124] N ρ 0 from (by have h := c_X11_isLook E N ρ 124 (by omega); rw [bI_f (by omega)] at h; exact h)) rfl rfl (Nat.le_of_ble_eq_true rfl) (by decide) ⟨Nat.zero_le _, Nat.zero_le _⟩ ?_
          refine go_if_eq (pc := 90) hF 112 dX11_faultOf_90 (by decide) ⟨by decide, by decide⟩ (fun bq90 => ?_) (fun bq90 => ?_)
          · refine go_iload (pc := 112) hF dX11_faultOf_112 1 rfl ?_
            refine go_bipush (pc := 114) hF dX11_faultOf_114 (by decide) ?_
            refine go_icmp_eq (pc := 116) hF 127 dX11_faultOf_116 (by decide) ⟨by decide, by decide⟩ ⟨by decide, by decide⟩ (fun bq116 => ?_) (fun bq116 => ?_)
            · exact absurd bq116 (by decide)
            · refine go_iload (pc := 119) hF dX11_faultOf_119 1 rfl ?_
              refine go_callSP (pc := 121) hF [vi 124] [] ms_X11_171 dX11_faultOf_121 (show CP E M_X11_isFigure 2 [vi 124] N ρ 0 from (by have h := c_X11_isFigure E N ρ 124 (by omega); rw [bI_f (by omega)] at h; exact h)) rfl rfl (Nat.le_of_ble_eq_true rfl) (by decide) ⟨Nat.zero_le _, Nat.zero_le _⟩ ?_
              refine go_if_eq (pc := 124) hF 171 dX11_faultOf_124 (by decide) ⟨by decide, by decide⟩ (fun bq124 => ?_) (fun bq124 => ?_)
              · refine go_iload (pc := 171) hF dX11_faultOf_171 1 rfl ?_
                refine go_bipush (pc := 173) hF dX11_faultOf_173 (by decide) ?_
                refine go_icmp_ne (pc := 175) hF 230 dX11_faultOf_175 (by decide) ⟨by decide, by decide⟩ ⟨by decide, by decide⟩ (fun bq175 => ?_) (fun bq175 => ?_)
                · exact absurd bq175 (by decide)
                · refine go_iload_n (pc := 178) hF dX11_faultOf_178 5 rfl ?_
                  refine go_if_le (pc := 179) hF 210 dX11_faultOf_179 (by decide) (by omega) (fun bq179 => ?_) (fun bq179 => ?_)
                  · exact absurd bq179 (by omega)
                  · refine go_aload_n (pc := 182) hF dX11_faultOf_182 6 rfl ?_
                    refine go_get (pc := 183) hF fl_X11_34 dX11_faultOf_183 (by omega) zx rfl ?_
                    refine go_iload_n (pc := 186) hF dX11_faultOf_186 5 rfl ?_
                    refine go_iconst (pc := 187) hF dX11_faultOf_187 ?_
                    refine go_isub (pc := 188) hF dX11_faultOf_188 ?_
                    refine go_iald (pc := 189) hF dX11_faultOf_189 (by omega) w3₉ (by omega)  ?_
                    rw [h2]
                    refine go_bipush (pc := 190) hF dX11_faultOf_190 (by decide) ?_
                    refine go_icmp_ne (pc := 192) hF 210 dX11_faultOf_192 (by decide) ⟨by decide, by decide⟩ ⟨by decide, by decide⟩ (fun bq192 => ?_) (fun bq192 => ?_)
                    · exact absurd bq192 (by decide)
                    · refine go_aload_n (pc := 195) hF dX11_faultOf_195 6 rfl ?_
                      refine go_get (pc := 196) hF fl_X11_37 dX11_faultOf_196 (by omega) zx rfl ?_
                      refine go_iload_n (pc := 199) hF dX11_faultOf_199 5 rfl ?_
                      refine go_iconst (pc := 200) hF dX11_faultOf_200 ?_
                      refine go_isub (pc := 201) hF dX11_faultOf_201 ?_
                      refine go_zald (pc := 202) hF dX11_faultOf_202 (by omega) w4₉ (by omega)  ?_
                      rw [h3]
                      refine go_if_ne (pc := 203) hF 210 dX11_faultOf_203 (by decide) ⟨by decide, by decide⟩ (fun bq203 => ?_) (fun bq203 => ?_)
                      · exact absurd bq203 (by decide)
                      · refine go_iconst (pc := 206) hF dX11_faultOf_206 ?_
                        refine go_goto (pc := 207) hF 211 dX11_faultOf_207 (by decide) ?_
                        refine go_istore (pc := 211) hF [(6, vi 1), (5, vi 124), (4, vi ii), (3, vi 0), (2, vi lk₉), (1, vi dp), (0, vr E 94)] dX11_faultOf_211 rfl (by decide) ?_
                        refine go_iload (pc := 213) hF dX11_faultOf_213 0 rfl ?_
                        refine go_if_eq (pc := 215) hF 337 dX11_faultOf_215 (by decide) ⟨by decide, by decide⟩ (fun bq215 => ?_) (fun bq215 => ?_)
                        · exact absurd bq215 (by decide)
                        · refine go_aload_n (pc := 218) hF dX11_faultOf_218 6 rfl ?_
                          refine go_get (pc := 219) hF fl_X11_37 dX11_faultOf_219 (by omega) zx rfl ?_
                          refine go_iload_n (pc := 222) hF dX11_faultOf_222 5 rfl ?_
                          refine go_iconst (pc := 223) hF dX11_faultOf_223 ?_
                          refine go_isub (pc := 224) hF dX11_faultOf_224 ?_
                          refine go_iconst (pc := 225) hF dX11_faultOf_225 ?_
                          refine go_zast (pc := 226) hF dX11_faultOf_226 (by omega) w4₉ (by omega) (by decide) (fun s12 u_s12 f_s12 => ?_)
                          have x_s12 := (f_s12 94 (by omega)).trans zx
                          have tx_s12 := (f_s12 101 (by omega)).trans zt
                          have rs_s12 := (f_s12 102 (by omega)).trans w2₉
                          have op_s12 := (f_s12 103 (by omega)).trans w3₉
                          refine go_goto (pc := 227) hF 337 dX11_faultOf_227 (by decide) ?_
                          refine go_iload (pc := 337) hF dX11_faultOf_337 0 rfl ?_
                          refine go_if_ne (pc := 339) hF 345 dX11_faultOf_339 (by decide) ⟨by decide, by decide⟩ (fun bq339 => ?_) (fun bq339 => ?_)
                          · refine go_iload (pc := 345) hF dX11_faultOf_345 1 rfl ?_
                            refine go_bipush (pc := 347) hF dX11_faultOf_347 (by decide) ?_
                            refine go_icmp_eq (pc := 349) hF 380 dX11_faultOf_349 (by decide) ⟨by decide, by decide⟩ ⟨by decide, by decide⟩ (fun bq349 => ?_) (fun bq349 => ?_)
                            · exact absurd bq349 (by decide)
                            · refine go_iload (pc := 352) hF dX11_faultOf_352 1 rfl ?_
                              refine go_bipush (pc := 354) hF dX11_faultOf_354 (by decide) ?_
                              refine go_icmp_eq (pc := 356) hF 380 dX11_faultOf_356 (by decide) ⟨by decide, by decide⟩ ⟨by decide, by decide⟩ (fun bq356 => ?_) (fun bq356 => ?_)
                              · exact absurd bq356 (by decide)
                              · refine go_aload_n (pc := 359) hF dX11_faultOf_359 6 rfl ?_
                                refine go_get (pc := 360) hF fl_X11_31 dX11_faultOf_360 (by omega) x_s12 rfl ?_
                                refine go_aload_n (pc := 363) hF dX11_faultOf_363 6 rfl ?_
                                refine go_get (pc := 364) hF fl_X11_165 dX11_faultOf_364 (by omega) x_s12 rfl ?_
                                refine go_iload (pc := 367) hF dX11_faultOf_367 1 rfl ?_
                                refine go_iast (pc := 369) hF dX11_faultOf_369 (by omega) rs_s12 (by omega) (fun s13 u_s13 f_s13 => ?_)
                                have x_s13 := (f_s13 94 (by omega)).trans x_s12
                                have tx_s13 := (f_s13 101 (by omega)).trans tx_s12
                                have op_s13 := (f_s13 103 (by omega)).trans op_s12
                                have ib_s13 := (f_s13 104 (by omega)).trans u_s12
                                refine go_aload_n (pc := 370) hF dX11_faultOf_370 6 rfl ?_
                                refine go_dup (pc := 371) hF dX11_faultOf_371 rfl ?_
                                refine go_get (pc := 372) hF fl_X11_165 dX11_faultOf_372 (by omega) x_s13 rfl ?_
                                refine go_iconst (pc := 375) hF dX11_faultOf_375 ?_
                                refine go_iadd (pc := 376) hF dX11_faultOf_376 ?_
                                refine go_put (pc := 377) hF [vr E 95, vr E 96, vi un, vr E 97, vr E 98, vr E 99, vr E 100, vi sz₉, vr E 101, vi tl, vr E 102, vi (rz + 1), vr E 103, vr E 104, vr E 105, vr E 106, vr E 107, vr E 108, vr E 109, vr E 110, vr E 111, vr E 112, vr E 113, vr E 114, vr E 115, vr E 116, vr E 117, vr E 118, vr E 119, vi hi₉, vi mi, vi ak, vi rt, vi cn] fl_X11_165 dX11_faultOf_377 (by omega) x_s13 rfl rfl rfl (Nat.le_of_ble_eq_true rfl) (fun s14 u_s14 f_s14 => ?_)
                                have tx_s14 := (f_s14 101 (by omega)).trans tx_s13
                                have rs_s14 := (f_s14 102 (by omega)).trans u_s13
                                have op_s14 := (f_s14 103 (by omega)).trans op_s13
                                have ib_s14 := (f_s14 104 (by omega)).trans ib_s13
                                refine go_iinc (pc := 380) hF [(4, vi (ii + 1)), (6, vi 1), (5, vi 124), (3, vi 0), (2, vi lk₉), (1, vi dp), (0, vr E 94)] dX11_faultOf_380 2 rfl rfl (by decide) ?_
                                refine go_goto (pc := 383) hF 14 dX11_faultOf_383 (by decide) ?_
                                refine go_lv [(4, vi (ii + 1)), (3, vi 0), (2, vi lk₉), (1, vi dp), (0, vr E 94)] [0, 3, 4, 5, 6] rfl ?_
                                exact hK₉ _ ⟨u_s14, rs_s14, op_s14, ib_s14, (fun jj hjj => by rw [f_s14 jj (by omega), f_s13 jj (by omega), f_s12 jj (by omega), fr₉ jj (by omega)])⟩
                          · exact absurd bq339 (by decide)
              · exact absurd bq124 (by decide)
          · exact absurd bq90 (by decide)
        · exact absurd bq47 (by decide)
      · exact absurd bq36 (by decide)
  have h_barno : ∀ (ii dp lk₉ rz : Int) (rs op₉ ib : Int → Int) (ρ : Nat → va_E), fW E s1₉ un sz₉ tl hi₉ mi ak rt cn ρ rs op₉ ib rz → 0 ≤ ii ∧ ii < tl → (0 ≤ dp ∧ dp ≤ 3) ∧ (0 ≤ lk₉ ∧ lk₉ ≤ 24) ∧ 0 ≤ rz ∧ rz ≤ ii → tx ii = 124 → ¬ (0 < dp ∧ op₉ (dp - 1) = 40 ∧ ib (dp - 1) = 0) → (0 < dp → op₉ (dp - 1) = 40 → 0 ≤ ib (dp - 1) ∧ ib (dp - 1) ≤ 1) → (0 < dp → 0 ≤ op₉ (dp - 1) ∧ op₉ (dp - 1) ≤ 127) → zEnd tx tl = ii → Go E p e R s m args below meth c Q 7 (0, 0) N ρ [(4, vi ii), (3, vi 0), (2, vi lk₉), (1, vi dp), (0, vr E 94)] [] 14 := by
    intro ii dp lk₉ rz rs op₉ ib ρ hW hi9 hcm h0 h1 h2 h3 hz
    obtain ⟨zx, w2₉, w3₉, w4₉, fr₉⟩ := hW
    have zt := (fr₉ 101 (by omega)).trans tx_s1
    refine go_iload (pc := 14) hF dX11_faultOf_14 0 rfl ?_
    refine go_aload_n (pc := 16) hF dX11_faultOf_16 4 rfl ?_
    refine go_get (pc := 17) hF fl_X11_151 dX11_faultOf_17 (by omega) zx rfl ?_
    refine go_icmp_ge (pc := 20) hF 386 dX11_faultOf_20 (by decide) (by omega) (by omega) (fun bq20 => ?_) (fun bq20 => ?_)
    · exact absurd bq20 (by omega)
    · refine go_aload_n (pc := 23) hF dX11_faultOf_23 4 rfl ?_
      refine go_get (pc := 24) hF fl_X11_28 dX11_faultOf_24 (by omega) zx rfl ?_
      refine go_iload (pc := 27) hF dX11_faultOf_27 0 rfl ?_
      refine go_iald (pc := 29) hF dX11_faultOf_29 (by omega) zt (by omega)  ?_
      rw [h0]
      refine go_istore (pc := 30) hF [(5, vi 124), (4, vi ii), (3, vi 0), (2, vi lk₉), (1, vi dp), (0, vr E 94)] dX11_faultOf_30 rfl (by decide) ?_
      refine go_iload (pc := 32) hF dX11_faultOf_32 0 rfl ?_
      refine go_bipush (pc := 34) hF dX11_faultOf_34 (by decide) ?_
      refine go_icmp_ne (pc := 36) hF 43 dX11_faultOf_36 (by decide) ⟨by decide, by decide⟩ ⟨by decide, by decide⟩ (fun bq36 => ?_) (fun bq36 => ?_)
      · refine go_iconst (pc := 43) hF dX11_faultOf_43 ?_
        refine go_istore (pc := 44) hF [(6, vi 0), (5, vi 124), (4, vi ii), (3, vi 0), (2, vi lk₉), (1, vi dp), (0, vr E 94)] dX11_faultOf_44 rfl (by decide) ?_
        refine go_iload_n (pc := 46) hF dX11_faultOf_46 3 rfl ?_
        refine go_if_eq (pc := 47) hF 85 dX11_faultOf_47 (by decide) ⟨by decide, by decide⟩ (fun bq47 => ?_) (fun bq47 => ?_)
        · refine go_iload (pc := 85) hF dX11_faultOf_85 1 rfl ?_
          refine go_callSP (pc := 87) hF [vi 124] [] ms_X11_168 dX11_faultOf_87 (show CP E M_X11_isLook 2 [vi 124] N ρ 0 from (by have h := c_X11_isLook E N ρ 124 (by omega); rw [bI_f (by omega)] at h; exact h)) rfl rfl (Nat.le_of_ble_eq_true rfl) (by decide) ⟨Nat.zero_le _, Nat.zero_le _⟩ ?_
          refine go_if_eq (pc := 90) hF 112 dX11_faultOf_90 (by decide) ⟨by decide, by decide⟩ (fun bq90 => ?_) (fun bq90 => ?_)
          · refine go_iload (pc := 112) hF dX11_faultOf_112 1 rfl ?_
            refine go_bipush (pc := 114) hF dX11_faultOf_114 (by decide) ?_
            refine go_icmp_eq (pc := 116) hF 127 dX11_faultOf_116 (by decide) ⟨by decide, by decide⟩ ⟨by decide, by decide⟩ (fun bq116 => ?_) (fun bq116 => ?_)
            · exact absurd bq116 (by decide)
            · refine go_iload (pc := 119) hF dX11_faultOf_119 1 rfl ?_
              refine go_callSP (pc := 121) hF [vi 124] [] ms_X11_171 dX11_faultOf_121 (show CP E M_X11_isFigure 2 [vi 124] N ρ 0 from (by have h := c_X11_isFigure E N ρ 124 (by omega); rw [bI_f (by omega)] at h; exact h)) rfl rfl (Nat.le_of_ble_eq_true rfl) (by decide) ⟨Nat.zero_le _, Nat.zero_le _⟩ ?_
              refine go_if_eq (pc := 124) hF 171 dX11_faultOf_124 (by decide) ⟨by decide, by decide⟩ (fun bq124 => ?_) (fun bq124 => ?_)
              · refine go_iload (pc := 171) hF dX11_faultOf_171 1 rfl ?_
                refine go_bipush (pc := 173) hF dX11_faultOf_173 (by decide) ?_
                refine go_icmp_ne (pc := 175) hF 230 dX11_faultOf_175 (by decide) ⟨by decide, by decide⟩ ⟨by decide, by decide⟩ (fun bq175 => ?_) (fun bq175 => ?_)
                · exact absurd bq175 (by decide)
                · refine go_iload_n (pc := 178) hF dX11_faultOf_178 5 rfl ?_
                  refine go_if_le (pc := 179) hF 210 dX11_faultOf_179 (by decide) (by omega) (fun bq179 => ?_) (fun bq179 => ?_)
                  · refine go_iconst (pc := 210) hF dX11_faultOf_210 ?_
                    refine go_istore (pc := 211) hF [(6, vi 0), (5, vi 124), (4, vi ii), (3, vi 0), (2, vi lk₉), (1, vi dp), (0, vr E 94)] dX11_faultOf_211 rfl (by decide) ?_
                    refine go_iload (pc := 213) hF dX11_faultOf_213 0 rfl ?_
                    refine go_if_eq (pc := 215) hF 337 dX11_faultOf_215 (by decide) ⟨by decide, by decide⟩ (fun bq215 => ?_) (fun bq215 => ?_)
                    · refine go_iload (pc := 337) hF dX11_faultOf_337 0 rfl ?_
                      refine go_if_ne (pc := 339) hF 345 dX11_faultOf_339 (by decide) ⟨by decide, by decide⟩ (fun bq339 => ?_) (fun bq339 => ?_)
                      · exact absurd bq339 (by decide)
                      · refine go_iload (pc := 342) hF dX11_faultOf_342 2 rfl ?_
                        exact go_iretQ hF hr hlk hQ dX11_faultOf_344 ⟨hz.symm, _, _, _, _, ⟨zx, w2₉, w3₉, w4₉, (fun jj hjj => by rw [fr₉ jj (by omega), f_s1 jj (by omega)])⟩, fun h => absurd h (by omega)⟩
                    · exact absurd bq215 (by decide)
                  · have hop := h3 (by omega)
                    refine go_aload_n (pc := 182) hF dX11_faultOf_182 6 rfl ?_
                    refine go_get (pc := 183) hF fl_X11_34 dX11_faultOf_183 (by omega) zx rfl ?_
                    refine go_iload_n (pc := 186) hF dX11_faultOf_186 5 rfl ?_
                    refine go_iconst (pc := 187) hF dX11_faultOf_187 ?_
                    refine go_isub (pc := 188) hF dX11_faultOf_188 ?_
                    refine go_iald (pc := 189) hF dX11_faultOf_189 (by omega) w3₉ (by omega)  ?_
                    refine go_bipush (pc := 190) hF dX11_faultOf_190 (by decide) ?_
                    refine go_icmp_ne (pc := 192) hF 210 dX11_faultOf_192 (by decide) (by omega) ⟨by decide, by decide⟩ (fun bq192 => ?_) (fun bq192 => ?_)
                    · refine go_iconst (pc := 210) hF dX11_faultOf_210 ?_
                      refine go_istore (pc := 211) hF [(6, vi 0), (5, vi 124), (4, vi ii), (3, vi 0), (2, vi lk₉), (1, vi dp), (0, vr E 94)] dX11_faultOf_211 rfl (by decide) ?_
                      refine go_iload (pc := 213) hF dX11_faultOf_213 0 rfl ?_
                      refine go_if_eq (pc := 215) hF 337 dX11_faultOf_215 (by decide) ⟨by decide, by decide⟩ (fun bq215 => ?_) (fun bq215 => ?_)
                      · refine go_iload (pc := 337) hF dX11_faultOf_337 0 rfl ?_
                        refine go_if_ne (pc := 339) hF 345 dX11_faultOf_339 (by decide) ⟨by decide, by decide⟩ (fun bq339 => ?_) (fun bq339 => ?_)
                        · exact absurd bq339 (by decide)
                        · refine go_iload (pc := 342) hF dX11_faultOf_342 2 rfl ?_
                          exact go_iretQ hF hr hlk hQ dX11_faultOf_344 ⟨hz.symm, _, _, _, _, ⟨zx, w2₉, w3₉, w4₉, (fun jj hjj => by rw [fr₉ jj (by omega), f_s1 jj (by omega)])⟩, fun h => absurd h (by omega)⟩
                      · exact absurd bq215 (by decide)
                    · have hib := h2 (by omega) bq192
                      refine go_aload_n (pc := 195) hF dX11_faultOf_195 6 rfl ?_
                      refine go_get (pc := 196) hF fl_X11_37 dX11_faultOf_196 (by omega) zx rfl ?_
                      refine go_iload_n (pc := 199) hF dX11_faultOf_199 5 rfl ?_
                      refine go_iconst (pc := 200) hF dX11_faultOf_200 ?_
                      refine go_isub (pc := 201) hF dX11_faultOf_201 ?_
                      refine go_zald (pc := 202) hF dX11_faultOf_202 (by omega) w4₉ (by omega)  ?_
                      refine go_if_ne (pc := 203) hF 210 dX11_faultOf_203 (by decide) (by omega) (fun bq203 => ?_) (fun bq203 => ?_)
                      · refine go_iconst (pc := 210) hF dX11_faultOf_210 ?_
                        refine go_istore (pc := 211) hF [(6, vi 0), (5, vi 124), (4, vi ii), (3, vi 0), (2, vi lk₉), (1, vi dp), (0, vr E 94)] dX11_faultOf_211 rfl (by decide) ?_
                        refine go_iload (pc := 213) hF dX11_faultOf_213 0 rfl ?_
                        refine go_if_eq (pc := 215) hF 337 dX11_faultOf_215 (by decide) ⟨by decide, by decide⟩ (fun bq215 => ?_) (fun bq215 => ?_)
                        · refine go_iload (pc := 337) hF dX11_faultOf_337 0 rfl ?_
                          refine go_if_ne (pc := 339) hF 345 dX11_faultOf_339 (by decide) ⟨by decide, by decide⟩ (fun bq339 => ?_) (fun bq339 => ?_)
                          · exact absurd bq339 (by decide)
                          · refine go_iload (pc := 342) hF dX11_faultOf_342 2 rfl ?_
                            exact go_iretQ hF hr hlk hQ dX11_faultOf_344 ⟨hz.symm, _, _, _, _, ⟨zx, w2₉, w3₉, w4₉, (fun jj hjj => by rw [fr₉ jj (by omega), f_s1 jj (by omega)])⟩, fun h => absurd h (by omega)⟩
                        · exact absurd bq215 (by decide)
                      · exact absurd ⟨by omega, bq192, bq203⟩ h1
              · exact absurd bq124 (by decide)
          · exact absurd bq90 (by decide)
        · exact absurd bq47 (by decide)
      · exact absurd bq36 (by decide)
  have h_clo : ∀ (ii dp lk₉ rz : Int) (rs op₉ ib : Int → Int) (ρ : Nat → va_E), fW E s1₉ un sz₉ tl hi₉ mi ak rt cn ρ rs op₉ ib rz → 0 ≤ ii ∧ ii < tl → (0 ≤ dp ∧ dp ≤ 3) ∧ (0 ≤ lk₉ ∧ lk₉ ≤ 24) ∧ 0 ≤ rz ∧ rz ≤ ii → tx ii = 41 → 0 < dp → op₉ (dp - 1) = 40 → ib (dp - 1) = 1 → (∀ ρ', fW E s1₉ un sz₉ tl hi₉ mi ak rt cn ρ' (up rs rz 41) op₉ ib (rz + 1) → Go E p e R s m args below meth c Q 7 (0, 0) N ρ' [(4, vi (ii + 1)), (3, vi 0), (2, vi lk₉), (1, vi (dp - 1)), (0, vr E 94)] [] 14) → Go E p e R s m args below meth c Q 7 (0, 0) N ρ [(4, vi ii), (3, vi 0), (2, vi lk₉), (1, vi dp), (0, vr E 94)] [] 14 := by
    intro ii dp lk₉ rz rs op₉ ib ρ hW hi9 hcm h0 h1 h2 h3 hK₉
    obtain ⟨zx, w2₉, w3₉, w4₉, fr₉⟩ := hW
    have zt := (fr₉ 101 (by omega)).trans tx_s1
    refine go_iload (pc := 14) hF dX11_faultOf_14 0 rfl ?_
    refine go_aload_n (pc := 16) hF dX11_faultOf_16 4 rfl ?_
    refine go_get (pc := 17) hF fl_X11_151 dX11_faultOf_17 (by omega) zx rfl ?_
    refine go_icmp_ge (pc := 20) hF 386 dX11_faultOf_20 (by decide) (by omega) (by omega) (fun bq20 => ?_) (fun bq20 => ?_)
    · exact absurd bq20 (by omega)
    · refine go_aload_n (pc := 23) hF dX11_faultOf_23 4 rfl ?_
      refine go_get (pc := 24) hF fl_X11_28 dX11_faultOf_24 (by omega) zx rfl ?_
      refine go_iload (pc := 27) hF dX11_faultOf_27 0 rfl ?_
      refine go_iald (pc := 29) hF dX11_faultOf_29 (by omega) zt (by omega)  ?_
      rw [h0]
      refine go_istore (pc := 30) hF [(5, vi 41), (4, vi ii), (3, vi 0), (2, vi lk₉), (1, vi dp), (0, vr E 94)] dX11_faultOf_30 rfl (by decide) ?_
      refine go_iload (pc := 32) hF dX11_faultOf_32 0 rfl ?_
      refine go_bipush (pc := 34) hF dX11_faultOf_34 (by decide) ?_
      refine go_icmp_ne (pc := 36) hF 43 dX11_faultOf_36 (by decide) ⟨by decide, by decide⟩ ⟨by decide, by decide⟩ (fun bq36 => ?_) (fun bq36 => ?_)
      · refine go_iconst (pc := 43) hF dX11_faultOf_43 ?_
        refine go_istore (pc := 44) hF [(6, vi 0), (5, vi 41), (4, vi ii), (3, vi 0), (2, vi lk₉), (1, vi dp), (0, vr E 94)] dX11_faultOf_44 rfl (by decide) ?_
        refine go_iload_n (pc := 46) hF dX11_faultOf_46 3 rfl ?_
        refine go_if_eq (pc := 47) hF 85 dX11_faultOf_47 (by decide) ⟨by decide, by decide⟩ (fun bq47 => ?_) (fun bq47 => ?_)
        · refine go_iload (pc := 85) hF dX11_faultOf_85 1 rfl ?_
          refine go_callSP (pc := 87) hF [vi 41] [] ms_X11_168 dX11_faultOf_87 (show CP E M_X11_isLook 2 [vi 41] N ρ 0 from (by have h := c_X11_isLook E N ρ 41 (by omega); rw [bI_f (by omega)] at h; exact h)) rfl rfl (Nat.le_of_ble_eq_true rfl) (by decide) ⟨Nat.zero_le _, Nat.zero_le _⟩ ?_
          refine go_if_eq (pc := 90) hF 112 dX11_faultOf_90 (by decide) ⟨by decide, by decide⟩ (fun bq90 => ?_) (fun bq90 => ?_)
          · refine go_iload (pc := 112) hF dX11_faultOf_112 1 rfl ?_
            refine go_bipush (pc := 114) hF dX11_faultOf_114 (by decide) ?_
            refine go_icmp_eq (pc := 116) hF 127 dX11_faultOf_116 (by decide) ⟨by decide, by decide⟩ ⟨by decide, by decide⟩ (fun bq116 => ?_) (fun bq116 => ?_)
            · exact absurd bq116 (by decide)
            · refine go_iload (pc := 119) hF dX11_faultOf_119 1 rfl ?_
              refine go_callSP (pc := 121) hF [vi 41] [] ms_X11_171 dX11_faultOf_121 (show CP E M_X11_isFigure 2 [vi 41] N ρ 0 from (by have h := c_X11_isFigure E N ρ 41 (by omega); rw [bI_f (by omega)] at h; exact h)) rfl rfl (Nat.le_of_ble_eq_true rfl) (by decide) ⟨Nat.zero_le _, Nat.zero_le _⟩ ?_
              refine go_if_eq (pc := 124) hF 171 dX11_faultOf_124 (by decide) ⟨by decide, by decide⟩ (fun bq124 => ?_) (fun bq124 => ?_)
              · refine go_iload (pc := 171) hF dX11_faultOf_171 1 rfl ?_
                refine go_bipush (pc := 173) hF dX11_faultOf_173 (by decide) ?_
                refine go_icmp_ne (pc := 175) hF 230 dX11_faultOf_175 (by decide) ⟨by decide, by decide⟩ ⟨by decide, by decide⟩ (fun bq175 => ?_) (fun bq175 => ?_)
                · refine go_iload (pc := 230) hF dX11_faultOf_230 1 rfl ?_
                  refine go_bipush (pc := 232) hF dX11_faultOf_232 (by decide) ?_
                  refine go_icmp_eq (pc := 234) hF 244 dX11_faultOf_234 (by decide) ⟨by decide, by decide⟩ ⟨by decide, by decide⟩ (fun bq234 => ?_) (fun bq234 => ?_)
                  · refine go_iload_n (pc := 244) hF dX11_faultOf_244 5 rfl ?_
                    refine go_if_le (pc := 245) hF 299 dX11_faultOf_245 (by decide) (by omega) (fun bq245 => ?_) (fun bq245 => ?_)
                    · exact absurd bq245 (by omega)
                    · refine go_iload (pc := 248) hF dX11_faultOf_248 1 rfl ?_
                      refine go_bipush (pc := 250) hF dX11_faultOf_250 (by decide) ?_
                      refine go_icmp_ne (pc := 252) hF 282 dX11_faultOf_252 (by decide) ⟨by decide, by decide⟩ ⟨by decide, by decide⟩ (fun bq252 => ?_) (fun bq252 => ?_)
                      · exact absurd bq252 (by decide)
                      · refine go_aload_n (pc := 255) hF dX11_faultOf_255 6 rfl ?_
                        refine go_get (pc := 256) hF fl_X11_34 dX11_faultOf_256 (by omega) zx rfl ?_
                        refine go_iload_n (pc := 259) hF dX11_faultOf_259 5 rfl ?_
                        refine go_iconst (pc := 260) hF dX11_faultOf_260 ?_
                        refine go_isub (pc := 261) hF dX11_faultOf_261 ?_
                        refine go_iald (pc := 262) hF dX11_faultOf_262 (by omega) w3₉ (by omega)  ?_
                        rw [h2]
                        refine go_bipush (pc := 263) hF dX11_faultOf_263 (by decide) ?_
                        refine go_icmp_ne (pc := 265) hF 299 dX11_faultOf_265 (by decide) ⟨by decide, by decide⟩ ⟨by decide, by decide⟩ (fun bq265 => ?_) (fun bq265 => ?_)
                        · exact absurd bq265 (by decide)
                        · refine go_aload_n (pc := 268) hF dX11_faultOf_268 6 rfl ?_
                          refine go_get (pc := 269) hF fl_X11_37 dX11_faultOf_269 (by omega) zx rfl ?_
                          refine go_iload_n (pc := 272) hF dX11_faultOf_272 5 rfl ?_
                          refine go_iconst (pc := 273) hF dX11_faultOf_273 ?_
                          refine go_isub (pc := 274) hF dX11_faultOf_274 ?_
                          refine go_zald (pc := 275) hF dX11_faultOf_275 (by omega) w4₉ (by omega)  ?_
                          rw [h3]
                          refine go_if_eq (pc := 276) hF 299 dX11_faultOf_276 (by decide) ⟨by decide, by decide⟩ (fun bq276 => ?_) (fun bq276 => ?_)
                          · exact absurd bq276 (by decide)
                          · refine go_goto (pc := 279) hF 295 dX11_faultOf_279 (by decide) ?_
                            refine go_iconst (pc := 295) hF dX11_faultOf_295 ?_
                            refine go_goto (pc := 296) hF 300 dX11_faultOf_296 (by decide) ?_
                            refine go_istore (pc := 300) hF [(6, vi 1), (5, vi 41), (4, vi ii), (3, vi 0), (2, vi lk₉), (1, vi dp), (0, vr E 94)] dX11_faultOf_300 rfl (by decide) ?_
                            refine go_iload_n (pc := 302) hF dX11_faultOf_302 5 rfl ?_
                            refine go_iload (pc := 303) hF dX11_faultOf_303 0 rfl ?_
                            refine go_if_eq (pc := 305) hF 312 dX11_faultOf_305 (by decide) ⟨by decide, by decide⟩ (fun bq305 => ?_) (fun bq305 => ?_)
                            · exact absurd bq305 (by decide)
                            · refine go_iconst (pc := 308) hF dX11_faultOf_308 ?_
                              refine go_goto (pc := 309) hF 313 dX11_faultOf_309 (by decide) ?_
                              refine go_isub (pc := 313) hF dX11_faultOf_313 ?_
                              refine go_istore_n (pc := 314) hF [(1, vi (dp - 1)), (6, vi 1), (5, vi 41), (4, vi ii), (3, vi 0), (2, vi lk₉), (0, vr E 94)] dX11_faultOf_314 rfl (by decide) ?_
                              refine go_goto (pc := 315) hF 337 dX11_faultOf_315 (by decide) ?_
                              refine go_iload (pc := 337) hF dX11_faultOf_337 1 rfl ?_
                              refine go_if_ne (pc := 339) hF 345 dX11_faultOf_339 (by decide) ⟨by decide, by decide⟩ (fun bq339 => ?_) (fun bq339 => ?_)
                              · refine go_iload (pc := 345) hF dX11_faultOf_345 2 rfl ?_
                                refine go_bipush (pc := 347) hF dX11_faultOf_347 (by decide) ?_
                                refine go_icmp_eq (pc := 349) hF 380 dX11_faultOf_349 (by decide) ⟨by decide, by decide⟩ ⟨by decide, by decide⟩ (fun bq349 => ?_) (fun bq349 => ?_)
                                · exact absurd bq349 (by decide)
                                · refine go_iload (pc := 352) hF dX11_faultOf_352 2 rfl ?_
                                  refine go_bipush (pc := 354) hF dX11_faultOf_354 (by decide) ?_
                                  refine go_icmp_eq (pc := 356) hF 380 dX11_faultOf_356 (by decide) ⟨by decide, by decide⟩ ⟨by decide, by decide⟩ (fun bq356 => ?_) (fun bq356 => ?_)
                                  · exact absurd bq356 (by decide)
                                  · refine go_aload_n (pc := 359) hF dX11_faultOf_359 6 rfl ?_
                                    refine go_get (pc := 360) hF fl_X11_31 dX11_faultOf_360 (by omega) zx rfl ?_
                                    refine go_aload_n (pc := 363) hF dX11_faultOf_363 6 rfl ?_
                                    refine go_get (pc := 364) hF fl_X11_165 dX11_faultOf_364 (by omega) zx rfl ?_
                                    refine go_iload (pc := 367) hF dX11_faultOf_367 2 rfl ?_
                                    refine go_iast (pc := 369) hF dX11_faultOf_369 (by omega) w2₉ (by omega) (fun s15 u_s15 f_s15 => ?_)
                                    have x_s15 := (f_s15 94 (by omega)).trans zx
                                    have tx_s15 := (f_s15 101 (by omega)).trans zt
                                    have op_s15 := (f_s15 103 (by omega)).trans w3₉
                                    have ib_s15 := (f_s15 104 (by omega)).trans w4₉
                                    refine go_aload_n (pc := 370) hF dX11_faultOf_370 6 rfl ?_
                                    refine go_dup (pc := 371) hF dX11_faultOf_371 rfl ?_
                                    refine go_get (pc := 372) hF fl_X11_165 dX11_faultOf_372 (by omega) x_s15 rfl ?_
                                    refine go_iconst (pc := 375) hF dX11_faultOf_375 ?_
                                    refine go_iadd (pc := 376) hF dX11_faultOf_376 ?_
                                    refine go_put (pc := 377) hF [vr E 95, vr E 96, vi un, vr E 97, vr E 98, vr E 99, vr E 100, vi sz₉, vr E 101, vi tl, vr E 102, vi (rz + 1), vr E 103, vr E 104, vr E 105, vr E 106, vr E 107, vr E 108, vr E 109, vr E 110, vr E 111, vr E 112, vr E 113, vr E 114, vr E 115, vr E 116, vr E 117, vr E 118, vr E 119, vi hi₉, vi mi, vi ak, vi rt, vi cn] fl_X11_165 dX11_faultOf_377 (by omega) x_s15 rfl rfl rfl (Nat.le_of_ble_eq_true rfl) (fun s16 u_s16 f_s16 => ?_)
                                    have tx_s16 := (f_s16 101 (by omega)).trans tx_s15
                                    have rs_s16 := (f_s16 102 (by omega)).trans u_s15
                                    have op_s16 := (f_s16 103 (by omega)).trans op_s15
                                    have ib_s16 := (f_s16 104 (by omega)).trans ib_s15
                                    refine go_iinc (pc := 380) hF [(4, vi (ii + 1)), (1, vi (dp - 1)), (6, vi 1), (5, vi 41), (3, vi 0), (2, vi lk₉), (0, vr E 94)] dX11_faultOf_380 3 rfl rfl (by decide) ?_
                                    refine go_goto (pc := 383) hF 14 dX11_faultOf_383 (by decide) ?_
                                    refine go_lv [(4, vi (ii + 1)), (3, vi 0), (2, vi lk₉), (1, vi (dp - 1)), (0, vr E 94)] [0, 4, 5, 1, 6] rfl ?_
                                    exact hK₉ _ ⟨u_s16, rs_s16, op_s16, ib_s16, (fun jj hjj => by rw [f_s16 jj (by omega), f_s15 jj (by omega), fr₉ jj (by omega)])⟩
                              · exact absurd bq339 (by decide)
                  · exact absurd bq234 (by decide)
                · exact absurd bq175 (by decide)
              · exact absurd bq124 (by decide)
          · exact absurd bq90 (by decide)
        · exact absurd bq47 (by decide)
      · exact absurd bq36 (by decide)
  have h_clono : ∀ (ii dp lk₉ rz : Int) (rs op₉ ib : Int → Int) (ρ : Nat → va_E), fW E s1₉ un sz₉ tl hi₉ mi ak rt cn ρ rs op₉ ib rz → 0 ≤ ii ∧ ii < tl → (0 ≤ dp ∧ dp ≤ 3) ∧ (0 ≤ lk₉ ∧ lk₉ ≤ 24) ∧ 0 ≤ rz ∧ rz ≤ ii → tx ii = 41 → ¬ (0 < dp ∧ op₉ (dp - 1) = 40 ∧ ib (dp - 1) = 1) → (0 < dp → op₉ (dp - 1) = 40 → 0 ≤ ib (dp - 1) ∧ ib (dp - 1) ≤ 1) → (0 < dp → 0 ≤ op₉ (dp - 1) ∧ op₉ (dp - 1) ≤ 127) → zEnd tx tl = ii → Go E p e R s m args below meth c Q 7 (0, 0) N ρ [(4, vi ii), (3, vi 0), (2, vi lk₉), (1, vi dp), (0, vr E 94)] [] 14 := by
    intro ii dp lk₉ rz rs op₉ ib ρ hW hi9 hcm h0 h1 h2 h3 hz
    obtain ⟨zx, w2₉, w3₉, w4₉, fr₉⟩ := hW
    have zt := (fr₉ 101 (by omega)).trans tx_s1
    refine go_iload (pc := 14) hF dX11_faultOf_14 0 rfl ?_
    refine go_aload_n (pc := 16) hF dX11_faultOf_16 4 rfl ?_
    refine go_get (pc := 17) hF fl_X11_151 dX11_faultOf_17 (by omega) zx rfl ?_
    refine go_icmp_ge (pc := 20) hF 386 dX11_faultOf_20 (by decide) (by omega) (by omega) (fun bq20 => ?_) (fun bq20 => ?_)
    · exact absurd bq20 (by omega)
    · refine go_aload_n (pc := 23) hF dX11_faultOf_23 4 rfl ?_
      refine go_get (pc := 24) hF fl_X11_28 dX11_faultOf_24 (by omega) zx rfl ?_
      refine go_iload (pc := 27) hF dX11_faultOf_27 0 rfl ?_
      refine go_iald (pc := 29) hF dX11_faultOf_29 (by omega) zt (by omega)  ?_
      rw [h0]
      refine go_istore (pc := 30) hF [(5, vi 41), (4, vi ii), (3, vi 0), (2, vi lk₉), (1, vi dp), (0, vr E 94)] dX11_faultOf_30 rfl (by decide) ?_
      refine go_iload (pc := 32) hF dX11_faultOf_32 0 rfl ?_
      refine go_bipush (pc := 34) hF dX11_faultOf_34 (by decide) ?_
      refine go_icmp_ne (pc := 36) hF 43 dX11_faultOf_36 (by decide) ⟨by decide, by decide⟩ ⟨by decide, by decide⟩ (fun bq36 => ?_) (fun bq36 => ?_)
      · refine go_iconst (pc := 43) hF dX11_faultOf_43 ?_
        refine go_istore (pc := 44) hF [(6, vi 0), (5, vi 41), (4, vi ii), (3, vi 0), (2, vi lk₉), (1, vi dp), (0, vr E 94)] dX11_faultOf_44 rfl (by decide) ?_
        refine go_iload_n (pc := 46) hF dX11_faultOf_46 3 rfl ?_
        refine go_if_eq (pc := 47) hF 85 dX11_faultOf_47 (by decide) ⟨by decide, by decide⟩ (fun bq47 => ?_) (fun bq47 => ?_)
        · refine go_iload (pc := 85) hF dX11_faultOf_85 1 rfl ?_
          refine go_callSP (pc := 87) hF [vi 41] [] ms_X11_168 dX11_faultOf_87 (show CP E M_X11_isLook 2 [vi 41] N ρ 0 from (by have h := c_X11_isLook E N ρ 41 (by omega); rw [bI_f (by omega)] at h; exact h)) rfl rfl (Nat.le_of_ble_eq_true rfl) (by decide) ⟨Nat.zero_le _, Nat.zero_le _⟩ ?_
          refine go_if_eq (pc := 90) hF 112 dX11_faultOf_90 (by decide) ⟨by decide, by decide⟩ (fun bq90 => ?_) (fun bq90 => ?_)
          · refine go_iload (pc := 112) hF dX11_faultOf_112 1 rfl ?_
            refine go_bipush (pc := 114) hF dX11_faultOf_114 (by decide) ?_
            refine go_icmp_eq (pc := 116) hF 127 dX11_faultOf_116 (by decide) ⟨by decide, by decide⟩ ⟨by decide, by decide⟩ (fun bq116 => ?_) (fun bq116 => ?_)
            · exact absurd bq116 (by decide)
            · refine go_iload (pc := 119) hF dX11_faultOf_119 1 rfl ?_
              refine go_callSP (pc := 121) hF [vi 41] [] ms_X11_171 dX11_faultOf_121 (show CP E M_X11_isFigure 2 [vi 41] N ρ 0 from (by have h := c_X11_isFigure E N ρ 41 (by omega); rw [bI_f (by omega)] at h; exact h)) rfl rfl (Nat.le_of_ble_eq_true rfl) (by decide) ⟨Nat.zero_le _, Nat.zero_le _⟩ ?_
              refine go_if_eq (pc := 124) hF 171 dX11_faultOf_124 (by decide) ⟨by decide, by decide⟩ (fun bq124 => ?_) (fun bq124 => ?_)
              · refine go_iload (pc := 171) hF dX11_faultOf_171 1 rfl ?_
                refine go_bipush (pc := 173) hF dX11_faultOf_173 (by decide) ?_
                refine go_icmp_ne (pc := 175) hF 230 dX11_faultOf_175 (by decide) ⟨by decide, by decide⟩ ⟨by decide, by decide⟩ (fun bq175 => ?_) (fun bq175 => ?_)
                · refine go_iload (pc := 230) hF dX11_faultOf_230 1 rfl ?_
                  refine go_bipush (pc := 232) hF dX11_faultOf_232 (by decide) ?_
                  refine go_icmp_eq (pc := 234) hF 244 dX11_faultOf_234 (by decide) ⟨by decide, by decide⟩ ⟨by decide, by decide⟩ (fun bq234 => ?_) (fun bq234 => ?_)
                  · refine go_iload_n (pc := 244) hF dX11_faultOf_244 5 rfl ?_
                    refine go_if_le (pc := 245) hF 299 dX11_faultOf_245 (by decide) (by omega) (fun bq245 => ?_) (fun bq245 => ?_)
                    · refine go_iconst (pc := 299) hF dX11_faultOf_299 ?_
                      refine go_istore (pc := 300) hF [(6, vi 0), (5, vi 41), (4, vi ii), (3, vi 0), (2, vi lk₉), (1, vi dp), (0, vr E 94)] dX11_faultOf_300 rfl (by decide) ?_
                      refine go_iload_n (pc := 302) hF dX11_faultOf_302 5 rfl ?_
                      refine go_iload (pc := 303) hF dX11_faultOf_303 0 rfl ?_
                      refine go_if_eq (pc := 305) hF 312 dX11_faultOf_305 (by decide) ⟨by decide, by decide⟩ (fun bq305 => ?_) (fun bq305 => ?_)
                      · refine go_iconst (pc := 312) hF dX11_faultOf_312 ?_
                        refine go_isub (pc := 313) hF dX11_faultOf_313 ?_
                        refine go_istore_n (pc := 314) hF [(1, vi (dp - 0)), (6, vi 0), (5, vi 41), (4, vi ii), (3, vi 0), (2, vi lk₉), (0, vr E 94)] dX11_faultOf_314 rfl (by decide) ?_
                        refine go_goto (pc := 315) hF 337 dX11_faultOf_315 (by decide) ?_
                        refine go_iload (pc := 337) hF dX11_faultOf_337 1 rfl ?_
                        refine go_if_ne (pc := 339) hF 345 dX11_faultOf_339 (by decide) ⟨by decide, by decide⟩ (fun bq339 => ?_) (fun bq339 => ?_)
                        · exact absurd bq339 (by decide)
                        · refine go_iload (pc := 342) hF dX11_faultOf_342 3 rfl ?_
                          exact go_iretQ hF hr hlk hQ dX11_faultOf_344 ⟨hz.symm, _, _, _, _, ⟨zx, w2₉, w3₉, w4₉, (fun jj hjj => by rw [fr₉ jj (by omega), f_s1 jj (by omega)])⟩, fun h => absurd h (by omega)⟩
                      · exact absurd bq305 (by decide)
                    · refine go_iload (pc := 248) hF dX11_faultOf_248 1 rfl ?_
                      refine go_bipush (pc := 250) hF dX11_faultOf_250 (by decide) ?_
                      refine go_icmp_ne (pc := 252) hF 282 dX11_faultOf_252 (by decide) ⟨by decide, by decide⟩ ⟨by decide, by decide⟩ (fun bq252 => ?_) (fun bq252 => ?_)
                      · exact absurd bq252 (by decide)
                      · have hop := h3 (by omega)
                        refine go_aload_n (pc := 255) hF dX11_faultOf_255 6 rfl ?_
                        refine go_get (pc := 256) hF fl_X11_34 dX11_faultOf_256 (by omega) zx rfl ?_
                        refine go_iload_n (pc := 259) hF dX11_faultOf_259 5 rfl ?_
                        refine go_iconst (pc := 260) hF dX11_faultOf_260 ?_
                        refine go_isub (pc := 261) hF dX11_faultOf_261 ?_
                        refine go_iald (pc := 262) hF dX11_faultOf_262 (by omega) w3₉ (by omega)  ?_
                        refine go_bipush (pc := 263) hF dX11_faultOf_263 (by decide) ?_
                        refine go_icmp_ne (pc := 265) hF 299 dX11_faultOf_265 (by decide) (by omega) ⟨by decide, by decide⟩ (fun bq265 => ?_) (fun bq265 => ?_)
                        · refine go_iconst (pc := 299) hF dX11_faultOf_299 ?_
                          refine go_istore (pc := 300) hF [(6, vi 0), (5, vi 41), (4, vi ii), (3, vi 0), (2, vi lk₉), (1, vi dp), (0, vr E 94)] dX11_faultOf_300 rfl (by decide) ?_
                          refine go_iload_n (pc := 302) hF dX11_faultOf_302 5 rfl ?_
                          refine go_iload (pc := 303) hF dX11_faultOf_303 0 rfl ?_
                          refine go_if_eq (pc := 305) hF 312 dX11_faultOf_305 (by decide) ⟨by decide, by decide⟩ (fun bq305 => ?_) (fun bq305 => ?_)
                          · refine go_iconst (pc := 312) hF dX11_faultOf_312 ?_
                            refine go_isub (pc := 313) hF dX11_faultOf_313 ?_
                            refine go_istore_n (pc := 314) hF [(1, vi (dp - 0)), (6, vi 0), (5, vi 41), (4, vi ii), (3, vi 0), (2, vi lk₉), (0, vr E 94)] dX11_faultOf_314 rfl (by decide) ?_
                            refine go_goto (pc := 315) hF 337 dX11_faultOf_315 (by decide) ?_
                            refine go_iload (pc := 337) hF dX11_faultOf_337 1 rfl ?_
                            refine go_if_ne (pc := 339) hF 345 dX11_faultOf_339 (by decide) ⟨by decide, by decide⟩ (fun bq339 => ?_) (fun bq339 => ?_)
                            · exact absurd bq339 (by decide)
                            · refine go_iload (pc := 342) hF dX11_faultOf_342 3 rfl ?_
                              exact go_iretQ hF hr hlk hQ dX11_faultOf_344 ⟨hz.symm, _, _, _, _, ⟨zx, w2₉, w3₉, w4₉, (fun jj hjj => by rw [fr₉ jj (by omega), f_s1 jj (by omega)])⟩, fun h => absurd h (by omega)⟩
                          · exact absurd bq305 (by decide)
                        · have hib := h2 (by omega) bq265
                          refine go_aload_n (pc := 268) hF dX11_faultOf_268 6 rfl ?_
                          refine go_get (pc := 269) hF fl_X11_37 dX11_faultOf_269 (by omega) zx rfl ?_
                          refine go_iload_n (pc := 272) hF dX11_faultOf_272 5 rfl ?_
                          refine go_iconst (pc := 273) hF dX11_faultOf_273 ?_
                          refine go_isub (pc := 274) hF dX11_faultOf_274 ?_
                          refine go_zald (pc := 275) hF dX11_faultOf_275 (by omega) w4₉ (by omega)  ?_
                          refine go_if_eq (pc := 276) hF 299 dX11_faultOf_276 (by decide) (by omega) (fun bq276 => ?_) (fun bq276 => ?_)
                          · refine go_iconst (pc := 299) hF dX11_faultOf_299 ?_
                            refine go_istore (pc := 300) hF [(6, vi 0), (5, vi 41), (4, vi ii), (3, vi 0), (2, vi lk₉), (1, vi dp), (0, vr E 94)] dX11_faultOf_300 rfl (by decide) ?_
                            refine go_iload_n (pc := 302) hF dX11_faultOf_302 5 rfl ?_
                            refine go_iload (pc := 303) hF dX11_faultOf_303 0 rfl ?_
                            refine go_if_eq (pc := 305) hF 312 dX11_faultOf_305 (by decide) ⟨by decide, by decide⟩ (fun bq305 => ?_) (fun bq305 => ?_)
                            · refine go_iconst (pc := 312) hF dX11_faultOf_312 ?_
                              refine go_isub (pc := 313) hF dX11_faultOf_313 ?_
                              refine go_istore_n (pc := 314) hF [(1, vi (dp - 0)), (6, vi 0), (5, vi 41), (4, vi ii), (3, vi 0), (2, vi lk₉), (0, vr E 94)] dX11_faultOf_314 rfl (by decide) ?_
                              refine go_goto (pc := 315) hF 337 dX11_faultOf_315 (by decide) ?_
                              refine go_iload (pc := 337) hF dX11_faultOf_337 1 rfl ?_
                              refine go_if_ne (pc := 339) hF 345 dX11_faultOf_339 (by decide) ⟨by decide, by decide⟩ (fun bq339 => ?_) (fun bq339 => ?_)
                              · exact absurd bq339 (by decide)
                              · refine go_iload (pc := 342) hF dX11_faultOf_342 3 rfl ?_
                                exact go_iretQ hF hr hlk hQ dX11_faultOf_344 ⟨hz.symm, _, _, _, _, ⟨zx, w2₉, w3₉, w4₉, (fun jj hjj => by rw [fr₉ jj (by omega), f_s1 jj (by omega)])⟩, fun h => absurd h (by omega)⟩
                            · exact absurd bq305 (by decide)
                          · exact absurd ⟨by omega, bq265, by omega⟩ h1
                  · exact absurd bq234 (by decide)
                · exact absurd bq175 (by decide)
              · exact absurd bq124 (by decide)
          · exact absurd bq90 (by decide)
        · exact absurd bq47 (by decide)
      · exact absurd bq36 (by decide)
  have h_bak : ∀ (ii dp lk₉ rz : Int) (rs op₉ ib : Int → Int) (ρ : Nat → va_E), fW E s1₉ un sz₉ tl hi₉ mi ak rt cn ρ rs op₉ ib rz → 0 ≤ ii ∧ ii < tl → (0 ≤ dp ∧ dp ≤ 3) ∧ (0 ≤ lk₉ ∧ lk₉ ≤ 24) ∧ 0 ≤ rz ∧ rz ≤ ii → tx ii = 93 → 0 < dp → ¬ op₉ (dp - 1) = 40 → 0 ≤ op₉ (dp - 1) ∧ op₉ (dp - 1) ≤ 127 → (∀ ρ', fW E s1₉ un sz₉ tl hi₉ mi ak rt cn ρ' (up rs rz 93) op₉ ib (rz + 1) → Go E p e R s m args below meth c Q 7 (0, 0) N ρ' [(4, vi (ii + 1)), (3, vi 0), (2, vi lk₉), (1, vi (dp - 1)), (0, vr E 94)] [] 14) → Go E p e R s m args below meth c Q 7 (0, 0) N ρ [(4, vi ii), (3, vi 0), (2, vi lk₉), (1, vi dp), (0, vr E 94)] [] 14 := by
    intro ii dp lk₉ rz rs op₉ ib ρ hW hi9 hcm h0 h1 h2 h3 hK₉
    obtain ⟨zx, w2₉, w3₉, w4₉, fr₉⟩ := hW
    have zt := (fr₉ 101 (by omega)).trans tx_s1
    refine go_iload (pc := 14) hF dX11_faultOf_14 0 rfl ?_
    refine go_aload_n (pc := 16) hF dX11_faultOf_16 4 rfl ?_
    refine go_get (pc := 17) hF fl_X11_151 dX11_faultOf_17 (by omega) zx rfl ?_
    refine go_icmp_ge (pc := 20) hF 386 dX11_faultOf_20 (by decide) (by omega) (by omega) (fun bq20 => ?_) (fun bq20 => ?_)
    · exact absurd bq20 (by omega)
    · refine go_aload_n (pc := 23) hF dX11_faultOf_23 4 rfl ?_
      refine go_get (pc := 24) hF fl_X11_28 dX11_faultOf_24 (by omega) zx rfl ?_
      refine go_iload (pc := 27) hF dX11_faultOf_27 0 rfl ?_
      refine go_iald (pc := 29) hF dX11_faultOf_29 (by omega) zt (by omega)  ?_
      rw [h0]
      refine go_istore (pc := 30) hF [(5, vi 93), (4, vi ii), (3, vi 0), (2, vi lk₉), (1, vi dp), (0, vr E 94)] dX11_faultOf_30 rfl (by decide) ?_
      refine go_iload (pc := 32) hF dX11_faultOf_32 0 rfl ?_
      refine go_bipush (pc := 34) hF dX11_faultOf_34 (by decide) ?_
      refine go_icmp_ne (pc := 36) hF 43 dX11_faultOf_36 (by decide) ⟨by decide, by decide⟩ ⟨by decide, by decide⟩ (fun bq36 => ?_) (fun bq36 => ?_)
      · refine go_iconst (pc := 43) hF dX11_faultOf_43 ?_
        refine go_istore (pc := 44) hF [(6, vi 0), (5, vi 93), (4, vi ii), (3, vi 0), (2, vi lk₉), (1, vi dp), (0, vr E 94)] dX11_faultOf_44 rfl (by decide) ?_
        refine go_iload_n (pc := 46) hF dX11_faultOf_46 3 rfl ?_
        refine go_if_eq (pc := 47) hF 85 dX11_faultOf_47 (by decide) ⟨by decide, by decide⟩ (fun bq47 => ?_) (fun bq47 => ?_)
        · refine go_iload (pc := 85) hF dX11_faultOf_85 1 rfl ?_
          refine go_callSP (pc := 87) hF [vi 93] [] ms_X11_168 dX11_faultOf_87 (show CP E M_X11_isLook 2 [vi 93] N ρ 0 from (by have h := c_X11_isLook E N ρ 93 (by omega); rw [bI_f (by omega)] at h; exact h)) rfl rfl (Nat.le_of_ble_eq_true rfl) (by decide) ⟨Nat.zero_le _, Nat.zero_le _⟩ ?_
          refine go_if_eq (pc := 90) hF 112 dX11_faultOf_90 (by decide) ⟨by decide, by decide⟩ (fun bq90 => ?_) (fun bq90 => ?_)
          · refine go_iload (pc := 112) hF dX11_faultOf_112 1 rfl ?_
            refine go_bipush (pc := 114) hF dX11_faultOf_114 (by decide) ?_
            refine go_icmp_eq (pc := 116) hF 127 dX11_faultOf_116 (by decide) ⟨by decide, by decide⟩ ⟨by decide, by decide⟩ (fun bq116 => ?_) (fun bq116 => ?_)
            · exact absurd bq116 (by decide)
            · refine go_iload (pc := 119) hF dX11_faultOf_119 1 rfl ?_
              refine go_callSP (pc := 121) hF [vi 93] [] ms_X11_171 dX11_faultOf_121 (show CP E M_X11_isFigure 2 [vi 93] N ρ 0 from (by have h := c_X11_isFigure E N ρ 93 (by omega); rw [bI_f (by omega)] at h; exact h)) rfl rfl (Nat.le_of_ble_eq_true rfl) (by decide) ⟨Nat.zero_le _, Nat.zero_le _⟩ ?_
              refine go_if_eq (pc := 124) hF 171 dX11_faultOf_124 (by decide) ⟨by decide, by decide⟩ (fun bq124 => ?_) (fun bq124 => ?_)
              · refine go_iload (pc := 171) hF dX11_faultOf_171 1 rfl ?_
                refine go_bipush (pc := 173) hF dX11_faultOf_173 (by decide) ?_
                refine go_icmp_ne (pc := 175) hF 230 dX11_faultOf_175 (by decide) ⟨by decide, by decide⟩ ⟨by decide, by decide⟩ (fun bq175 => ?_) (fun bq175 => ?_)
                · refine go_iload (pc := 230) hF dX11_faultOf_230 1 rfl ?_
                  refine go_bipush (pc := 232) hF dX11_faultOf_232 (by decide) ?_
                  refine go_icmp_eq (pc := 234) hF 244 dX11_faultOf_234 (by decide) ⟨by decide, by decide⟩ ⟨by decide, by decide⟩ (fun bq234 => ?_) (fun bq234 => ?_)
                  · exact absurd bq234 (by decide)
                  · refine go_iload (pc := 237) hF dX11_faultOf_237 1 rfl ?_
                    refine go_bipush (pc := 239) hF dX11_faultOf_239 (by decide) ?_
                    refine go_icmp_ne (pc := 241) hF 318 dX11_faultOf_241 (by decide) ⟨by decide, by decide⟩ ⟨by decide, by decide⟩ (fun bq241 => ?_) (fun bq241 => ?_)
                    · exact absurd bq241 (by decide)
                    · refine go_iload_n (pc := 244) hF dX11_faultOf_244 5 rfl ?_
                      refine go_if_le (pc := 245) hF 299 dX11_faultOf_245 (by decide) (by omega) (fun bq245 => ?_) (fun bq245 => ?_)
                      · exact absurd bq245 (by omega)
                      · refine go_iload (pc := 248) hF dX11_faultOf_248 1 rfl ?_
                        refine go_bipush (pc := 250) hF dX11_faultOf_250 (by decide) ?_
                        refine go_icmp_ne (pc := 252) hF 282 dX11_faultOf_252 (by decide) ⟨by decide, by decide⟩ ⟨by decide, by decide⟩ (fun bq252 => ?_) (fun bq252 => ?_)
                        · refine go_aload_n (pc := 282) hF dX11_faultOf_282 6 rfl ?_
                          refine go_get (pc := 283) hF fl_X11_34 dX11_faultOf_283 (by omega) zx rfl ?_
                          refine go_iload_n (pc := 286) hF dX11_faultOf_286 5 rfl ?_
                          refine go_iconst (pc := 287) hF dX11_faultOf_287 ?_
                          refine go_isub (pc := 288) hF dX11_faultOf_288 ?_
                          refine go_iald (pc := 289) hF dX11_faultOf_289 (by omega) w3₉ (by omega)  ?_
                          refine go_bipush (pc := 290) hF dX11_faultOf_290 (by decide) ?_
                          refine go_icmp_eq (pc := 292) hF 299 dX11_faultOf_292 (by decide) (by omega) ⟨by decide, by decide⟩ (fun bq292 => ?_) (fun bq292 => ?_)
                          · exact absurd bq292 h2
                          · refine go_iconst (pc := 295) hF dX11_faultOf_295 ?_
                            refine go_goto (pc := 296) hF 300 dX11_faultOf_296 (by decide) ?_
                            refine go_istore (pc := 300) hF [(6, vi 1), (5, vi 93), (4, vi ii), (3, vi 0), (2, vi lk₉), (1, vi dp), (0, vr E 94)] dX11_faultOf_300 rfl (by decide) ?_
                            refine go_iload_n (pc := 302) hF dX11_faultOf_302 5 rfl ?_
                            refine go_iload (pc := 303) hF dX11_faultOf_303 0 rfl ?_
                            refine go_if_eq (pc := 305) hF 312 dX11_faultOf_305 (by decide) ⟨by decide, by decide⟩ (fun bq305 => ?_) (fun bq305 => ?_)
                            · exact absurd bq305 (by decide)
                            · refine go_iconst (pc := 308) hF dX11_faultOf_308 ?_
                              refine go_goto (pc := 309) hF 313 dX11_faultOf_309 (by decide) ?_
                              refine go_isub (pc := 313) hF dX11_faultOf_313 ?_
                              refine go_istore_n (pc := 314) hF [(1, vi (dp - 1)), (6, vi 1), (5, vi 93), (4, vi ii), (3, vi 0), (2, vi lk₉), (0, vr E 94)] dX11_faultOf_314 rfl (by decide) ?_
                              refine go_goto (pc := 315) hF 337 dX11_faultOf_315 (by decide) ?_
                              refine go_iload (pc := 337) hF dX11_faultOf_337 1 rfl ?_
                              refine go_if_ne (pc := 339) hF 345 dX11_faultOf_339 (by decide) ⟨by decide, by decide⟩ (fun bq339 => ?_) (fun bq339 => ?_)
                              · refine go_iload (pc := 345) hF dX11_faultOf_345 2 rfl ?_
                                refine go_bipush (pc := 347) hF dX11_faultOf_347 (by decide) ?_
                                refine go_icmp_eq (pc := 349) hF 380 dX11_faultOf_349 (by decide) ⟨by decide, by decide⟩ ⟨by decide, by decide⟩ (fun bq349 => ?_) (fun bq349 => ?_)
                                · exact absurd bq349 (by decide)
                                · refine go_iload (pc := 352) hF dX11_faultOf_352 2 rfl ?_
                                  refine go_bipush (pc := 354) hF dX11_faultOf_354 (by decide) ?_
                                  refine go_icmp_eq (pc := 356) hF 380 dX11_faultOf_356 (by decide) ⟨by decide, by decide⟩ ⟨by decide, by decide⟩ (fun bq356 => ?_) (fun bq356 => ?_)
                                  · exact absurd bq356 (by decide)
                                  · refine go_aload_n (pc := 359) hF dX11_faultOf_359 6 rfl ?_
                                    refine go_get (pc := 360) hF fl_X11_31 dX11_faultOf_360 (by omega) zx rfl ?_
                                    refine go_aload_n (pc := 363) hF dX11_faultOf_363 6 rfl ?_
                                    refine go_get (pc := 364) hF fl_X11_165 dX11_faultOf_364 (by omega) zx rfl ?_
                                    refine go_iload (pc := 367) hF dX11_faultOf_367 2 rfl ?_
                                    refine go_iast (pc := 369) hF dX11_faultOf_369 (by omega) w2₉ (by omega) (fun s17 u_s17 f_s17 => ?_)
                                    have x_s17 := (f_s17 94 (by omega)).trans zx
                                    have tx_s17 := (f_s17 101 (by omega)).trans zt
                                    have op_s17 := (f_s17 103 (by omega)).trans w3₉
                                    have ib_s17 := (f_s17 104 (by omega)).trans w4₉
                                    refine go_aload_n (pc := 370) hF dX11_faultOf_370 6 rfl ?_
                                    refine go_dup (pc := 371) hF dX11_faultOf_371 rfl ?_
                                    refine go_get (pc := 372) hF fl_X11_165 dX11_faultOf_372 (by omega) x_s17 rfl ?_
                                    refine go_iconst (pc := 375) hF dX11_faultOf_375 ?_
                                    refine go_iadd (pc := 376) hF dX11_faultOf_376 ?_
                                    refine go_put (pc := 377) hF [vr E 95, vr E 96, vi un, vr E 97, vr E 98, vr E 99, vr E 100, vi sz₉, vr E 101, vi tl, vr E 102, vi (rz + 1), vr E 103, vr E 104, vr E 105, vr E 106, vr E 107, vr E 108, vr E 109, vr E 110, vr E 111, vr E 112, vr E 113, vr E 114, vr E 115, vr E 116, vr E 117, vr E 118, vr E 119, vi hi₉, vi mi, vi ak, vi rt, vi cn] fl_X11_165 dX11_faultOf_377 (by omega) x_s17 rfl rfl rfl (Nat.le_of_ble_eq_true rfl) (fun s18 u_s18 f_s18 => ?_)
                                    have tx_s18 := (f_s18 101 (by omega)).trans tx_s17
                                    have rs_s18 := (f_s18 102 (by omega)).trans u_s17
                                    have op_s18 := (f_s18 103 (by omega)).trans op_s17
                                    have ib_s18 := (f_s18 104 (by omega)).trans ib_s17
                                    refine go_iinc (pc := 380) hF [(4, vi (ii + 1)), (1, vi (dp - 1)), (6, vi 1), (5, vi 93), (3, vi 0), (2, vi lk₉), (0, vr E 94)] dX11_faultOf_380 3 rfl rfl (by decide) ?_
                                    refine go_goto (pc := 383) hF 14 dX11_faultOf_383 (by decide) ?_
                                    refine go_lv [(4, vi (ii + 1)), (3, vi 0), (2, vi lk₉), (1, vi (dp - 1)), (0, vr E 94)] [0, 4, 5, 1, 6] rfl ?_
                                    exact hK₉ _ ⟨u_s18, rs_s18, op_s18, ib_s18, (fun jj hjj => by rw [f_s18 jj (by omega), f_s17 jj (by omega), fr₉ jj (by omega)])⟩
                              · exact absurd bq339 (by decide)
                        · exact absurd bq252 (by decide)
                · exact absurd bq175 (by decide)
              · exact absurd bq124 (by decide)
          · exact absurd bq90 (by decide)
        · exact absurd bq47 (by decide)
      · exact absurd bq36 (by decide)
  have h_bakno : ∀ (ii dp lk₉ rz : Int) (rs op₉ ib : Int → Int) (ρ : Nat → va_E), fW E s1₉ un sz₉ tl hi₉ mi ak rt cn ρ rs op₉ ib rz → 0 ≤ ii ∧ ii < tl → (0 ≤ dp ∧ dp ≤ 3) ∧ (0 ≤ lk₉ ∧ lk₉ ≤ 24) ∧ 0 ≤ rz ∧ rz ≤ ii → tx ii = 93 → ¬ (0 < dp ∧ ¬ op₉ (dp - 1) = 40) → (0 < dp → 0 ≤ op₉ (dp - 1) ∧ op₉ (dp - 1) ≤ 127) → zEnd tx tl = ii → Go E p e R s m args below meth c Q 7 (0, 0) N ρ [(4, vi ii), (3, vi 0), (2, vi lk₉), (1, vi dp), (0, vr E 94)] [] 14 := by
    intro ii dp lk₉ rz rs op₉ ib ρ hW hi9 hcm h0 h1 h2 hz
    obtain ⟨zx, w2₉, w3₉, w4₉, fr₉⟩ := hW
    have zt := (fr₉ 101 (by omega)).trans tx_s1
    refine go_iload (pc := 14) hF dX11_faultOf_14 0 rfl ?_
    refine go_aload_n (pc := 16) hF dX11_faultOf_16 4 rfl ?_
    refine go_get (pc := 17) hF fl_X11_151 dX11_faultOf_17 (by omega) zx rfl ?_
    refine go_icmp_ge (pc := 20) hF 386 dX11_faultOf_20 (by decide) (by omega) (by omega) (fun bq20 => ?_) (fun bq20 => ?_)
    · exact absurd bq20 (by omega)
    · refine go_aload_n (pc := 23) hF dX11_faultOf_23 4 rfl ?_
      refine go_get (pc := 24) hF fl_X11_28 dX11_faultOf_24 (by omega) zx rfl ?_
      refine go_iload (pc := 27) hF dX11_faultOf_27 0 rfl ?_
      refine go_iald (pc := 29) hF dX11_faultOf_29 (by omega) zt (by omega)  ?_
      rw [h0]
      refine go_istore (pc := 30) hF [(5, vi 93), (4, vi ii), (3, vi 0), (2, vi lk₉), (1, vi dp), (0, vr E 94)] dX11_faultOf_30 rfl (by decide) ?_
      refine go_iload (pc := 32) hF dX11_faultOf_32 0 rfl ?_
      refine go_bipush (pc := 34) hF dX11_faultOf_34 (by decide) ?_
      refine go_icmp_ne (pc := 36) hF 43 dX11_faultOf_36 (by decide) ⟨by decide, by decide⟩ ⟨by decide, by decide⟩ (fun bq36 => ?_) (fun bq36 => ?_)
      · refine go_iconst (pc := 43) hF dX11_faultOf_43 ?_
        refine go_istore (pc := 44) hF [(6, vi 0), (5, vi 93), (4, vi ii), (3, vi 0), (2, vi lk₉), (1, vi dp), (0, vr E 94)] dX11_faultOf_44 rfl (by decide) ?_
        refine go_iload_n (pc := 46) hF dX11_faultOf_46 3 rfl ?_
        refine go_if_eq (pc := 47) hF 85 dX11_faultOf_47 (by decide) ⟨by decide, by decide⟩ (fun bq47 => ?_) (fun bq47 => ?_)
        · refine go_iload (pc := 85) hF dX11_faultOf_85 1 rfl ?_
          refine go_callSP (pc := 87) hF [vi 93] [] ms_X11_168 dX11_faultOf_87 (show CP E M_X11_isLook 2 [vi 93] N ρ 0 from (by have h := c_X11_isLook E N ρ 93 (by omega); rw [bI_f (by omega)] at h; exact h)) rfl rfl (Nat.le_of_ble_eq_true rfl) (by decide) ⟨Nat.zero_le _, Nat.zero_le _⟩ ?_
          refine go_if_eq (pc := 90) hF 112 dX11_faultOf_90 (by decide) ⟨by decide, by decide⟩ (fun bq90 => ?_) (fun bq90 => ?_)
          · refine go_iload (pc := 112) hF dX11_faultOf_112 1 rfl ?_
            refine go_bipush (pc := 114) hF dX11_faultOf_114 (by decide) ?_
            refine go_icmp_eq (pc := 116) hF 127 dX11_faultOf_116 (by decide) ⟨by decide, by decide⟩ ⟨by decide, by decide⟩ (fun bq116 => ?_) (fun bq116 => ?_)
            · exact absurd bq116 (by decide)
            · refine go_iload (pc := 119) hF dX11_faultOf_119 1 rfl ?_
              refine go_callSP (pc := 121) hF [vi 93] [] ms_X11_171 dX11_faultOf_121 (show CP E M_X11_isFigure 2 [vi 93] N ρ 0 from (by have h := c_X11_isFigure E N ρ 93 (by omega); rw [bI_f (by omega)] at h; exact h)) rfl rfl (Nat.le_of_ble_eq_true rfl) (by decide) ⟨Nat.zero_le _, Nat.zero_le _⟩ ?_
              refine go_if_eq (pc := 124) hF 171 dX11_faultOf_124 (by decide) ⟨by decide, by decide⟩ (fun bq124 => ?_) (fun bq124 => ?_)
              · refine go_iload (pc := 171) hF dX11_faultOf_171 1 rfl ?_
                refine go_bipush (pc := 173) hF dX11_faultOf_173 (by decide) ?_
                refine go_icmp_ne (pc := 175) hF 230 dX11_faultOf_175 (by decide) ⟨by decide, by decide⟩ ⟨by decide, by decide⟩ (fun bq175 => ?_) (fun bq175 => ?_)
                · refine go_iload (pc := 230) hF dX11_faultOf_230 1 rfl ?_
                  refine go_bipush (pc := 232) hF dX11_faultOf_232 (by decide) ?_
                  refine go_icmp_eq (pc := 234) hF 244 dX11_faultOf_234 (by decide) ⟨by decide, by decide⟩ ⟨by decide, by decide⟩ (fun bq234 => ?_) (fun bq234 => ?_)
                  · exact absurd bq234 (by decide)
                  · refine go_iload (pc := 237) hF dX11_faultOf_237 1 rfl ?_
                    refine go_bipush (pc := 239) hF dX11_faultOf_239 (by decide) ?_
                    refine go_icmp_ne (pc := 241) hF 318 dX11_faultOf_241 (by decide) ⟨by decide, by decide⟩ ⟨by decide, by decide⟩ (fun bq241 => ?_) (fun bq241 => ?_)
                    · exact absurd bq241 (by decide)
                    · refine go_iload_n (pc := 244) hF dX11_faultOf_244 5 rfl ?_
                      refine go_if_le (pc := 245) hF 299 dX11_faultOf_245 (by decide) (by omega) (fun bq245 => ?_) (fun bq245 => ?_)
                      · refine go_iconst (pc := 299) hF dX11_faultOf_299 ?_
                        refine go_istore (pc := 300) hF [(6, vi 0), (5, vi 93), (4, vi ii), (3, vi 0), (2, vi lk₉), (1, vi dp), (0, vr E 94)] dX11_faultOf_300 rfl (by decide) ?_
                        refine go_iload_n (pc := 302) hF dX11_faultOf_302 5 rfl ?_
                        refine go_iload (pc := 303) hF dX11_faultOf_303 0 rfl ?_
                        refine go_if_eq (pc := 305) hF 312 dX11_faultOf_305 (by decide) ⟨by decide, by decide⟩ (fun bq305 => ?_) (fun bq305 => ?_)
                        · refine go_iconst (pc := 312) hF dX11_faultOf_312 ?_
                          refine go_isub (pc := 313) hF dX11_faultOf_313 ?_
                          refine go_istore_n (pc := 314) hF [(1, vi (dp - 0)), (6, vi 0), (5, vi 93), (4, vi ii), (3, vi 0), (2, vi lk₉), (0, vr E 94)] dX11_faultOf_314 rfl (by decide) ?_
                          refine go_goto (pc := 315) hF 337 dX11_faultOf_315 (by decide) ?_
                          refine go_iload (pc := 337) hF dX11_faultOf_337 1 rfl ?_
                          refine go_if_ne (pc := 339) hF 345 dX11_faultOf_339 (by decide) ⟨by decide, by decide⟩ (fun bq339 => ?_) (fun bq339 => ?_)
                          · exact absurd bq339 (by decide)
                          · refine go_iload (pc := 342) hF dX11_faultOf_342 3 rfl ?_
                            exact go_iretQ hF hr hlk hQ dX11_faultOf_344 ⟨hz.symm, _, _, _, _, ⟨zx, w2₉, w3₉, w4₉, (fun jj hjj => by rw [fr₉ jj (by omega), f_s1 jj (by omega)])⟩, fun h => absurd h (by omega)⟩
                        · exact absurd bq305 (by decide)
                      · refine go_iload (pc := 248) hF dX11_faultOf_248 1 rfl ?_
                        refine go_bipush (pc := 250) hF dX11_faultOf_250 (by decide) ?_
                        refine go_icmp_ne (pc := 252) hF 282 dX11_faultOf_252 (by decide) ⟨by decide, by decide⟩ ⟨by decide, by decide⟩ (fun bq252 => ?_) (fun bq252 => ?_)
                        · have hop := h2 (by omega)
                          refine go_aload_n (pc := 282) hF dX11_faultOf_282 6 rfl ?_
                          refine go_get (pc := 283) hF fl_X11_34 dX11_faultOf_283 (by omega) zx rfl ?_
                          refine go_iload_n (pc := 286) hF dX11_faultOf_286 5 rfl ?_
                          refine go_iconst (pc := 287) hF dX11_faultOf_287 ?_
                          refine go_isub (pc := 288) hF dX11_faultOf_288 ?_
                          refine go_iald (pc := 289) hF dX11_faultOf_289 (by omega) w3₉ (by omega)  ?_
                          refine go_bipush (pc := 290) hF dX11_faultOf_290 (by decide) ?_
                          refine go_icmp_eq (pc := 292) hF 299 dX11_faultOf_292 (by decide) (by omega) ⟨by decide, by decide⟩ (fun bq292 => ?_) (fun bq292 => ?_)
                          · refine go_iconst (pc := 299) hF dX11_faultOf_299 ?_
                            refine go_istore (pc := 300) hF [(6, vi 0), (5, vi 93), (4, vi ii), (3, vi 0), (2, vi lk₉), (1, vi dp), (0, vr E 94)] dX11_faultOf_300 rfl (by decide) ?_
                            refine go_iload_n (pc := 302) hF dX11_faultOf_302 5 rfl ?_
                            refine go_iload (pc := 303) hF dX11_faultOf_303 0 rfl ?_
                            refine go_if_eq (pc := 305) hF 312 dX11_faultOf_305 (by decide) ⟨by decide, by decide⟩ (fun bq305 => ?_) (fun bq305 => ?_)
                            · refine go_iconst (pc := 312) hF dX11_faultOf_312 ?_
                              refine go_isub (pc := 313) hF dX11_faultOf_313 ?_
                              refine go_istore_n (pc := 314) hF [(1, vi (dp - 0)), (6, vi 0), (5, vi 93), (4, vi ii), (3, vi 0), (2, vi lk₉), (0, vr E 94)] dX11_faultOf_314 rfl (by decide) ?_
                              refine go_goto (pc := 315) hF 337 dX11_faultOf_315 (by decide) ?_
                              refine go_iload (pc := 337) hF dX11_faultOf_337 1 rfl ?_
                              refine go_if_ne (pc := 339) hF 345 dX11_faultOf_339 (by decide) ⟨by decide, by decide⟩ (fun bq339 => ?_) (fun bq339 => ?_)
                              · exact absurd bq339 (by decide)
                              · refine go_iload (pc := 342) hF dX11_faultOf_342 3 rfl ?_
                                exact go_iretQ hF hr hlk hQ dX11_faultOf_344 ⟨hz.symm, _, _, _, _, ⟨zx, w2₉, w3₉, w4₉, (fun jj hjj => by rw [fr₉ jj (by omega), f_s1 jj (by omega)])⟩, fun h => absurd h (by omega)⟩
                            · exact absurd bq305 (by decide)
                          · exact absurd ⟨by omega, bq292⟩ h1
                        · exact absurd bq252 (by decide)
                · exact absurd bq175 (by decide)
              · exact absurd bq124 (by decide)
          · exact absurd bq90 (by decide)
        · exact absurd bq47 (by decide)
      · exact absurd bq36 (by decide)
  have h_dot : ∀ (ii dp lk₉ rz : Int) (rs op₉ ib : Int → Int) (ρ : Nat → va_E), fW E s1₉ un sz₉ tl hi₉ mi ak rt cn ρ rs op₉ ib rz → 0 ≤ ii ∧ ii < tl → (0 ≤ dp ∧ dp ≤ 3) ∧ (0 ≤ lk₉ ∧ lk₉ ≤ 24) ∧ 0 ≤ rz ∧ rz ≤ ii → tx ii = 46 → (∀ ρ', fW E s1₉ un sz₉ tl hi₉ mi ak rt cn ρ' (up rs rz 46) op₉ ib (rz + 1) → Go E p e R s m args below meth c Q 7 (0, 0) N ρ' [(4, vi (ii + 1)), (3, vi 0), (2, vi lk₉), (1, vi dp), (0, vr E 94)] [] 14) → Go E p e R s m args below meth c Q 7 (0, 0) N ρ [(4, vi ii), (3, vi 0), (2, vi lk₉), (1, vi dp), (0, vr E 94)] [] 14 := by
    intro ii dp lk₉ rz rs op₉ ib ρ hW hi9 hcm h0 hK₉
    obtain ⟨zx, w2₉, w3₉, w4₉, fr₉⟩ := hW
    have zt := (fr₉ 101 (by omega)).trans tx_s1
    refine go_iload (pc := 14) hF dX11_faultOf_14 0 rfl ?_
    refine go_aload_n (pc := 16) hF dX11_faultOf_16 4 rfl ?_
    refine go_get (pc := 17) hF fl_X11_151 dX11_faultOf_17 (by omega) zx rfl ?_
    refine go_icmp_ge (pc := 20) hF 386 dX11_faultOf_20 (by decide) (by omega) (by omega) (fun bq20 => ?_) (fun bq20 => ?_)
    · exact absurd bq20 (by omega)
    · refine go_aload_n (pc := 23) hF dX11_faultOf_23 4 rfl ?_
      refine go_get (pc := 24) hF fl_X11_28 dX11_faultOf_24 (by omega) zx rfl ?_
      refine go_iload (pc := 27) hF dX11_faultOf_27 0 rfl ?_
      refine go_iald (pc := 29) hF dX11_faultOf_29 (by omega) zt (by omega)  ?_
      rw [h0]
      refine go_istore (pc := 30) hF [(5, vi 46), (4, vi ii), (3, vi 0), (2, vi lk₉), (1, vi dp), (0, vr E 94)] dX11_faultOf_30 rfl (by decide) ?_
      refine go_iload (pc := 32) hF dX11_faultOf_32 0 rfl ?_
      refine go_bipush (pc := 34) hF dX11_faultOf_34 (by decide) ?_
      refine go_icmp_ne (pc := 36) hF 43 dX11_faultOf_36 (by decide) ⟨by decide, by decide⟩ ⟨by decide, by decide⟩ (fun bq36 => ?_) (fun bq36 => ?_)
      · refine go_iconst (pc := 43) hF dX11_faultOf_43 ?_
        refine go_istore (pc := 44) hF [(6, vi 0), (5, vi 46), (4, vi ii), (3, vi 0), (2, vi lk₉), (1, vi dp), (0, vr E 94)] dX11_faultOf_44 rfl (by decide) ?_
        refine go_iload_n (pc := 46) hF dX11_faultOf_46 3 rfl ?_
        refine go_if_eq (pc := 47) hF 85 dX11_faultOf_47 (by decide) ⟨by decide, by decide⟩ (fun bq47 => ?_) (fun bq47 => ?_)
        · refine go_iload (pc := 85) hF dX11_faultOf_85 1 rfl ?_
          refine go_callSP (pc := 87) hF [vi 46] [] ms_X11_168 dX11_faultOf_87 (show CP E M_X11_isLook 2 [vi 46] N ρ 0 from (by have h := c_X11_isLook E N ρ 46 (by omega); rw [bI_f (by omega)] at h; exact h)) rfl rfl (Nat.le_of_ble_eq_true rfl) (by decide) ⟨Nat.zero_le _, Nat.zero_le _⟩ ?_
          refine go_if_eq (pc := 90) hF 112 dX11_faultOf_90 (by decide) ⟨by decide, by decide⟩ (fun bq90 => ?_) (fun bq90 => ?_)
          · refine go_iload (pc := 112) hF dX11_faultOf_112 1 rfl ?_
            refine go_bipush (pc := 114) hF dX11_faultOf_114 (by decide) ?_
            refine go_icmp_eq (pc := 116) hF 127 dX11_faultOf_116 (by decide) ⟨by decide, by decide⟩ ⟨by decide, by decide⟩ (fun bq116 => ?_) (fun bq116 => ?_)
            · exact absurd bq116 (by decide)
            · refine go_iload (pc := 119) hF dX11_faultOf_119 1 rfl ?_
              refine go_callSP (pc := 121) hF [vi 46] [] ms_X11_171 dX11_faultOf_121 (show CP E M_X11_isFigure 2 [vi 46] N ρ 0 from (by have h := c_X11_isFigure E N ρ 46 (by omega); rw [bI_f (by omega)] at h; exact h)) rfl rfl (Nat.le_of_ble_eq_true rfl) (by decide) ⟨Nat.zero_le _, Nat.zero_le _⟩ ?_
              refine go_if_eq (pc := 124) hF 171 dX11_faultOf_124 (by decide) ⟨by decide, by decide⟩ (fun bq124 => ?_) (fun bq124 => ?_)
              · refine go_iload (pc := 171) hF dX11_faultOf_171 1 rfl ?_
                refine go_bipush (pc := 173) hF dX11_faultOf_173 (by decide) ?_
                refine go_icmp_ne (pc := 175) hF 230 dX11_faultOf_175 (by decide) ⟨by decide, by decide⟩ ⟨by decide, by decide⟩ (fun bq175 => ?_) (fun bq175 => ?_)
                · refine go_iload (pc := 230) hF dX11_faultOf_230 1 rfl ?_
                  refine go_bipush (pc := 232) hF dX11_faultOf_232 (by decide) ?_
                  refine go_icmp_eq (pc := 234) hF 244 dX11_faultOf_234 (by decide) ⟨by decide, by decide⟩ ⟨by decide, by decide⟩ (fun bq234 => ?_) (fun bq234 => ?_)
                  · exact absurd bq234 (by decide)
                  · refine go_iload (pc := 237) hF dX11_faultOf_237 1 rfl ?_
                    refine go_bipush (pc := 239) hF dX11_faultOf_239 (by decide) ?_
                    refine go_icmp_ne (pc := 241) hF 318 dX11_faultOf_241 (by decide) ⟨by decide, by decide⟩ ⟨by decide, by decide⟩ (fun bq241 => ?_) (fun bq241 => ?_)
                    · refine go_iload (pc := 318) hF dX11_faultOf_318 0 rfl ?_
                      refine go_if_ne (pc := 320) hF 330 dX11_faultOf_320 (by decide) ⟨by decide, by decide⟩ (fun bq320 => ?_) (fun bq320 => ?_)
                      · exact absurd bq320 (by decide)
                      · refine go_iload (pc := 323) hF dX11_faultOf_323 1 rfl ?_
                        refine go_bipush (pc := 325) hF dX11_faultOf_325 (by decide) ?_
                        refine go_icmp_ne (pc := 327) hF 334 dX11_faultOf_327 (by decide) ⟨by decide, by decide⟩ ⟨by decide, by decide⟩ (fun bq327 => ?_) (fun bq327 => ?_)
                        · exact absurd bq327 (by decide)
                        · refine go_iconst (pc := 330) hF dX11_faultOf_330 ?_
                          refine go_goto (pc := 331) hF 335 dX11_faultOf_331 (by decide) ?_
                          refine go_istore (pc := 335) hF [(6, vi 1), (5, vi 46), (4, vi ii), (3, vi 0), (2, vi lk₉), (1, vi dp), (0, vr E 94)] dX11_faultOf_335 rfl (by decide) ?_
                          refine go_iload (pc := 337) hF dX11_faultOf_337 0 rfl ?_
                          refine go_if_ne (pc := 339) hF 345 dX11_faultOf_339 (by decide) ⟨by decide, by decide⟩ (fun bq339 => ?_) (fun bq339 => ?_)
                          · refine go_iload (pc := 345) hF dX11_faultOf_345 1 rfl ?_
                            refine go_bipush (pc := 347) hF dX11_faultOf_347 (by decide) ?_
                            refine go_icmp_eq (pc := 349) hF 380 dX11_faultOf_349 (by decide) ⟨by decide, by decide⟩ ⟨by decide, by decide⟩ (fun bq349 => ?_) (fun bq349 => ?_)
                            · exact absurd bq349 (by decide)
                            · refine go_iload (pc := 352) hF dX11_faultOf_352 1 rfl ?_
                              refine go_bipush (pc := 354) hF dX11_faultOf_354 (by decide) ?_
                              refine go_icmp_eq (pc := 356) hF 380 dX11_faultOf_356 (by decide) ⟨by decide, by decide⟩ ⟨by decide, by decide⟩ (fun bq356 => ?_) (fun bq356 => ?_)
                              · exact absurd bq356 (by decide)
                              · refine go_aload_n (pc := 359) hF dX11_faultOf_359 6 rfl ?_
                                refine go_get (pc := 360) hF fl_X11_31 dX11_faultOf_360 (by omega) zx rfl ?_
                                refine go_aload_n (pc := 363) hF dX11_faultOf_363 6 rfl ?_
                                refine go_get (pc := 364) hF fl_X11_165 dX11_faultOf_364 (by omega) zx rfl ?_
                                refine go_iload (pc := 367) hF dX11_faultOf_367 1 rfl ?_
                                refine go_iast (pc := 369) hF dX11_faultOf_369 (by omega) w2₉ (by omega) (fun s19 u_s19 f_s19 => ?_)
                                have x_s19 := (f_s19 94 (by omega)).trans zx
                                have tx_s19 := (f_s19 101 (by omega)).trans zt
                                have op_s19 := (f_s19 103 (by omega)).trans w3₉
                                have ib_s19 := (f_s19 104 (by omega)).trans w4₉
                                refine go_aload_n (pc := 370) hF dX11_faultOf_370 6 rfl ?_
                                refine go_dup (pc := 371) hF dX11_faultOf_371 rfl ?_
                                refine go_get (pc := 372) hF fl_X11_165 dX11_faultOf_372 (by omega) x_s19 rfl ?_
                                refine go_iconst (pc := 375) hF dX11_faultOf_375 ?_
                                refine go_iadd (pc := 376) hF dX11_faultOf_376 ?_
                                refine go_put (pc := 377) hF [vr E 95, vr E 96, vi un, vr E 97, vr E 98, vr E 99, vr E 100, vi sz₉, vr E 101, vi tl, vr E 102, vi (rz + 1), vr E 103, vr E 104, vr E 105, vr E 106, vr E 107, vr E 108, vr E 109, vr E 110, vr E 111, vr E 112, vr E 113, vr E 114, vr E 115, vr E 116, vr E 117, vr E 118, vr E 119, vi hi₉, vi mi, vi ak, vi rt, vi cn] fl_X11_165 dX11_faultOf_377 (by omega) x_s19 rfl rfl rfl (Nat.le_of_ble_eq_true rfl) (fun s20 u_s20 f_s20 => ?_)
                                have tx_s20 := (f_s20 101 (by omega)).trans tx_s19
                                have rs_s20 := (f_s20 102 (by omega)).trans u_s19
                                have op_s20 := (f_s20 103 (by omega)).trans op_s19
                                have ib_s20 := (f_s20 104 (by omega)).trans ib_s19
                                refine go_iinc (pc := 380) hF [(4, vi (ii + 1)), (6, vi 1), (5, vi 46), (3, vi 0), (2, vi lk₉), (1, vi dp), (0, vr E 94)] dX11_faultOf_380 2 rfl rfl (by decide) ?_
                                refine go_goto (pc := 383) hF 14 dX11_faultOf_383 (by decide) ?_
                                refine go_lv [(4, vi (ii + 1)), (3, vi 0), (2, vi lk₉), (1, vi dp), (0, vr E 94)] [0, 3, 4, 5, 6] rfl ?_
                                exact hK₉ _ ⟨u_s20, rs_s20, op_s20, ib_s20, (fun jj hjj => by rw [f_s20 jj (by omega), f_s19 jj (by omega), fr₉ jj (by omega)])⟩
                          · exact absurd bq339 (by decide)
                    · exact absurd bq241 (by decide)
                · exact absurd bq175 (by decide)
              · exact absurd bq124 (by decide)
          · exact absurd bq90 (by decide)
        · exact absurd bq47 (by decide)
      · exact absurd bq36 (by decide)
  have h_oth : ∀ (ii dp lk₉ rz : Int) (rs op₉ ib : Int → Int) (ρ : Nat → va_E), fW E s1₉ un sz₉ tl hi₉ mi ak rt cn ρ rs op₉ ib rz → 0 ≤ ii ∧ ii < tl → (0 ≤ dp ∧ dp ≤ 3) ∧ (0 ≤ lk₉ ∧ lk₉ ≤ 24) ∧ 0 ≤ rz ∧ rz ≤ ii → (0 ≤ tx ii ∧ tx ii ≤ 127) → ¬ tx ii = 32 → ¬ (97 ≤ tx ii ∧ tx ii ≤ 102) → ¬ (49 ≤ tx ii ∧ tx ii ≤ 57) → ¬ tx ii = 46 → ¬ tx ii = 40 → ¬ tx ii = 124 → ¬ tx ii = 41 → ¬ tx ii = 93 → zEnd tx tl = ii → Go E p e R s m args below meth c Q 7 (0, 0) N ρ [(4, vi ii), (3, vi 0), (2, vi lk₉), (1, vi dp), (0, vr E 94)] [] 14 := by
    intro ii dp lk₉ rz rs op₉ ib ρ hW hi9 hcm h0 h1 h2 h3 h4 h5 h6 h7 h8 hz
    obtain ⟨zx, w2₉, w3₉, w4₉, fr₉⟩ := hW
    have zt := (fr₉ 101 (by omega)).trans tx_s1
    refine go_iload (pc := 14) hF dX11_faultOf_14 0 rfl ?_
    refine go_aload_n (pc := 16) hF dX11_faultOf_16 4 rfl ?_
    refine go_get (pc := 17) hF fl_X11_151 dX11_faultOf_17 (by omega) zx rfl ?_
    refine go_icmp_ge (pc := 20) hF 386 dX11_faultOf_20 (by decide) (by omega) (by omega) (fun bq20 => ?_) (fun bq20 => ?_)
    · exact absurd bq20 (by omega)
    · refine go_aload_n (pc := 23) hF dX11_faultOf_23 4 rfl ?_
      refine go_get (pc := 24) hF fl_X11_28 dX11_faultOf_24 (by omega) zx rfl ?_
      refine go_iload (pc := 27) hF dX11_faultOf_27 0 rfl ?_
      refine go_iald (pc := 29) hF dX11_faultOf_29 (by omega) zt (by omega)  ?_
      refine go_istore (pc := 30) hF [(5, vi (tx ii)), (4, vi ii), (3, vi 0), (2, vi lk₉), (1, vi dp), (0, vr E 94)] dX11_faultOf_30 rfl (by decide) ?_
      refine go_iload (pc := 32) hF dX11_faultOf_32 0 rfl ?_
      refine go_bipush (pc := 34) hF dX11_faultOf_34 (by decide) ?_
      refine go_icmp_ne (pc := 36) hF 43 dX11_faultOf_36 (by decide) (by omega) ⟨by decide, by decide⟩ (fun bq36 => ?_) (fun bq36 => ?_)
      · refine go_iconst (pc := 43) hF dX11_faultOf_43 ?_
        refine go_istore (pc := 44) hF [(6, vi 0), (5, vi (tx ii)), (4, vi ii), (3, vi 0), (2, vi lk₉), (1, vi dp), (0, vr E 94)] dX11_faultOf_44 rfl (by decide) ?_
        refine go_iload_n (pc := 46) hF dX11_faultOf_46 3 rfl ?_
        refine go_if_eq (pc := 47) hF 85 dX11_faultOf_47 (by decide) ⟨by decide, by decide⟩ (fun bq47 => ?_) (fun bq47 => ?_)
        · refine go_iload (pc := 85) hF dX11_faultOf_85 1 rfl ?_
          refine go_callSP (pc := 87) hF [vi (tx ii)] [] ms_X11_168 dX11_faultOf_87 (show CP E M_X11_isLook 2 [vi (tx ii)] N ρ 0 from (by have h := c_X11_isLook E N ρ (tx ii) (by omega); rw [bI_f (by omega)] at h; exact h)) rfl rfl (Nat.le_of_ble_eq_true rfl) (by decide) ⟨Nat.zero_le _, Nat.zero_le _⟩ ?_
          refine go_if_eq (pc := 90) hF 112 dX11_faultOf_90 (by decide) ⟨by decide, by decide⟩ (fun bq90 => ?_) (fun bq90 => ?_)
          · refine go_iload (pc := 112) hF dX11_faultOf_112 1 rfl ?_
            refine go_bipush (pc := 114) hF dX11_faultOf_114 (by decide) ?_
            refine go_icmp_eq (pc := 116) hF 127 dX11_faultOf_116 (by decide) (by omega) ⟨by decide, by decide⟩ (fun bq116 => ?_) (fun bq116 => ?_)
            · exact absurd bq116 (by omega)
            · refine go_iload (pc := 119) hF dX11_faultOf_119 1 rfl ?_
              refine go_callSP (pc := 121) hF [vi (tx ii)] [] ms_X11_171 dX11_faultOf_121 (show CP E M_X11_isFigure 2 [vi (tx ii)] N ρ 0 from (by have h := c_X11_isFigure E N ρ (tx ii) (by omega); rw [bI_f (by omega)] at h; exact h)) rfl rfl (Nat.le_of_ble_eq_true rfl) (by decide) ⟨Nat.zero_le _, Nat.zero_le _⟩ ?_
              refine go_if_eq (pc := 124) hF 171 dX11_faultOf_124 (by decide) ⟨by decide, by decide⟩ (fun bq124 => ?_) (fun bq124 => ?_)
              · refine go_iload (pc := 171) hF dX11_faultOf_171 1 rfl ?_
                refine go_bipush (pc := 173) hF dX11_faultOf_173 (by decide) ?_
                refine go_icmp_ne (pc := 175) hF 230 dX11_faultOf_175 (by decide) (by omega) ⟨by decide, by decide⟩ (fun bq175 => ?_) (fun bq175 => ?_)
                · refine go_iload (pc := 230) hF dX11_faultOf_230 1 rfl ?_
                  refine go_bipush (pc := 232) hF dX11_faultOf_232 (by decide) ?_
                  refine go_icmp_eq (pc := 234) hF 244 dX11_faultOf_234 (by decide) (by omega) ⟨by decide, by decide⟩ (fun bq234 => ?_) (fun bq234 => ?_)
                  · exact absurd bq234 (by omega)
                  · refine go_iload (pc := 237) hF dX11_faultOf_237 1 rfl ?_
                    refine go_bipush (pc := 239) hF dX11_faultOf_239 (by decide) ?_
                    refine go_icmp_ne (pc := 241) hF 318 dX11_faultOf_241 (by decide) (by omega) ⟨by decide, by decide⟩ (fun bq241 => ?_) (fun bq241 => ?_)
                    · refine go_iload (pc := 318) hF dX11_faultOf_318 0 rfl ?_
                      refine go_if_ne (pc := 320) hF 330 dX11_faultOf_320 (by decide) ⟨by decide, by decide⟩ (fun bq320 => ?_) (fun bq320 => ?_)
                      · exact absurd bq320 (by decide)
                      · refine go_iload (pc := 323) hF dX11_faultOf_323 1 rfl ?_
                        refine go_bipush (pc := 325) hF dX11_faultOf_325 (by decide) ?_
                        refine go_icmp_ne (pc := 327) hF 334 dX11_faultOf_327 (by decide) (by omega) ⟨by decide, by decide⟩ (fun bq327 => ?_) (fun bq327 => ?_)
                        · refine go_iconst (pc := 334) hF dX11_faultOf_334 ?_
                          refine go_istore (pc := 335) hF [(6, vi 0), (5, vi (tx ii)), (4, vi ii), (3, vi 0), (2, vi lk₉), (1, vi dp), (0, vr E 94)] dX11_faultOf_335 rfl (by decide) ?_
                          refine go_iload (pc := 337) hF dX11_faultOf_337 0 rfl ?_
                          refine go_if_ne (pc := 339) hF 345 dX11_faultOf_339 (by decide) ⟨by decide, by decide⟩ (fun bq339 => ?_) (fun bq339 => ?_)
                          · exact absurd bq339 (by decide)
                          · refine go_iload (pc := 342) hF dX11_faultOf_342 2 rfl ?_
                            exact go_iretQ hF hr hlk hQ dX11_faultOf_344 ⟨hz.symm, _, _, _, _, ⟨zx, w2₉, w3₉, w4₉, (fun jj hjj => by rw [fr₉ jj (by omega), f_s1 jj (by omega)])⟩, fun h => absurd h (by omega)⟩
                        · exact absurd bq327 (by omega)
                    · exact absurd bq241 (by omega)
                · exact absurd bq175 (by omega)
              · exact absurd bq124 (by decide)
          · exact absurd bq90 (by decide)
        · exact absurd bq47 (by decide)
      · exact absurd bq36 (by omega)
  have h_endT0 : ∀ (dp lk₉ rz : Int) (rs op₉ ib : Int → Int) (ρ : Nat → va_E), fW E s1₉ un sz₉ tl hi₉ mi ak rt cn ρ rs op₉ ib rz → (0 ≤ dp ∧ dp ≤ 3) → 0 < dp → zEnd tx tl = tl → Go E p e R s m args below meth c Q 7 (0, 0) N ρ [(4, vi tl), (3, vi 0), (2, vi lk₉), (1, vi dp), (0, vr E 94)] [] 14 := by
    intro dp lk₉ rz rs op₉ ib ρ hW hd₉ h0 hz
    obtain ⟨zx, w2₉, w3₉, w4₉, fr₉⟩ := hW
    have zt := (fr₉ 101 (by omega)).trans tx_s1
    refine go_iload (pc := 14) hF dX11_faultOf_14 0 rfl ?_
    refine go_aload_n (pc := 16) hF dX11_faultOf_16 4 rfl ?_
    refine go_get (pc := 17) hF fl_X11_151 dX11_faultOf_17 (by omega) zx rfl ?_
    refine go_icmp_ge (pc := 20) hF 386 dX11_faultOf_20 (by decide) (by omega) (by omega) (fun bq20 => ?_) (fun bq20 => ?_)
    · refine go_iload_n (pc := 386) hF dX11_faultOf_386 3 rfl ?_
      refine go_if_gt (pc := 387) hF 394 dX11_faultOf_387 (by decide) (by omega) (fun bq387 => ?_) (fun bq387 => ?_)
      · refine go_aload_n (pc := 394) hF dX11_faultOf_394 4 rfl ?_
        refine go_get (pc := 395) hF fl_X11_151 dX11_faultOf_395 (by omega) zx rfl ?_
        refine go_goto (pc := 398) hF 402 dX11_faultOf_398 (by decide) ?_
        exact go_iretQ hF hr hlk hQ dX11_faultOf_402 ⟨hz.symm, _, _, _, _, ⟨zx, w2₉, w3₉, w4₉, (fun jj hjj => by rw [fr₉ jj (by omega), f_s1 jj (by omega)])⟩, fun h => absurd h (by omega)⟩
      · exact absurd bq387 (by omega)
    · exact absurd bq20 (by omega)
  have h_endT1 : ∀ (dp lk₉ rz : Int) (rs op₉ ib : Int → Int) (ρ : Nat → va_E), fW E s1₉ un sz₉ tl hi₉ mi ak rt cn ρ rs op₉ ib rz → (0 ≤ dp ∧ dp ≤ 3) → zEnd tx tl = tl → Go E p e R s m args below meth c Q 7 (0, 0) N ρ [(4, vi tl), (3, vi 1), (2, vi lk₉), (1, vi dp), (0, vr E 94)] [] 14 := by
    intro dp lk₉ rz rs op₉ ib ρ hW hd₉ hz
    obtain ⟨zx, w2₉, w3₉, w4₉, fr₉⟩ := hW
    have zt := (fr₉ 101 (by omega)).trans tx_s1
    refine go_iload (pc := 14) hF dX11_faultOf_14 0 rfl ?_
    refine go_aload_n (pc := 16) hF dX11_faultOf_16 4 rfl ?_
    refine go_get (pc := 17) hF fl_X11_151 dX11_faultOf_17 (by omega) zx rfl ?_
    refine go_icmp_ge (pc := 20) hF 386 dX11_faultOf_20 (by decide) (by omega) (by omega) (fun bq20 => ?_) (fun bq20 => ?_)
    · refine go_iload_n (pc := 386) hF dX11_faultOf_386 3 rfl ?_
      refine go_if_gt (pc := 387) hF 394 dX11_faultOf_387 (by decide) (by omega) (fun bq387 => ?_) (fun bq387 => ?_)
      · refine go_aload_n (pc := 394) hF dX11_faultOf_394 4 rfl ?_
        refine go_get (pc := 395) hF fl_X11_151 dX11_faultOf_395 (by omega) zx rfl ?_
        refine go_goto (pc := 398) hF 402 dX11_faultOf_398 (by decide) ?_
        exact go_iretQ hF hr hlk hQ dX11_faultOf_402 ⟨hz.symm, _, _, _, _, ⟨zx, w2₉, w3₉, w4₉, (fun jj hjj => by rw [fr₉ jj (by omega), f_s1 jj (by omega)])⟩, fun h => absurd h (by omega)⟩
      · refine go_iload_n (pc := 390) hF dX11_faultOf_390 1 rfl ?_
        refine go_if_eq (pc := 391) hF 401 dX11_faultOf_391 (by decide) ⟨by decide, by decide⟩ (fun bq391 => ?_) (fun bq391 => ?_)
        · exact absurd bq391 (by decide)
        · refine go_aload_n (pc := 394) hF dX11_faultOf_394 4 rfl ?_
          refine go_get (pc := 395) hF fl_X11_151 dX11_faultOf_395 (by omega) zx rfl ?_
          refine go_goto (pc := 398) hF 402 dX11_faultOf_398 (by decide) ?_
          exact go_iretQ hF hr hlk hQ dX11_faultOf_402 ⟨hz.symm, _, _, _, _, ⟨zx, w2₉, w3₉, w4₉, (fun jj hjj => by rw [fr₉ jj (by omega), f_s1 jj (by omega)])⟩, fun h => absurd h (by omega)⟩
    · exact absurd bq20 (by omega)
  have h_endN : ∀ (lk₉ rz : Int) (rs op₉ ib : Int → Int) (ρ : Nat → va_E), fW E s1₉ un sz₉ tl hi₉ mi ak rt cn ρ rs op₉ ib rz → zEnd tx tl = -1 → (∃ t9, zR tx tl.toNat = .inr ([], t9, 0) ∧ wf t9 ∧ SGT rs t9 0 ∧ rz = tLen t9) → Go E p e R s m args below meth c Q 7 (0, 0) N ρ [(4, vi tl), (3, vi 0), (2, vi lk₉), (1, vi 0), (0, vr E 94)] [] 14 := by
    intro lk₉ rz rs op₉ ib ρ hW hz ht
    obtain ⟨zx, w2₉, w3₉, w4₉, fr₉⟩ := hW
    have zt := (fr₉ 101 (by omega)).trans tx_s1
    refine go_iload (pc := 14) hF dX11_faultOf_14 0 rfl ?_
    refine go_aload_n (pc := 16) hF dX11_faultOf_16 4 rfl ?_
    refine go_get (pc := 17) hF fl_X11_151 dX11_faultOf_17 (by omega) zx rfl ?_
    refine go_icmp_ge (pc := 20) hF 386 dX11_faultOf_20 (by decide) (by omega) (by omega) (fun bq20 => ?_) (fun bq20 => ?_)
    · refine go_iload_n (pc := 386) hF dX11_faultOf_386 3 rfl ?_
      refine go_if_gt (pc := 387) hF 394 dX11_faultOf_387 (by decide) ⟨by decide, by decide⟩ (fun bq387 => ?_) (fun bq387 => ?_)
      · exact absurd bq387 (by decide)
      · refine go_iload_n (pc := 390) hF dX11_faultOf_390 1 rfl ?_
        refine go_if_eq (pc := 391) hF 401 dX11_faultOf_391 (by decide) ⟨by decide, by decide⟩ (fun bq391 => ?_) (fun bq391 => ?_)
        · refine go_iconst (pc := 401) hF dX11_faultOf_401 ?_
          exact go_iretQ hF hr hlk hQ dX11_faultOf_402 ⟨hz.symm, _, _, _, _, ⟨zx, w2₉, w3₉, w4₉, (fun jj hjj => by rw [fr₉ jj (by omega), f_s1 jj (by omega)])⟩, fun _ => ht⟩
        · exact absurd bq391 (by decide)
    · exact absurd bq20 (by omega)
  refine go_lv [(4, vi 0), (3, vi 0), (2, vi 0), (1, vi 0), (0, vr E 94)] [0, 1, 2, 3, 4] rfl ?_
  have hgo := fq_run (E := E) htl htxr (fun ρ ii fb lk₉ dp => Go E p e R s m args below meth c Q 7 (0, 0) N ρ [(4, vi ii), (3, vi fb), (2, vi lk₉), (1, vi dp), (0, vr E 94)] [] 14) h_sp0 h_sp1 h_f91 h_fno h_look h_lookno h_opn h_opnno h_fig h_figno h_bar h_barno h_clo h_clono h_bak h_bakno h_dot h_oth (fun dp lk₉ rz fb rs op₉ ib ρ hW hd₉ hc₉ hz => hc₉.elim (fun q₉ => by rw [q₉.1]; exact h_endT0 dp lk₉ rz rs op₉ ib ρ hW hd₉ q₉.2 hz) (fun q₉ => by rw [q₉]; exact h_endT1 dp lk₉ rz rs op₉ ib ρ hW hd₉ hz)) h_endN tl.toNat 0 (by omega) [] .nil 0 0 0 0 rs0 op0 ib0 s1₉ rfl ⟨⟨trivial, trivial⟩, ⟨rfl, by decide⟩, ⟨rfl, by decide⟩, ⟨by decide, by decide⟩, rfl, trivial, trivial, fun e => absurd rfl e, trivial⟩ (by omega) ⟨u_s1, rs_s1, op_s1, ib_s1, fun _ _ => rfl⟩
  exact hgo
