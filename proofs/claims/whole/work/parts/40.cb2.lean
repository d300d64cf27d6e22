/-! CacheBounds: the rest₉ of₉ the calls. -/
theorem zEnd_rg (tx : Int → Int) {tl : Int} (h : 0 ≤ tl ∧ tl ≤ 80) : -1 ≤ zEnd tx tl ∧ zEnd tx tl ≤ 80 := by
  have aux : ∀ i₉ : Nat, ∀ f₉ : Int, zR tx i₉ = .inl f₉ → 0 ≤ f₉ ∧ f₉ < i₉ := by
    intro i₉
    induction i₉ with
    | zero => intro f₉ hf; cases hf
    | succ i₉ ih₉ =>
      intro f₉ hf
      cases hz : zR tx i₉ with
      | inl g₉ =>
        simp only [zR, hz] at hf
        cases hf
        have := ih₉ f₉ hz; omega
      | inr z₉ =>
        cases hs : zst (tx i₉) z₉.1 z₉.2.1 z₉.2.2 with
        | none => simp only [zR, hz, hs] at hf; cases hf; omega
        | some z' => simp only [zR, hz, hs] at hf; cases hf
  unfold zEnd
  cases hz : zR tx tl.toNat with
  | inl f₉ => have := aux _ f₉ hz; show -1 ≤ f₉ ∧ f₉ ≤ 80; omega
  | inr z₉ => show -1 ≤ (if z₉.1.length = 0 ∧ z₉.2.2 = 0 then -1 else tl) ∧ (if z₉.1.length = 0 ∧ z₉.2.2 = 0 then -1 else tl) ≤ 80; split <;> omega

set_option maxHeartbeats 4000000 in
set_option maxRecDepth 100000 in
theorem c_X10_reads_no (E : En) (N : Nat) (σ : Nat → va_E) (r₉ u₉ kd pr : Int) (yr yw yk yp : Int → Int) (hs : Int) (tx : Int → Int) (tl : Int) (t₉ : Tr) (xb xn xf q1₉ q2₉ q3₉ : Int) (hN₉ : 101 ≤ N) (hO : okS r₉ u₉ kd pr yr yw yk yp hs tx tl t₉ xb xn xf q1₉ q2₉ q3₉) (hS₉ : clS E σ r₉ u₉ kd pr yr yw yk yp hs tx tl t₉ xb xn xf q1₉ q2₉ q3₉) (hno : zEnd tx tl ≠ -1) : CI E M_X10_reads 16 [vr E 0] N σ (fun y₉ σ' => y₉ = (-10 - zEnd tx tl) ∧ clS E σ' r₉ u₉ kd pr yr yw yk yp hs tx tl t₉ xb xn xf q1₉ q2₉ q3₉ ∧ ∀ q₉, 94 ≤ q₉ → σ' q₉ = σ q₉) := by
  refine CT.of2 (own := RX10) (by decide) rfl (Nat.le_of_ble_eq_true rfl) ?_
  intro p e R s m args below meth c Q hF hr hlk hnm hz hR hQ
  obtain ⟨z0, z1, ⟨a1₉, a2, a3, a4, z2⟩, zh, z13₉, zrd, ⟨sg, vl, mt₉, lw, ll, la, sz₉, lk₉, chs, lps, dp, ln, zp, hT₉⟩, zfo, zex, ⟨b1, b2, z99⟩, ⟨d1₉, d2₉, d3₉, d4₉, d5₉, z100⟩⟩ := hS₉
  obtain ⟨⟨hrw, hu, hkd, hpr⟩, hhs, hyy, htl, htx, hxb, hxn, hxf, hq1, hq2, hq3, hwf, hdp3, hl80, hl24⟩ := hO
  have eg := en_rg hrw.1
  obtain ⟨-, -, hpa0, htl9, htk9, hch9, hlp9, hdp9, hln9, ho⟩ := hT₉
  have hT₉ : prT t₉ sg vl mt₉ lw ll la sz₉ lk₉ chs lps dp ln := ⟨hwf, hdp3, hpa0, htl9, htk9, hch9, hlp9, hdp9, hln9, ho⟩
  have ezr := zEnd_rg tx htl
  refine go_aload_n (pc := 0) hF dX10_reads_0 0 rfl ?_
  refine go_get (pc := 1) hF fl_X10_37 dX10_reads_1 (by omega) z0 rfl ?_
  refine go_aload_n (pc := 4) hF dX10_reads_4 0 rfl ?_
  refine go_get (pc := 5) hF fl_X10_26 dX10_reads_5 (by omega) z0 rfl ?_
  refine go_aload_n (pc := 8) hF dX10_reads_8 0 rfl ?_
  refine go_get (pc := 9) hF fl_X10_30 dX10_reads_9 (by omega) z0 rfl ?_
  obtain ⟨op9, sg9, vl9, mt9, lw9, ll9, la9, d9₉, fg9, sz9, lk9, ch9, lp9, dp9, ln9, hR9, ok9⟩ := id zrd
  refine go_callVI (pc := 12) hF [vr E 13, vi tl] [] mv_X10_125 dX10_reads_12 (by omega) hR9.1 (c_X7_read E N σ hN₉ hR9 ok9 z13₉ htl htx) rfl rfl (Nat.le_of_ble_eq_true rfl) (by decide) ⟨Nat.zero_le _, Nat.zero_le _⟩ (fun y9 s1₉ h_s1 => ?_)
  obtain ⟨ey, f_s1, op2, sg2₉, vl2, mt2, lw2, ll2, la2, dd2, fg2, sz2, lk2, ch2, lp2, dp2, ln2, hR2, ok2, hyt⟩ := h_s1
  subst ey
  have urd : rdC E s1₉ := ⟨op2, sg2₉, vl2, mt2, lw2, ll2, la2, dd2, fg2, sz2, lk2, ch2, lp2, dp2, ln2, hR2, ok2⟩
  have x_s1 := (f_s1 0 (by omega)).trans z0
  have c_s1 := (f_s1 1 (by omega)).trans z1
  have d_s1 := (f_s1 2 (by omega)).trans z2
  have h_s1 := zh.keep (fun jj h1 h2 => f_s1 jj (by omega))
  have tx_s1 := (f_s1 13 (by omega)).trans z13₉
  have fo_s1 := zfo.keep (fun jj h1 h2 => f_s1 jj (by omega))
  have ex_s1 := zex.keep (fun jj h1 h2 => f_s1 jj (by omega))
  have lr_s1 := (f_s1 92 (by omega)).trans z99
  have dr_s1 := (f_s1 93 (by omega)).trans z100
  have pg_s1 := zp.keep (fun jj h1 h2 => f_s1 jj (by omega))
  refine go_istore_n (pc := 15) hF [(1, vi (zEnd tx tl)), (0, vr E 0)] dX10_reads_15 rfl (by decide) ?_
  refine go_iload_n (pc := 16) hF dX10_reads_16 0 rfl ?_
  refine go_iconst (pc := 17) hF dX10_reads_17 ?_
  refine go_icmp_eq (pc := 18) hF 26 dX10_reads_18 (by decide) (by omega) ⟨by decide, by decide⟩ (fun bq18 => ?_) (fun bq18 => ?_)
  · exact absurd bq18 hno
  · refine go_bipush (pc := 21) hF dX10_reads_21 (by decide) ?_
    refine go_iload_n (pc := 23) hF dX10_reads_23 0 rfl ?_
    refine go_isub (pc := 24) hF dX10_reads_24 ?_
    exact go_iretQ hF hr hlk hQ dX10_reads_25 ⟨rfl, ⟨x_s1, c_s1, ⟨_, _, _, _, d_s1⟩, h_s1, tx_s1, urd, ⟨sg, vl, mt₉, lw, ll, la, sz₉, lk₉, chs, lps, dp, ln, pg_s1, hT₉⟩, fo_s1, ex_s1, ⟨_, _, lr_s1⟩, ⟨_, _, _, _, _, dr_s1⟩⟩, (fun jj hjj => by rw [f_s1 jj (by omega)])⟩
set_option maxHeartbeats 4000000 in
set_option maxRecDepth 100000 in
theorem c_X10_reads_yes (E : En) (N : Nat) (σ : Nat → va_E) (r₉ u₉ kd pr : Int) (yr yw yk yp : Int → Int) (hs : Int) (tx : Int → Int) (tl : Int) (t₉ : Tr) (xb xn xf q1₉ q2₉ q3₉ : Int) (hN₉ : 101 ≤ N) (hO : okS r₉ u₉ kd pr yr yw yk yp hs tx tl t₉ xb xn xf q1₉ q2₉ q3₉) (hS₉ : clS E σ r₉ u₉ kd pr yr yw yk yp hs tx tl t₉ xb xn xf q1₉ q2₉ q3₉) (t9 : Tr) (hz9 : zR tx tl.toNat = .inr ([], t9, 0)) (hyes : zEnd tx tl = -1) : CI E M_X10_reads 16 [vr E 0] N σ (fun y₉ σ' => y₉ = (tLks t9 : Int) ∧ clS E σ' r₉ u₉ kd pr yr yw yk yp hs tx tl t9 xb xn xf q1₉ q2₉ q3₉ ∧ ∀ q₉, 94 ≤ q₉ → σ' q₉ = σ q₉) := by
  refine CT.of2 (own := RX10) (by decide) rfl (Nat.le_of_ble_eq_true rfl) ?_
  intro p e R s m args below meth c Q hF hr hlk hnm hz hR hQ
  obtain ⟨z0, z1, ⟨a1₉, a2, a3, a4, z2⟩, zh, z13₉, zrd, ⟨sg, vl, mt₉, lw, ll, la, sz₉, lk₉, chs, lps, dp, ln, zp, hT₉⟩, zfo, zex, ⟨b1, b2, z99⟩, ⟨d1₉, d2₉, d3₉, d4₉, d5₉, z100⟩⟩ := hS₉
  obtain ⟨⟨hrw, hu, hkd, hpr⟩, hhs, hyy, htl, htx, hxb, hxn, hxf, hq1, hq2, hq3, hwf, hdp3, hl80, hl24⟩ := hO
  have eg := en_rg hrw.1
  obtain ⟨-, -, hpa0, htl9, htk9, hch9, hlp9, hdp9, hln9, ho⟩ := hT₉
  have hT₉ : prT t₉ sg vl mt₉ lw ll la sz₉ lk₉ chs lps dp ln := ⟨hwf, hdp3, hpa0, htl9, htk9, hch9, hlp9, hdp9, hln9, ho⟩
  have ezr := zEnd_rg tx htl
  refine go_aload_n (pc := 0) hF dX10_reads_0 0 rfl ?_
  refine go_get (pc := 1) hF fl_X10_37 dX10_reads_1 (by omega) z0 rfl ?_
  refine go_aload_n (pc := 4) hF dX10_reads_4 0 rfl ?_
  refine go_get (pc := 5) hF fl_X10_26 dX10_reads_5 (by omega) z0 rfl ?_
  refine go_aload_n (pc := 8) hF dX10_reads_8 0 rfl ?_
  refine go_get (pc := 9) hF fl_X10_30 dX10_reads_9 (by omega) z0 rfl ?_
  obtain ⟨op9, sg9, vl9, mt9, lw9, ll9, la9, d9₉, fg9, sz9, lk9, ch9, lp9, dp9, ln9, hR9, ok9⟩ := id zrd
  refine go_callVI (pc := 12) hF [vr E 13, vi tl] [] mv_X10_125 dX10_reads_12 (by omega) hR9.1 (c_X7_read E N σ hN₉ hR9 ok9 z13₉ htl htx) rfl rfl (Nat.le_of_ble_eq_true rfl) (by decide) ⟨Nat.zero_le _, Nat.zero_le _⟩ (fun y9 s1₉ h_s1 => ?_)
  obtain ⟨ey, f_s1, op2, sg2₉, vl2, mt2, lw2, ll2, la2, dd2, fg2, sz2, lk2, ch2, lp2, dp2, ln2, hR2, ok2, hyt⟩ := h_s1
  subst ey
  have urd : rdC E s1₉ := ⟨op2, sg2₉, vl2, mt2, lw2, ll2, la2, dd2, fg2, sz2, lk2, ch2, lp2, dp2, ln2, hR2, ok2⟩
  have x_s1 := (f_s1 0 (by omega)).trans z0
  have c_s1 := (f_s1 1 (by omega)).trans z1
  have d_s1 := (f_s1 2 (by omega)).trans z2
  have h_s1 := zh.keep (fun jj h1 h2 => f_s1 jj (by omega))
  have tx_s1 := (f_s1 13 (by omega)).trans z13₉
  have fo_s1 := zfo.keep (fun jj h1 h2 => f_s1 jj (by omega))
  have ex_s1 := zex.keep (fun jj h1 h2 => f_s1 jj (by omega))
  have lr_s1 := (f_s1 92 (by omega)).trans z99
  have dr_s1 := (f_s1 93 (by omega)).trans z100
  have pg_s1 := zp.keep (fun jj h1 h2 => f_s1 jj (by omega))
  refine go_istore_n (pc := 15) hF [(1, vi (zEnd tx tl)), (0, vr E 0)] dX10_reads_15 rfl (by decide) ?_
  refine go_iload_n (pc := 16) hF dX10_reads_16 0 rfl ?_
  refine go_iconst (pc := 17) hF dX10_reads_17 ?_
  refine go_icmp_eq (pc := 18) hF 26 dX10_reads_18 (by decide) (by omega) ⟨by decide, by decide⟩ (fun bq18 => ?_) (fun bq18 => ?_)
  · refine go_aload_n (pc := 26) hF dX10_reads_26 1 rfl ?_
    refine go_get (pc := 27) hF fl_X10_44 dX10_reads_27 (by omega) x_s1 rfl ?_
    refine go_aload_n (pc := 30) hF dX10_reads_30 1 rfl ?_
    refine go_get (pc := 31) hF fl_X10_37 dX10_reads_31 (by omega) x_s1 rfl ?_
    refine go_get (pc := 34) hF fl_X10_129 dX10_reads_34 (by omega) hR2.1 rfl ?_
    obtain ⟨t2₉, hz2, hT2⟩ := hyt hyes
    have et : t2₉ = t9 := by rw [hz9] at hz2; cases hz2; rfl
    subst et
    refine go_callVV (pc := 37) hF [vr E 16] [] mv_X10_132 dX10_reads_37 (by omega) pg_s1.1 (c_X6_setAs E N s1₉ 23 (by omega) pg_s1 16 (by omega) (by omega) hR2.2.2) rfl rfl (Nat.le_of_ble_eq_true rfl) (by decide) ⟨Nat.zero_le _, Nat.zero_le _⟩ (fun s2₉ h_s2 => ?_)
    obtain ⟨up_s2, f_s2⟩ := h_s2
    have x_s2 := (f_s2 0 (by omega)).trans x_s1
    have c_s2 := (f_s2 1 (by omega)).trans c_s1
    have d_s2 := (f_s2 2 (by omega)).trans d_s1
    have h_s2 := h_s1.keep (fun jj h1 h2 => f_s2 jj (by omega))
    have tx_s2 := (f_s2 13 (by omega)).trans tx_s1
    have rd_s2 := urd.keep (fun jj h1 h2 => f_s2 jj (by omega))
    have fo_s2 := fo_s1.keep (fun jj h1 h2 => f_s2 jj (by omega))
    have ex_s2 := ex_s1.keep (fun jj h1 h2 => f_s2 jj (by omega))
    have lr_s2 := (f_s2 92 (by omega)).trans lr_s1
    have dr_s2 := (f_s2 93 (by omega)).trans dr_s1
    refine go_aload_n (pc := 40) hF dX10_reads_40 1 rfl ?_
    refine go_get (pc := 41) hF fl_X10_51 dX10_reads_41 (by omega) x_s2 rfl ?_
    obtain ⟨v9, kn9, hv9, mm9, my9, A9, g1, g2, g3₉, g4⟩ := id fo_s2
    refine go_callVV (pc := 44) hF [] [] mv_X10_136 dX10_reads_44 (by omega) g1.1 (c_X3_forget E N s2₉ v9 kn9 hN₉ g1.1) rfl rfl (Nat.le_of_ble_eq_true rfl) (by decide) ⟨Nat.zero_le _, Nat.zero_le _⟩ (fun s3₉ h_s3 => ?_)
    obtain ⟨uf_s3, f_s3⟩ := h_s3
    have fo_n : foC E s3₉ t2₉ := ⟨v9, 0, hv9, mm9, my9, A9, ⟨uf_s3, (f_s3 31 (by omega)).trans g1.2.1, (f_s3 32 (by omega)).trans g1.2.2.1, (f_s3 33 (by omega)).trans g1.2.2.2.1, (f_s3 34 (by omega)).trans g1.2.2.2.2⟩, g2.keep (fun j₉ h1 h2 => f_s3 j₉ (by omega)), g3₉.keep (fun j₉ h1 h2 => f_s3 j₉ (by omega)), Or.inl rfl⟩
    have x_s3 := (f_s3 0 (by omega)).trans x_s2
    have c_s3 := (f_s3 1 (by omega)).trans c_s2
    have d_s3 := (f_s3 2 (by omega)).trans d_s2
    have h_s3 := h_s2.keep (fun jj h1 h2 => f_s3 jj (by omega))
    have tx_s3 := (f_s3 13 (by omega)).trans tx_s2
    have rd_s3 := rd_s2.keep (fun jj h1 h2 => f_s3 jj (by omega))
    have ex_s3 := ex_s2.keep (fun jj h1 h2 => f_s3 jj (by omega))
    have lr_s3 := (f_s3 92 (by omega)).trans lr_s2
    have dr_s3 := (f_s3 93 (by omega)).trans dr_s2
    have pg_s3 := up_s2.keep (fun jj h1 h2 => f_s3 jj (by omega))
    refine go_aload_n (pc := 47) hF dX10_reads_47 1 rfl ?_
    refine go_get (pc := 48) hF fl_X10_58 dX10_reads_48 (by omega) x_s3 rfl ?_
    obtain ⟨nw9, un9, e1₉, e2₉, e3₉, e4₉, kn8, j1, j2₉, j3₉, j4₉⟩ := ex_s3.any
    refine go_callVV (pc := 51) hF [] [] mv_X10_139 dX10_reads_51 (by omega) j2₉.1 (c_X2_forget E N s3₉ un9 kn8 hN₉ j2₉.1) rfl rfl (Nat.le_of_ble_eq_true rfl) (by decide) ⟨Nat.zero_le _, Nat.zero_le _⟩ (fun s4₉ h_s4 => ?_)
    obtain ⟨ux_s4, f_s4⟩ := h_s4
    have ex_n : expS E s4₉ t2₉ := Or.inl ⟨nw9, un9, e1₉, e2₉, e3₉, e4₉, j1, ⟨ux_s4, (f_s4 57 (by omega)).trans j2₉.2.1, (f_s4 58 (by omega)).trans j2₉.2.2⟩, (f_s4 63 (by omega)).trans j3₉, j4₉.keep (fun j₉ h1 h2 h3 => f_s4 j₉ (by omega))⟩
    have x_s4 := (f_s4 0 (by omega)).trans x_s3
    have c_s4 := (f_s4 1 (by omega)).trans c_s3
    have d_s4 := (f_s4 2 (by omega)).trans d_s3
    have h_s4 := h_s3.keep (fun jj h1 h2 => f_s4 jj (by omega))
    have tx_s4 := (f_s4 13 (by omega)).trans tx_s3
    have rd_s4 := rd_s3.keep (fun jj h1 h2 => f_s4 jj (by omega))
    have fo_s4 := fo_n.keep (fun jj h1 h2 => f_s4 jj (by omega))
    have lr_s4 := (f_s4 92 (by omega)).trans lr_s3
    have dr_s4 := (f_s4 93 (by omega)).trans dr_s3
    have pg_s4 := pg_s3.keep (fun jj h1 h2 => f_s4 jj (by omega))
    refine go_aload_n (pc := 54) hF dX10_reads_54 1 rfl ?_
    refine go_get (pc := 55) hF fl_X10_44 dX10_reads_55 (by omega) x_s4 rfl ?_
    refine go_get (pc := 58) hF fl_X10_140 dX10_reads_58 (by omega) pg_s4.1 rfl ?_
    exact go_iretQ hF hr hlk hQ dX10_reads_61 ⟨hT2.2.2.2.2.1.symm, ⟨x_s4, c_s4, ⟨_, _, _, _, d_s4⟩, h_s4, tx_s4, rd_s4, ⟨sg2₉, vl2, mt2, lw2, ll2, la2, sz2, lk2, ch2, lp2, dp2, ln2, pg_s4, hT2⟩, fo_s4, ex_n, ⟨_, _, lr_s4⟩, ⟨_, _, _, _, _, dr_s4⟩⟩, (fun jj hjj => by rw [f_s4 jj (by omega), f_s3 jj (by omega), f_s2 jj (by omega), f_s1 jj (by omega)])⟩
  · exact absurd hyes bq18
set_option maxHeartbeats 4000000 in
set_option maxRecDepth 100000 in
theorem c_X10_of_bad (E : En) (N : Nat) (σ : Nat → va_E) (r₉ u₉ kd pr : Int) (yr yw yk yp : Int → Int) (hs : Int) (tx : Int → Int) (tl : Int) (t₉ : Tr) (xb xn xf q1₉ q2₉ q3₉ : Int) (hN₉ : 101 ≤ N) (hO : okS r₉ u₉ kd pr yr yw yk yp hs tx tl t₉ xb xn xf q1₉ q2₉ q3₉) (hS₉ : clS E σ r₉ u₉ kd pr yr yw yk yp hs tx tl t₉ xb xn xf q1₉ q2₉ q3₉) (k9 x₉ : Int) (hk9 : rg k9) (hx : rg x₉) (hno : ¬ ((0 ≤ k9 ∧ k9 ≤ tLks t₉ - 1) ∧ 0 ≤ x₉ ∧ x₉ ≤ 5)) : CI E M_X10_of 16 [vr E 0, vi k9, vi x₉] N σ (fun y₉ σ' => y₉ = (-2) ∧ clS E σ' r₉ u₉ kd pr yr yw yk yp hs tx tl t₉ (wr₉ (xb + 1)) xn xf q1₉ q2₉ q3₉ ∧ ∀ q₉, 94 ≤ q₉ → σ' q₉ = σ q₉) := by
  refine CT.of2 (own := RX10) (by decide) rfl (Nat.le_of_ble_eq_true rfl) ?_
  intro p e R s m args below meth c Q hF hr hlk hnm hz hR hQ
  obtain ⟨z0, z1, ⟨a1₉, a2, a3, a4, z2⟩, zh, z13₉, zrd, ⟨sg, vl, mt₉, lw, ll, la, sz₉, lk₉, chs, lps, dp, ln, zp, hT₉⟩, zfo, zex, ⟨b1, b2, z99⟩, ⟨d1₉, d2₉, d3₉, d4₉, d5₉, z100⟩⟩ := hS₉
  obtain ⟨⟨hrw, hu, hkd, hpr⟩, hhs, hyy, htl, htx, hxb, hxn, hxf, hq1, hq2, hq3, hwf, hdp3, hl80, hl24⟩ := hO
  have eg := en_rg hrw.1
  obtain ⟨-, -, hpa0, htl9, htk9, hch9, hlp9, hdp9, hln9, ho⟩ := hT₉
  have hT₉ : prT t₉ sg vl mt₉ lw ll la sz₉ lk₉ chs lps dp ln := ⟨hwf, hdp3, hpa0, htl9, htk9, hch9, hlp9, hdp9, hln9, ho⟩
  have hlk0 := ho.2.1
  refine go_iload_n (pc := 0) hF dX10_of_0 1 rfl ?_
  refine go_iconst (pc := 1) hF dX10_of_1 ?_
  refine go_aload_n (pc := 2) hF dX10_of_2 0 rfl ?_
  refine go_get (pc := 3) hF fl_X10_44 dX10_of_3 (by omega) z0 rfl ?_
  refine go_get (pc := 6) hF fl_X10_140 dX10_of_6 (by omega) zp.1 rfl ?_
  refine go_iconst (pc := 9) hF dX10_of_9 ?_
  refine go_isub (pc := 10) hF dX10_of_10 ?_
  refine go_callSP (pc := 11) hF [vi k9, vi 0, vi (lk₉ - 1)] [] ms_X10_81 dX10_of_11 (c_X10_isWithin E N σ k9 0 (lk₉ - 1) (by omega) ⟨by decide, by decide⟩ (by omega)) rfl rfl (Nat.le_of_ble_eq_true rfl) (by decide) ⟨Nat.zero_le _, Nat.zero_le _⟩ ?_
  refine go_if_eq (pc := 14) hF 26 dX10_of_14 (by decide) (bI_rg _) (fun bq14 => ?_) (fun bq14 => ?_)
  · refine go_aload_n (pc := 26) hF dX10_of_26 0 rfl ?_
    refine go_callVI (pc := 27) hF [] [] mv_X10_85 dX10_of_27 (by omega) z0 (c_X10_refuseBad E N σ hN₉ z0) rfl rfl (Nat.le_of_ble_eq_true rfl) (by decide) ⟨Nat.zero_le _, Nat.zero_le _⟩ (fun r_s1 s1₉ h_s1 => ?_)
    obtain ⟨e_s1, u0_s1, f_s1⟩ := h_s1
    have c_s1 := (f_s1 1 (by omega)).trans z1
    have d_s1 := (f_s1 2 (by omega)).trans z2
    have h_s1 := zh.keep (fun jj h1 h2 => f_s1 jj (by omega))
    have tx_s1 := (f_s1 13 (by omega)).trans z13₉
    have rd_s1 := zrd.keep (fun jj h1 h2 => f_s1 jj (by omega))
    have fo_s1 := zfo.keep (fun jj h1 h2 => f_s1 jj (by omega))
    have ex_s1 := zex.keep (fun jj h1 h2 => f_s1 jj (by omega))
    have lr_s1 := (f_s1 92 (by omega)).trans z99
    have dr_s1 := (f_s1 93 (by omega)).trans z100
    have pg_s1 := zp.keep (fun jj h1 h2 => f_s1 jj (by omega))
    subst e_s1
    exact go_iretQ hF hr hlk hQ dX10_of_30 ⟨rfl, ⟨(by rw [vi_wr]; exact u0_s1), c_s1, ⟨_, _, _, _, d_s1⟩, h_s1, tx_s1, rd_s1, ⟨sg, vl, mt₉, lw, ll, la, sz₉, lk₉, chs, lps, dp, ln, pg_s1, hT₉⟩, fo_s1, ex_s1, ⟨_, _, lr_s1⟩, ⟨_, _, _, _, _, dr_s1⟩⟩, (fun jj hjj => by rw [f_s1 jj (by omega)])⟩
  · refine go_iload_n (pc := 17) hF dX10_of_17 2 rfl ?_
    refine go_iconst (pc := 18) hF dX10_of_18 ?_
    refine go_iconst (pc := 19) hF dX10_of_19 ?_
    refine go_callSP (pc := 20) hF [vi x₉, vi 0, vi 5] [] ms_X10_81 dX10_of_20 (c_X10_isWithin E N σ x₉ 0 5 (by omega) ⟨by decide, by decide⟩ ⟨by decide, by decide⟩) rfl rfl (Nat.le_of_ble_eq_true rfl) (by decide) ⟨Nat.zero_le _, Nat.zero_le _⟩ ?_
    refine go_if_ne (pc := 23) hF 31 dX10_of_23 (by decide) (bI_rg _) (fun bq23 => ?_) (fun bq23 => ?_)
    · exact absurd (show (0 ≤ k9 ∧ k9 ≤ lk₉ - 1) ∧ 0 ≤ x₉ ∧ x₉ ≤ 5 from ⟨Decidable.not_not.mp (fun z₉ => bq14 ((bI_0 _).mpr z₉)), Decidable.not_not.mp (fun z₉ => bq23 ((bI_0 _).mpr z₉))⟩) (by rw [← htk9]; exact hno)
    · refine go_aload_n (pc := 26) hF dX10_of_26 0 rfl ?_
      refine go_callVI (pc := 27) hF [] [] mv_X10_85 dX10_of_27 (by omega) z0 (c_X10_refuseBad E N σ hN₉ z0) rfl rfl (Nat.le_of_ble_eq_true rfl) (by decide) ⟨Nat.zero_le _, Nat.zero_le _⟩ (fun r_s2 s2₉ h_s2 => ?_)
      obtain ⟨e_s2, u0_s2, f_s2⟩ := h_s2
      have c_s2 := (f_s2 1 (by omega)).trans z1
      have d_s2 := (f_s2 2 (by omega)).trans z2
      have h_s2 := zh.keep (fun jj h1 h2 => f_s2 jj (by omega))
      have tx_s2 := (f_s2 13 (by omega)).trans z13₉
      have rd_s2 := zrd.keep (fun jj h1 h2 => f_s2 jj (by omega))
      have fo_s2 := zfo.keep (fun jj h1 h2 => f_s2 jj (by omega))
      have ex_s2 := zex.keep (fun jj h1 h2 => f_s2 jj (by omega))
      have lr_s2 := (f_s2 92 (by omega)).trans z99
      have dr_s2 := (f_s2 93 (by omega)).trans z100
      have pg_s2 := zp.keep (fun jj h1 h2 => f_s2 jj (by omega))
      subst e_s2
      exact go_iretQ hF hr hlk hQ dX10_of_30 ⟨rfl, ⟨(by rw [vi_wr]; exact u0_s2), c_s2, ⟨_, _, _, _, d_s2⟩, h_s2, tx_s2, rd_s2, ⟨sg, vl, mt₉, lw, ll, la, sz₉, lk₉, chs, lps, dp, ln, pg_s2, hT₉⟩, fo_s2, ex_s2, ⟨_, _, lr_s2⟩, ⟨_, _, _, _, _, dr_s2⟩⟩, (fun jj hjj => by rw [f_s2 jj (by omega)])⟩
set_option maxHeartbeats 4000000 in
set_option maxRecDepth 100000 in
theorem c_X10_of_ok (E : En) (N : Nat) (σ : Nat → va_E) (r₉ u₉ kd pr : Int) (yr yw yk yp : Int → Int) (hs : Int) (tx : Int → Int) (tl : Int) (t₉ : Tr) (xb xn xf q1₉ q2₉ q3₉ : Int) (hN₉ : 101 ≤ N) (hO : okS r₉ u₉ kd pr yr yw yk yp hs tx tl t₉ xb xn xf q1₉ q2₉ q3₉) (hS₉ : clS E σ r₉ u₉ kd pr yr yw yk yp hs tx tl t₉ xb xn xf q1₉ q2₉ q3₉) (k9 x₉ : Int) (hk9 : 0 ≤ k9 ∧ k9 ≤ tLks t₉ - 1) (hx : 0 ≤ x₉ ∧ x₉ ≤ 5) : CI E M_X10_of 16 [vr E 0, vi k9, vi x₉] N σ (fun y₉ σ' => y₉ = ofA t₉ u₉ k9 x₉ ∧ clS E σ' r₉ u₉ kd pr yr yw yk yp hs tx tl t₉ xb xn xf q1₉ q2₉ q3₉ ∧ ∀ q₉, 94 ≤ q₉ → σ' q₉ = σ q₉) := by
  refine CT.of2 (own := RX10) (by decide) rfl (Nat.le_of_ble_eq_true rfl) ?_
  intro p e R s m args below meth c Q hF hr hlk hnm hz hR hQ
  obtain ⟨z0, z1, ⟨a1₉, a2, a3, a4, z2⟩, zh, z13₉, zrd, ⟨sg, vl, mt₉, lw, ll, la, sz₉, lk₉, chs, lps, dp, ln, zp, hT₉⟩, zfo, zex, ⟨b1, b2, z99⟩, ⟨d1₉, d2₉, d3₉, d4₉, d5₉, z100⟩⟩ := hS₉
  obtain ⟨⟨hrw, hu, hkd, hpr⟩, hhs, hyy, htl, htx, hxb, hxn, hxf, hq1, hq2, hq3, hwf, hdp3, hl80, hl24⟩ := hO
  have eg := en_rg hrw.1
  obtain ⟨-, -, hpa0, htl9, htk9, hch9, hlp9, hdp9, hln9, ho⟩ := hT₉
  have hT₉ : prT t₉ sg vl mt₉ lw ll la sz₉ lk₉ chs lps dp ln := ⟨hwf, hdp3, hpa0, htl9, htk9, hch9, hlp9, hdp9, hln9, ho⟩
  have hlk0 := ho.2.1
  have hlook := prT_look hT₉ (k₉ := k9) (by omega)
  have hfig : gFig vl la sz₉ lk₉ k9 = (infT t₉ k9).1 := by
    unfold gFig gVal
    rw [if_pos (by omega)]
    rcases hlook.2 with ⟨q1₉, q2₉⟩ | ⟨q1₉, q2₉, q3₉⟩
    · rw [q2₉, if_neg (by omega)]
    · rw [if_pos (by have := ho.1; omega)]; exact q2₉
  refine go_iload_n (pc := 0) hF dX10_of_0 1 rfl ?_
  refine go_iconst (pc := 1) hF dX10_of_1 ?_
  refine go_aload_n (pc := 2) hF dX10_of_2 0 rfl ?_
  refine go_get (pc := 3) hF fl_X10_44 dX10_of_3 (by omega) z0 rfl ?_
  refine go_get (pc := 6) hF fl_X10_140 dX10_of_6 (by omega) zp.1 rfl ?_
  refine go_iconst (pc := 9) hF dX10_of_9 ?_
  refine go_isub (pc := 10) hF dX10_of_10 ?_
  refine go_callSP (pc := 11) hF [vi k9, vi 0, vi (lk₉ - 1)] [] ms_X10_81 dX10_of_11 (c_X10_isWithin E N σ k9 0 (lk₉ - 1) (by omega) ⟨by decide, by decide⟩ (by omega)) rfl rfl (Nat.le_of_ble_eq_true rfl) (by decide) ⟨Nat.zero_le _, Nat.zero_le _⟩ ?_
  refine go_if_eq (pc := 14) hF 26 dX10_of_14 (by decide) (bI_rg _) (fun bq14 => ?_) (fun bq14 => ?_)
  · exact absurd ((bI_0 _).mp bq14) (by omega)
  · refine go_iload_n (pc := 17) hF dX10_of_17 2 rfl ?_
    refine go_iconst (pc := 18) hF dX10_of_18 ?_
    refine go_iconst (pc := 19) hF dX10_of_19 ?_
    refine go_callSP (pc := 20) hF [vi x₉, vi 0, vi 5] [] ms_X10_81 dX10_of_20 (c_X10_isWithin E N σ x₉ 0 5 (by omega) ⟨by decide, by decide⟩ ⟨by decide, by decide⟩) rfl rfl (Nat.le_of_ble_eq_true rfl) (by decide) ⟨Nat.zero_le _, Nat.zero_le _⟩ ?_
    refine go_if_ne (pc := 23) hF 31 dX10_of_23 (by decide) (bI_rg _) (fun bq23 => ?_) (fun bq23 => ?_)
    · refine go_aload_n (pc := 31) hF dX10_of_31 0 rfl ?_
      refine go_get (pc := 32) hF fl_X10_51 dX10_of_32 (by omega) z0 rfl ?_
      refine go_aload_n (pc := 35) hF dX10_of_35 0 rfl ?_
      refine go_get (pc := 36) hF fl_X10_44 dX10_of_36 (by omega) z0 rfl ?_
      refine go_aload_n (pc := 39) hF dX10_of_39 0 rfl ?_
      refine go_get (pc := 40) hF fl_X10_10 dX10_of_40 (by omega) z0 rfl ?_
      refine go_get (pc := 43) hF fl_X10_93 dX10_of_43 (by omega) z1 rfl ?_
      obtain ⟨v9, kn9, hv9, hfs9⟩ := id zfo
      refine go_callVV (pc := 46) hF [vr E 23, vi u₉] [] mv_X10_146 dX10_of_46 (by omega) zfo.cell.choose_spec (c_X3_follow E N σ t₉ sg vl mt₉ lw ll la sz₉ lk₉ chs lps dp ln v9 kn9 u₉ hN₉ zp ho hwf hdp3 hpa0 htl9 htk9 hu hv9 hfs9) rfl rfl (Nat.le_of_ble_eq_true rfl) (by decide) ⟨Nat.zero_le _, Nat.zero_le _⟩ (fun s1₉ h_s1 => ?_)
      obtain ⟨uf_s1, f_s1⟩ := h_s1
      have fo_n : foC E s1₉ t₉ := ⟨u₉, 1, by omega, uf_s1⟩
      obtain ⟨mm, my, hf, hA, hmy, hRR⟩ := fol_use hwf hu uf_s1
      have x_s1 := (f_s1 0 (by omega)).trans z0
      have c_s1 := (f_s1 1 (by omega)).trans z1
      have d_s1 := (f_s1 2 (by omega)).trans z2
      have h_s1 := zh.keep (fun jj h1 h2 => f_s1 jj (by omega))
      have tx_s1 := (f_s1 13 (by omega)).trans z13₉
      have rd_s1 := zrd.keep (fun jj h1 h2 => f_s1 jj (by omega))
      have ex_s1 := zex.keep (fun jj h1 h2 => f_s1 jj (by omega))
      have lr_s1 := (f_s1 92 (by omega)).trans z99
      have dr_s1 := (f_s1 93 (by omega)).trans z100
      have pg_s1 := zp.keep (fun jj h1 h2 => f_s1 jj (by omega))
      have hkp := kpT_of hT₉ (k₉ := k9) (by omega) (hRR k9 (by omega) (by omega))
      obtain rfl | rfl | rfl | rfl | rfl | rfl : x₉ = 0 ∨ x₉ = 1 ∨ x₉ = 2 ∨ x₉ = 3 ∨ x₉ = 4 ∨ x₉ = 5 := by omega
      · refine go_iload_n (pc := 49) hF dX10_of_49 2 rfl ?_
        refine go_tableIn (pc := 50) hF 84 dX10_of_50 ⟨by decide, by decide⟩ (by decide) rfl (by decide) ?_
        refine go_aload_n (pc := 84) hF dX10_of_84 0 rfl ?_
        refine go_get (pc := 85) hF fl_X10_44 dX10_of_85 (by omega) x_s1 rfl ?_
        refine go_iload_n (pc := 88) hF dX10_of_88 1 rfl ?_
        refine go_callVP (pc := 89) hF [vi k9] [] mv_X10_150 dX10_of_89 (by omega) pg_s1.1 (c_X6_lineOfLook E N s1₉ 23 k9 (by omega) (by omega) pg_s1 ho) rfl rfl (Nat.le_of_ble_eq_true rfl) (by decide) ⟨Nat.zero_le _, Nat.zero_le _⟩ ?_
        exact go_iretQ hF hr hlk hQ dX10_of_92 ⟨by show gLine ll lk₉ k9 = (tLn t₉).getD k9.toNat 0; unfold gLine; rw [if_pos (by omega)]; exact hlook.1, ⟨x_s1, c_s1, ⟨_, _, _, _, d_s1⟩, h_s1, tx_s1, rd_s1, ⟨sg, vl, mt₉, lw, ll, la, sz₉, lk₉, chs, lps, dp, ln, pg_s1, hT₉⟩, fo_n, ex_s1, ⟨_, _, lr_s1⟩, ⟨_, _, _, _, _, dr_s1⟩⟩, (fun jj hjj => by rw [f_s1 jj (by omega)])⟩
      · refine go_iload_n (pc := 49) hF dX10_of_49 2 rfl ?_
        refine go_tableIn (pc := 50) hF 93 dX10_of_50 ⟨by decide, by decide⟩ (by decide) rfl (by decide) ?_
        refine go_aload_n (pc := 93) hF dX10_of_93 0 rfl ?_
        refine go_get (pc := 94) hF fl_X10_51 dX10_of_94 (by omega) x_s1 rfl ?_
        refine go_iload_n (pc := 97) hF dX10_of_97 1 rfl ?_
        refine go_callVP (pc := 98) hF [vi k9] [] mv_X10_153 dX10_of_98 (by omega) hf.1 (c_X3_sortOf E N s1₉ mm my u₉ 1 k9 hN₉ hf (by omega) (hmy _ (by omega) (by omega)).1 (hmy _ (by omega) (by omega)).2 (by omega)) rfl rfl (Nat.le_of_ble_eq_true rfl) (by decide) ⟨Nat.zero_le _, Nat.zero_le _⟩ ?_
        exact go_iretQ hF hr hlk hQ dX10_of_101 ⟨by show soA u₉ mm my k9 = soT t₉ u₉ k9; unfold soA soT; rw [(hRR k9 (by omega) (by omega)).1, (hRR k9 (by omega) (by omega)).2], ⟨x_s1, c_s1, ⟨_, _, _, _, d_s1⟩, h_s1, tx_s1, rd_s1, ⟨sg, vl, mt₉, lw, ll, la, sz₉, lk₉, chs, lps, dp, ln, pg_s1, hT₉⟩, fo_n, ex_s1, ⟨_, _, lr_s1⟩, ⟨_, _, _, _, _, dr_s1⟩⟩, (fun jj hjj => by rw [f_s1 jj (by omega)])⟩
      · refine go_iload_n (pc := 49) hF dX10_of_49 2 rfl ?_
        refine go_tableIn (pc := 50) hF 102 dX10_of_50 ⟨by decide, by decide⟩ (by decide) rfl (by decide) ?_
        refine go_aload_n (pc := 102) hF dX10_of_102 0 rfl ?_
        refine go_get (pc := 103) hF fl_X10_51 dX10_of_103 (by omega) x_s1 rfl ?_
        refine go_iload_n (pc := 106) hF dX10_of_106 1 rfl ?_
        refine go_callVP (pc := 107) hF [vi k9] [] mv_X10_156 dX10_of_107 (by omega) hf.1 (c_X3_mustAt E N s1₉ mm my u₉ 1 k9 hN₉ hf (by omega)) rfl rfl (Nat.le_of_ble_eq_true rfl) (by decide) ⟨Nat.zero_le _, Nat.zero_le _⟩ ?_
        exact go_iretQ hF hr hlk hQ dX10_of_110 ⟨(hRR k9 (by omega) (by omega)).1, ⟨x_s1, c_s1, ⟨_, _, _, _, d_s1⟩, h_s1, tx_s1, rd_s1, ⟨sg, vl, mt₉, lw, ll, la, sz₉, lk₉, chs, lps, dp, ln, pg_s1, hT₉⟩, fo_n, ex_s1, ⟨_, _, lr_s1⟩, ⟨_, _, _, _, _, dr_s1⟩⟩, (fun jj hjj => by rw [f_s1 jj (by omega)])⟩
      · refine go_iload_n (pc := 49) hF dX10_of_49 2 rfl ?_
        refine go_tableIn (pc := 50) hF 111 dX10_of_50 ⟨by decide, by decide⟩ (by decide) rfl (by decide) ?_
        refine go_aload_n (pc := 111) hF dX10_of_111 0 rfl ?_
        refine go_get (pc := 112) hF fl_X10_51 dX10_of_112 (by omega) x_s1 rfl ?_
        refine go_iload_n (pc := 115) hF dX10_of_115 1 rfl ?_
        refine go_callVP (pc := 116) hF [vi k9] [] mv_X10_159 dX10_of_116 (by omega) hf.1 (c_X3_mayAt E N s1₉ mm my u₉ 1 k9 hN₉ hf (by omega)) rfl rfl (Nat.le_of_ble_eq_true rfl) (by decide) ⟨Nat.zero_le _, Nat.zero_le _⟩ ?_
        exact go_iretQ hF hr hlk hQ dX10_of_119 ⟨(hRR k9 (by omega) (by omega)).2, ⟨x_s1, c_s1, ⟨_, _, _, _, d_s1⟩, h_s1, tx_s1, rd_s1, ⟨sg, vl, mt₉, lw, ll, la, sz₉, lk₉, chs, lps, dp, ln, pg_s1, hT₉⟩, fo_n, ex_s1, ⟨_, _, lr_s1⟩, ⟨_, _, _, _, _, dr_s1⟩⟩, (fun jj hjj => by rw [f_s1 jj (by omega)])⟩
      · refine go_iload_n (pc := 49) hF dX10_of_49 2 rfl ?_
        refine go_tableIn (pc := 50) hF 120 dX10_of_50 ⟨by decide, by decide⟩ (by decide) rfl (by decide) ?_
        refine go_aload_n (pc := 120) hF dX10_of_120 0 rfl ?_
        refine go_get (pc := 121) hF fl_X10_51 dX10_of_121 (by omega) x_s1 rfl ?_
        refine go_aload_n (pc := 124) hF dX10_of_124 0 rfl ?_
        refine go_get (pc := 125) hF fl_X10_44 dX10_of_125 (by omega) x_s1 rfl ?_
        refine go_iload_n (pc := 128) hF dX10_of_128 1 rfl ?_
        refine go_callVP (pc := 129) hF [vr E 23, vi k9] [] mv_X10_162 dX10_of_129 (by omega) hf.1 (c_X3_isKept E N s1₉ sg vl mt₉ lw ll la mm my sz₉ lk₉ chs lps dp ln u₉ 1 k9 hN₉ pg_s1 ho hf (by omega) (by omega) (hmy _ (by omega) (by omega)).1 (hmy _ (by omega) (by omega)).2 (by omega)) rfl rfl (Nat.le_of_ble_eq_true rfl) (by decide) ⟨Nat.zero_le _, Nat.zero_le _⟩ ?_
        refine go_if_eq (pc := 132) hF 139 dX10_of_132 (by decide) (bI_rg _) (fun bq132 => ?_) (fun bq132 => ?_)
        · refine go_iconst (pc := 139) hF dX10_of_139 ?_
          exact go_iretQ hF hr hlk hQ dX10_of_140 ⟨by show (0 : Int) = kpT t₉ u₉ k9; rw [← hkp]; exact bq132.symm, ⟨x_s1, c_s1, ⟨_, _, _, _, d_s1⟩, h_s1, tx_s1, rd_s1, ⟨sg, vl, mt₉, lw, ll, la, sz₉, lk₉, chs, lps, dp, ln, pg_s1, hT₉⟩, fo_n, ex_s1, ⟨_, _, lr_s1⟩, ⟨_, _, _, _, _, dr_s1⟩⟩, (fun jj hjj => by rw [f_s1 jj (by omega)])⟩
        · refine go_iconst (pc := 135) hF dX10_of_135 ?_
          refine go_goto (pc := 136) hF 140 dX10_of_136 (by decide) ?_
          exact go_iretQ hF hr hlk hQ dX10_of_140 ⟨by show (1 : Int) = kpT t₉ u₉ k9; rw [← hkp]; exact (bI_t (Decidable.not_not.mp (fun z₉ => bq132 ((bI_0 _).mpr z₉)))).symm, ⟨x_s1, c_s1, ⟨_, _, _, _, d_s1⟩, h_s1, tx_s1, rd_s1, ⟨sg, vl, mt₉, lw, ll, la, sz₉, lk₉, chs, lps, dp, ln, pg_s1, hT₉⟩, fo_n, ex_s1, ⟨_, _, lr_s1⟩, ⟨_, _, _, _, _, dr_s1⟩⟩, (fun jj hjj => by rw [f_s1 jj (by omega)])⟩
      · refine go_iload_n (pc := 49) hF dX10_of_49 2 rfl ?_
        refine go_tableOut (pc := 50) hF 141 dX10_of_50 ⟨by decide, by decide⟩ (by decide) (by decide) ?_
        refine go_aload_n (pc := 141) hF dX10_of_141 0 rfl ?_
        refine go_get (pc := 142) hF fl_X10_44 dX10_of_142 (by omega) x_s1 rfl ?_
        refine go_iload_n (pc := 145) hF dX10_of_145 1 rfl ?_
        refine go_callVP (pc := 146) hF [vi k9] [] mv_X10_166 dX10_of_146 (by omega) pg_s1.1 (c_X6_figureAround E N s1₉ 23 k9 (by omega) (by omega) pg_s1 ho) rfl rfl (Nat.le_of_ble_eq_true rfl) (by decide) ⟨Nat.zero_le _, Nat.zero_le _⟩ ?_
        exact go_iretQ hF hr hlk hQ dX10_of_149 ⟨hfig, ⟨x_s1, c_s1, ⟨_, _, _, _, d_s1⟩, h_s1, tx_s1, rd_s1, ⟨sg, vl, mt₉, lw, ll, la, sz₉, lk₉, chs, lps, dp, ln, pg_s1, hT₉⟩, fo_n, ex_s1, ⟨_, _, lr_s1⟩, ⟨_, _, _, _, _, dr_s1⟩⟩, (fun jj hjj => by rw [f_s1 jj (by omega)])⟩
    · exact absurd ((bI_0 _).mp bq23) (by omega)
set_option maxHeartbeats 4000000 in
set_option maxRecDepth 100000 in
theorem c_X10_behind_bad (E : En) (N : Nat) (σ : Nat → va_E) (r₉ u₉ kd pr : Int) (yr yw yk yp : Int → Int) (hs : Int) (tx : Int → Int) (tl : Int) (t₉ : Tr) (xb xn xf q1₉ q2₉ q3₉ : Int) (hN₉ : 101 ≤ N) (hO : okS r₉ u₉ kd pr yr yw yk yp hs tx tl t₉ xb xn xf q1₉ q2₉ q3₉) (hS₉ : clS E σ r₉ u₉ kd pr yr yw yk yp hs tx tl t₉ xb xn xf q1₉ q2₉ q3₉) (sx x₉ : Int) (hsx : rg sx) (hx : rg x₉) (hno : ¬ ((0 ≤ sx ∧ sx ≤ 1) ∧ 0 ≤ x₉ ∧ x₉ ≤ 5)) : CI E M_X10_behind 16 [vr E 0, vi sx, vi x₉] N σ (fun y₉ σ' => y₉ = (-2) ∧ clS E σ' r₉ u₉ kd pr yr yw yk yp hs tx tl t₉ (wr₉ (xb + 1)) xn xf q1₉ q2₉ q3₉ ∧ ∀ q₉, 94 ≤ q₉ → σ' q₉ = σ q₉) := by
  refine CT.of2 (own := RX10) (by decide) rfl (Nat.le_of_ble_eq_true rfl) ?_
  intro p e R s m args below meth c Q hF hr hlk hnm hz hR hQ
  obtain ⟨z0, z1, ⟨a1₉, a2, a3, a4, z2⟩, zh, z13₉, zrd, ⟨sg, vl, mt₉, lw, ll, la, sz₉, lk₉, chs, lps, dp, ln, zp, hT₉⟩, zfo, zex, ⟨b1, b2, z99⟩, ⟨d1₉, d2₉, d3₉, d4₉, d5₉, z100⟩⟩ := hS₉
  obtain ⟨⟨hrw, hu, hkd, hpr⟩, hhs, hyy, htl, htx, hxb, hxn, hxf, hq1, hq2, hq3, hwf, hdp3, hl80, hl24⟩ := hO
  have eg := en_rg hrw.1
  obtain ⟨-, -, hpa0, htl9, htk9, hch9, hlp9, hdp9, hln9, ho⟩ := hT₉
  have hT₉ : prT t₉ sg vl mt₉ lw ll la sz₉ lk₉ chs lps dp ln := ⟨hwf, hdp3, hpa0, htl9, htk9, hch9, hlp9, hdp9, hln9, ho⟩
  refine go_iload_n (pc := 0) hF dX10_behind_0 1 rfl ?_
  refine go_iconst (pc := 1) hF dX10_behind_1 ?_
  refine go_iconst (pc := 2) hF dX10_behind_2 ?_
  refine go_callSP (pc := 3) hF [vi sx, vi 0, vi 1] [] ms_X10_81 dX10_behind_3 (c_X10_isWithin E N σ sx 0 1 (by omega) ⟨by decide, by decide⟩ ⟨by decide, by decide⟩) rfl rfl (Nat.le_of_ble_eq_true rfl) (by decide) ⟨Nat.zero_le _, Nat.zero_le _⟩ ?_
  refine go_if_eq (pc := 6) hF 16 dX10_behind_6 (by decide) (bI_rg _) (fun bq6 => ?_) (fun bq6 => ?_)
  · refine go_aload_n (pc := 16) hF dX10_behind_16 0 rfl ?_
    refine go_callVI (pc := 17) hF [] [] mv_X10_85 dX10_behind_17 (by omega) z0 (c_X10_refuseBad E N σ hN₉ z0) rfl rfl (Nat.le_of_ble_eq_true rfl) (by decide) ⟨Nat.zero_le _, Nat.zero_le _⟩ (fun r_s1 s1₉ h_s1 => ?_)
    obtain ⟨e_s1, u0_s1, f_s1⟩ := h_s1
    have c_s1 := (f_s1 1 (by omega)).trans z1
    have d_s1 := (f_s1 2 (by omega)).trans z2
    have h_s1 := zh.keep (fun jj h1 h2 => f_s1 jj (by omega))
    have tx_s1 := (f_s1 13 (by omega)).trans z13₉
    have rd_s1 := zrd.keep (fun jj h1 h2 => f_s1 jj (by omega))
    have fo_s1 := zfo.keep (fun jj h1 h2 => f_s1 jj (by omega))
    have ex_s1 := zex.keep (fun jj h1 h2 => f_s1 jj (by omega))
    have lr_s1 := (f_s1 92 (by omega)).trans z99
    have dr_s1 := (f_s1 93 (by omega)).trans z100
    have pg_s1 := zp.keep (fun jj h1 h2 => f_s1 jj (by omega))
    subst e_s1
    exact go_iretQ hF hr hlk hQ dX10_behind_20 ⟨rfl, ⟨(by rw [vi_wr]; exact u0_s1), c_s1, ⟨_, _, _, _, d_s1⟩, h_s1, tx_s1, rd_s1, ⟨sg, vl, mt₉, lw, ll, la, sz₉, lk₉, chs, lps, dp, ln, pg_s1, hT₉⟩, fo_s1, ex_s1, ⟨_, _, lr_s1⟩, ⟨_, _, _, _, _, dr_s1⟩⟩, (fun jj hjj => by rw [f_s1 jj (by omega)])⟩
  · refine go_iload_n (pc := 9) hF dX10_behind_9 2 rfl ?_
    refine go_callSP (pc := 10) hF [vi x₉] [] ms_X10_115 dX10_behind_10 (c_X10_isLine E N σ x₉ (by omega)) rfl rfl (Nat.le_of_ble_eq_true rfl) (by decide) ⟨Nat.zero_le _, Nat.zero_le _⟩ ?_
    refine go_if_ne (pc := 13) hF 21 dX10_behind_13 (by decide) (bI_rg _) (fun bq13 => ?_) (fun bq13 => ?_)
    · exact absurd ⟨Decidable.not_not.mp (fun z₉ => bq6 ((bI_0 _).mpr z₉)), Decidable.not_not.mp (fun z₉ => bq13 ((bI_0 _).mpr z₉))⟩ hno
    · refine go_aload_n (pc := 16) hF dX10_behind_16 0 rfl ?_
      refine go_callVI (pc := 17) hF [] [] mv_X10_85 dX10_behind_17 (by omega) z0 (c_X10_refuseBad E N σ hN₉ z0) rfl rfl (Nat.le_of_ble_eq_true rfl) (by decide) ⟨Nat.zero_le _, Nat.zero_le _⟩ (fun r_s2 s2₉ h_s2 => ?_)
      obtain ⟨e_s2, u0_s2, f_s2⟩ := h_s2
      have c_s2 := (f_s2 1 (by omega)).trans z1
      have d_s2 := (f_s2 2 (by omega)).trans z2
      have h_s2 := zh.keep (fun jj h1 h2 => f_s2 jj (by omega))
      have tx_s2 := (f_s2 13 (by omega)).trans z13₉
      have rd_s2 := zrd.keep (fun jj h1 h2 => f_s2 jj (by omega))
      have fo_s2 := zfo.keep (fun jj h1 h2 => f_s2 jj (by omega))
      have ex_s2 := zex.keep (fun jj h1 h2 => f_s2 jj (by omega))
      have lr_s2 := (f_s2 92 (by omega)).trans z99
      have dr_s2 := (f_s2 93 (by omega)).trans z100
      have pg_s2 := zp.keep (fun jj h1 h2 => f_s2 jj (by omega))
      subst e_s2
      exact go_iretQ hF hr hlk hQ dX10_behind_20 ⟨rfl, ⟨(by rw [vi_wr]; exact u0_s2), c_s2, ⟨_, _, _, _, d_s2⟩, h_s2, tx_s2, rd_s2, ⟨sg, vl, mt₉, lw, ll, la, sz₉, lk₉, chs, lps, dp, ln, pg_s2, hT₉⟩, fo_s2, ex_s2, ⟨_, _, lr_s2⟩, ⟨_, _, _, _, _, dr_s2⟩⟩, (fun jj hjj => by rw [f_s2 jj (by omega)])⟩
set_option maxHeartbeats 4000000 in
set_option maxRecDepth 100000 in
theorem c_X10_behind_ok (E : En) (N : Nat) (σ : Nat → va_E) (r₉ u₉ kd pr : Int) (yr yw yk yp : Int → Int) (hs : Int) (tx : Int → Int) (tl : Int) (t₉ : Tr) (xb xn xf q1₉ q2₉ q3₉ : Int) (hN₉ : 101 ≤ N) (hO : okS r₉ u₉ kd pr yr yw yk yp hs tx tl t₉ xb xn xf q1₉ q2₉ q3₉) (hS₉ : clS E σ r₉ u₉ kd pr yr yw yk yp hs tx tl t₉ xb xn xf q1₉ q2₉ q3₉) (sx x₉ : Int) (hsx : 0 ≤ sx ∧ sx ≤ 1) (hx : 0 ≤ x₉ ∧ x₉ ≤ 5) : CI E M_X10_behind 16 [vr E 0, vi sx, vi x₉] N σ (fun y₉ σ' => y₉ = (if sx = 0 then (fa u₉ t₉ (A0 u₉)).1 x₉ else (fa u₉ t₉ (A0 u₉)).2 x₉) ∧ clS E σ' r₉ u₉ kd pr yr yw yk yp hs tx tl t₉ xb xn xf q1₉ q2₉ q3₉ ∧ ∀ q₉, 94 ≤ q₉ → σ' q₉ = σ q₉) := by
  refine CT.of2 (own := RX10) (by decide) rfl (Nat.le_of_ble_eq_true rfl) ?_
  intro p e R s m args below meth c Q hF hr hlk hnm hz hR hQ
  obtain ⟨z0, z1, ⟨a1₉, a2, a3, a4, z2⟩, zh, z13₉, zrd, ⟨sg, vl, mt₉, lw, ll, la, sz₉, lk₉, chs, lps, dp, ln, zp, hT₉⟩, zfo, zex, ⟨b1, b2, z99⟩, ⟨d1₉, d2₉, d3₉, d4₉, d5₉, z100⟩⟩ := hS₉
  obtain ⟨⟨hrw, hu, hkd, hpr⟩, hhs, hyy, htl, htx, hxb, hxn, hxf, hq1, hq2, hq3, hwf, hdp3, hl80, hl24⟩ := hO
  have eg := en_rg hrw.1
  obtain ⟨-, -, hpa0, htl9, htk9, hch9, hlp9, hdp9, hln9, ho⟩ := hT₉
  have hT₉ : prT t₉ sg vl mt₉ lw ll la sz₉ lk₉ chs lps dp ln := ⟨hwf, hdp3, hpa0, htl9, htk9, hch9, hlp9, hdp9, hln9, ho⟩
  refine go_iload_n (pc := 0) hF dX10_behind_0 1 rfl ?_
  refine go_iconst (pc := 1) hF dX10_behind_1 ?_
  refine go_iconst (pc := 2) hF dX10_behind_2 ?_
  refine go_callSP (pc := 3) hF [vi sx, vi 0, vi 1] [] ms_X10_81 dX10_behind_3 (c_X10_isWithin E N σ sx 0 1 (by omega) ⟨by decide, by decide⟩ ⟨by decide, by decide⟩) rfl rfl (Nat.le_of_ble_eq_true rfl) (by decide) ⟨Nat.zero_le _, Nat.zero_le _⟩ ?_
  refine go_if_eq (pc := 6) hF 16 dX10_behind_6 (by decide) (bI_rg _) (fun bq6 => ?_) (fun bq6 => ?_)
  · exact absurd ((bI_0 _).mp bq6) (by omega)
  · refine go_iload_n (pc := 9) hF dX10_behind_9 2 rfl ?_
    refine go_callSP (pc := 10) hF [vi x₉] [] ms_X10_115 dX10_behind_10 (c_X10_isLine E N σ x₉ (by omega)) rfl rfl (Nat.le_of_ble_eq_true rfl) (by decide) ⟨Nat.zero_le _, Nat.zero_le _⟩ ?_
    refine go_if_ne (pc := 13) hF 21 dX10_behind_13 (by decide) (bI_rg _) (fun bq13 => ?_) (fun bq13 => ?_)
    · refine go_aload_n (pc := 21) hF dX10_behind_21 0 rfl ?_
      refine go_get (pc := 22) hF fl_X10_51 dX10_behind_22 (by omega) z0 rfl ?_
      refine go_aload_n (pc := 25) hF dX10_behind_25 0 rfl ?_
      refine go_get (pc := 26) hF fl_X10_44 dX10_behind_26 (by omega) z0 rfl ?_
      refine go_aload_n (pc := 29) hF dX10_behind_29 0 rfl ?_
      refine go_get (pc := 30) hF fl_X10_10 dX10_behind_30 (by omega) z0 rfl ?_
      refine go_get (pc := 33) hF fl_X10_93 dX10_behind_33 (by omega) z1 rfl ?_
      obtain ⟨v9, kn9, hv9, hfs9⟩ := id zfo
      refine go_callVV (pc := 36) hF [vr E 23, vi u₉] [] mv_X10_146 dX10_behind_36 (by omega) zfo.cell.choose_spec (c_X3_follow E N σ t₉ sg vl mt₉ lw ll la sz₉ lk₉ chs lps dp ln v9 kn9 u₉ hN₉ zp ho hwf hdp3 hpa0 htl9 htk9 hu hv9 hfs9) rfl rfl (Nat.le_of_ble_eq_true rfl) (by decide) ⟨Nat.zero_le _, Nat.zero_le _⟩ (fun s1₉ h_s1 => ?_)
      obtain ⟨uf_s1, f_s1⟩ := h_s1
      have fo_n : foC E s1₉ t₉ := ⟨u₉, 1, by omega, uf_s1⟩
      obtain ⟨mm, my, hf, hA, hmy, hRR⟩ := fol_use hwf hu uf_s1
      have x_s1 := (f_s1 0 (by omega)).trans z0
      have c_s1 := (f_s1 1 (by omega)).trans z1
      have d_s1 := (f_s1 2 (by omega)).trans z2
      have h_s1 := zh.keep (fun jj h1 h2 => f_s1 jj (by omega))
      have tx_s1 := (f_s1 13 (by omega)).trans z13₉
      have rd_s1 := zrd.keep (fun jj h1 h2 => f_s1 jj (by omega))
      have ex_s1 := zex.keep (fun jj h1 h2 => f_s1 jj (by omega))
      have lr_s1 := (f_s1 92 (by omega)).trans z99
      have dr_s1 := (f_s1 93 (by omega)).trans z100
      have pg_s1 := zp.keep (fun jj h1 h2 => f_s1 jj (by omega))
      refine go_iload_n (pc := 39) hF dX10_behind_39 1 rfl ?_
      refine go_if_ne (pc := 40) hF 54 dX10_behind_40 (by decide) (by omega) (fun bq40 => ?_) (fun bq40 => ?_)
      · refine go_aload_n (pc := 54) hF dX10_behind_54 0 rfl ?_
        refine go_get (pc := 55) hF fl_X10_51 dX10_behind_55 (by omega) x_s1 rfl ?_
        refine go_iload_n (pc := 58) hF dX10_behind_58 2 rfl ?_
        refine go_callVP (pc := 59) hF [vi x₉] [] mv_X10_172 dX10_behind_59 (by omega) hf.1 (c_X3_mayBehind E N s1₉ mm my u₉ 1 x₉ hN₉ hf _ _ hA (by omega)) rfl rfl (Nat.le_of_ble_eq_true rfl) (by decide) ⟨Nat.zero_le _, Nat.zero_le _⟩ ?_
        exact go_iretQ hF hr hlk hQ dX10_behind_62 ⟨(if_neg (by omega)).symm, ⟨x_s1, c_s1, ⟨_, _, _, _, d_s1⟩, h_s1, tx_s1, rd_s1, ⟨sg, vl, mt₉, lw, ll, la, sz₉, lk₉, chs, lps, dp, ln, pg_s1, hT₉⟩, fo_n, ex_s1, ⟨_, _, lr_s1⟩, ⟨_, _, _, _, _, dr_s1⟩⟩, (fun jj hjj => by rw [f_s1 jj (by omega)])⟩
      · refine go_aload_n (pc := 43) hF dX10_behind_43 0 rfl ?_
        refine go_get (pc := 44) hF fl_X10_51 dX10_behind_44 (by omega) x_s1 rfl ?_
        refine go_iload_n (pc := 47) hF dX10_behind_47 2 rfl ?_
        refine go_callVP (pc := 48) hF [vi x₉] [] mv_X10_169 dX10_behind_48 (by omega) hf.1 (c_X3_mustBehind E N s1₉ mm my u₉ 1 x₉ hN₉ hf _ _ hA (by omega)) rfl rfl (Nat.le_of_ble_eq_true rfl) (by decide) ⟨Nat.zero_le _, Nat.zero_le _⟩ ?_
        refine go_goto (pc := 51) hF 62 dX10_behind_51 (by decide) ?_
        exact go_iretQ hF hr hlk hQ dX10_behind_62 ⟨(if_pos (by omega)).symm, ⟨x_s1, c_s1, ⟨_, _, _, _, d_s1⟩, h_s1, tx_s1, rd_s1, ⟨sg, vl, mt₉, lw, ll, la, sz₉, lk₉, chs, lps, dp, ln, pg_s1, hT₉⟩, fo_n, ex_s1, ⟨_, _, lr_s1⟩, ⟨_, _, _, _, _, dr_s1⟩⟩, (fun jj hjj => by rw [f_s1 jj (by omega)])⟩
    · exact absurd ((bI_0 _).mp bq13) (by omega)
set_option maxHeartbeats 4000000 in
set_option maxRecDepth 100000 in
theorem c_X10_upper (E : En) (N : Nat) (σ : Nat → va_E) (r₉ u₉ kd pr : Int) (yr yw yk yp : Int → Int) (hs : Int) (tx : Int → Int) (tl : Int) (t₉ : Tr) (xb xn xf q1₉ q2₉ q3₉ : Int) (hN₉ : 101 ≤ N) (hO : okS r₉ u₉ kd pr yr yw yk yp hs tx tl t₉ xb xn xf q1₉ q2₉ q3₉) (hS₉ : clS E σ r₉ u₉ kd pr yr yw yk yp hs tx tl t₉ xb xn xf q1₉ q2₉ q3₉) : CI E M_X10_upper 16 [vr E 0] N σ (fun y₉ σ' => y₉ = upB₉ (soT t₉ u₉) pr t₉ 0 ∧ clS E σ' r₉ u₉ kd pr yr yw yk yp hs tx tl t₉ xb xn xf q1₉ q2₉ q3₉ ∧ ∀ q₉, 94 ≤ q₉ → σ' q₉ = σ q₉) := by
  refine CT.of2 (own := RX10) (by decide) rfl (Nat.le_of_ble_eq_true rfl) ?_
  intro p e R s m args below meth c Q hF hr hlk hnm hz hR hQ
  obtain ⟨z0, z1, ⟨a1₉, a2, a3, a4, z2⟩, zh, z13₉, zrd, ⟨sg, vl, mt₉, lw, ll, la, sz₉, lk₉, chs, lps, dp, ln, zp, hT₉⟩, zfo, zex, ⟨b1, b2, z99⟩, ⟨d1₉, d2₉, d3₉, d4₉, d5₉, z100⟩⟩ := hS₉
  obtain ⟨⟨hrw, hu, hkd, hpr⟩, hhs, hyy, htl, htx, hxb, hxn, hxf, hq1, hq2, hq3, hwf, hdp3, hl80, hl24⟩ := hO
  have eg := en_rg hrw.1
  obtain ⟨-, -, hpa0, htl9, htk9, hch9, hlp9, hdp9, hln9, ho⟩ := hT₉
  have hT₉ : prT t₉ sg vl mt₉ lw ll la sz₉ lk₉ chs lps dp ln := ⟨hwf, hdp3, hpa0, htl9, htk9, hch9, hlp9, hdp9, hln9, ho⟩
  refine go_aload_n (pc := 0) hF dX10_upper_0 0 rfl ?_
  refine go_get (pc := 1) hF fl_X10_51 dX10_upper_1 (by omega) z0 rfl ?_
  refine go_aload_n (pc := 4) hF dX10_upper_4 0 rfl ?_
  refine go_get (pc := 5) hF fl_X10_44 dX10_upper_5 (by omega) z0 rfl ?_
  refine go_aload_n (pc := 8) hF dX10_upper_8 0 rfl ?_
  refine go_get (pc := 9) hF fl_X10_10 dX10_upper_9 (by omega) z0 rfl ?_
  refine go_get (pc := 12) hF fl_X10_93 dX10_upper_12 (by omega) z1 rfl ?_
  obtain ⟨v9, kn9, hv9, hfs9⟩ := id zfo
  refine go_callVV (pc := 15) hF [vr E 23, vi u₉] [] mv_X10_146 dX10_upper_15 (by omega) zfo.cell.choose_spec (c_X3_follow E N σ t₉ sg vl mt₉ lw ll la sz₉ lk₉ chs lps dp ln v9 kn9 u₉ hN₉ zp ho hwf hdp3 hpa0 htl9 htk9 hu hv9 hfs9) rfl rfl (Nat.le_of_ble_eq_true rfl) (by decide) ⟨Nat.zero_le _, Nat.zero_le _⟩ (fun s1₉ h_s1 => ?_)
  obtain ⟨uf_s1, f_s1⟩ := h_s1
  have fo_n : foC E s1₉ t₉ := ⟨u₉, 1, by omega, uf_s1⟩
  obtain ⟨mm, my, hf, hA, hmy, hRR⟩ := fol_use hwf hu uf_s1
  have x_s1 := (f_s1 0 (by omega)).trans z0
  have c_s1 := (f_s1 1 (by omega)).trans z1
  have d_s1 := (f_s1 2 (by omega)).trans z2
  have h_s1 := zh.keep (fun jj h1 h2 => f_s1 jj (by omega))
  have tx_s1 := (f_s1 13 (by omega)).trans z13₉
  have rd_s1 := zrd.keep (fun jj h1 h2 => f_s1 jj (by omega))
  have ex_s1 := zex.keep (fun jj h1 h2 => f_s1 jj (by omega))
  have lr_s1 := (f_s1 92 (by omega)).trans z99
  have dr_s1 := (f_s1 93 (by omega)).trans z100
  have pg_s1 := zp.keep (fun jj h1 h2 => f_s1 jj (by omega))
  refine go_aload_n (pc := 18) hF dX10_upper_18 0 rfl ?_
  refine go_get (pc := 19) hF fl_X10_51 dX10_upper_19 (by omega) x_s1 rfl ?_
  refine go_aload_n (pc := 22) hF dX10_upper_22 0 rfl ?_
  refine go_get (pc := 23) hF fl_X10_44 dX10_upper_23 (by omega) x_s1 rfl ?_
  refine go_aload_n (pc := 26) hF dX10_upper_26 0 rfl ?_
  refine go_get (pc := 27) hF fl_X10_10 dX10_upper_27 (by omega) x_s1 rfl ?_
  refine go_get (pc := 30) hF fl_X10_108 dX10_upper_30 (by omega) c_s1 rfl ?_
  refine go_callVP (pc := 33) hF [vr E 23, vi pr] [] mv_X10_175 dX10_upper_33 (by omega) hf.1 (c_X3_mostOf E N t₉ s1₉ sg vl mt₉ lw ll la mm my sz₉ lk₉ chs lps dp ln u₉ 1 pr hN₉ pg_s1 ho hwf hdp3 hpa0 htl9 (by omega) (by omega) hpr hf hmy) rfl rfl (Nat.le_of_ble_eq_true rfl) (by decide) ⟨Nat.zero_le _, Nat.zero_le _⟩ ?_
  exact go_iretQ hF hr hlk hQ dX10_upper_36 ⟨upB_congr t₉ hwf 0 (fun z₉ z0 z1 => by unfold soA soT; rw [(hRR z₉ (by omega) (by omega)).1, (hRR z₉ (by omega) (by omega)).2]), ⟨x_s1, c_s1, ⟨_, _, _, _, d_s1⟩, h_s1, tx_s1, rd_s1, ⟨sg, vl, mt₉, lw, ll, la, sz₉, lk₉, chs, lps, dp, ln, pg_s1, hT₉⟩, fo_n, ex_s1, ⟨_, _, lr_s1⟩, ⟨_, _, _, _, _, dr_s1⟩⟩, (fun jj hjj => by rw [f_s1 jj (by omega)])⟩
set_option maxHeartbeats 4000000 in
set_option maxRecDepth 100000 in
theorem c_X10_lower (E : En) (N : Nat) (σ : Nat → va_E) (r₉ u₉ kd pr : Int) (yr yw yk yp : Int → Int) (hs : Int) (tx : Int → Int) (tl : Int) (t₉ : Tr) (xb xn xf q1₉ q2₉ q3₉ : Int) (hN₉ : 101 ≤ N) (hO : okS r₉ u₉ kd pr yr yw yk yp hs tx tl t₉ xb xn xf q1₉ q2₉ q3₉) (hS₉ : clS E σ r₉ u₉ kd pr yr yw yk yp hs tx tl t₉ xb xn xf q1₉ q2₉ q3₉) : CI E M_X10_lower 16 [vr E 0] N σ (fun y₉ σ' => y₉ = loB₉ (soT t₉ u₉) pr t₉ 0 ∧ clS E σ' r₉ u₉ kd pr yr yw yk yp hs tx tl t₉ xb xn xf q1₉ q2₉ q3₉ ∧ ∀ q₉, 94 ≤ q₉ → σ' q₉ = σ q₉) := by
  refine CT.of2 (own := RX10) (by decide) rfl (Nat.le_of_ble_eq_true rfl) ?_
  intro p e R s m args below meth c Q hF hr hlk hnm hz hR hQ
  obtain ⟨z0, z1, ⟨a1₉, a2, a3, a4, z2⟩, zh, z13₉, zrd, ⟨sg, vl, mt₉, lw, ll, la, sz₉, lk₉, chs, lps, dp, ln, zp, hT₉⟩, zfo, zex, ⟨b1, b2, z99⟩, ⟨d1₉, d2₉, d3₉, d4₉, d5₉, z100⟩⟩ := hS₉
  obtain ⟨⟨hrw, hu, hkd, hpr⟩, hhs, hyy, htl, htx, hxb, hxn, hxf, hq1, hq2, hq3, hwf, hdp3, hl80, hl24⟩ := hO
  have eg := en_rg hrw.1
  obtain ⟨-, -, hpa0, htl9, htk9, hch9, hlp9, hdp9, hln9, ho⟩ := hT₉
  have hT₉ : prT t₉ sg vl mt₉ lw ll la sz₉ lk₉ chs lps dp ln := ⟨hwf, hdp3, hpa0, htl9, htk9, hch9, hlp9, hdp9, hln9, ho⟩
  refine go_aload_n (pc := 0) hF dX10_lower_0 0 rfl ?_
  refine go_get (pc := 1) hF fl_X10_51 dX10_lower_1 (by omega) z0 rfl ?_
  refine go_aload_n (pc := 4) hF dX10_lower_4 0 rfl ?_
  refine go_get (pc := 5) hF fl_X10_44 dX10_lower_5 (by omega) z0 rfl ?_
  refine go_aload_n (pc := 8) hF dX10_lower_8 0 rfl ?_
  refine go_get (pc := 9) hF fl_X10_10 dX10_lower_9 (by omega) z0 rfl ?_
  refine go_get (pc := 12) hF fl_X10_93 dX10_lower_12 (by omega) z1 rfl ?_
  obtain ⟨v9, kn9, hv9, hfs9⟩ := id zfo
  refine go_callVV (pc := 15) hF [vr E 23, vi u₉] [] mv_X10_146 dX10_lower_15 (by omega) zfo.cell.choose_spec (c_X3_follow E N σ t₉ sg vl mt₉ lw ll la sz₉ lk₉ chs lps dp ln v9 kn9 u₉ hN₉ zp ho hwf hdp3 hpa0 htl9 htk9 hu hv9 hfs9) rfl rfl (Nat.le_of_ble_eq_true rfl) (by decide) ⟨Nat.zero_le _, Nat.zero_le _⟩ (fun s1₉ h_s1 => ?_)
  obtain ⟨uf_s1, f_s1⟩ := h_s1
  have fo_n : foC E s1₉ t₉ := ⟨u₉, 1, by omega, uf_s1⟩
  obtain ⟨mm, my, hf, hA, hmy, hRR⟩ := fol_use hwf hu uf_s1
  have x_s1 := (f_s1 0 (by omega)).trans z0
  have c_s1 := (f_s1 1 (by omega)).trans z1
  have d_s1 := (f_s1 2 (by omega)).trans z2
  have h_s1 := zh.keep (fun jj h1 h2 => f_s1 jj (by omega))
  have tx_s1 := (f_s1 13 (by omega)).trans z13₉
  have rd_s1 := zrd.keep (fun jj h1 h2 => f_s1 jj (by omega))
  have ex_s1 := zex.keep (fun jj h1 h2 => f_s1 jj (by omega))
  have lr_s1 := (f_s1 92 (by omega)).trans z99
  have dr_s1 := (f_s1 93 (by omega)).trans z100
  have pg_s1 := zp.keep (fun jj h1 h2 => f_s1 jj (by omega))
  refine go_aload_n (pc := 18) hF dX10_lower_18 0 rfl ?_
  refine go_get (pc := 19) hF fl_X10_51 dX10_lower_19 (by omega) x_s1 rfl ?_
  refine go_aload_n (pc := 22) hF dX10_lower_22 0 rfl ?_
  refine go_get (pc := 23) hF fl_X10_44 dX10_lower_23 (by omega) x_s1 rfl ?_
  refine go_aload_n (pc := 26) hF dX10_lower_26 0 rfl ?_
  refine go_get (pc := 27) hF fl_X10_10 dX10_lower_27 (by omega) x_s1 rfl ?_
  refine go_get (pc := 30) hF fl_X10_108 dX10_lower_30 (by omega) c_s1 rfl ?_
  refine go_callVP (pc := 33) hF [vr E 23, vi pr] [] mv_X10_179 dX10_lower_33 (by omega) hf.1 (c_X3_leastOf E N t₉ s1₉ sg vl mt₉ lw ll la mm my sz₉ lk₉ chs lps dp ln u₉ 1 pr hN₉ pg_s1 ho hwf hdp3 hpa0 htl9 (by omega) (by omega) hpr hf hmy) rfl rfl (Nat.le_of_ble_eq_true rfl) (by decide) ⟨Nat.zero_le _, Nat.zero_le _⟩ ?_
  exact go_iretQ hF hr hlk hQ dX10_lower_36 ⟨loB_congr t₉ hwf 0 (fun z₉ z0 z1 => by unfold soA soT; rw [(hRR z₉ (by omega) (by omega)).1, (hRR z₉ (by omega) (by omega)).2]), ⟨x_s1, c_s1, ⟨_, _, _, _, d_s1⟩, h_s1, tx_s1, rd_s1, ⟨sg, vl, mt₉, lw, ll, la, sz₉, lk₉, chs, lps, dp, ln, pg_s1, hT₉⟩, fo_n, ex_s1, ⟨_, _, lr_s1⟩, ⟨_, _, _, _, _, dr_s1⟩⟩, (fun jj hjj => by rw [f_s1 jj (by omega)])⟩
set_option maxHeartbeats 4000000 in
set_option maxRecDepth 100000 in
theorem c_X10_worst (E : En) (N : Nat) (σ : Nat → va_E) (r₉ u₉ kd pr : Int) (yr yw yk yp : Int → Int) (hs : Int) (tx : Int → Int) (tl : Int) (t₉ : Tr) (xb xn xf q1₉ q2₉ q3₉ : Int) (hN₉ : 101 ≤ N) (hO : okS r₉ u₉ kd pr yr yw yk yp hs tx tl t₉ xb xn xf q1₉ q2₉ q3₉) (hS₉ : clS E σ r₉ u₉ kd pr yr yw yk yp hs tx tl t₉ xb xn xf q1₉ q2₉ q3₉) : CI E M_X10_worst 16 [vr E 0] N σ (fun y₉ σ' => topS (ex₉ u₉ kd pr t₉ (S0₉ r₉)) y₉ ∧ clS E σ' r₉ u₉ kd pr yr yw yk yp hs tx tl t₉ xb xn xf q1₉ q2₉ q3₉ ∧ ∀ q₉, 94 ≤ q₉ → σ' q₉ = σ q₉) := by
  refine CT.of2 (own := RX10) (by decide) rfl (Nat.le_of_ble_eq_true rfl) ?_
  intro p e R s m args below meth c Q hF hr hlk hnm hz hR hQ
  obtain ⟨z0, z1, ⟨a1₉, a2, a3, a4, z2⟩, zh, z13₉, zrd, ⟨sg, vl, mt₉, lw, ll, la, sz₉, lk₉, chs, lps, dp, ln, zp, hT₉⟩, zfo, zex, ⟨b1, b2, z99⟩, ⟨d1₉, d2₉, d3₉, d4₉, d5₉, z100⟩⟩ := hS₉
  obtain ⟨⟨hrw, hu, hkd, hpr⟩, hhs, hyy, htl, htx, hxb, hxn, hxf, hq1, hq2, hq3, hwf, hdp3, hl80, hl24⟩ := hO
  have eg := en_rg hrw.1
  obtain ⟨-, -, hpa0, htl9, htk9, hch9, hlp9, hdp9, hln9, ho⟩ := hT₉
  have hT₉ : prT t₉ sg vl mt₉ lw ll la sz₉ lk₉ chs lps dp ln := ⟨hwf, hdp3, hpa0, htl9, htk9, hch9, hlp9, hdp9, hln9, ho⟩
  refine go_aload_n (pc := 0) hF dX10_worst_0 0 rfl ?_
  refine go_get (pc := 1) hF fl_X10_58 dX10_worst_1 (by omega) z0 rfl ?_
  refine go_aload_n (pc := 4) hF dX10_worst_4 0 rfl ?_
  refine go_get (pc := 5) hF fl_X10_44 dX10_worst_5 (by omega) z0 rfl ?_
  refine go_aload_n (pc := 8) hF dX10_worst_8 0 rfl ?_
  refine go_get (pc := 9) hF fl_X10_10 dX10_worst_9 (by omega) z0 rfl ?_
  refine go_callVV (pc := 12) hF [vr E 23, vr E 1] [] mv_X10_182 dX10_worst_12 (by omega) zex.cell.choose_spec (c_X2_explore E N σ 1 sg vl mt₉ lw ll la sz₉ lk₉ chs lps dp ln t₉ r₉ u₉ kd pr hN₉ (by omega) zp ho hwf hdp3 hpa0 htl9 htk9 hrw hu hkd hpr z1 zex) rfl rfl (Nat.le_of_ble_eq_true rfl) (by decide) ⟨Nat.zero_le _, Nat.zero_le _⟩ (fun s1₉ h_s1 => ?_)
  obtain ⟨hK9, f_s1⟩ := h_s1
  have ex_n : expS E s1₉ t₉ := Or.inr ⟨r₉, u₉, kd, pr, hrw, hu, hkd, hpr, hK9⟩
  have x_s1 := (f_s1 0 (by omega)).trans z0
  have c_s1 := (f_s1 1 (by omega)).trans z1
  have d_s1 := (f_s1 2 (by omega)).trans z2
  have h_s1 := zh.keep (fun jj h1 h2 => f_s1 jj (by omega))
  have tx_s1 := (f_s1 13 (by omega)).trans z13₉
  have rd_s1 := zrd.keep (fun jj h1 h2 => f_s1 jj (by omega))
  have fo_s1 := zfo.keep (fun jj h1 h2 => f_s1 jj (by omega))
  have lr_s1 := (f_s1 92 (by omega)).trans z99
  have dr_s1 := (f_s1 93 (by omega)).trans z100
  have pg_s1 := zp.keep (fun jj h1 h2 => f_s1 jj (by omega))
  refine go_aload_n (pc := 15) hF dX10_worst_15 0 rfl ?_
  refine go_get (pc := 16) hF fl_X10_58 dX10_worst_16 (by omega) x_s1 rfl ?_
  refine go_callVI (pc := 19) hF [] [] mv_X10_186 dX10_worst_19 (by omega) ex_n.cell.choose_spec (c_X2_mostTaken E N s1₉ t₉ r₉ u₉ kd pr hN₉ hwf hu hkd (Nat.le_trans (cB_max hwf hdp3 hl80) (by decide)) hrw hK9) rfl rfl (Nat.le_of_ble_eq_true rfl) (by decide) ⟨Nat.zero_le _, Nat.zero_le _⟩ (fun y9 s2₉ h_s2 => ?_)
  obtain ⟨e_s2, hy9, hyr9⟩ := h_s2
  have f_s2 : ∀ q₉, 0 ≤ q₉ → s2₉ q₉ = s1₉ q₉ := fun q₉ _ => by rw [e_s2]
  have x_s2 := (f_s2 0 (by omega)).trans x_s1
  have c_s2 := (f_s2 1 (by omega)).trans c_s1
  have d_s2 := (f_s2 2 (by omega)).trans d_s1
  have h_s2 := h_s1.keep (fun jj h1 h2 => f_s2 jj (by omega))
  have tx_s2 := (f_s2 13 (by omega)).trans tx_s1
  have rd_s2 := rd_s1.keep (fun jj h1 h2 => f_s2 jj (by omega))
  have fo_s2 := fo_s1.keep (fun jj h1 h2 => f_s2 jj (by omega))
  have ex_s2 := ex_n.keep (fun jj h1 h2 => f_s2 jj (by omega))
  have lr_s2 := (f_s2 92 (by omega)).trans lr_s1
  have dr_s2 := (f_s2 93 (by omega)).trans dr_s1
  have pg_s2 := pg_s1.keep (fun jj h1 h2 => f_s2 jj (by omega))
  exact go_iretQ hF hr hlk hQ dX10_worst_22 ⟨hy9, ⟨x_s2, c_s2, ⟨_, _, _, _, d_s2⟩, h_s2, tx_s2, rd_s2, ⟨sg, vl, mt₉, lw, ll, la, sz₉, lk₉, chs, lps, dp, ln, pg_s2, hT₉⟩, fo_s2, ex_s2, ⟨_, _, lr_s2⟩, ⟨_, _, _, _, _, dr_s2⟩⟩, (fun jj hjj => by rw [f_s2 jj (by omega), f_s1 jj (by omega)])⟩
set_option maxHeartbeats 4000000 in
set_option maxRecDepth 100000 in
theorem c_X10_best (E : En) (N : Nat) (σ : Nat → va_E) (r₉ u₉ kd pr : Int) (yr yw yk yp : Int → Int) (hs : Int) (tx : Int → Int) (tl : Int) (t₉ : Tr) (xb xn xf q1₉ q2₉ q3₉ : Int) (hN₉ : 101 ≤ N) (hO : okS r₉ u₉ kd pr yr yw yk yp hs tx tl t₉ xb xn xf q1₉ q2₉ q3₉) (hS₉ : clS E σ r₉ u₉ kd pr yr yw yk yp hs tx tl t₉ xb xn xf q1₉ q2₉ q3₉) : CI E M_X10_best 16 [vr E 0] N σ (fun y₉ σ' => botS (ex₉ u₉ kd pr t₉ (S0₉ r₉)) y₉ ∧ clS E σ' r₉ u₉ kd pr yr yw yk yp hs tx tl t₉ xb xn xf q1₉ q2₉ q3₉ ∧ ∀ q₉, 94 ≤ q₉ → σ' q₉ = σ q₉) := by
  refine CT.of2 (own := RX10) (by decide) rfl (Nat.le_of_ble_eq_true rfl) ?_
  intro p e R s m args below meth c Q hF hr hlk hnm hz hR hQ
  obtain ⟨z0, z1, ⟨a1₉, a2, a3, a4, z2⟩, zh, z13₉, zrd, ⟨sg, vl, mt₉, lw, ll, la, sz₉, lk₉, chs, lps, dp, ln, zp, hT₉⟩, zfo, zex, ⟨b1, b2, z99⟩, ⟨d1₉, d2₉, d3₉, d4₉, d5₉, z100⟩⟩ := hS₉
  obtain ⟨⟨hrw, hu, hkd, hpr⟩, hhs, hyy, htl, htx, hxb, hxn, hxf, hq1, hq2, hq3, hwf, hdp3, hl80, hl24⟩ := hO
  have eg := en_rg hrw.1
  obtain ⟨-, -, hpa0, htl9, htk9, hch9, hlp9, hdp9, hln9, ho⟩ := hT₉
  have hT₉ : prT t₉ sg vl mt₉ lw ll la sz₉ lk₉ chs lps dp ln := ⟨hwf, hdp3, hpa0, htl9, htk9, hch9, hlp9, hdp9, hln9, ho⟩
  refine go_aload_n (pc := 0) hF dX10_best_0 0 rfl ?_
  refine go_get (pc := 1) hF fl_X10_58 dX10_best_1 (by omega) z0 rfl ?_
  refine go_aload_n (pc := 4) hF dX10_best_4 0 rfl ?_
  refine go_get (pc := 5) hF fl_X10_44 dX10_best_5 (by omega) z0 rfl ?_
  refine go_aload_n (pc := 8) hF dX10_best_8 0 rfl ?_
  refine go_get (pc := 9) hF fl_X10_10 dX10_best_9 (by omega) z0 rfl ?_
  refine go_callVV (pc := 12) hF [vr E 23, vr E 1] [] mv_X10_182 dX10_best_12 (by omega) zex.cell.choose_spec (c_X2_explore E N σ 1 sg vl mt₉ lw ll la sz₉ lk₉ chs lps dp ln t₉ r₉ u₉ kd pr hN₉ (by omega) zp ho hwf hdp3 hpa0 htl9 htk9 hrw hu hkd hpr z1 zex) rfl rfl (Nat.le_of_ble_eq_true rfl) (by decide) ⟨Nat.zero_le _, Nat.zero_le _⟩ (fun s1₉ h_s1 => ?_)
  obtain ⟨hK9, f_s1⟩ := h_s1
  have ex_n : expS E s1₉ t₉ := Or.inr ⟨r₉, u₉, kd, pr, hrw, hu, hkd, hpr, hK9⟩
  have x_s1 := (f_s1 0 (by omega)).trans z0
  have c_s1 := (f_s1 1 (by omega)).trans z1
  have d_s1 := (f_s1 2 (by omega)).trans z2
  have h_s1 := zh.keep (fun jj h1 h2 => f_s1 jj (by omega))
  have tx_s1 := (f_s1 13 (by omega)).trans z13₉
  have rd_s1 := zrd.keep (fun jj h1 h2 => f_s1 jj (by omega))
  have fo_s1 := zfo.keep (fun jj h1 h2 => f_s1 jj (by omega))
  have lr_s1 := (f_s1 92 (by omega)).trans z99
  have dr_s1 := (f_s1 93 (by omega)).trans z100
  have pg_s1 := zp.keep (fun jj h1 h2 => f_s1 jj (by omega))
  refine go_aload_n (pc := 15) hF dX10_best_15 0 rfl ?_
  refine go_get (pc := 16) hF fl_X10_58 dX10_best_16 (by omega) x_s1 rfl ?_
  refine go_callVI (pc := 19) hF [] [] mv_X10_189 dX10_best_19 (by omega) ex_n.cell.choose_spec (c_X2_leastTaken E N s1₉ t₉ r₉ u₉ kd pr hN₉ hwf hu hkd (Nat.le_trans (cB_max hwf hdp3 hl80) (by decide)) hrw hK9) rfl rfl (Nat.le_of_ble_eq_true rfl) (by decide) ⟨Nat.zero_le _, Nat.zero_le _⟩ (fun y9 s2₉ h_s2 => ?_)
  obtain ⟨e_s2, hy9, hyr9⟩ := h_s2
  have f_s2 : ∀ q₉, 0 ≤ q₉ → s2₉ q₉ = s1₉ q₉ := fun q₉ _ => by rw [e_s2]
  have x_s2 := (f_s2 0 (by omega)).trans x_s1
  have c_s2 := (f_s2 1 (by omega)).trans c_s1
  have d_s2 := (f_s2 2 (by omega)).trans d_s1
  have h_s2 := h_s1.keep (fun jj h1 h2 => f_s2 jj (by omega))
  have tx_s2 := (f_s2 13 (by omega)).trans tx_s1
  have rd_s2 := rd_s1.keep (fun jj h1 h2 => f_s2 jj (by omega))
  have fo_s2 := fo_s1.keep (fun jj h1 h2 => f_s2 jj (by omega))
  have ex_s2 := ex_n.keep (fun jj h1 h2 => f_s2 jj (by omega))
  have lr_s2 := (f_s2 92 (by omega)).trans lr_s1
  have dr_s2 := (f_s2 93 (by omega)).trans dr_s1
  have pg_s2 := pg_s1.keep (fun jj h1 h2 => f_s2 jj (by omega))
  exact go_iretQ hF hr hlk hQ dX10_best_22 ⟨hy9, ⟨x_s2, c_s2, ⟨_, _, _, _, d_s2⟩, h_s2, tx_s2, rd_s2, ⟨sg, vl, mt₉, lw, ll, la, sz₉, lk₉, chs, lps, dp, ln, pg_s2, hT₉⟩, fo_s2, ex_s2, ⟨_, _, lr_s2⟩, ⟨_, _, _, _, _, dr_s2⟩⟩, (fun jj hjj => by rw [f_s2 jj (by omega), f_s1 jj (by omega)])⟩
set_option maxHeartbeats 4000000 in
set_option maxRecDepth 100000 in
theorem c_X10_ends (E : En) (N : Nat) (σ : Nat → va_E) (r₉ u₉ kd pr : Int) (yr yw yk yp : Int → Int) (hs : Int) (tx : Int → Int) (tl : Int) (t₉ : Tr) (xb xn xf q1₉ q2₉ q3₉ : Int) (hN₉ : 101 ≤ N) (hO : okS r₉ u₉ kd pr yr yw yk yp hs tx tl t₉ xb xn xf q1₉ q2₉ q3₉) (hS₉ : clS E σ r₉ u₉ kd pr yr yw yk yp hs tx tl t₉ xb xn xf q1₉ q2₉ q3₉) : CI E M_X10_ends 16 [vr E 0] N σ (fun y₉ σ' => cntS (ex₉ u₉ kd pr t₉ (S0₉ r₉)) y₉ ∧ clS E σ' r₉ u₉ kd pr yr yw yk yp hs tx tl t₉ xb xn xf q1₉ q2₉ q3₉ ∧ ∀ q₉, 94 ≤ q₉ → σ' q₉ = σ q₉) := by
  refine CT.of2 (own := RX10) (by decide) rfl (Nat.le_of_ble_eq_true rfl) ?_
  intro p e R s m args below meth c Q hF hr hlk hnm hz hR hQ
  obtain ⟨z0, z1, ⟨a1₉, a2, a3, a4, z2⟩, zh, z13₉, zrd, ⟨sg, vl, mt₉, lw, ll, la, sz₉, lk₉, chs, lps, dp, ln, zp, hT₉⟩, zfo, zex, ⟨b1, b2, z99⟩, ⟨d1₉, d2₉, d3₉, d4₉, d5₉, z100⟩⟩ := hS₉
  obtain ⟨⟨hrw, hu, hkd, hpr⟩, hhs, hyy, htl, htx, hxb, hxn, hxf, hq1, hq2, hq3, hwf, hdp3, hl80, hl24⟩ := hO
  have eg := en_rg hrw.1
  obtain ⟨-, -, hpa0, htl9, htk9, hch9, hlp9, hdp9, hln9, ho⟩ := hT₉
  have hT₉ : prT t₉ sg vl mt₉ lw ll la sz₉ lk₉ chs lps dp ln := ⟨hwf, hdp3, hpa0, htl9, htk9, hch9, hlp9, hdp9, hln9, ho⟩
  refine go_aload_n (pc := 0) hF dX10_ends_0 0 rfl ?_
  refine go_get (pc := 1) hF fl_X10_58 dX10_ends_1 (by omega) z0 rfl ?_
  refine go_aload_n (pc := 4) hF dX10_ends_4 0 rfl ?_
  refine go_get (pc := 5) hF fl_X10_44 dX10_ends_5 (by omega) z0 rfl ?_
  refine go_aload_n (pc := 8) hF dX10_ends_8 0 rfl ?_
  refine go_get (pc := 9) hF fl_X10_10 dX10_ends_9 (by omega) z0 rfl ?_
  refine go_callVV (pc := 12) hF [vr E 23, vr E 1] [] mv_X10_182 dX10_ends_12 (by omega) zex.cell.choose_spec (c_X2_explore E N σ 1 sg vl mt₉ lw ll la sz₉ lk₉ chs lps dp ln t₉ r₉ u₉ kd pr hN₉ (by omega) zp ho hwf hdp3 hpa0 htl9 htk9 hrw hu hkd hpr z1 zex) rfl rfl (Nat.le_of_ble_eq_true rfl) (by decide) ⟨Nat.zero_le _, Nat.zero_le _⟩ (fun s1₉ h_s1 => ?_)
  obtain ⟨hK9, f_s1⟩ := h_s1
  have ex_n : expS E s1₉ t₉ := Or.inr ⟨r₉, u₉, kd, pr, hrw, hu, hkd, hpr, hK9⟩
  have x_s1 := (f_s1 0 (by omega)).trans z0
  have c_s1 := (f_s1 1 (by omega)).trans z1
  have d_s1 := (f_s1 2 (by omega)).trans z2
  have h_s1 := zh.keep (fun jj h1 h2 => f_s1 jj (by omega))
  have tx_s1 := (f_s1 13 (by omega)).trans z13₉
  have rd_s1 := zrd.keep (fun jj h1 h2 => f_s1 jj (by omega))
  have fo_s1 := zfo.keep (fun jj h1 h2 => f_s1 jj (by omega))
  have lr_s1 := (f_s1 92 (by omega)).trans z99
  have dr_s1 := (f_s1 93 (by omega)).trans z100
  have pg_s1 := zp.keep (fun jj h1 h2 => f_s1 jj (by omega))
  refine go_aload_n (pc := 15) hF dX10_ends_15 0 rfl ?_
  refine go_get (pc := 16) hF fl_X10_58 dX10_ends_16 (by omega) x_s1 rfl ?_
  refine go_callVI (pc := 19) hF [] [] mv_X10_192 dX10_ends_19 (by omega) ex_n.cell.choose_spec (c_X2_rowsAtEnd E N s1₉ t₉ r₉ u₉ kd pr hN₉ hwf hu hkd (Nat.le_trans (cB_max hwf hdp3 hl80) (by decide)) hrw hK9) rfl rfl (Nat.le_of_ble_eq_true rfl) (by decide) ⟨Nat.zero_le _, Nat.zero_le _⟩ (fun y9 s2₉ h_s2 => ?_)
  obtain ⟨e_s2, hy9, hyr9⟩ := h_s2
  have f_s2 : ∀ q₉, 0 ≤ q₉ → s2₉ q₉ = s1₉ q₉ := fun q₉ _ => by rw [e_s2]
  have x_s2 := (f_s2 0 (by omega)).trans x_s1
  have c_s2 := (f_s2 1 (by omega)).trans c_s1
  have d_s2 := (f_s2 2 (by omega)).trans d_s1
  have h_s2 := h_s1.keep (fun jj h1 h2 => f_s2 jj (by omega))
  have tx_s2 := (f_s2 13 (by omega)).trans tx_s1
  have rd_s2 := rd_s1.keep (fun jj h1 h2 => f_s2 jj (by omega))
  have fo_s2 := fo_s1.keep (fun jj h1 h2 => f_s2 jj (by omega))
  have ex_s2 := ex_n.keep (fun jj h1 h2 => f_s2 jj (by omega))
  have lr_s2 := (f_s2 92 (by omega)).trans lr_s1
  have dr_s2 := (f_s2 93 (by omega)).trans dr_s1
  have pg_s2 := pg_s1.keep (fun jj h1 h2 => f_s2 jj (by omega))
  exact go_iretQ hF hr hlk hQ dX10_ends_22 ⟨hy9, ⟨x_s2, c_s2, ⟨_, _, _, _, d_s2⟩, h_s2, tx_s2, rd_s2, ⟨sg, vl, mt₉, lw, ll, la, sz₉, lk₉, chs, lps, dp, ln, pg_s2, hT₉⟩, fo_s2, ex_s2, ⟨_, _, lr_s2⟩, ⟨_, _, _, _, _, dr_s2⟩⟩, (fun jj hjj => by rw [f_s2 jj (by omega), f_s1 jj (by omega)])⟩
set_option maxHeartbeats 4000000 in
set_option maxRecDepth 100000 in
theorem c_X10_many (E : En) (N : Nat) (σ : Nat → va_E) (r₉ u₉ kd pr : Int) (yr yw yk yp : Int → Int) (hs : Int) (tx : Int → Int) (tl : Int) (t₉ : Tr) (xb xn xf q1₉ q2₉ q3₉ : Int) (hN₉ : 101 ≤ N) (hO : okS r₉ u₉ kd pr yr yw yk yp hs tx tl t₉ xb xn xf q1₉ q2₉ q3₉) (hS₉ : clS E σ r₉ u₉ kd pr yr yw yk yp hs tx tl t₉ xb xn xf q1₉ q2₉ q3₉) : CI E M_X10_many 16 [vr E 0] N σ (fun y₉ σ' => y₉ = wyB t₉ 1 ∧ clS E σ' r₉ u₉ kd pr yr yw yk yp hs tx tl t₉ xb xn xf q1₉ q2₉ q3₉ ∧ ∀ q₉, 94 ≤ q₉ → σ' q₉ = σ q₉) := by
  refine CT.of2 (own := RX10) (by decide) rfl (Nat.le_of_ble_eq_true rfl) ?_
  intro p e R s m args below meth c Q hF hr hlk hnm hz hR hQ
  obtain ⟨z0, z1, ⟨a1₉, a2, a3, a4, z2⟩, zh, z13₉, zrd, ⟨sg, vl, mt₉, lw, ll, la, sz₉, lk₉, chs, lps, dp, ln, zp, hT₉⟩, zfo, zex, ⟨b1, b2, z99⟩, ⟨d1₉, d2₉, d3₉, d4₉, d5₉, z100⟩⟩ := hS₉
  obtain ⟨⟨hrw, hu, hkd, hpr⟩, hhs, hyy, htl, htx, hxb, hxn, hxf, hq1, hq2, hq3, hwf, hdp3, hl80, hl24⟩ := hO
  have eg := en_rg hrw.1
  obtain ⟨-, -, hpa0, htl9, htk9, hch9, hlp9, hdp9, hln9, ho⟩ := hT₉
  have hT₉ : prT t₉ sg vl mt₉ lw ll la sz₉ lk₉ chs lps dp ln := ⟨hwf, hdp3, hpa0, htl9, htk9, hch9, hlp9, hdp9, hln9, ho⟩
  refine go_aload_n (pc := 0) hF dX10_many_0 0 rfl ?_
  refine go_get (pc := 1) hF fl_X10_44 dX10_many_1 (by omega) z0 rfl ?_
  refine go_callVP (pc := 4) hF [] [] mv_X10_195 dX10_many_4 (by omega) zp.1 (c_X6_waysThrough E N t₉ σ sg vl mt₉ lw ll la sz₉ lk₉ chs lps dp ln hN₉ zp ho hwf hdp3 hpa0 htl9) rfl rfl (Nat.le_of_ble_eq_true rfl) (by decide) ⟨Nat.zero_le _, Nat.zero_le _⟩ ?_
  exact go_iretQ hF hr hlk hQ dX10_many_7 ⟨rfl, ⟨z0, z1, ⟨_, _, _, _, z2⟩, zh, z13₉, zrd, ⟨sg, vl, mt₉, lw, ll, la, sz₉, lk₉, chs, lps, dp, ln, zp, hT₉⟩, zfo, zex, ⟨_, _, z99⟩, ⟨_, _, _, _, _, z100⟩⟩, (fun j₉ hj => rfl)⟩
theorem vrow_0 (u₉ : Int) : vrow u₉ 0 := by unfold vrow; omega
theorem en_0 : en 0 = 0 := by decide
set_option maxHeartbeats 4000000 in
set_option maxRecDepth 100000 in
theorem c_X10_worstFromEmpty (E : En) (N : Nat) (σ : Nat → va_E) (r₉ u₉ kd pr : Int) (yr yw yk yp : Int → Int) (hs : Int) (tx : Int → Int) (tl : Int) (t₉ : Tr) (xb xn xf q1₉ q2₉ q3₉ : Int) (hN₉ : 101 ≤ N) (hO : okS r₉ u₉ kd pr yr yw yk yp hs tx tl t₉ xb xn xf q1₉ q2₉ q3₉) (hS₉ : clS E σ r₉ u₉ kd pr yr yw yk yp hs tx tl t₉ xb xn xf q1₉ q2₉ q3₉) (x₉ : Int) (hx : 1 ≤ x₉ ∧ x₉ ≤ 3) : CI E M_X10_worstFromEmpty 15 [vr E 0, vi x₉] N σ (fun y₉ σ' => topS (ex₉ x₉ kd pr t₉ (S0₉ 0)) y₉ ∧ (0 ≤ y₉ ∧ y₉ ≤ cB₉ t₉) ∧ clS E σ' r₉ u₉ kd pr yr yw yk yp hs tx tl t₉ xb xn xf q1₉ q2₉ q3₉ ∧ ∀ q₉, 94 ≤ q₉ → σ' q₉ = σ q₉) := by
  refine CT.of2 (own := RX10) (by decide) rfl (Nat.le_of_ble_eq_true rfl) ?_
  intro p e R s m args below meth c Q hF hr hlk hnm hz hR hQ
  obtain ⟨z0, z1, ⟨a1₉, a2, a3, a4, z2⟩, zh, z13₉, zrd, ⟨sg, vl, mt₉, lw, ll, la, sz₉, lk₉, chs, lps, dp, ln, zp, hT₉⟩, zfo, zex, ⟨b1, b2, z99⟩, ⟨d1₉, d2₉, d3₉, d4₉, d5₉, z100⟩⟩ := hS₉
  obtain ⟨⟨hrw, hu, hkd, hpr⟩, hhs, hyy, htl, htx, hxb, hxn, hxf, hq1, hq2, hq3, hwf, hdp3, hl80, hl24⟩ := hO
  have eg := en_rg hrw.1
  obtain ⟨-, -, hpa0, htl9, htk9, hch9, hlp9, hdp9, hln9, ho⟩ := hT₉
  have hT₉ : prT t₉ sg vl mt₉ lw ll la sz₉ lk₉ chs lps dp ln := ⟨hwf, hdp3, hpa0, htl9, htk9, hch9, hlp9, hdp9, hln9, ho⟩
  refine go_aload_n (pc := 0) hF dX10_worstFromEmpty_0 0 rfl ?_
  refine go_get (pc := 1) hF fl_X10_16 dX10_worstFromEmpty_1 (by omega) z0 rfl ?_
  refine go_aload_n (pc := 4) hF dX10_worstFromEmpty_4 0 rfl ?_
  refine go_get (pc := 5) hF fl_X10_10 dX10_worstFromEmpty_5 (by omega) z0 rfl ?_
  refine go_callVV (pc := 8) hF [vr E 1] [] mv_X10_224 dX10_worstFromEmpty_8 (by omega) z2 (c_X1_setAs E N σ 2 1 a1₉ a2 a3 a4 (en r₉) u₉ kd pr (by omega) (by omega) (by omega) z2 z1) rfl rfl (Nat.le_of_ble_eq_true rfl) (by decide) ⟨Nat.zero_le _, Nat.zero_le _⟩ (fun s1₉ h_s1 => ?_)
  obtain ⟨u0_s1, f_s1⟩ := h_s1
  have x_s1 := (f_s1 0 (by omega)).trans z0
  have c_s1 := (f_s1 1 (by omega)).trans z1
  have h_s1 := zh.keep (fun jj h1 h2 => f_s1 jj (by omega))
  have tx_s1 := (f_s1 13 (by omega)).trans z13₉
  have rd_s1 := zrd.keep (fun jj h1 h2 => f_s1 jj (by omega))
  have fo_s1 := zfo.keep (fun jj h1 h2 => f_s1 jj (by omega))
  have ex_s1 := zex.keep (fun jj h1 h2 => f_s1 jj (by omega))
  have lr_s1 := (f_s1 92 (by omega)).trans z99
  have dr_s1 := (f_s1 93 (by omega)).trans z100
  have pg_s1 := zp.keep (fun jj h1 h2 => f_s1 jj (by omega))
  refine go_aload_n (pc := 11) hF dX10_worstFromEmpty_11 0 rfl ?_
  refine go_get (pc := 12) hF fl_X10_16 dX10_worstFromEmpty_12 (by omega) x_s1 rfl ?_
  refine go_iconst (pc := 15) hF dX10_worstFromEmpty_15 ?_
  refine go_put (pc := 16) hF [vi 0, vi u₉, vi kd, vi pr] fl_X10_96 dX10_worstFromEmpty_16 (by omega) u0_s1 rfl rfl rfl (Nat.le_of_ble_eq_true rfl) (fun s2₉ u_s2 f_s2 => ?_)
  have x_s2 := (f_s2 0 (by omega)).trans x_s1
  have c_s2 := (f_s2 1 (by omega)).trans c_s1
  have h_s2 := h_s1.keep (fun jj h1 h2 => f_s2 jj (by omega))
  have tx_s2 := (f_s2 13 (by omega)).trans tx_s1
  have rd_s2 := rd_s1.keep (fun jj h1 h2 => f_s2 jj (by omega))
  have fo_s2 := fo_s1.keep (fun jj h1 h2 => f_s2 jj (by omega))
  have ex_s2 := ex_s1.keep (fun jj h1 h2 => f_s2 jj (by omega))
  have lr_s2 := (f_s2 92 (by omega)).trans lr_s1
  have dr_s2 := (f_s2 93 (by omega)).trans dr_s1
  have pg_s2 := pg_s1.keep (fun jj h1 h2 => f_s2 jj (by omega))
  refine go_aload_n (pc := 19) hF dX10_worstFromEmpty_19 0 rfl ?_
  refine go_get (pc := 20) hF fl_X10_16 dX10_worstFromEmpty_20 (by omega) x_s2 rfl ?_
  refine go_iload_n (pc := 23) hF dX10_worstFromEmpty_23 1 rfl ?_
  refine go_put (pc := 24) hF [vi 0, vi x₉, vi kd, vi pr] fl_X10_93 dX10_worstFromEmpty_24 (by omega) u_s2 rfl rfl rfl (Nat.le_of_ble_eq_true rfl) (fun s3₉ u_s3 f_s3 => ?_)
  have x_s3 := (f_s3 0 (by omega)).trans x_s2
  have c_s3 := (f_s3 1 (by omega)).trans c_s2
  have h_s3 := h_s2.keep (fun jj h1 h2 => f_s3 jj (by omega))
  have tx_s3 := (f_s3 13 (by omega)).trans tx_s2
  have rd_s3 := rd_s2.keep (fun jj h1 h2 => f_s3 jj (by omega))
  have fo_s3 := fo_s2.keep (fun jj h1 h2 => f_s3 jj (by omega))
  have ex_s3 := ex_s2.keep (fun jj h1 h2 => f_s3 jj (by omega))
  have lr_s3 := (f_s3 92 (by omega)).trans lr_s2
  have dr_s3 := (f_s3 93 (by omega)).trans dr_s2
  have pg_s3 := pg_s2.keep (fun jj h1 h2 => f_s3 jj (by omega))
  have d_e : s3₉ 2 = ob 1 [vi (en 0), vi x₉, vi kd, vi pr] := by rw [en_0]; exact u_s3
  refine go_aload_n (pc := 27) hF dX10_worstFromEmpty_27 0 rfl ?_
  refine go_get (pc := 28) hF fl_X10_58 dX10_worstFromEmpty_28 (by omega) x_s3 rfl ?_
  refine go_aload_n (pc := 31) hF dX10_worstFromEmpty_31 0 rfl ?_
  refine go_get (pc := 32) hF fl_X10_44 dX10_worstFromEmpty_32 (by omega) x_s3 rfl ?_
  refine go_aload_n (pc := 35) hF dX10_worstFromEmpty_35 0 rfl ?_
  refine go_get (pc := 36) hF fl_X10_16 dX10_worstFromEmpty_36 (by omega) x_s3 rfl ?_
  refine go_callVV (pc := 39) hF [vr E 23, vr E 2] [] mv_X10_182 dX10_worstFromEmpty_39 (by omega) ex_s3.cell.choose_spec (c_X2_explore E N s3₉ 2 sg vl mt₉ lw ll la sz₉ lk₉ chs lps dp ln t₉ 0 x₉ kd pr hN₉ (by omega) pg_s3 ho hwf hdp3 hpa0 htl9 htk9 (vrow_0 x₉) hx hkd hpr d_e ex_s3) rfl rfl (Nat.le_of_ble_eq_true rfl) (by decide) ⟨Nat.zero_le _, Nat.zero_le _⟩ (fun s4₉ h_s4 => ?_)
  obtain ⟨hK9, f_s4⟩ := h_s4
  have ex_n : expS E s4₉ t₉ := Or.inr ⟨0, x₉, kd, pr, (vrow_0 x₉), hx, hkd, hpr, hK9⟩
  have x_s4 := (f_s4 0 (by omega)).trans x_s3
  have c_s4 := (f_s4 1 (by omega)).trans c_s3
  have d_s4 := (f_s4 2 (by omega)).trans d_e
  have h_s4 := h_s3.keep (fun jj h1 h2 => f_s4 jj (by omega))
  have tx_s4 := (f_s4 13 (by omega)).trans tx_s3
  have rd_s4 := rd_s3.keep (fun jj h1 h2 => f_s4 jj (by omega))
  have fo_s4 := fo_s3.keep (fun jj h1 h2 => f_s4 jj (by omega))
  have lr_s4 := (f_s4 92 (by omega)).trans lr_s3
  have dr_s4 := (f_s4 93 (by omega)).trans dr_s3
  have pg_s4 := pg_s3.keep (fun jj h1 h2 => f_s4 jj (by omega))
  refine go_aload_n (pc := 42) hF dX10_worstFromEmpty_42 0 rfl ?_
  refine go_get (pc := 43) hF fl_X10_58 dX10_worstFromEmpty_43 (by omega) x_s4 rfl ?_
  refine go_callVI (pc := 46) hF [] [] mv_X10_186 dX10_worstFromEmpty_46 (by omega) ex_n.cell.choose_spec (c_X2_mostTaken E N s4₉ t₉ 0 x₉ kd pr hN₉ hwf hx hkd (Nat.le_trans (cB_max hwf hdp3 hl80) (by decide)) (vrow_0 x₉) hK9) rfl rfl (Nat.le_of_ble_eq_true rfl) (by decide) ⟨Nat.zero_le _, Nat.zero_le _⟩ (fun y9 s5 h_s5 => ?_)
  obtain ⟨e_s5, hy9, hyr9⟩ := h_s5
  have f_s5 : ∀ q₉, 0 ≤ q₉ → s5 q₉ = s4₉ q₉ := fun q₉ _ => by rw [e_s5]
  have x_s5 := (f_s5 0 (by omega)).trans x_s4
  have c_s5 := (f_s5 1 (by omega)).trans c_s4
  have d_s5 := (f_s5 2 (by omega)).trans d_s4
  have h_s5 := h_s4.keep (fun jj h1 h2 => f_s5 jj (by omega))
  have tx_s5 := (f_s5 13 (by omega)).trans tx_s4
  have rd_s5 := rd_s4.keep (fun jj h1 h2 => f_s5 jj (by omega))
  have fo_s5 := fo_s4.keep (fun jj h1 h2 => f_s5 jj (by omega))
  have ex_s5 := ex_n.keep (fun jj h1 h2 => f_s5 jj (by omega))
  have lr_s5 := (f_s5 92 (by omega)).trans lr_s4
  have dr_s5 := (f_s5 93 (by omega)).trans dr_s4
  have pg_s5 := pg_s4.keep (fun jj h1 h2 => f_s5 jj (by omega))
  exact go_iretQ hF hr hlk hQ dX10_worstFromEmpty_49 ⟨hy9, hyr9, ⟨x_s5, c_s5, ⟨_, _, _, _, d_s5⟩, h_s5, tx_s5, rd_s5, ⟨sg, vl, mt₉, lw, ll, la, sz₉, lk₉, chs, lps, dp, ln, pg_s5, hT₉⟩, fo_s5, ex_s5, ⟨_, _, lr_s5⟩, ⟨_, _, _, _, _, dr_s5⟩⟩, (fun jj hjj => by rw [f_s5 jj (by omega), f_s4 jj (by omega), f_s3 jj (by omega), f_s2 jj (by omega), f_s1 jj (by omega)])⟩
set_option maxHeartbeats 4000000 in
set_option maxRecDepth 100000 in
theorem c_X10_worstBy_bad (E : En) (N : Nat) (σ : Nat → va_E) (r₉ u₉ kd pr : Int) (yr yw yk yp : Int → Int) (hs : Int) (tx : Int → Int) (tl : Int) (t₉ : Tr) (xb xn xf q1₉ q2₉ q3₉ : Int) (hN₉ : 101 ≤ N) (hO : okS r₉ u₉ kd pr yr yw yk yp hs tx tl t₉ xb xn xf q1₉ q2₉ q3₉) (hS₉ : clS E σ r₉ u₉ kd pr yr yw yk yp hs tx tl t₉ xb xn xf q1₉ q2₉ q3₉) (k9 x₉ : Int) (hk9 : rg k9) (hx : rg x₉) (hno : ¬ (0 ≤ k9 ∧ k9 ≤ 1) ∨ (k9 = 0 ∧ ¬ (1 ≤ x₉ ∧ x₉ ≤ 3))) : CI E M_X10_worstBy 16 [vr E 0, vi k9, vi x₉] N σ (fun y₉ σ' => y₉ = (-2) ∧ clS E σ' r₉ u₉ kd pr yr yw yk yp hs tx tl t₉ (wr₉ (xb + 1)) xn xf q1₉ q2₉ q3₉ ∧ ∀ q₉, 94 ≤ q₉ → σ' q₉ = σ q₉) := by
  refine CT.of2 (own := RX10) (by decide) rfl (Nat.le_of_ble_eq_true rfl) ?_
  intro p e R s m args below meth c Q hF hr hlk hnm hz hR hQ
  obtain ⟨z0, z1, ⟨a1₉, a2, a3, a4, z2⟩, zh, z13₉, zrd, ⟨sg, vl, mt₉, lw, ll, la, sz₉, lk₉, chs, lps, dp, ln, zp, hT₉⟩, zfo, zex, ⟨b1, b2, z99⟩, ⟨d1₉, d2₉, d3₉, d4₉, d5₉, z100⟩⟩ := hS₉
  obtain ⟨⟨hrw, hu, hkd, hpr⟩, hhs, hyy, htl, htx, hxb, hxn, hxf, hq1, hq2, hq3, hwf, hdp3, hl80, hl24⟩ := hO
  have eg := en_rg hrw.1
  obtain ⟨-, -, hpa0, htl9, htk9, hch9, hlp9, hdp9, hln9, ho⟩ := hT₉
  have hT₉ : prT t₉ sg vl mt₉ lw ll la sz₉ lk₉ chs lps dp ln := ⟨hwf, hdp3, hpa0, htl9, htk9, hch9, hlp9, hdp9, hln9, ho⟩
  refine go_iload_n (pc := 0) hF dX10_worstBy_0 1 rfl ?_
  refine go_iconst (pc := 1) hF dX10_worstBy_1 ?_
  refine go_iconst (pc := 2) hF dX10_worstBy_2 ?_
  refine go_callSP (pc := 3) hF [vi k9, vi 0, vi 1] [] ms_X10_81 dX10_worstBy_3 (c_X10_isWithin E N σ k9 0 1 (by omega) ⟨by decide, by decide⟩ ⟨by decide, by decide⟩) rfl rfl (Nat.le_of_ble_eq_true rfl) (by decide) ⟨Nat.zero_le _, Nat.zero_le _⟩ ?_
  refine go_if_eq (pc := 6) hF 22 dX10_worstBy_6 (by decide) (bI_rg _) (fun bq6 => ?_) (fun bq6 => ?_)
  · refine go_aload_n (pc := 22) hF dX10_worstBy_22 0 rfl ?_
    refine go_callVI (pc := 23) hF [] [] mv_X10_85 dX10_worstBy_23 (by omega) z0 (c_X10_refuseBad E N σ hN₉ z0) rfl rfl (Nat.le_of_ble_eq_true rfl) (by decide) ⟨Nat.zero_le _, Nat.zero_le _⟩ (fun r_s1 s1₉ h_s1 => ?_)
    obtain ⟨e_s1, u0_s1, f_s1⟩ := h_s1
    have c_s1 := (f_s1 1 (by omega)).trans z1
    have d_s1 := (f_s1 2 (by omega)).trans z2
    have h_s1 := zh.keep (fun jj h1 h2 => f_s1 jj (by omega))
    have tx_s1 := (f_s1 13 (by omega)).trans z13₉
    have rd_s1 := zrd.keep (fun jj h1 h2 => f_s1 jj (by omega))
    have fo_s1 := zfo.keep (fun jj h1 h2 => f_s1 jj (by omega))
    have ex_s1 := zex.keep (fun jj h1 h2 => f_s1 jj (by omega))
    have lr_s1 := (f_s1 92 (by omega)).trans z99
    have dr_s1 := (f_s1 93 (by omega)).trans z100
    have pg_s1 := zp.keep (fun jj h1 h2 => f_s1 jj (by omega))
    subst e_s1
    exact go_iretQ hF hr hlk hQ dX10_worstBy_26 ⟨rfl, ⟨(by rw [vi_wr]; exact u0_s1), c_s1, ⟨_, _, _, _, d_s1⟩, h_s1, tx_s1, rd_s1, ⟨sg, vl, mt₉, lw, ll, la, sz₉, lk₉, chs, lps, dp, ln, pg_s1, hT₉⟩, fo_s1, ex_s1, ⟨_, _, lr_s1⟩, ⟨_, _, _, _, _, dr_s1⟩⟩, (fun jj hjj => by rw [f_s1 jj (by omega)])⟩
  · refine go_iload_n (pc := 9) hF dX10_worstBy_9 1 rfl ?_
    refine go_if_ne (pc := 10) hF 27 dX10_worstBy_10 (by decide) (by omega) (fun bq10 => ?_) (fun bq10 => ?_)
    · exact absurd hno (by have := Decidable.not_not.mp (fun z₉ => bq6 ((bI_0 _).mpr z₉)); omega)
    · refine go_iload_n (pc := 13) hF dX10_worstBy_13 2 rfl ?_
      refine go_iconst (pc := 14) hF dX10_worstBy_14 ?_
      refine go_iconst (pc := 15) hF dX10_worstBy_15 ?_
      refine go_callSP (pc := 16) hF [vi x₉, vi 1, vi 3] [] ms_X10_81 dX10_worstBy_16 (c_X10_isWithin E N σ x₉ 1 3 (by omega) ⟨by decide, by decide⟩ ⟨by decide, by decide⟩) rfl rfl (Nat.le_of_ble_eq_true rfl) (by decide) ⟨Nat.zero_le _, Nat.zero_le _⟩ ?_
      refine go_if_ne (pc := 19) hF 27 dX10_worstBy_19 (by decide) (bI_rg _) (fun bq19 => ?_) (fun bq19 => ?_)
      · exact absurd hno (by have := Decidable.not_not.mp (fun z₉ => bq6 ((bI_0 _).mpr z₉)); have := Decidable.not_not.mp (fun z₉ => bq19 ((bI_0 _).mpr z₉)); omega)
      · refine go_aload_n (pc := 22) hF dX10_worstBy_22 0 rfl ?_
        refine go_callVI (pc := 23) hF [] [] mv_X10_85 dX10_worstBy_23 (by omega) z0 (c_X10_refuseBad E N σ hN₉ z0) rfl rfl (Nat.le_of_ble_eq_true rfl) (by decide) ⟨Nat.zero_le _, Nat.zero_le _⟩ (fun r_s2 s2₉ h_s2 => ?_)
        obtain ⟨e_s2, u0_s2, f_s2⟩ := h_s2
        have c_s2 := (f_s2 1 (by omega)).trans z1
        have d_s2 := (f_s2 2 (by omega)).trans z2
        have h_s2 := zh.keep (fun jj h1 h2 => f_s2 jj (by omega))
        have tx_s2 := (f_s2 13 (by omega)).trans z13₉
        have rd_s2 := zrd.keep (fun jj h1 h2 => f_s2 jj (by omega))
        have fo_s2 := zfo.keep (fun jj h1 h2 => f_s2 jj (by omega))
        have ex_s2 := zex.keep (fun jj h1 h2 => f_s2 jj (by omega))
        have lr_s2 := (f_s2 92 (by omega)).trans z99
        have dr_s2 := (f_s2 93 (by omega)).trans z100
        have pg_s2 := zp.keep (fun jj h1 h2 => f_s2 jj (by omega))
        subst e_s2
        exact go_iretQ hF hr hlk hQ dX10_worstBy_26 ⟨rfl, ⟨(by rw [vi_wr]; exact u0_s2), c_s2, ⟨_, _, _, _, d_s2⟩, h_s2, tx_s2, rd_s2, ⟨sg, vl, mt₉, lw, ll, la, sz₉, lk₉, chs, lps, dp, ln, pg_s2, hT₉⟩, fo_s2, ex_s2, ⟨_, _, lr_s2⟩, ⟨_, _, _, _, _, dr_s2⟩⟩, (fun jj hjj => by rw [f_s2 jj (by omega)])⟩
set_option maxHeartbeats 4000000 in
set_option maxRecDepth 100000 in
theorem c_X10_worstBy_0 (E : En) (N : Nat) (σ : Nat → va_E) (r₉ u₉ kd pr : Int) (yr yw yk yp : Int → Int) (hs : Int) (tx : Int → Int) (tl : Int) (t₉ : Tr) (xb xn xf q1₉ q2₉ q3₉ : Int) (hN₉ : 101 ≤ N) (hO : okS r₉ u₉ kd pr yr yw yk yp hs tx tl t₉ xb xn xf q1₉ q2₉ q3₉) (hS₉ : clS E σ r₉ u₉ kd pr yr yw yk yp hs tx tl t₉ xb xn xf q1₉ q2₉ q3₉) (k9 x₉ : Int) (hk9 : k9 = 0) (hx : 1 ≤ x₉ ∧ x₉ ≤ 3) : CI E M_X10_worstBy 16 [vr E 0, vi k9, vi x₉] N σ (fun y₉ σ' => topS (ex₉ x₉ kd pr t₉ (S0₉ 0)) y₉ ∧ clS E σ' r₉ u₉ kd pr yr yw yk yp hs tx tl t₉ xb xn xf q1₉ q2₉ q3₉ ∧ ∀ q₉, 94 ≤ q₉ → σ' q₉ = σ q₉) := by
  refine CT.of2 (own := RX10) (by decide) rfl (Nat.le_of_ble_eq_true rfl) ?_
  intro p e R s m args below meth c Q hF hr hlk hnm hz hR hQ
  have hcb : cB₉ t₉ ≤ 7920000 := cB_max hO.2.2.2.2.2.2.2.2.2.2.2.1 hO.2.2.2.2.2.2.2.2.2.2.2.2.1 hO.2.2.2.2.2.2.2.2.2.2.2.2.2.1
  refine go_iload_n (pc := 0) hF dX10_worstBy_0 1 rfl ?_
  refine go_iconst (pc := 1) hF dX10_worstBy_1 ?_
  refine go_iconst (pc := 2) hF dX10_worstBy_2 ?_
  refine go_callSP (pc := 3) hF [vi k9, vi 0, vi 1] [] ms_X10_81 dX10_worstBy_3 (c_X10_isWithin E N σ k9 0 1 (by omega) ⟨by decide, by decide⟩ ⟨by decide, by decide⟩) rfl rfl (Nat.le_of_ble_eq_true rfl) (by decide) ⟨Nat.zero_le _, Nat.zero_le _⟩ ?_
  refine go_if_eq (pc := 6) hF 22 dX10_worstBy_6 (by decide) (bI_rg _) (fun bq6 => ?_) (fun bq6 => ?_)
  · exact absurd ((bI_0 _).mp bq6) (by omega)
  · refine go_iload_n (pc := 9) hF dX10_worstBy_9 1 rfl ?_
    refine go_if_ne (pc := 10) hF 27 dX10_worstBy_10 (by decide) (by omega) (fun bq10 => ?_) (fun bq10 => ?_)
    · exact absurd hk9 bq10
    · refine go_iload_n (pc := 13) hF dX10_worstBy_13 2 rfl ?_
      refine go_iconst (pc := 14) hF dX10_worstBy_14 ?_
      refine go_iconst (pc := 15) hF dX10_worstBy_15 ?_
      refine go_callSP (pc := 16) hF [vi x₉, vi 1, vi 3] [] ms_X10_81 dX10_worstBy_16 (c_X10_isWithin E N σ x₉ 1 3 (by omega) ⟨by decide, by decide⟩ ⟨by decide, by decide⟩) rfl rfl (Nat.le_of_ble_eq_true rfl) (by decide) ⟨Nat.zero_le _, Nat.zero_le _⟩ ?_
      refine go_if_ne (pc := 19) hF 27 dX10_worstBy_19 (by decide) (bI_rg _) (fun bq19 => ?_) (fun bq19 => ?_)
      · refine go_iload_n (pc := 27) hF dX10_worstBy_27 1 rfl ?_
        refine go_if_ne (pc := 28) hF 37 dX10_worstBy_28 (by decide) (by omega) (fun bq28 => ?_) (fun bq28 => ?_)
        · exact absurd hk9 bq28
        · refine go_aload_n (pc := 31) hF dX10_worstBy_31 0 rfl ?_
          refine go_iload_n (pc := 32) hF dX10_worstBy_32 2 rfl ?_
          refine go_callVI (pc := 33) hF [vi x₉] [] mv_X10_198 dX10_worstBy_33 (by omega) hS₉.1 (c_X10_worstFromEmpty E N σ r₉ u₉ kd pr yr yw yk yp hs tx tl t₉ xb xn xf q1₉ q2₉ q3₉ hN₉ hO hS₉ x₉ (by omega)) rfl rfl (Nat.le_of_ble_eq_true rfl) (by decide) ⟨Nat.zero_le _, Nat.zero_le _⟩ (fun w_s1 s1₉ h_s1 => ?_)
          obtain ⟨t_s1, r_s1, c_s1, f_s1⟩ := h_s1
          exact go_iretQ hF hr hlk hQ dX10_worstBy_36 ⟨t_s1, c_s1, (fun jj hjj => by rw [f_s1 jj (by omega)])⟩
      · exact absurd ((bI_0 _).mp bq19) (by omega)
set_option maxHeartbeats 4000000 in
set_option maxRecDepth 100000 in
theorem c_X10_worstBy_1 (E : En) (N : Nat) (σ : Nat → va_E) (r₉ u₉ kd pr : Int) (yr yw yk yp : Int → Int) (hs : Int) (tx : Int → Int) (tl : Int) (t₉ : Tr) (xb xn xf q1₉ q2₉ q3₉ : Int) (hN₉ : 101 ≤ N) (hO : okS r₉ u₉ kd pr yr yw yk yp hs tx tl t₉ xb xn xf q1₉ q2₉ q3₉) (hS₉ : clS E σ r₉ u₉ kd pr yr yw yk yp hs tx tl t₉ xb xn xf q1₉ q2₉ q3₉) (k9 x₉ : Int) (hk9 : k9 = 1) (hx : rg x₉) : CI E M_X10_worstBy 16 [vr E 0, vi k9, vi x₉] N σ (fun y₉ σ' => (∃ y1 y2 y3, topS (ex₉ 1 kd pr t₉ (S0₉ 0)) y1 ∧ topS (ex₉ 2 kd pr t₉ (S0₉ 0)) y2 ∧ topS (ex₉ 3 kd pr t₉ (S0₉ 0)) y3 ∧ y₉ = wbA y1 y2 y3) ∧ clS E σ' r₉ u₉ kd pr yr yw yk yp hs tx tl t₉ xb xn xf q1₉ q2₉ q3₉ ∧ ∀ q₉, 94 ≤ q₉ → σ' q₉ = σ q₉) := by
  refine CT.of2 (own := RX10) (by decide) rfl (Nat.le_of_ble_eq_true rfl) ?_
  intro p e R s m args below meth c Q hF hr hlk hnm hz hR hQ
  have hcb : cB₉ t₉ ≤ 7920000 := cB_max hO.2.2.2.2.2.2.2.2.2.2.2.1 hO.2.2.2.2.2.2.2.2.2.2.2.2.1 hO.2.2.2.2.2.2.2.2.2.2.2.2.2.1
  refine go_iload_n (pc := 0) hF dX10_worstBy_0 1 rfl ?_
  refine go_iconst (pc := 1) hF dX10_worstBy_1 ?_
  refine go_iconst (pc := 2) hF dX10_worstBy_2 ?_
  refine go_callSP (pc := 3) hF [vi k9, vi 0, vi 1] [] ms_X10_81 dX10_worstBy_3 (c_X10_isWithin E N σ k9 0 1 (by omega) ⟨by decide, by decide⟩ ⟨by decide, by decide⟩) rfl rfl (Nat.le_of_ble_eq_true rfl) (by decide) ⟨Nat.zero_le _, Nat.zero_le _⟩ ?_
  refine go_if_eq (pc := 6) hF 22 dX10_worstBy_6 (by decide) (bI_rg _) (fun bq6 => ?_) (fun bq6 => ?_)
  · exact absurd ((bI_0 _).mp bq6) (by omega)
  · refine go_iload_n (pc := 9) hF dX10_worstBy_9 1 rfl ?_
    refine go_if_ne (pc := 10) hF 27 dX10_worstBy_10 (by decide) (by omega) (fun bq10 => ?_) (fun bq10 => ?_)
    · refine go_iload_n (pc := 27) hF dX10_worstBy_27 1 rfl ?_
      refine go_if_ne (pc := 28) hF 37 dX10_worstBy_28 (by decide) (by omega) (fun bq28 => ?_) (fun bq28 => ?_)
      · refine go_iconst (pc := 37) hF dX10_worstBy_37 ?_
        refine go_istore_n (pc := 38) hF [(3, vi 1), (0, vr E 0), (1, vi k9), (2, vi x₉)] dX10_worstBy_38 rfl (by decide) ?_
        refine go_aload_n (pc := 39) hF dX10_worstBy_39 1 rfl ?_
        refine go_iconst (pc := 40) hF dX10_worstBy_40 ?_
        refine go_callVI (pc := 41) hF [vi 1] [] mv_X10_198 dX10_worstBy_41 (by omega) hS₉.1 (c_X10_worstFromEmpty E N σ r₉ u₉ kd pr yr yw yk yp hs tx tl t₉ xb xn xf q1₉ q2₉ q3₉ hN₉ hO hS₉ 1 (by omega)) rfl rfl (Nat.le_of_ble_eq_true rfl) (by decide) ⟨Nat.zero_le _, Nat.zero_le _⟩ (fun w_s1 s1₉ h_s1 => ?_)
        obtain ⟨t_s1, r_s1, c_s1, f_s1⟩ := h_s1
        refine go_istore (pc := 44) hF [(4, vi w_s1), (3, vi 1), (0, vr E 0), (1, vi k9), (2, vi x₉)] dX10_worstBy_44 rfl (by decide) ?_
        refine go_iconst (pc := 46) hF dX10_worstBy_46 ?_
        refine go_istore (pc := 47) hF [(5, vi 2), (4, vi w_s1), (3, vi 1), (0, vr E 0), (1, vi k9), (2, vi x₉)] dX10_worstBy_47 rfl (by decide) ?_
        refine go_iload (pc := 49) hF dX10_worstBy_49 0 rfl ?_
        refine go_iconst (pc := 51) hF dX10_worstBy_51 ?_
        refine go_icmp_gt (pc := 52) hF 83 dX10_worstBy_52 (by decide) ⟨by decide, by decide⟩ ⟨by decide, by decide⟩ (fun bq52 => ?_) (fun bq52 => ?_)
        · exact absurd bq52 (by decide)
        · refine go_aload_n (pc := 55) hF dX10_worstBy_55 3 rfl ?_
          refine go_iload (pc := 56) hF dX10_worstBy_56 0 rfl ?_
          refine go_callVI (pc := 58) hF [vi 2] [] mv_X10_198 dX10_worstBy_58 (by omega) c_s1.1 (c_X10_worstFromEmpty E N s1₉ r₉ u₉ kd pr yr yw yk yp hs tx tl t₉ xb xn xf q1₉ q2₉ q3₉ hN₉ hO c_s1 2 (by omega)) rfl rfl (Nat.le_of_ble_eq_true rfl) (by decide) ⟨Nat.zero_le _, Nat.zero_le _⟩ (fun w_s2 s2₉ h_s2 => ?_)
          obtain ⟨t_s2, r_s2, c_s2, f_s2⟩ := h_s2
          refine go_istore (pc := 61) hF [(6, vi w_s2), (5, vi 2), (4, vi w_s1), (3, vi 1), (0, vr E 0), (1, vi k9), (2, vi x₉)] dX10_worstBy_61 rfl (by decide) ?_
          refine go_iload (pc := 63) hF dX10_worstBy_63 0 rfl ?_
          refine go_iload (pc := 65) hF dX10_worstBy_65 2 rfl ?_
          refine go_icmp_ge (pc := 67) hF 77 dX10_worstBy_67 (by decide) (by omega) (by omega) (fun bq67 => ?_) (fun bq67 => ?_)
          · refine go_iinc (pc := 77) hF [(5, vi 3), (6, vi w_s2), (4, vi w_s1), (3, vi 1), (0, vr E 0), (1, vi k9), (2, vi x₉)] dX10_worstBy_77 1 rfl rfl (by decide) ?_
            refine go_goto (pc := 80) hF 49 dX10_worstBy_80 (by decide) ?_
            refine go_iload (pc := 49) hF dX10_worstBy_49 0 rfl ?_
            refine go_iconst (pc := 51) hF dX10_worstBy_51 ?_
            refine go_icmp_gt (pc := 52) hF 83 dX10_worstBy_52 (by decide) ⟨by decide, by decide⟩ ⟨by decide, by decide⟩ (fun bq52 => ?_) (fun bq52 => ?_)
            · exact absurd bq52 (by decide)
            · refine go_aload_n (pc := 55) hF dX10_worstBy_55 4 rfl ?_
              refine go_iload (pc := 56) hF dX10_worstBy_56 0 rfl ?_
              refine go_callVI (pc := 58) hF [vi 3] [] mv_X10_198 dX10_worstBy_58 (by omega) c_s2.1 (c_X10_worstFromEmpty E N s2₉ r₉ u₉ kd pr yr yw yk yp hs tx tl t₉ xb xn xf q1₉ q2₉ q3₉ hN₉ hO c_s2 3 (by omega)) rfl rfl (Nat.le_of_ble_eq_true rfl) (by decide) ⟨Nat.zero_le _, Nat.zero_le _⟩ (fun w_s3 s3₉ h_s3 => ?_)
              obtain ⟨t_s3, r_s3, c_s3, f_s3⟩ := h_s3
              refine go_istore (pc := 61) hF [(6, vi w_s3), (5, vi 3), (4, vi w_s1), (3, vi 1), (0, vr E 0), (1, vi k9), (2, vi x₉)] dX10_worstBy_61 rfl (by decide) ?_
              refine go_iload (pc := 63) hF dX10_worstBy_63 0 rfl ?_
              refine go_iload (pc := 65) hF dX10_worstBy_65 2 rfl ?_
              refine go_icmp_ge (pc := 67) hF 77 dX10_worstBy_67 (by decide) (by omega) (by omega) (fun bq67 => ?_) (fun bq67 => ?_)
              · refine go_iinc (pc := 77) hF [(5, vi 4), (6, vi w_s3), (4, vi w_s1), (3, vi 1), (0, vr E 0), (1, vi k9), (2, vi x₉)] dX10_worstBy_77 1 rfl rfl (by decide) ?_
                refine go_goto (pc := 80) hF 49 dX10_worstBy_80 (by decide) ?_
                refine go_iload (pc := 49) hF dX10_worstBy_49 0 rfl ?_
                refine go_iconst (pc := 51) hF dX10_worstBy_51 ?_
                refine go_icmp_gt (pc := 52) hF 83 dX10_worstBy_52 (by decide) ⟨by decide, by decide⟩ ⟨by decide, by decide⟩ (fun bq52 => ?_) (fun bq52 => ?_)
                · refine go_iload_n (pc := 83) hF dX10_worstBy_83 3 rfl ?_
                  exact go_iretQ hF hr hlk hQ dX10_worstBy_84 ⟨⟨w_s1, w_s2, w_s3, t_s1, t_s2, t_s3, by unfold wbA; repeat (first | rfl | omega | (rw [if_pos (by omega)]) | (rw [if_neg (by omega)]))⟩, c_s3, (fun jj hjj => by rw [f_s3 jj (by omega), f_s2 jj (by omega), f_s1 jj (by omega)])⟩
                · exact absurd bq52 (by decide)
              · refine go_iload (pc := 70) hF dX10_worstBy_70 1 rfl ?_
                refine go_istore_n (pc := 72) hF [(3, vi 3), (6, vi w_s3), (5, vi 3), (4, vi w_s1), (0, vr E 0), (1, vi k9), (2, vi x₉)] dX10_worstBy_72 rfl (by decide) ?_
                refine go_iload (pc := 73) hF dX10_worstBy_73 1 rfl ?_
                refine go_istore (pc := 75) hF [(4, vi w_s3), (3, vi 3), (6, vi w_s3), (5, vi 3), (0, vr E 0), (1, vi k9), (2, vi x₉)] dX10_worstBy_75 rfl (by decide) ?_
                refine go_iinc (pc := 77) hF [(5, vi 4), (4, vi w_s3), (3, vi 3), (6, vi w_s3), (0, vr E 0), (1, vi k9), (2, vi x₉)] dX10_worstBy_77 3 rfl rfl (by decide) ?_
                refine go_goto (pc := 80) hF 49 dX10_worstBy_80 (by decide) ?_
                refine go_iload (pc := 49) hF dX10_worstBy_49 0 rfl ?_
                refine go_iconst (pc := 51) hF dX10_worstBy_51 ?_
                refine go_icmp_gt (pc := 52) hF 83 dX10_worstBy_52 (by decide) ⟨by decide, by decide⟩ ⟨by decide, by decide⟩ (fun bq52 => ?_) (fun bq52 => ?_)
                · refine go_iload_n (pc := 83) hF dX10_worstBy_83 2 rfl ?_
                  exact go_iretQ hF hr hlk hQ dX10_worstBy_84 ⟨⟨w_s1, w_s2, w_s3, t_s1, t_s2, t_s3, by unfold wbA; repeat (first | rfl | omega | (rw [if_pos (by omega)]) | (rw [if_neg (by omega)]))⟩, c_s3, (fun jj hjj => by rw [f_s3 jj (by omega), f_s2 jj (by omega), f_s1 jj (by omega)])⟩
                · exact absurd bq52 (by decide)
          · refine go_iload (pc := 70) hF dX10_worstBy_70 1 rfl ?_
            refine go_istore_n (pc := 72) hF [(3, vi 2), (6, vi w_s2), (5, vi 2), (4, vi w_s1), (0, vr E 0), (1, vi k9), (2, vi x₉)] dX10_worstBy_72 rfl (by decide) ?_
            refine go_iload (pc := 73) hF dX10_worstBy_73 1 rfl ?_
            refine go_istore (pc := 75) hF [(4, vi w_s2), (3, vi 2), (6, vi w_s2), (5, vi 2), (0, vr E 0), (1, vi k9), (2, vi x₉)] dX10_worstBy_75 rfl (by decide) ?_
            refine go_iinc (pc := 77) hF [(5, vi 3), (4, vi w_s2), (3, vi 2), (6, vi w_s2), (0, vr E 0), (1, vi k9), (2, vi x₉)] dX10_worstBy_77 3 rfl rfl (by decide) ?_
            refine go_goto (pc := 80) hF 49 dX10_worstBy_80 (by decide) ?_
            refine go_iload (pc := 49) hF dX10_worstBy_49 0 rfl ?_
            refine go_iconst (pc := 51) hF dX10_worstBy_51 ?_
            refine go_icmp_gt (pc := 52) hF 83 dX10_worstBy_52 (by decide) ⟨by decide, by decide⟩ ⟨by decide, by decide⟩ (fun bq52 => ?_) (fun bq52 => ?_)
            · exact absurd bq52 (by decide)
            · refine go_aload_n (pc := 55) hF dX10_worstBy_55 4 rfl ?_
              refine go_iload (pc := 56) hF dX10_worstBy_56 0 rfl ?_
              refine go_callVI (pc := 58) hF [vi 3] [] mv_X10_198 dX10_worstBy_58 (by omega) c_s2.1 (c_X10_worstFromEmpty E N s2₉ r₉ u₉ kd pr yr yw yk yp hs tx tl t₉ xb xn xf q1₉ q2₉ q3₉ hN₉ hO c_s2 3 (by omega)) rfl rfl (Nat.le_of_ble_eq_true rfl) (by decide) ⟨Nat.zero_le _, Nat.zero_le _⟩ (fun w_s4 s4₉ h_s4 => ?_)
              obtain ⟨t_s4, r_s4, c_s4, f_s4⟩ := h_s4
              refine go_istore (pc := 61) hF [(6, vi w_s4), (5, vi 3), (4, vi w_s2), (3, vi 2), (0, vr E 0), (1, vi k9), (2, vi x₉)] dX10_worstBy_61 rfl (by decide) ?_
              refine go_iload (pc := 63) hF dX10_worstBy_63 0 rfl ?_
              refine go_iload (pc := 65) hF dX10_worstBy_65 2 rfl ?_
              refine go_icmp_ge (pc := 67) hF 77 dX10_worstBy_67 (by decide) (by omega) (by omega) (fun bq67 => ?_) (fun bq67 => ?_)
              · refine go_iinc (pc := 77) hF [(5, vi 4), (6, vi w_s4), (4, vi w_s2), (3, vi 2), (0, vr E 0), (1, vi k9), (2, vi x₉)] dX10_worstBy_77 1 rfl rfl (by decide) ?_
                refine go_goto (pc := 80) hF 49 dX10_worstBy_80 (by decide) ?_
                refine go_iload (pc := 49) hF dX10_worstBy_49 0 rfl ?_
                refine go_iconst (pc := 51) hF dX10_worstBy_51 ?_
                refine go_icmp_gt (pc := 52) hF 83 dX10_worstBy_52 (by decide) ⟨by decide, by decide⟩ ⟨by decide, by decide⟩ (fun bq52 => ?_) (fun bq52 => ?_)
                · refine go_iload_n (pc := 83) hF dX10_worstBy_83 3 rfl ?_
                  exact go_iretQ hF hr hlk hQ dX10_worstBy_84 ⟨⟨w_s1, w_s2, w_s4, t_s1, t_s2, t_s4, by unfold wbA; repeat (first | rfl | omega | (rw [if_pos (by omega)]) | (rw [if_neg (by omega)]))⟩, c_s4, (fun jj hjj => by rw [f_s4 jj (by omega), f_s2 jj (by omega), f_s1 jj (by omega)])⟩
                · exact absurd bq52 (by decide)
              · refine go_iload (pc := 70) hF dX10_worstBy_70 1 rfl ?_
                refine go_istore_n (pc := 72) hF [(3, vi 3), (6, vi w_s4), (5, vi 3), (4, vi w_s2), (0, vr E 0), (1, vi k9), (2, vi x₉)] dX10_worstBy_72 rfl (by decide) ?_
                refine go_iload (pc := 73) hF dX10_worstBy_73 1 rfl ?_
                refine go_istore (pc := 75) hF [(4, vi w_s4), (3, vi 3), (6, vi w_s4), (5, vi 3), (0, vr E 0), (1, vi k9), (2, vi x₉)] dX10_worstBy_75 rfl (by decide) ?_
                refine go_iinc (pc := 77) hF [(5, vi 4), (4, vi w_s4), (3, vi 3), (6, vi w_s4), (0, vr E 0), (1, vi k9), (2, vi x₉)] dX10_worstBy_77 3 rfl rfl (by decide) ?_
                refine go_goto (pc := 80) hF 49 dX10_worstBy_80 (by decide) ?_
                refine go_iload (pc := 49) hF dX10_worstBy_49 0 rfl ?_
                refine go_iconst (pc := 51) hF dX10_worstBy_51 ?_
                refine go_icmp_gt (pc := 52) hF 83 dX10_worstBy_52 (by decide) ⟨by decide, by decide⟩ ⟨by decide, by decide⟩ (fun bq52 => ?_) (fun bq52 => ?_)
                · refine go_iload_n (pc := 83) hF dX10_worstBy_83 2 rfl ?_
                  exact go_iretQ hF hr hlk hQ dX10_worstBy_84 ⟨⟨w_s1, w_s2, w_s4, t_s1, t_s2, t_s4, by unfold wbA; repeat (first | rfl | omega | (rw [if_pos (by omega)]) | (rw [if_neg (by omega)]))⟩, c_s4, (fun jj hjj => by rw [f_s4 jj (by omega), f_s2 jj (by omega), f_s1 jj (by omega)])⟩
                · exact absurd bq52 (by decide)
      · exact absurd bq28 (by omega)
    · exact absurd bq10 (by omega)
