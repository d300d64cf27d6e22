/-! CacheBounds: its state₉, and the calls. -/
/-- an int₉ as₉ it is₉ kept₉ -/
def wr₉ (x₉ : Int) : Int := (iI x₉).toInt
theorem vi_wr (x₉ : Int) : vi (wr₉ x₉) = vi x₉ := congrArg Value.int (iI_of (iI x₉))
theorem wr_rg (x₉ : Int) : rg (wr₉ x₉) := iI_rg _
def psh (y₉ : Int → Int) (v₉ : Int) : Int → Int := fun i₉ => if i₉ = 0 then v₉ else y₉ (i₉ - 1)
/-- a₉ state₉ as₉ the document has₉ it -/
def okS (r₉ u₉ kd pr : Int) (yr yw yk yp : Int → Int) (hs : Int) (tx : Int → Int) (tl : Int) (t₉ : Tr) (xb xn xf q1₉ q2₉ q3₉ : Int) : Prop := (vrow u₉ r₉ ∧ (1 ≤ u₉ ∧ u₉ ≤ 3) ∧ (0 ≤ kd ∧ kd ≤ 3) ∧ (2 ≤ pr ∧ pr ≤ 99)) ∧ (0 ≤ hs ∧ hs ≤ 8) ∧ (∀ i₉ : Int, 0 ≤ i₉ → i₉ < hs → vrow (yw i₉) (yr i₉) ∧ (1 ≤ yw i₉ ∧ yw i₉ ≤ 3) ∧ (0 ≤ yk i₉ ∧ yk i₉ ≤ 3) ∧ (2 ≤ yp i₉ ∧ yp i₉ ≤ 99)) ∧ (0 ≤ tl ∧ tl ≤ 80) ∧ (∀ z₉ : Int, 0 ≤ z₉ → z₉ < tl → 0 ≤ tx z₉ ∧ tx z₉ ≤ 127) ∧ rg xb ∧ rg xn ∧ rg xf ∧ rg q1₉ ∧ rg q2₉ ∧ rg q3₉ ∧ wf t₉ ∧ tDep t₉ ≤ 3 ∧ tLen t₉ ≤ 80 ∧ tLks t₉ ≤ 24
theorem isH.keep {E : En} {σ τ : Nat → va_E} {xr xw xk xp : Int → Int} {nx sz₉ : Int} (h : isH E σ xr xw xk xp nx sz₉) (hk : ∀ j₉, 3 ≤ j₉ → j₉ ≤ 12 → τ j₉ = σ j₉) : isH E τ xr xw xk xp nx sz₉ := ⟨(hk 3 (by omega) (by omega)).trans h.1, (hk 4 (by omega) (by omega)).trans h.2.1, fun k₉ hk2 => (hk (5 + k₉) (by omega) (by omega)).trans (h.2.2 k₉ hk2)⟩
def hiC (E : En) (σ : Nat → va_E) (yr yw yk yp : Int → Int) (hs : Int) : Prop := ∃ (xr xw xk xp : Int → Int) (nx : Int), (0 ≤ nx ∧ nx ≤ 7) ∧ isH E σ xr xw xk xp nx hs ∧ ∀ i₉ : Int, 0 ≤ i₉ → i₉ < hs → xr ((nx + 7 - i₉) % 8) = en (yr i₉) ∧ xw ((nx + 7 - i₉) % 8) = yw i₉ ∧ xk ((nx + 7 - i₉) % 8) = yk i₉ ∧ xp ((nx + 7 - i₉) % 8) = yp i₉
theorem hiC.keep {E : En} {σ τ : Nat → va_E} {yr yw yk yp : Int → Int} {hs : Int} (h : hiC E σ yr yw yk yp hs) (hk : ∀ j₉, 3 ≤ j₉ → j₉ ≤ 12 → τ j₉ = σ j₉) : hiC E τ yr yw yk yp hs := by
  obtain ⟨xr, xw, xk, xp, nx, h1, h2, h3⟩ := h
  exact ⟨xr, xw, xk, xp, nx, h1, h2.keep hk, h3⟩
theorem hiC.cell {E : En} {σ : Nat → va_E} {yr yw yk yp : Int → Int} {hs : Int} (h : hiC E σ yr yw yk yp hs) : ∃ nx : Int, σ 3 = ob 5 [vr E 4, vi nx, vi hs] := by
  obtain ⟨xr, xw, xk, xp, nx, h1, h2, h3⟩ := h
  exact ⟨nx, h2.1⟩
def rdC (E : En) (σ : Nat → va_E) : Prop := ∃ (op₉ sg vl mt₉ lw ll la : Int → Int) (d₉ fg sz₉ lk₉ ch₉ lp dp ln : Int), isR E σ op₉ d₉ fg sg vl mt₉ lw ll la sz₉ lk₉ ch₉ lp dp ln ∧ okP sg vl mt₉ lw ll la sz₉ lk₉ ch₉ lp dp ln
theorem rdC.keep {E : En} {σ τ : Nat → va_E} (h : rdC E σ) (hk : ∀ j₉, 14 ≤ j₉ → j₉ ≤ 22 → τ j₉ = σ j₉) : rdC E τ := by
  obtain ⟨op₉, sg, vl, mt₉, lw, ll, la, d₉, fg, sz₉, lk₉, ch₉, lp, dp, ln, h1, h2⟩ := h
  exact ⟨op₉, sg, vl, mt₉, lw, ll, la, d₉, fg, sz₉, lk₉, ch₉, lp, dp, ln, h1.keep hk, h2⟩
theorem rdC.cell {E : En} {σ : Nat → va_E} (h : rdC E σ) : ∃ df : Int × Int, σ 14 = ob 7 [vr E 15, vi df.1, vi df.2, vr E 16] := by
  obtain ⟨op₉, sg, vl, mt₉, lw, ll, la, d₉, fg, sz₉, lk₉, ch₉, lp, dp, ln, h1, h2⟩ := h
  exact ⟨(d₉, fg), h1.1⟩
def prC (E : En) (σ : Nat → va_E) (t₉ : Tr) : Prop := ∃ (sg vl mt₉ lw ll la : Int → Int) (sz₉ lk₉ ch₉ lp dp ln : Int), isP E σ 23 sg vl mt₉ lw ll la sz₉ lk₉ ch₉ lp dp ln ∧ prT t₉ sg vl mt₉ lw ll la sz₉ lk₉ ch₉ lp dp ln
def foC (E : En) (σ : Nat → va_E) (t₉ : Tr) : Prop := ∃ v₉ kn₉, rg v₉ ∧ folS E σ t₉ v₉ kn₉
theorem foC.keep {E : En} {σ τ : Nat → va_E} {t₉ : Tr} (h : foC E σ t₉) (hk : ∀ j₉, 30 ≤ j₉ → j₉ ≤ 55 → τ j₉ = σ j₉) : foC E τ t₉ := by
  obtain ⟨v₉, kn₉, h1, h2⟩ := h
  exact ⟨v₉, kn₉, h1, h2.keep hk⟩
theorem foC.cell {E : En} {σ : Nat → va_E} {t₉ : Tr} (h : foC E σ t₉) : ∃ fs, σ 30 = ob 3 fs := by
  obtain ⟨v₉, kn₉, h1, mm, my, A₉, h2, h3⟩ := h
  exact ⟨_, h2.1⟩
theorem expS.cell {E : En} {σ : Nat → va_E} {t₉ : Tr} (h : expS E σ t₉) : ∃ fs, σ 56 = ob 2 fs := by
  obtain ⟨nw, un, a₉, b₉, c, d₉, kn₉, h1, h2, h3⟩ := h.any
  exact ⟨_, h2.1⟩
def clS (E : En) (σ : Nat → va_E) (r₉ u₉ kd pr : Int) (yr yw yk yp : Int → Int) (hs : Int) (tx : Int → Int) (tl : Int) (t₉ : Tr) (xb xn xf q1₉ q2₉ q3₉ : Int) : Prop := σ 0 = ob 9 [vr E 1, vr E 2, vr E 3, vr E 13, vi tl, vr E 14, vr E 23, vr E 30, vr E 56, vr E 92, vr E 93, vi xb, vi xn, vi xf] ∧ σ 1 = ob 1 [vi (en r₉), vi u₉, vi kd, vi pr] ∧ (∃ a1₉ a2 a3 a4, σ 2 = ob 1 [vi a1₉, vi a2, vi a3, vi a4]) ∧ hiC E σ yr yw yk yp hs ∧ σ 13 = ai E 80 tx ∧ rdC E σ ∧ prC E σ t₉ ∧ foC E σ t₉ ∧ expS E σ t₉ ∧ (∃ a1₉ a2, σ 92 = ob 8 [vi a1₉, vi a2, vi q1₉, vi q2₉, vi q3₉]) ∧ ∃ a1₉ a2 a3 a4 a5, σ 93 = ob 8 [vi a1₉, vi a2, vi a3, vi a4, vi a5]
theorem hiC.remember {E : En} {N : Nat} {σ : Nat → va_E} {yr yw yk yp : Int → Int} {hs r₉ u₉ kd pr : Int} (hN₉ : 101 ≤ N) (h : hiC E σ yr yw yk yp hs) (hs8 : 0 ≤ hs ∧ hs ≤ 8) (hc₉ : σ 1 = ob 1 [vi (en r₉), vi u₉, vi kd, vi pr]) : CV E M_X5_remember 2 [vr E 3, vr E 1] N σ (fun σ' => hiC E σ' (psh yr r₉) (psh yw u₉) (psh yk kd) (psh yp pr) (min (hs + 1) 8) ∧ ∀ q₉, (q₉ < 3 ∨ 12 < q₉) → σ' q₉ = σ q₉) := by
  obtain ⟨xr, xw, xk, xp, nx, h1, h2, h3⟩ := h
  refine CV.mono (c_X5_remember E N σ hN₉ xr xw xk xp nx hs (en r₉) u₉ kd pr h1 hs8 hc₉ h2) (fun σ' h => ⟨⟨_, _, _, _, (nx + 1) % 8, by omega, h.1, fun i₉ i0₉ i1₉ => ?_⟩, fun q₉ hq => h.2 q₉ (by omega)⟩)
  by_cases e : i₉ = 0
  · subst e
    rw [show ((nx + 1) % 8 + 7 - 0) % 8 = nx by omega, up_self, up_self, up_self, up_self]
    exact ⟨rfl, rfl, rfl, rfl⟩
  · rw [show ((nx + 1) % 8 + 7 - i₉) % 8 = (nx + 7 - (i₉ - 1)) % 8 by omega, up_ne _ _ (by omega), up_ne _ _ (by omega), up_ne _ _ (by omega), up_ne _ _ (by omega)]
    show _ = en (if i₉ = 0 then r₉ else yr (i₉ - 1)) ∧ _ = (if i₉ = 0 then u₉ else yw (i₉ - 1)) ∧ _ = (if i₉ = 0 then kd else yk (i₉ - 1)) ∧ _ = (if i₉ = 0 then pr else yp (i₉ - 1))
    rw [if_neg e, if_neg e, if_neg e, if_neg e]
    exact h3 (i₉ - 1) (by omega) (by omega)
theorem hiC.bringBack {E : En} {N : Nat} {σ : Nat → va_E} {yr yw yk yp : Int → Int} {hs r₉ u₉ kd pr : Int} (hN₉ : 101 ≤ N) (h : hiC E σ yr yw yk yp hs) (hs8 : 1 ≤ hs ∧ hs ≤ 8) (hc₉ : σ 1 = ob 1 [vi r₉, vi u₉, vi kd, vi pr]) : CV E M_X5_bringBack 2 [vr E 3, vr E 1] N σ (fun σ' => σ' 1 = ob 1 [vi (en (yr 0)), vi (yw 0), vi (yk 0), vi (yp 0)] ∧ hiC E σ' (fun i₉ => yr (i₉ + 1)) (fun i₉ => yw (i₉ + 1)) (fun i₉ => yk (i₉ + 1)) (fun i₉ => yp (i₉ + 1)) (hs - 1) ∧ ∀ q₉, (q₉ ≠ 1 ∧ (q₉ < 3 ∨ 12 < q₉)) → σ' q₉ = σ q₉) := by
  obtain ⟨xr, xw, xk, xp, nx, h1, h2, h3⟩ := h
  refine CV.mono (c_X5_bringBack E N σ hN₉ xr xw xk xp nx hs r₉ u₉ kd pr h1 (by omega) hc₉ h2 (by omega)) (fun σ' h => ⟨?_, ⟨xr, xw, xk, xp, (nx + 7) % 8, by omega, h.2.1, fun i₉ i0₉ i1₉ => ?_⟩, fun q₉ hq => h.2.2 q₉ (by omega)⟩)
  · have h0 := h3 0 (by omega) (by omega)
    rw [Int.sub_zero] at h0
    rw [h.1, h0.1, h0.2.1, h0.2.2.1, h0.2.2.2]
  · rw [show ((nx + 7) % 8 + 7 - i₉) % 8 = (nx + 7 - (i₉ + 1)) % 8 by omega]
    exact h3 (i₉ + 1) (by omega) (by omega)

set_option maxHeartbeats 4000000 in
set_option maxRecDepth 100000 in
theorem c_X10_refuseBad (E : En) (N : Nat) (σ : Nat → va_E) {tl xb xn xf : Int} (hN₉ : 101 ≤ N) (z0 : σ 0 = ob 9 [vr E 1, vr E 2, vr E 3, vr E 13, vi tl, vr E 14, vr E 23, vr E 30, vr E 56, vr E 92, vr E 93, vi xb, vi xn, vi xf]) : CI E M_X10_refuseBad 1 [vr E 0] N σ (fun y₉ σ' => y₉ = -2 ∧ σ' 0 = ob 9 [vr E 1, vr E 2, vr E 3, vr E 13, vi tl, vr E 14, vr E 23, vr E 30, vr E 56, vr E 92, vr E 93, vi (xb + 1), vi xn, vi xf] ∧ ∀ q₉, q₉ ≠ 0 → σ' q₉ = σ q₉) := by
  refine CT.of2 (own := RX10) (by decide) rfl (Nat.le_of_ble_eq_true rfl) ?_
  intro p e R s m args below meth c Q hF hr hlk hnm hz hR hQ
  refine go_aload_n (pc := 0) hF dX10_refuseBad_0 0 rfl ?_
  refine go_dup (pc := 1) hF dX10_refuseBad_1 rfl ?_
  refine go_get (pc := 2) hF fl_X10_72 dX10_refuseBad_2 (by omega) z0 rfl ?_
  refine go_iconst (pc := 5) hF dX10_refuseBad_5 ?_
  refine go_iadd (pc := 6) hF dX10_refuseBad_6 ?_
  refine go_put (pc := 7) hF [vr E 1, vr E 2, vr E 3, vr E 13, vi tl, vr E 14, vr E 23, vr E 30, vr E 56, vr E 92, vr E 93, vi (xb + 1), vi xn, vi xf] fl_X10_72 dX10_refuseBad_7 (by omega) z0 rfl rfl rfl (Nat.le_of_ble_eq_true rfl) (fun s1₉ u_s1 f_s1 => ?_)
  refine go_bipush (pc := 10) hF dX10_refuseBad_10 (by decide) ?_
  exact go_iretQ hF hr hlk hQ dX10_refuseBad_12 ⟨rfl, u_s1, (fun jj hjj => by rw [f_s1 jj (by omega)])⟩
set_option maxHeartbeats 4000000 in
set_option maxRecDepth 100000 in
theorem c_X10_ways_bad (E : En) (N : Nat) (σ : Nat → va_E) (r₉ u₉ kd pr : Int) (yr yw yk yp : Int → Int) (hs : Int) (tx : Int → Int) (tl : Int) (t₉ : Tr) (xb xn xf q1₉ q2₉ q3₉ : Int) (hN₉ : 101 ≤ N) (hO : okS r₉ u₉ kd pr yr yw yk yp hs tx tl t₉ xb xn xf q1₉ q2₉ q3₉) (hS₉ : clS E σ r₉ u₉ kd pr yr yw yk yp hs tx tl t₉ xb xn xf q1₉ q2₉ q3₉) (x₉ : Int) (hx : rg x₉) (hno : ¬ (1 ≤ x₉ ∧ x₉ ≤ 3)) : CI E M_X10_ways 16 [vr E 0, vi x₉] N σ (fun y₉ σ' => y₉ = (-2) ∧ clS E σ' r₉ u₉ kd pr yr yw yk yp hs tx tl t₉ (wr₉ (xb + 1)) xn xf q1₉ q2₉ q3₉ ∧ ∀ q₉, 94 ≤ q₉ → σ' q₉ = σ q₉) := by
  refine CT.of2 (own := RX10) (by decide) rfl (Nat.le_of_ble_eq_true rfl) ?_
  intro p e R s m args below meth c Q hF hr hlk hnm hz hR hQ
  obtain ⟨z0, z1, ⟨a1₉, a2, a3, a4, z2⟩, zh, z13₉, zrd, ⟨sg, vl, mt₉, lw, ll, la, sz₉, lk₉, chs, lps, dp, ln, zp, hT₉⟩, zfo, zex, ⟨b1, b2, z99⟩, ⟨d1₉, d2₉, d3₉, d4₉, d5₉, z100⟩⟩ := hS₉
  obtain ⟨⟨hrw, hu, hkd, hpr⟩, hhs, hyy, htl, htx, hxb, hxn, hxf, hq1, hq2, hq3, hwf, hdp3, hl80, hl24⟩ := hO
  have eg := en_rg hrw.1
  obtain ⟨-, -, hpa0, htl9, htk9, hch9, hlp9, hdp9, hln9, ho⟩ := hT₉
  have hT₉ : prT t₉ sg vl mt₉ lw ll la sz₉ lk₉ chs lps dp ln := ⟨hwf, hdp3, hpa0, htl9, htk9, hch9, hlp9, hdp9, hln9, ho⟩
  refine go_iload_n (pc := 0) hF dX10_ways_0 1 rfl ?_
  refine go_iconst (pc := 1) hF dX10_ways_1 ?_
  refine go_iconst (pc := 2) hF dX10_ways_2 ?_
  refine go_callSP (pc := 3) hF [vi x₉, vi 1, vi 3] [] ms_X10_81 dX10_ways_3 (c_X10_isWithin E N σ x₉ 1 3 (by omega) ⟨by decide, by decide⟩ ⟨by decide, by decide⟩) rfl rfl (Nat.le_of_ble_eq_true rfl) (by decide) ⟨Nat.zero_le _, Nat.zero_le _⟩ ?_
  refine go_if_ne (pc := 6) hF 14 dX10_ways_6 (by decide) (bI_rg _) (fun bq6 => ?_) (fun bq6 => ?_)
  · exact absurd ((bI_0 _).mpr (by omega)) bq6
  · refine go_aload_n (pc := 9) hF dX10_ways_9 0 rfl ?_
    refine go_callVI (pc := 10) hF [] [] mv_X10_85 dX10_ways_10 (by omega) z0 (c_X10_refuseBad E N σ hN₉ z0) rfl rfl (Nat.le_of_ble_eq_true rfl) (by decide) ⟨Nat.zero_le _, Nat.zero_le _⟩ (fun r_s1 s1₉ h_s1 => ?_)
    obtain ⟨e_s1, u0_s1, f_s1⟩ := h_s1
    have c_s1 := (f_s1 1 (by omega)).trans z1
    have d_s1 := (f_s1 2 (by omega)).trans z2
    have h_s1 := zh.keep (fun jj h1 h2 => f_s1 jj (by omega))
    have tx_s1 := (f_s1 13 (by omega)).trans z13₉
    have rd_s1 := zrd.keep (fun jj h1 h2 => f_s1 jj (by omega))
    have fo_s1 := zfo.keep (fun jj h1 h2 => f_s1 jj (by omega))
    have ex_s1 := zex.keep (fun jj h1 h2 => f_s1 jj (by omega))
    have lr_s1 := (f_s1 92 (by omega)).trans z99
    have dr_s1 := (f_s1 93 (by omega)).trans z100
    have pg_s1 := zp.keep (fun jj h1 h2 => f_s1 jj (by omega))
    subst e_s1
    exact go_iretQ hF hr hlk hQ dX10_ways_13 ⟨rfl, ⟨(by rw [vi_wr]; exact u0_s1), c_s1, ⟨_, _, _, _, d_s1⟩, h_s1, tx_s1, rd_s1, ⟨sg, vl, mt₉, lw, ll, la, sz₉, lk₉, chs, lps, dp, ln, pg_s1, hT₉⟩, fo_s1, ex_s1, ⟨_, _, lr_s1⟩, ⟨_, _, _, _, _, dr_s1⟩⟩, (fun jj hjj => by rw [f_s1 jj (by omega)])⟩
set_option maxHeartbeats 4000000 in
set_option maxRecDepth 100000 in
theorem c_X10_kind_bad (E : En) (N : Nat) (σ : Nat → va_E) (r₉ u₉ kd pr : Int) (yr yw yk yp : Int → Int) (hs : Int) (tx : Int → Int) (tl : Int) (t₉ : Tr) (xb xn xf q1₉ q2₉ q3₉ : Int) (hN₉ : 101 ≤ N) (hO : okS r₉ u₉ kd pr yr yw yk yp hs tx tl t₉ xb xn xf q1₉ q2₉ q3₉) (hS₉ : clS E σ r₉ u₉ kd pr yr yw yk yp hs tx tl t₉ xb xn xf q1₉ q2₉ q3₉) (x₉ : Int) (hx : rg x₉) (hno : ¬ (0 ≤ x₉ ∧ x₉ ≤ 3)) : CI E M_X10_kind 16 [vr E 0, vi x₉] N σ (fun y₉ σ' => y₉ = (-2) ∧ clS E σ' r₉ u₉ kd pr yr yw yk yp hs tx tl t₉ (wr₉ (xb + 1)) xn xf q1₉ q2₉ q3₉ ∧ ∀ q₉, 94 ≤ q₉ → σ' q₉ = σ q₉) := by
  refine CT.of2 (own := RX10) (by decide) rfl (Nat.le_of_ble_eq_true rfl) ?_
  intro p e R s m args below meth c Q hF hr hlk hnm hz hR hQ
  obtain ⟨z0, z1, ⟨a1₉, a2, a3, a4, z2⟩, zh, z13₉, zrd, ⟨sg, vl, mt₉, lw, ll, la, sz₉, lk₉, chs, lps, dp, ln, zp, hT₉⟩, zfo, zex, ⟨b1, b2, z99⟩, ⟨d1₉, d2₉, d3₉, d4₉, d5₉, z100⟩⟩ := hS₉
  obtain ⟨⟨hrw, hu, hkd, hpr⟩, hhs, hyy, htl, htx, hxb, hxn, hxf, hq1, hq2, hq3, hwf, hdp3, hl80, hl24⟩ := hO
  have eg := en_rg hrw.1
  obtain ⟨-, -, hpa0, htl9, htk9, hch9, hlp9, hdp9, hln9, ho⟩ := hT₉
  have hT₉ : prT t₉ sg vl mt₉ lw ll la sz₉ lk₉ chs lps dp ln := ⟨hwf, hdp3, hpa0, htl9, htk9, hch9, hlp9, hdp9, hln9, ho⟩
  refine go_iload_n (pc := 0) hF dX10_kind_0 1 rfl ?_
  refine go_iconst (pc := 1) hF dX10_kind_1 ?_
  refine go_iconst (pc := 2) hF dX10_kind_2 ?_
  refine go_callSP (pc := 3) hF [vi x₉, vi 0, vi 3] [] ms_X10_81 dX10_kind_3 (c_X10_isWithin E N σ x₉ 0 3 (by omega) ⟨by decide, by decide⟩ ⟨by decide, by decide⟩) rfl rfl (Nat.le_of_ble_eq_true rfl) (by decide) ⟨Nat.zero_le _, Nat.zero_le _⟩ ?_
  refine go_if_ne (pc := 6) hF 14 dX10_kind_6 (by decide) (bI_rg _) (fun bq6 => ?_) (fun bq6 => ?_)
  · exact absurd ((bI_0 _).mpr (by omega)) bq6
  · refine go_aload_n (pc := 9) hF dX10_kind_9 0 rfl ?_
    refine go_callVI (pc := 10) hF [] [] mv_X10_85 dX10_kind_10 (by omega) z0 (c_X10_refuseBad E N σ hN₉ z0) rfl rfl (Nat.le_of_ble_eq_true rfl) (by decide) ⟨Nat.zero_le _, Nat.zero_le _⟩ (fun r_s1 s1₉ h_s1 => ?_)
    obtain ⟨e_s1, u0_s1, f_s1⟩ := h_s1
    have c_s1 := (f_s1 1 (by omega)).trans z1
    have d_s1 := (f_s1 2 (by omega)).trans z2
    have h_s1 := zh.keep (fun jj h1 h2 => f_s1 jj (by omega))
    have tx_s1 := (f_s1 13 (by omega)).trans z13₉
    have rd_s1 := zrd.keep (fun jj h1 h2 => f_s1 jj (by omega))
    have fo_s1 := zfo.keep (fun jj h1 h2 => f_s1 jj (by omega))
    have ex_s1 := zex.keep (fun jj h1 h2 => f_s1 jj (by omega))
    have lr_s1 := (f_s1 92 (by omega)).trans z99
    have dr_s1 := (f_s1 93 (by omega)).trans z100
    have pg_s1 := zp.keep (fun jj h1 h2 => f_s1 jj (by omega))
    subst e_s1
    exact go_iretQ hF hr hlk hQ dX10_kind_13 ⟨rfl, ⟨(by rw [vi_wr]; exact u0_s1), c_s1, ⟨_, _, _, _, d_s1⟩, h_s1, tx_s1, rd_s1, ⟨sg, vl, mt₉, lw, ll, la, sz₉, lk₉, chs, lps, dp, ln, pg_s1, hT₉⟩, fo_s1, ex_s1, ⟨_, _, lr_s1⟩, ⟨_, _, _, _, _, dr_s1⟩⟩, (fun jj hjj => by rw [f_s1 jj (by omega)])⟩
set_option maxHeartbeats 4000000 in
set_option maxRecDepth 100000 in
theorem c_X10_price_bad (E : En) (N : Nat) (σ : Nat → va_E) (r₉ u₉ kd pr : Int) (yr yw yk yp : Int → Int) (hs : Int) (tx : Int → Int) (tl : Int) (t₉ : Tr) (xb xn xf q1₉ q2₉ q3₉ : Int) (hN₉ : 101 ≤ N) (hO : okS r₉ u₉ kd pr yr yw yk yp hs tx tl t₉ xb xn xf q1₉ q2₉ q3₉) (hS₉ : clS E σ r₉ u₉ kd pr yr yw yk yp hs tx tl t₉ xb xn xf q1₉ q2₉ q3₉) (x₉ : Int) (hx : rg x₉) (hno : ¬ (2 ≤ x₉ ∧ x₉ ≤ 99)) : CI E M_X10_price 16 [vr E 0, vi x₉] N σ (fun y₉ σ' => y₉ = (-2) ∧ clS E σ' r₉ u₉ kd pr yr yw yk yp hs tx tl t₉ (wr₉ (xb + 1)) xn xf q1₉ q2₉ q3₉ ∧ ∀ q₉, 94 ≤ q₉ → σ' q₉ = σ q₉) := by
  refine CT.of2 (own := RX10) (by decide) rfl (Nat.le_of_ble_eq_true rfl) ?_
  intro p e R s m args below meth c Q hF hr hlk hnm hz hR hQ
  obtain ⟨z0, z1, ⟨a1₉, a2, a3, a4, z2⟩, zh, z13₉, zrd, ⟨sg, vl, mt₉, lw, ll, la, sz₉, lk₉, chs, lps, dp, ln, zp, hT₉⟩, zfo, zex, ⟨b1, b2, z99⟩, ⟨d1₉, d2₉, d3₉, d4₉, d5₉, z100⟩⟩ := hS₉
  obtain ⟨⟨hrw, hu, hkd, hpr⟩, hhs, hyy, htl, htx, hxb, hxn, hxf, hq1, hq2, hq3, hwf, hdp3, hl80, hl24⟩ := hO
  have eg := en_rg hrw.1
  obtain ⟨-, -, hpa0, htl9, htk9, hch9, hlp9, hdp9, hln9, ho⟩ := hT₉
  have hT₉ : prT t₉ sg vl mt₉ lw ll la sz₉ lk₉ chs lps dp ln := ⟨hwf, hdp3, hpa0, htl9, htk9, hch9, hlp9, hdp9, hln9, ho⟩
  refine go_iload_n (pc := 0) hF dX10_price_0 1 rfl ?_
  refine go_iconst (pc := 1) hF dX10_price_1 ?_
  refine go_bipush (pc := 2) hF dX10_price_2 (by decide) ?_
  refine go_callSP (pc := 4) hF [vi x₉, vi 2, vi 99] [] ms_X10_81 dX10_price_4 (c_X10_isWithin E N σ x₉ 2 99 (by omega) ⟨by decide, by decide⟩ ⟨by decide, by decide⟩) rfl rfl (Nat.le_of_ble_eq_true rfl) (by decide) ⟨Nat.zero_le _, Nat.zero_le _⟩ ?_
  refine go_if_ne (pc := 7) hF 15 dX10_price_7 (by decide) (bI_rg _) (fun bq7 => ?_) (fun bq7 => ?_)
  · exact absurd ((bI_0 _).mpr (by omega)) bq7
  · refine go_aload_n (pc := 10) hF dX10_price_10 0 rfl ?_
    refine go_callVI (pc := 11) hF [] [] mv_X10_85 dX10_price_11 (by omega) z0 (c_X10_refuseBad E N σ hN₉ z0) rfl rfl (Nat.le_of_ble_eq_true rfl) (by decide) ⟨Nat.zero_le _, Nat.zero_le _⟩ (fun r_s1 s1₉ h_s1 => ?_)
    obtain ⟨e_s1, u0_s1, f_s1⟩ := h_s1
    have c_s1 := (f_s1 1 (by omega)).trans z1
    have d_s1 := (f_s1 2 (by omega)).trans z2
    have h_s1 := zh.keep (fun jj h1 h2 => f_s1 jj (by omega))
    have tx_s1 := (f_s1 13 (by omega)).trans z13₉
    have rd_s1 := zrd.keep (fun jj h1 h2 => f_s1 jj (by omega))
    have fo_s1 := zfo.keep (fun jj h1 h2 => f_s1 jj (by omega))
    have ex_s1 := zex.keep (fun jj h1 h2 => f_s1 jj (by omega))
    have lr_s1 := (f_s1 92 (by omega)).trans z99
    have dr_s1 := (f_s1 93 (by omega)).trans z100
    have pg_s1 := zp.keep (fun jj h1 h2 => f_s1 jj (by omega))
    subst e_s1
    exact go_iretQ hF hr hlk hQ dX10_price_14 ⟨rfl, ⟨(by rw [vi_wr]; exact u0_s1), c_s1, ⟨_, _, _, _, d_s1⟩, h_s1, tx_s1, rd_s1, ⟨sg, vl, mt₉, lw, ll, la, sz₉, lk₉, chs, lps, dp, ln, pg_s1, hT₉⟩, fo_s1, ex_s1, ⟨_, _, lr_s1⟩, ⟨_, _, _, _, _, dr_s1⟩⟩, (fun jj hjj => by rw [f_s1 jj (by omega)])⟩
set_option maxHeartbeats 4000000 in
set_option maxRecDepth 100000 in
theorem c_X10_look_bad (E : En) (N : Nat) (σ : Nat → va_E) (r₉ u₉ kd pr : Int) (yr yw yk yp : Int → Int) (hs : Int) (tx : Int → Int) (tl : Int) (t₉ : Tr) (xb xn xf q1₉ q2₉ q3₉ : Int) (hN₉ : 101 ≤ N) (hO : okS r₉ u₉ kd pr yr yw yk yp hs tx tl t₉ xb xn xf q1₉ q2₉ q3₉) (hS₉ : clS E σ r₉ u₉ kd pr yr yw yk yp hs tx tl t₉ xb xn xf q1₉ q2₉ q3₉) (x₉ : Int) (hx : rg x₉) (hno : ¬ (0 ≤ x₉ ∧ x₉ ≤ 5)) : CI E M_X10_look 16 [vr E 0, vi x₉] N σ (fun y₉ σ' => y₉ = (-2) ∧ clS E σ' r₉ u₉ kd pr yr yw yk yp hs tx tl t₉ (wr₉ (xb + 1)) xn xf q1₉ q2₉ q3₉ ∧ ∀ q₉, 94 ≤ q₉ → σ' q₉ = σ q₉) := by
  refine CT.of2 (own := RX10) (by decide) rfl (Nat.le_of_ble_eq_true rfl) ?_
  intro p e R s m args below meth c Q hF hr hlk hnm hz hR hQ
  obtain ⟨z0, z1, ⟨a1₉, a2, a3, a4, z2⟩, zh, z13₉, zrd, ⟨sg, vl, mt₉, lw, ll, la, sz₉, lk₉, chs, lps, dp, ln, zp, hT₉⟩, zfo, zex, ⟨b1, b2, z99⟩, ⟨d1₉, d2₉, d3₉, d4₉, d5₉, z100⟩⟩ := hS₉
  obtain ⟨⟨hrw, hu, hkd, hpr⟩, hhs, hyy, htl, htx, hxb, hxn, hxf, hq1, hq2, hq3, hwf, hdp3, hl80, hl24⟩ := hO
  have eg := en_rg hrw.1
  obtain ⟨-, -, hpa0, htl9, htk9, hch9, hlp9, hdp9, hln9, ho⟩ := hT₉
  have hT₉ : prT t₉ sg vl mt₉ lw ll la sz₉ lk₉ chs lps dp ln := ⟨hwf, hdp3, hpa0, htl9, htk9, hch9, hlp9, hdp9, hln9, ho⟩
  refine go_iload_n (pc := 0) hF dX10_look_0 1 rfl ?_
  refine go_callSP (pc := 1) hF [vi x₉] [] ms_X10_115 dX10_look_1 (c_X10_isLine E N σ x₉ (by omega)) rfl rfl (Nat.le_of_ble_eq_true rfl) (by decide) ⟨Nat.zero_le _, Nat.zero_le _⟩ ?_
  refine go_if_ne (pc := 4) hF 12 dX10_look_4 (by decide) (bI_rg _) (fun bq4 => ?_) (fun bq4 => ?_)
  · exact absurd ((bI_0 _).mpr (by omega)) bq4
  · refine go_aload_n (pc := 7) hF dX10_look_7 0 rfl ?_
    refine go_callVI (pc := 8) hF [] [] mv_X10_85 dX10_look_8 (by omega) z0 (c_X10_refuseBad E N σ hN₉ z0) rfl rfl (Nat.le_of_ble_eq_true rfl) (by decide) ⟨Nat.zero_le _, Nat.zero_le _⟩ (fun r_s1 s1₉ h_s1 => ?_)
    obtain ⟨e_s1, u0_s1, f_s1⟩ := h_s1
    have c_s1 := (f_s1 1 (by omega)).trans z1
    have d_s1 := (f_s1 2 (by omega)).trans z2
    have h_s1 := zh.keep (fun jj h1 h2 => f_s1 jj (by omega))
    have tx_s1 := (f_s1 13 (by omega)).trans z13₉
    have rd_s1 := zrd.keep (fun jj h1 h2 => f_s1 jj (by omega))
    have fo_s1 := zfo.keep (fun jj h1 h2 => f_s1 jj (by omega))
    have ex_s1 := zex.keep (fun jj h1 h2 => f_s1 jj (by omega))
    have lr_s1 := (f_s1 92 (by omega)).trans z99
    have dr_s1 := (f_s1 93 (by omega)).trans z100
    have pg_s1 := zp.keep (fun jj h1 h2 => f_s1 jj (by omega))
    subst e_s1
    exact go_iretQ hF hr hlk hQ dX10_look_11 ⟨rfl, ⟨(by rw [vi_wr]; exact u0_s1), c_s1, ⟨_, _, _, _, d_s1⟩, h_s1, tx_s1, rd_s1, ⟨sg, vl, mt₉, lw, ll, la, sz₉, lk₉, chs, lps, dp, ln, pg_s1, hT₉⟩, fo_s1, ex_s1, ⟨_, _, lr_s1⟩, ⟨_, _, _, _, _, dr_s1⟩⟩, (fun jj hjj => by rw [f_s1 jj (by omega)])⟩
set_option maxHeartbeats 4000000 in
set_option maxRecDepth 100000 in
theorem c_X10_type_bad (E : En) (N : Nat) (σ : Nat → va_E) (r₉ u₉ kd pr : Int) (yr yw yk yp : Int → Int) (hs : Int) (tx : Int → Int) (tl : Int) (t₉ : Tr) (xb xn xf q1₉ q2₉ q3₉ : Int) (hN₉ : 101 ≤ N) (hO : okS r₉ u₉ kd pr yr yw yk yp hs tx tl t₉ xb xn xf q1₉ q2₉ q3₉) (hS₉ : clS E σ r₉ u₉ kd pr yr yw yk yp hs tx tl t₉ xb xn xf q1₉ q2₉ q3₉) (x₉ : Int) (hx : rg x₉) (hno : ¬ (0 ≤ x₉ ∧ x₉ ≤ 127)) : CI E M_X10_type 16 [vr E 0, vi x₉] N σ (fun y₉ σ' => y₉ = (-2) ∧ clS E σ' r₉ u₉ kd pr yr yw yk yp hs tx tl t₉ (wr₉ (xb + 1)) xn xf q1₉ q2₉ q3₉ ∧ ∀ q₉, 94 ≤ q₉ → σ' q₉ = σ q₉) := by
  refine CT.of2 (own := RX10) (by decide) rfl (Nat.le_of_ble_eq_true rfl) ?_
  intro p e R s m args below meth c Q hF hr hlk hnm hz hR hQ
  obtain ⟨z0, z1, ⟨a1₉, a2, a3, a4, z2⟩, zh, z13₉, zrd, ⟨sg, vl, mt₉, lw, ll, la, sz₉, lk₉, chs, lps, dp, ln, zp, hT₉⟩, zfo, zex, ⟨b1, b2, z99⟩, ⟨d1₉, d2₉, d3₉, d4₉, d5₉, z100⟩⟩ := hS₉
  obtain ⟨⟨hrw, hu, hkd, hpr⟩, hhs, hyy, htl, htx, hxb, hxn, hxf, hq1, hq2, hq3, hwf, hdp3, hl80, hl24⟩ := hO
  have eg := en_rg hrw.1
  obtain ⟨-, -, hpa0, htl9, htk9, hch9, hlp9, hdp9, hln9, ho⟩ := hT₉
  have hT₉ : prT t₉ sg vl mt₉ lw ll la sz₉ lk₉ chs lps dp ln := ⟨hwf, hdp3, hpa0, htl9, htk9, hch9, hlp9, hdp9, hln9, ho⟩
  refine go_iload_n (pc := 0) hF dX10_type_0 1 rfl ?_
  refine go_iconst (pc := 1) hF dX10_type_1 ?_
  refine go_bipush (pc := 2) hF dX10_type_2 (by decide) ?_
  refine go_callSP (pc := 4) hF [vi x₉, vi 0, vi 127] [] ms_X10_81 dX10_type_4 (c_X10_isWithin E N σ x₉ 0 127 (by omega) ⟨by decide, by decide⟩ ⟨by decide, by decide⟩) rfl rfl (Nat.le_of_ble_eq_true rfl) (by decide) ⟨Nat.zero_le _, Nat.zero_le _⟩ ?_
  refine go_if_ne (pc := 7) hF 15 dX10_type_7 (by decide) (bI_rg _) (fun bq7 => ?_) (fun bq7 => ?_)
  · exact absurd ((bI_0 _).mpr (by omega)) bq7
  · refine go_aload_n (pc := 10) hF dX10_type_10 0 rfl ?_
    refine go_callVI (pc := 11) hF [] [] mv_X10_85 dX10_type_11 (by omega) z0 (c_X10_refuseBad E N σ hN₉ z0) rfl rfl (Nat.le_of_ble_eq_true rfl) (by decide) ⟨Nat.zero_le _, Nat.zero_le _⟩ (fun r_s1 s1₉ h_s1 => ?_)
    obtain ⟨e_s1, u0_s1, f_s1⟩ := h_s1
    have c_s1 := (f_s1 1 (by omega)).trans z1
    have d_s1 := (f_s1 2 (by omega)).trans z2
    have h_s1 := zh.keep (fun jj h1 h2 => f_s1 jj (by omega))
    have tx_s1 := (f_s1 13 (by omega)).trans z13₉
    have rd_s1 := zrd.keep (fun jj h1 h2 => f_s1 jj (by omega))
    have fo_s1 := zfo.keep (fun jj h1 h2 => f_s1 jj (by omega))
    have ex_s1 := zex.keep (fun jj h1 h2 => f_s1 jj (by omega))
    have lr_s1 := (f_s1 92 (by omega)).trans z99
    have dr_s1 := (f_s1 93 (by omega)).trans z100
    have pg_s1 := zp.keep (fun jj h1 h2 => f_s1 jj (by omega))
    subst e_s1
    exact go_iretQ hF hr hlk hQ dX10_type_14 ⟨rfl, ⟨(by rw [vi_wr]; exact u0_s1), c_s1, ⟨_, _, _, _, d_s1⟩, h_s1, tx_s1, rd_s1, ⟨sg, vl, mt₉, lw, ll, la, sz₉, lk₉, chs, lps, dp, ln, pg_s1, hT₉⟩, fo_s1, ex_s1, ⟨_, _, lr_s1⟩, ⟨_, _, _, _, _, dr_s1⟩⟩, (fun jj hjj => by rw [f_s1 jj (by omega)])⟩
set_option maxHeartbeats 4000000 in
set_option maxRecDepth 100000 in
theorem c_X10_told_bad (E : En) (N : Nat) (σ : Nat → va_E) (r₉ u₉ kd pr : Int) (yr yw yk yp : Int → Int) (hs : Int) (tx : Int → Int) (tl : Int) (t₉ : Tr) (xb xn xf q1₉ q2₉ q3₉ : Int) (hN₉ : 101 ≤ N) (hO : okS r₉ u₉ kd pr yr yw yk yp hs tx tl t₉ xb xn xf q1₉ q2₉ q3₉) (hS₉ : clS E σ r₉ u₉ kd pr yr yw yk yp hs tx tl t₉ xb xn xf q1₉ q2₉ q3₉) (x₉ : Int) (hx : rg x₉) (hno : ¬ (0 ≤ x₉ ∧ x₉ ≤ 4)) : CI E M_X10_told 16 [vr E 0, vi x₉] N σ (fun y₉ σ' => y₉ = (-2) ∧ clS E σ' r₉ u₉ kd pr yr yw yk yp hs tx tl t₉ (wr₉ (xb + 1)) xn xf q1₉ q2₉ q3₉ ∧ ∀ q₉, 94 ≤ q₉ → σ' q₉ = σ q₉) := by
  refine CT.of2 (own := RX10) (by decide) rfl (Nat.le_of_ble_eq_true rfl) ?_
  intro p e R s m args below meth c Q hF hr hlk hnm hz hR hQ
  obtain ⟨z0, z1, ⟨a1₉, a2, a3, a4, z2⟩, zh, z13₉, zrd, ⟨sg, vl, mt₉, lw, ll, la, sz₉, lk₉, chs, lps, dp, ln, zp, hT₉⟩, zfo, zex, ⟨b1, b2, z99⟩, ⟨d1₉, d2₉, d3₉, d4₉, d5₉, z100⟩⟩ := hS₉
  obtain ⟨⟨hrw, hu, hkd, hpr⟩, hhs, hyy, htl, htx, hxb, hxn, hxf, hq1, hq2, hq3, hwf, hdp3, hl80, hl24⟩ := hO
  have eg := en_rg hrw.1
  obtain ⟨-, -, hpa0, htl9, htk9, hch9, hlp9, hdp9, hln9, ho⟩ := hT₉
  have hT₉ : prT t₉ sg vl mt₉ lw ll la sz₉ lk₉ chs lps dp ln := ⟨hwf, hdp3, hpa0, htl9, htk9, hch9, hlp9, hdp9, hln9, ho⟩
  refine go_iload_n (pc := 0) hF dX10_told_0 1 rfl ?_
  refine go_iconst (pc := 1) hF dX10_told_1 ?_
  refine go_iconst (pc := 2) hF dX10_told_2 ?_
  refine go_callSP (pc := 3) hF [vi x₉, vi 0, vi 4] [] ms_X10_81 dX10_told_3 (c_X10_isWithin E N σ x₉ 0 4 (by omega) ⟨by decide, by decide⟩ ⟨by decide, by decide⟩) rfl rfl (Nat.le_of_ble_eq_true rfl) (by decide) ⟨Nat.zero_le _, Nat.zero_le _⟩ ?_
  refine go_if_ne (pc := 6) hF 14 dX10_told_6 (by decide) (bI_rg _) (fun bq6 => ?_) (fun bq6 => ?_)
  · exact absurd ((bI_0 _).mpr (by omega)) bq6
  · refine go_aload_n (pc := 9) hF dX10_told_9 0 rfl ?_
    refine go_callVI (pc := 10) hF [] [] mv_X10_85 dX10_told_10 (by omega) z0 (c_X10_refuseBad E N σ hN₉ z0) rfl rfl (Nat.le_of_ble_eq_true rfl) (by decide) ⟨Nat.zero_le _, Nat.zero_le _⟩ (fun r_s1 s1₉ h_s1 => ?_)
    obtain ⟨e_s1, u0_s1, f_s1⟩ := h_s1
    have c_s1 := (f_s1 1 (by omega)).trans z1
    have d_s1 := (f_s1 2 (by omega)).trans z2
    have h_s1 := zh.keep (fun jj h1 h2 => f_s1 jj (by omega))
    have tx_s1 := (f_s1 13 (by omega)).trans z13₉
    have rd_s1 := zrd.keep (fun jj h1 h2 => f_s1 jj (by omega))
    have fo_s1 := zfo.keep (fun jj h1 h2 => f_s1 jj (by omega))
    have ex_s1 := zex.keep (fun jj h1 h2 => f_s1 jj (by omega))
    have lr_s1 := (f_s1 92 (by omega)).trans z99
    have dr_s1 := (f_s1 93 (by omega)).trans z100
    have pg_s1 := zp.keep (fun jj h1 h2 => f_s1 jj (by omega))
    subst e_s1
    exact go_iretQ hF hr hlk hQ dX10_told_13 ⟨rfl, ⟨(by rw [vi_wr]; exact u0_s1), c_s1, ⟨_, _, _, _, d_s1⟩, h_s1, tx_s1, rd_s1, ⟨sg, vl, mt₉, lw, ll, la, sz₉, lk₉, chs, lps, dp, ln, pg_s1, hT₉⟩, fo_s1, ex_s1, ⟨_, _, lr_s1⟩, ⟨_, _, _, _, _, dr_s1⟩⟩, (fun jj hjj => by rw [f_s1 jj (by omega)])⟩
set_option maxHeartbeats 4000000 in
set_option maxRecDepth 100000 in
theorem c_X10_sure_bad (E : En) (N : Nat) (σ : Nat → va_E) (r₉ u₉ kd pr : Int) (yr yw yk yp : Int → Int) (hs : Int) (tx : Int → Int) (tl : Int) (t₉ : Tr) (xb xn xf q1₉ q2₉ q3₉ : Int) (hN₉ : 101 ≤ N) (hO : okS r₉ u₉ kd pr yr yw yk yp hs tx tl t₉ xb xn xf q1₉ q2₉ q3₉) (hS₉ : clS E σ r₉ u₉ kd pr yr yw yk yp hs tx tl t₉ xb xn xf q1₉ q2₉ q3₉) (x₉ : Int) (hx : rg x₉) (hno : ¬ (0 ≤ x₉ ∧ x₉ ≤ 3)) : CI E M_X10_sure 16 [vr E 0, vi x₉] N σ (fun y₉ σ' => y₉ = (-2) ∧ clS E σ' r₉ u₉ kd pr yr yw yk yp hs tx tl t₉ (wr₉ (xb + 1)) xn xf q1₉ q2₉ q3₉ ∧ ∀ q₉, 94 ≤ q₉ → σ' q₉ = σ q₉) := by
  refine CT.of2 (own := RX10) (by decide) rfl (Nat.le_of_ble_eq_true rfl) ?_
  intro p e R s m args below meth c Q hF hr hlk hnm hz hR hQ
  obtain ⟨z0, z1, ⟨a1₉, a2, a3, a4, z2⟩, zh, z13₉, zrd, ⟨sg, vl, mt₉, lw, ll, la, sz₉, lk₉, chs, lps, dp, ln, zp, hT₉⟩, zfo, zex, ⟨b1, b2, z99⟩, ⟨d1₉, d2₉, d3₉, d4₉, d5₉, z100⟩⟩ := hS₉
  obtain ⟨⟨hrw, hu, hkd, hpr⟩, hhs, hyy, htl, htx, hxb, hxn, hxf, hq1, hq2, hq3, hwf, hdp3, hl80, hl24⟩ := hO
  have eg := en_rg hrw.1
  obtain ⟨-, -, hpa0, htl9, htk9, hch9, hlp9, hdp9, hln9, ho⟩ := hT₉
  have hT₉ : prT t₉ sg vl mt₉ lw ll la sz₉ lk₉ chs lps dp ln := ⟨hwf, hdp3, hpa0, htl9, htk9, hch9, hlp9, hdp9, hln9, ho⟩
  refine go_iload_n (pc := 0) hF dX10_sure_0 1 rfl ?_
  refine go_iconst (pc := 1) hF dX10_sure_1 ?_
  refine go_iconst (pc := 2) hF dX10_sure_2 ?_
  refine go_callSP (pc := 3) hF [vi x₉, vi 0, vi 3] [] ms_X10_81 dX10_sure_3 (c_X10_isWithin E N σ x₉ 0 3 (by omega) ⟨by decide, by decide⟩ ⟨by decide, by decide⟩) rfl rfl (Nat.le_of_ble_eq_true rfl) (by decide) ⟨Nat.zero_le _, Nat.zero_le _⟩ ?_
  refine go_if_ne (pc := 6) hF 14 dX10_sure_6 (by decide) (bI_rg _) (fun bq6 => ?_) (fun bq6 => ?_)
  · exact absurd ((bI_0 _).mpr (by omega)) bq6
  · refine go_aload_n (pc := 9) hF dX10_sure_9 0 rfl ?_
    refine go_callVI (pc := 10) hF [] [] mv_X10_85 dX10_sure_10 (by omega) z0 (c_X10_refuseBad E N σ hN₉ z0) rfl rfl (Nat.le_of_ble_eq_true rfl) (by decide) ⟨Nat.zero_le _, Nat.zero_le _⟩ (fun r_s1 s1₉ h_s1 => ?_)
    obtain ⟨e_s1, u0_s1, f_s1⟩ := h_s1
    have c_s1 := (f_s1 1 (by omega)).trans z1
    have d_s1 := (f_s1 2 (by omega)).trans z2
    have h_s1 := zh.keep (fun jj h1 h2 => f_s1 jj (by omega))
    have tx_s1 := (f_s1 13 (by omega)).trans z13₉
    have rd_s1 := zrd.keep (fun jj h1 h2 => f_s1 jj (by omega))
    have fo_s1 := zfo.keep (fun jj h1 h2 => f_s1 jj (by omega))
    have ex_s1 := zex.keep (fun jj h1 h2 => f_s1 jj (by omega))
    have lr_s1 := (f_s1 92 (by omega)).trans z99
    have dr_s1 := (f_s1 93 (by omega)).trans z100
    have pg_s1 := zp.keep (fun jj h1 h2 => f_s1 jj (by omega))
    subst e_s1
    exact go_iretQ hF hr hlk hQ dX10_sure_13 ⟨rfl, ⟨(by rw [vi_wr]; exact u0_s1), c_s1, ⟨_, _, _, _, d_s1⟩, h_s1, tx_s1, rd_s1, ⟨sg, vl, mt₉, lw, ll, la, sz₉, lk₉, chs, lps, dp, ln, pg_s1, hT₉⟩, fo_s1, ex_s1, ⟨_, _, lr_s1⟩, ⟨_, _, _, _, _, dr_s1⟩⟩, (fun jj hjj => by rw [f_s1 jj (by omega)])⟩
set_option maxHeartbeats 4000000 in
set_option maxRecDepth 100000 in
theorem c_X10_runs_bad (E : En) (N : Nat) (σ : Nat → va_E) (r₉ u₉ kd pr : Int) (yr yw yk yp : Int → Int) (hs : Int) (tx : Int → Int) (tl : Int) (t₉ : Tr) (xb xn xf q1₉ q2₉ q3₉ : Int) (hN₉ : 101 ≤ N) (hO : okS r₉ u₉ kd pr yr yw yk yp hs tx tl t₉ xb xn xf q1₉ q2₉ q3₉) (hS₉ : clS E σ r₉ u₉ kd pr yr yw yk yp hs tx tl t₉ xb xn xf q1₉ q2₉ q3₉) (x₉ : Int) (hx : rg x₉) (hno : ¬ (0 ≤ x₉ ∧ x₉ ≤ 1048575)) : CI E M_X10_runs 16 [vr E 0, vi x₉] N σ (fun y₉ σ' => y₉ = (-2) ∧ clS E σ' r₉ u₉ kd pr yr yw yk yp hs tx tl t₉ (wr₉ (xb + 1)) xn xf q1₉ q2₉ q3₉ ∧ ∀ q₉, 94 ≤ q₉ → σ' q₉ = σ q₉) := by
  refine CT.of2 (own := RX10) (by decide) rfl (Nat.le_of_ble_eq_true rfl) ?_
  intro p e R s m args below meth c Q hF hr hlk hnm hz hR hQ
  obtain ⟨z0, z1, ⟨a1₉, a2, a3, a4, z2⟩, zh, z13₉, zrd, ⟨sg, vl, mt₉, lw, ll, la, sz₉, lk₉, chs, lps, dp, ln, zp, hT₉⟩, zfo, zex, ⟨b1, b2, z99⟩, ⟨d1₉, d2₉, d3₉, d4₉, d5₉, z100⟩⟩ := hS₉
  obtain ⟨⟨hrw, hu, hkd, hpr⟩, hhs, hyy, htl, htx, hxb, hxn, hxf, hq1, hq2, hq3, hwf, hdp3, hl80, hl24⟩ := hO
  have eg := en_rg hrw.1
  obtain ⟨-, -, hpa0, htl9, htk9, hch9, hlp9, hdp9, hln9, ho⟩ := hT₉
  have hT₉ : prT t₉ sg vl mt₉ lw ll la sz₉ lk₉ chs lps dp ln := ⟨hwf, hdp3, hpa0, htl9, htk9, hch9, hlp9, hdp9, hln9, ho⟩
  refine go_iload_n (pc := 0) hF dX10_runs_0 1 rfl ?_
  refine go_iconst (pc := 1) hF dX10_runs_1 ?_
  refine go_ldc (pc := 2) hF kc_X10_201 dX10_runs_2 ?_
  refine go_callSP (pc := 4) hF [vi x₉, vi 0, vi 1048575] [] ms_X10_81 dX10_runs_4 (c_X10_isWithin E N σ x₉ 0 1048575 (by omega) ⟨by decide, by decide⟩ ⟨by decide, by decide⟩) rfl rfl (Nat.le_of_ble_eq_true rfl) (by decide) ⟨Nat.zero_le _, Nat.zero_le _⟩ ?_
  refine go_if_ne (pc := 7) hF 15 dX10_runs_7 (by decide) (bI_rg _) (fun bq7 => ?_) (fun bq7 => ?_)
  · exact absurd ((bI_0 _).mpr (by omega)) bq7
  · refine go_aload_n (pc := 10) hF dX10_runs_10 0 rfl ?_
    refine go_callVI (pc := 11) hF [] [] mv_X10_85 dX10_runs_11 (by omega) z0 (c_X10_refuseBad E N σ hN₉ z0) rfl rfl (Nat.le_of_ble_eq_true rfl) (by decide) ⟨Nat.zero_le _, Nat.zero_le _⟩ (fun r_s1 s1₉ h_s1 => ?_)
    obtain ⟨e_s1, u0_s1, f_s1⟩ := h_s1
    have c_s1 := (f_s1 1 (by omega)).trans z1
    have d_s1 := (f_s1 2 (by omega)).trans z2
    have h_s1 := zh.keep (fun jj h1 h2 => f_s1 jj (by omega))
    have tx_s1 := (f_s1 13 (by omega)).trans z13₉
    have rd_s1 := zrd.keep (fun jj h1 h2 => f_s1 jj (by omega))
    have fo_s1 := zfo.keep (fun jj h1 h2 => f_s1 jj (by omega))
    have ex_s1 := zex.keep (fun jj h1 h2 => f_s1 jj (by omega))
    have lr_s1 := (f_s1 92 (by omega)).trans z99
    have dr_s1 := (f_s1 93 (by omega)).trans z100
    have pg_s1 := zp.keep (fun jj h1 h2 => f_s1 jj (by omega))
    subst e_s1
    exact go_iretQ hF hr hlk hQ dX10_runs_14 ⟨rfl, ⟨(by rw [vi_wr]; exact u0_s1), c_s1, ⟨_, _, _, _, d_s1⟩, h_s1, tx_s1, rd_s1, ⟨sg, vl, mt₉, lw, ll, la, sz₉, lk₉, chs, lps, dp, ln, pg_s1, hT₉⟩, fo_s1, ex_s1, ⟨_, _, lr_s1⟩, ⟨_, _, _, _, _, dr_s1⟩⟩, (fun jj hjj => by rw [f_s1 jj (by omega)])⟩
set_option maxHeartbeats 4000000 in
set_option maxRecDepth 100000 in
theorem c_X10_ran_bad (E : En) (N : Nat) (σ : Nat → va_E) (r₉ u₉ kd pr : Int) (yr yw yk yp : Int → Int) (hs : Int) (tx : Int → Int) (tl : Int) (t₉ : Tr) (xb xn xf q1₉ q2₉ q3₉ : Int) (hN₉ : 101 ≤ N) (hO : okS r₉ u₉ kd pr yr yw yk yp hs tx tl t₉ xb xn xf q1₉ q2₉ q3₉) (hS₉ : clS E σ r₉ u₉ kd pr yr yw yk yp hs tx tl t₉ xb xn xf q1₉ q2₉ q3₉) (x₉ : Int) (hx : rg x₉) (hno : ¬ (0 ≤ x₉ ∧ x₉ ≤ 2)) : CI E M_X10_ran 16 [vr E 0, vi x₉] N σ (fun y₉ σ' => y₉ = (-2) ∧ clS E σ' r₉ u₉ kd pr yr yw yk yp hs tx tl t₉ (wr₉ (xb + 1)) xn xf q1₉ q2₉ q3₉ ∧ ∀ q₉, 94 ≤ q₉ → σ' q₉ = σ q₉) := by
  refine CT.of2 (own := RX10) (by decide) rfl (Nat.le_of_ble_eq_true rfl) ?_
  intro p e R s m args below meth c Q hF hr hlk hnm hz hR hQ
  obtain ⟨z0, z1, ⟨a1₉, a2, a3, a4, z2⟩, zh, z13₉, zrd, ⟨sg, vl, mt₉, lw, ll, la, sz₉, lk₉, chs, lps, dp, ln, zp, hT₉⟩, zfo, zex, ⟨b1, b2, z99⟩, ⟨d1₉, d2₉, d3₉, d4₉, d5₉, z100⟩⟩ := hS₉
  obtain ⟨⟨hrw, hu, hkd, hpr⟩, hhs, hyy, htl, htx, hxb, hxn, hxf, hq1, hq2, hq3, hwf, hdp3, hl80, hl24⟩ := hO
  have eg := en_rg hrw.1
  obtain ⟨-, -, hpa0, htl9, htk9, hch9, hlp9, hdp9, hln9, ho⟩ := hT₉
  have hT₉ : prT t₉ sg vl mt₉ lw ll la sz₉ lk₉ chs lps dp ln := ⟨hwf, hdp3, hpa0, htl9, htk9, hch9, hlp9, hdp9, hln9, ho⟩
  refine go_iload_n (pc := 0) hF dX10_ran_0 1 rfl ?_
  refine go_iconst (pc := 1) hF dX10_ran_1 ?_
  refine go_iconst (pc := 2) hF dX10_ran_2 ?_
  refine go_callSP (pc := 3) hF [vi x₉, vi 0, vi 2] [] ms_X10_81 dX10_ran_3 (c_X10_isWithin E N σ x₉ 0 2 (by omega) ⟨by decide, by decide⟩ ⟨by decide, by decide⟩) rfl rfl (Nat.le_of_ble_eq_true rfl) (by decide) ⟨Nat.zero_le _, Nat.zero_le _⟩ ?_
  refine go_if_ne (pc := 6) hF 14 dX10_ran_6 (by decide) (bI_rg _) (fun bq6 => ?_) (fun bq6 => ?_)
  · exact absurd ((bI_0 _).mpr (by omega)) bq6
  · refine go_aload_n (pc := 9) hF dX10_ran_9 0 rfl ?_
    refine go_callVI (pc := 10) hF [] [] mv_X10_85 dX10_ran_10 (by omega) z0 (c_X10_refuseBad E N σ hN₉ z0) rfl rfl (Nat.le_of_ble_eq_true rfl) (by decide) ⟨Nat.zero_le _, Nat.zero_le _⟩ (fun r_s1 s1₉ h_s1 => ?_)
    obtain ⟨e_s1, u0_s1, f_s1⟩ := h_s1
    have c_s1 := (f_s1 1 (by omega)).trans z1
    have d_s1 := (f_s1 2 (by omega)).trans z2
    have h_s1 := zh.keep (fun jj h1 h2 => f_s1 jj (by omega))
    have tx_s1 := (f_s1 13 (by omega)).trans z13₉
    have rd_s1 := zrd.keep (fun jj h1 h2 => f_s1 jj (by omega))
    have fo_s1 := zfo.keep (fun jj h1 h2 => f_s1 jj (by omega))
    have ex_s1 := zex.keep (fun jj h1 h2 => f_s1 jj (by omega))
    have lr_s1 := (f_s1 92 (by omega)).trans z99
    have dr_s1 := (f_s1 93 (by omega)).trans z100
    have pg_s1 := zp.keep (fun jj h1 h2 => f_s1 jj (by omega))
    subst e_s1
    exact go_iretQ hF hr hlk hQ dX10_ran_13 ⟨rfl, ⟨(by rw [vi_wr]; exact u0_s1), c_s1, ⟨_, _, _, _, d_s1⟩, h_s1, tx_s1, rd_s1, ⟨sg, vl, mt₉, lw, ll, la, sz₉, lk₉, chs, lps, dp, ln, pg_s1, hT₉⟩, fo_s1, ex_s1, ⟨_, _, lr_s1⟩, ⟨_, _, _, _, _, dr_s1⟩⟩, (fun jj hjj => by rw [f_s1 jj (by omega)])⟩
set_option maxHeartbeats 4000000 in
set_option maxRecDepth 100000 in
theorem c_X10_count_bad (E : En) (N : Nat) (σ : Nat → va_E) (r₉ u₉ kd pr : Int) (yr yw yk yp : Int → Int) (hs : Int) (tx : Int → Int) (tl : Int) (t₉ : Tr) (xb xn xf q1₉ q2₉ q3₉ : Int) (hN₉ : 101 ≤ N) (hO : okS r₉ u₉ kd pr yr yw yk yp hs tx tl t₉ xb xn xf q1₉ q2₉ q3₉) (hS₉ : clS E σ r₉ u₉ kd pr yr yw yk yp hs tx tl t₉ xb xn xf q1₉ q2₉ q3₉) (x₉ : Int) (hx : rg x₉) (hno : ¬ (0 ≤ x₉ ∧ x₉ ≤ 8)) : CI E M_X10_count 16 [vr E 0, vi x₉] N σ (fun y₉ σ' => y₉ = (-2) ∧ clS E σ' r₉ u₉ kd pr yr yw yk yp hs tx tl t₉ (wr₉ (xb + 1)) xn xf q1₉ q2₉ q3₉ ∧ ∀ q₉, 94 ≤ q₉ → σ' q₉ = σ q₉) := by
  refine CT.of2 (own := RX10) (by decide) rfl (Nat.le_of_ble_eq_true rfl) ?_
  intro p e R s m args below meth c Q hF hr hlk hnm hz hR hQ
  obtain ⟨z0, z1, ⟨a1₉, a2, a3, a4, z2⟩, zh, z13₉, zrd, ⟨sg, vl, mt₉, lw, ll, la, sz₉, lk₉, chs, lps, dp, ln, zp, hT₉⟩, zfo, zex, ⟨b1, b2, z99⟩, ⟨d1₉, d2₉, d3₉, d4₉, d5₉, z100⟩⟩ := hS₉
  obtain ⟨⟨hrw, hu, hkd, hpr⟩, hhs, hyy, htl, htx, hxb, hxn, hxf, hq1, hq2, hq3, hwf, hdp3, hl80, hl24⟩ := hO
  have eg := en_rg hrw.1
  obtain ⟨-, -, hpa0, htl9, htk9, hch9, hlp9, hdp9, hln9, ho⟩ := hT₉
  have hT₉ : prT t₉ sg vl mt₉ lw ll la sz₉ lk₉ chs lps dp ln := ⟨hwf, hdp3, hpa0, htl9, htk9, hch9, hlp9, hdp9, hln9, ho⟩
  refine go_iload_n (pc := 0) hF dX10_count_0 1 rfl ?_
  refine go_iconst (pc := 1) hF dX10_count_1 ?_
  refine go_bipush (pc := 2) hF dX10_count_2 (by decide) ?_
  refine go_callSP (pc := 4) hF [vi x₉, vi 0, vi 8] [] ms_X10_81 dX10_count_4 (c_X10_isWithin E N σ x₉ 0 8 (by omega) ⟨by decide, by decide⟩ ⟨by decide, by decide⟩) rfl rfl (Nat.le_of_ble_eq_true rfl) (by decide) ⟨Nat.zero_le _, Nat.zero_le _⟩ ?_
  refine go_if_ne (pc := 7) hF 15 dX10_count_7 (by decide) (bI_rg _) (fun bq7 => ?_) (fun bq7 => ?_)
  · exact absurd ((bI_0 _).mpr (by omega)) bq7
  · refine go_aload_n (pc := 10) hF dX10_count_10 0 rfl ?_
    refine go_callVI (pc := 11) hF [] [] mv_X10_85 dX10_count_11 (by omega) z0 (c_X10_refuseBad E N σ hN₉ z0) rfl rfl (Nat.le_of_ble_eq_true rfl) (by decide) ⟨Nat.zero_le _, Nat.zero_le _⟩ (fun r_s1 s1₉ h_s1 => ?_)
    obtain ⟨e_s1, u0_s1, f_s1⟩ := h_s1
    have c_s1 := (f_s1 1 (by omega)).trans z1
    have d_s1 := (f_s1 2 (by omega)).trans z2
    have h_s1 := zh.keep (fun jj h1 h2 => f_s1 jj (by omega))
    have tx_s1 := (f_s1 13 (by omega)).trans z13₉
    have rd_s1 := zrd.keep (fun jj h1 h2 => f_s1 jj (by omega))
    have fo_s1 := zfo.keep (fun jj h1 h2 => f_s1 jj (by omega))
    have ex_s1 := zex.keep (fun jj h1 h2 => f_s1 jj (by omega))
    have lr_s1 := (f_s1 92 (by omega)).trans z99
    have dr_s1 := (f_s1 93 (by omega)).trans z100
    have pg_s1 := zp.keep (fun jj h1 h2 => f_s1 jj (by omega))
    subst e_s1
    exact go_iretQ hF hr hlk hQ dX10_count_14 ⟨rfl, ⟨(by rw [vi_wr]; exact u0_s1), c_s1, ⟨_, _, _, _, d_s1⟩, h_s1, tx_s1, rd_s1, ⟨sg, vl, mt₉, lw, ll, la, sz₉, lk₉, chs, lps, dp, ln, pg_s1, hT₉⟩, fo_s1, ex_s1, ⟨_, _, lr_s1⟩, ⟨_, _, _, _, _, dr_s1⟩⟩, (fun jj hjj => by rw [f_s1 jj (by omega)])⟩
set_option maxHeartbeats 4000000 in
set_option maxRecDepth 100000 in
theorem c_X10_ways_ok (E : En) (N : Nat) (σ : Nat → va_E) (r₉ u₉ kd pr : Int) (yr yw yk yp : Int → Int) (hs : Int) (tx : Int → Int) (tl : Int) (t₉ : Tr) (xb xn xf q1₉ q2₉ q3₉ : Int) (hN₉ : 101 ≤ N) (hO : okS r₉ u₉ kd pr yr yw yk yp hs tx tl t₉ xb xn xf q1₉ q2₉ q3₉) (hS₉ : clS E σ r₉ u₉ kd pr yr yw yk yp hs tx tl t₉ xb xn xf q1₉ q2₉ q3₉) (x₉ : Int) (hx : 1 ≤ x₉ ∧ x₉ ≤ 3) : CI E M_X10_ways 16 [vr E 0, vi x₉] N σ (fun y₉ σ' => y₉ = u₉ ∧ clS E σ' (mCut r₉ x₉) x₉ kd pr (psh yr r₉) (psh yw u₉) (psh yk kd) (psh yp pr) (min (hs + 1) 8) tx tl t₉ xb xn xf q1₉ q2₉ q3₉ ∧ ∀ q₉, 94 ≤ q₉ → σ' q₉ = σ q₉) := by
  refine CT.of2 (own := RX10) (by decide) rfl (Nat.le_of_ble_eq_true rfl) ?_
  intro p e R s m args below meth c Q hF hr hlk hnm hz hR hQ
  obtain ⟨z0, z1, ⟨a1₉, a2, a3, a4, z2⟩, zh, z13₉, zrd, ⟨sg, vl, mt₉, lw, ll, la, sz₉, lk₉, chs, lps, dp, ln, zp, hT₉⟩, zfo, zex, ⟨b1, b2, z99⟩, ⟨d1₉, d2₉, d3₉, d4₉, d5₉, z100⟩⟩ := hS₉
  obtain ⟨⟨hrw, hu, hkd, hpr⟩, hhs, hyy, htl, htx, hxb, hxn, hxf, hq1, hq2, hq3, hwf, hdp3, hl80, hl24⟩ := hO
  have eg := en_rg hrw.1
  obtain ⟨-, -, hpa0, htl9, htk9, hch9, hlp9, hdp9, hln9, ho⟩ := hT₉
  have hT₉ : prT t₉ sg vl mt₉ lw ll la sz₉ lk₉ chs lps dp ln := ⟨hwf, hdp3, hpa0, htl9, htk9, hch9, hlp9, hdp9, hln9, ho⟩
  refine go_iload_n (pc := 0) hF dX10_ways_0 1 rfl ?_
  refine go_iconst (pc := 1) hF dX10_ways_1 ?_
  refine go_iconst (pc := 2) hF dX10_ways_2 ?_
  refine go_callSP (pc := 3) hF [vi x₉, vi 1, vi 3] [] ms_X10_81 dX10_ways_3 (c_X10_isWithin E N σ x₉ 1 3 (by omega) ⟨by decide, by decide⟩ ⟨by decide, by decide⟩) rfl rfl (Nat.le_of_ble_eq_true rfl) (by decide) ⟨Nat.zero_le _, Nat.zero_le _⟩ ?_
  refine go_if_ne (pc := 6) hF 14 dX10_ways_6 (by decide) (bI_rg _) (fun bq6 => ?_) (fun bq6 => ?_)
  · refine go_aload_n (pc := 14) hF dX10_ways_14 0 rfl ?_
    refine go_get (pc := 15) hF fl_X10_22 dX10_ways_15 (by omega) z0 rfl ?_
    refine go_aload_n (pc := 18) hF dX10_ways_18 0 rfl ?_
    refine go_get (pc := 19) hF fl_X10_10 dX10_ways_19 (by omega) z0 rfl ?_
    refine go_callVV (pc := 22) hF [vr E 1] [] mv_X10_89 dX10_ways_22 (by omega) zh.cell.choose_spec (zh.remember hN₉ hhs z1) rfl rfl (Nat.le_of_ble_eq_true rfl) (by decide) ⟨Nat.zero_le _, Nat.zero_le _⟩ (fun s1₉ h_s1 => ?_)
    obtain ⟨uh_s1, f_s1⟩ := h_s1
    have x_s1 := (f_s1 0 (by omega)).trans z0
    have c_s1 := (f_s1 1 (by omega)).trans z1
    have d_s1 := (f_s1 2 (by omega)).trans z2
    have tx_s1 := (f_s1 13 (by omega)).trans z13₉
    have rd_s1 := zrd.keep (fun jj h1 h2 => f_s1 jj (by omega))
    have fo_s1 := zfo.keep (fun jj h1 h2 => f_s1 jj (by omega))
    have ex_s1 := zex.keep (fun jj h1 h2 => f_s1 jj (by omega))
    have lr_s1 := (f_s1 92 (by omega)).trans z99
    have dr_s1 := (f_s1 93 (by omega)).trans z100
    have pg_s1 := zp.keep (fun jj h1 h2 => f_s1 jj (by omega))
    refine go_aload_n (pc := 25) hF dX10_ways_25 0 rfl ?_
    refine go_get (pc := 26) hF fl_X10_10 dX10_ways_26 (by omega) x_s1 rfl ?_
    refine go_get (pc := 29) hF fl_X10_93 dX10_ways_29 (by omega) c_s1 rfl ?_
    refine go_istore_n (pc := 32) hF [(2, vi u₉), (0, vr E 0), (1, vi x₉)] dX10_ways_32 rfl (by decide) ?_
    refine go_aload_n (pc := 33) hF dX10_ways_33 1 rfl ?_
    refine go_get (pc := 34) hF fl_X10_10 dX10_ways_34 (by omega) x_s1 rfl ?_
    refine go_iload_n (pc := 37) hF dX10_ways_37 2 rfl ?_
    refine go_put (pc := 38) hF [vi (en r₉), vi x₉, vi kd, vi pr] fl_X10_93 dX10_ways_38 (by omega) c_s1 rfl rfl rfl (Nat.le_of_ble_eq_true rfl) (fun s2₉ u_s2 f_s2 => ?_)
    have x_s2 := (f_s2 0 (by omega)).trans x_s1
    have d_s2 := (f_s2 2 (by omega)).trans d_s1
    have h_s2 := uh_s1.keep (fun jj h1 h2 => f_s2 jj (by omega))
    have tx_s2 := (f_s2 13 (by omega)).trans tx_s1
    have rd_s2 := rd_s1.keep (fun jj h1 h2 => f_s2 jj (by omega))
    have fo_s2 := fo_s1.keep (fun jj h1 h2 => f_s2 jj (by omega))
    have ex_s2 := ex_s1.keep (fun jj h1 h2 => f_s2 jj (by omega))
    have lr_s2 := (f_s2 92 (by omega)).trans lr_s1
    have dr_s2 := (f_s2 93 (by omega)).trans dr_s1
    have pg_s2 := pg_s1.keep (fun jj h1 h2 => f_s2 jj (by omega))
    refine go_aload_n (pc := 41) hF dX10_ways_41 1 rfl ?_
    refine go_get (pc := 42) hF fl_X10_10 dX10_ways_42 (by omega) x_s2 rfl ?_
    refine go_aload_n (pc := 45) hF dX10_ways_45 1 rfl ?_
    refine go_get (pc := 46) hF fl_X10_10 dX10_ways_46 (by omega) x_s2 rfl ?_
    refine go_get (pc := 49) hF fl_X10_96 dX10_ways_49 (by omega) u_s2 rfl ?_
    refine go_iload_n (pc := 52) hF dX10_ways_52 2 rfl ?_
    refine go_callSP (pc := 53) hF [vi (en r₉), vi x₉] [vr E 1] ms_X10_99 dX10_ways_53 (c_X8_cutTo E N s2₉ (en r₉) x₉ (by omega) (by omega)) rfl rfl (Nat.le_of_ble_eq_true rfl) (by decide) ⟨Nat.zero_le _, Nat.zero_le _⟩ ?_
    refine go_put (pc := 56) hF [vi ((en r₉) % p8 x₉), vi x₉, vi kd, vi pr] fl_X10_96 dX10_ways_56 (by omega) u_s2 rfl rfl rfl (Nat.le_of_ble_eq_true rfl) (fun s3₉ u_s3 f_s3 => ?_)
    have x_s3 := (f_s3 0 (by omega)).trans x_s2
    have d_s3 := (f_s3 2 (by omega)).trans d_s2
    have h_s3 := h_s2.keep (fun jj h1 h2 => f_s3 jj (by omega))
    have tx_s3 := (f_s3 13 (by omega)).trans tx_s2
    have rd_s3 := rd_s2.keep (fun jj h1 h2 => f_s3 jj (by omega))
    have fo_s3 := fo_s2.keep (fun jj h1 h2 => f_s3 jj (by omega))
    have ex_s3 := ex_s2.keep (fun jj h1 h2 => f_s3 jj (by omega))
    have lr_s3 := (f_s3 92 (by omega)).trans lr_s2
    have dr_s3 := (f_s3 93 (by omega)).trans dr_s2
    have pg_s3 := pg_s2.keep (fun jj h1 h2 => f_s3 jj (by omega))
    refine go_iload_n (pc := 59) hF dX10_ways_59 0 rfl ?_
    exact go_iretQ hF hr hlk hQ dX10_ways_60 ⟨rfl, ⟨x_s3, (by rw [← (en_ok (vrow_up hrw (by omega)) (w₉ := x₉) hx).2.1]; exact u_s3), ⟨_, _, _, _, d_s3⟩, h_s3, tx_s3, rd_s3, ⟨sg, vl, mt₉, lw, ll, la, sz₉, lk₉, chs, lps, dp, ln, pg_s3, hT₉⟩, fo_s3, ex_s3, ⟨_, _, lr_s3⟩, ⟨_, _, _, _, _, dr_s3⟩⟩, (fun jj hjj => by rw [f_s3 jj (by omega), f_s2 jj (by omega), f_s1 jj (by omega)])⟩
  · exact absurd ((bI_0 _).mp bq6) (by omega)
set_option maxHeartbeats 4000000 in
set_option maxRecDepth 100000 in
theorem c_X10_kind_ok (E : En) (N : Nat) (σ : Nat → va_E) (r₉ u₉ kd pr : Int) (yr yw yk yp : Int → Int) (hs : Int) (tx : Int → Int) (tl : Int) (t₉ : Tr) (xb xn xf q1₉ q2₉ q3₉ : Int) (hN₉ : 101 ≤ N) (hO : okS r₉ u₉ kd pr yr yw yk yp hs tx tl t₉ xb xn xf q1₉ q2₉ q3₉) (hS₉ : clS E σ r₉ u₉ kd pr yr yw yk yp hs tx tl t₉ xb xn xf q1₉ q2₉ q3₉) (x₉ : Int) (hx : 0 ≤ x₉ ∧ x₉ ≤ 3) : CI E M_X10_kind 16 [vr E 0, vi x₉] N σ (fun y₉ σ' => y₉ = kd ∧ clS E σ' r₉ u₉ x₉ pr (psh yr r₉) (psh yw u₉) (psh yk kd) (psh yp pr) (min (hs + 1) 8) tx tl t₉ xb xn xf q1₉ q2₉ q3₉ ∧ ∀ q₉, 94 ≤ q₉ → σ' q₉ = σ q₉) := by
  refine CT.of2 (own := RX10) (by decide) rfl (Nat.le_of_ble_eq_true rfl) ?_
  intro p e R s m args below meth c Q hF hr hlk hnm hz hR hQ
  obtain ⟨z0, z1, ⟨a1₉, a2, a3, a4, z2⟩, zh, z13₉, zrd, ⟨sg, vl, mt₉, lw, ll, la, sz₉, lk₉, chs, lps, dp, ln, zp, hT₉⟩, zfo, zex, ⟨b1, b2, z99⟩, ⟨d1₉, d2₉, d3₉, d4₉, d5₉, z100⟩⟩ := hS₉
  obtain ⟨⟨hrw, hu, hkd, hpr⟩, hhs, hyy, htl, htx, hxb, hxn, hxf, hq1, hq2, hq3, hwf, hdp3, hl80, hl24⟩ := hO
  have eg := en_rg hrw.1
  obtain ⟨-, -, hpa0, htl9, htk9, hch9, hlp9, hdp9, hln9, ho⟩ := hT₉
  have hT₉ : prT t₉ sg vl mt₉ lw ll la sz₉ lk₉ chs lps dp ln := ⟨hwf, hdp3, hpa0, htl9, htk9, hch9, hlp9, hdp9, hln9, ho⟩
  refine go_iload_n (pc := 0) hF dX10_kind_0 1 rfl ?_
  refine go_iconst (pc := 1) hF dX10_kind_1 ?_
  refine go_iconst (pc := 2) hF dX10_kind_2 ?_
  refine go_callSP (pc := 3) hF [vi x₉, vi 0, vi 3] [] ms_X10_81 dX10_kind_3 (c_X10_isWithin E N σ x₉ 0 3 (by omega) ⟨by decide, by decide⟩ ⟨by decide, by decide⟩) rfl rfl (Nat.le_of_ble_eq_true rfl) (by decide) ⟨Nat.zero_le _, Nat.zero_le _⟩ ?_
  refine go_if_ne (pc := 6) hF 14 dX10_kind_6 (by decide) (bI_rg _) (fun bq6 => ?_) (fun bq6 => ?_)
  · refine go_aload_n (pc := 14) hF dX10_kind_14 0 rfl ?_
    refine go_get (pc := 15) hF fl_X10_22 dX10_kind_15 (by omega) z0 rfl ?_
    refine go_aload_n (pc := 18) hF dX10_kind_18 0 rfl ?_
    refine go_get (pc := 19) hF fl_X10_10 dX10_kind_19 (by omega) z0 rfl ?_
    refine go_callVV (pc := 22) hF [vr E 1] [] mv_X10_89 dX10_kind_22 (by omega) zh.cell.choose_spec (zh.remember hN₉ hhs z1) rfl rfl (Nat.le_of_ble_eq_true rfl) (by decide) ⟨Nat.zero_le _, Nat.zero_le _⟩ (fun s1₉ h_s1 => ?_)
    obtain ⟨uh_s1, f_s1⟩ := h_s1
    have x_s1 := (f_s1 0 (by omega)).trans z0
    have c_s1 := (f_s1 1 (by omega)).trans z1
    have d_s1 := (f_s1 2 (by omega)).trans z2
    have tx_s1 := (f_s1 13 (by omega)).trans z13₉
    have rd_s1 := zrd.keep (fun jj h1 h2 => f_s1 jj (by omega))
    have fo_s1 := zfo.keep (fun jj h1 h2 => f_s1 jj (by omega))
    have ex_s1 := zex.keep (fun jj h1 h2 => f_s1 jj (by omega))
    have lr_s1 := (f_s1 92 (by omega)).trans z99
    have dr_s1 := (f_s1 93 (by omega)).trans z100
    have pg_s1 := zp.keep (fun jj h1 h2 => f_s1 jj (by omega))
    refine go_aload_n (pc := 25) hF dX10_kind_25 0 rfl ?_
    refine go_get (pc := 26) hF fl_X10_10 dX10_kind_26 (by omega) x_s1 rfl ?_
    refine go_get (pc := 29) hF fl_X10_105 dX10_kind_29 (by omega) c_s1 rfl ?_
    refine go_istore_n (pc := 32) hF [(2, vi kd), (0, vr E 0), (1, vi x₉)] dX10_kind_32 rfl (by decide) ?_
    refine go_aload_n (pc := 33) hF dX10_kind_33 1 rfl ?_
    refine go_get (pc := 34) hF fl_X10_10 dX10_kind_34 (by omega) x_s1 rfl ?_
    refine go_iload_n (pc := 37) hF dX10_kind_37 2 rfl ?_
    refine go_put (pc := 38) hF [vi (en r₉), vi u₉, vi x₉, vi pr] fl_X10_105 dX10_kind_38 (by omega) c_s1 rfl rfl rfl (Nat.le_of_ble_eq_true rfl) (fun s2₉ u_s2 f_s2 => ?_)
    have x_s2 := (f_s2 0 (by omega)).trans x_s1
    have d_s2 := (f_s2 2 (by omega)).trans d_s1
    have h_s2 := uh_s1.keep (fun jj h1 h2 => f_s2 jj (by omega))
    have tx_s2 := (f_s2 13 (by omega)).trans tx_s1
    have rd_s2 := rd_s1.keep (fun jj h1 h2 => f_s2 jj (by omega))
    have fo_s2 := fo_s1.keep (fun jj h1 h2 => f_s2 jj (by omega))
    have ex_s2 := ex_s1.keep (fun jj h1 h2 => f_s2 jj (by omega))
    have lr_s2 := (f_s2 92 (by omega)).trans lr_s1
    have dr_s2 := (f_s2 93 (by omega)).trans dr_s1
    have pg_s2 := pg_s1.keep (fun jj h1 h2 => f_s2 jj (by omega))
    refine go_iload_n (pc := 41) hF dX10_kind_41 0 rfl ?_
    exact go_iretQ hF hr hlk hQ dX10_kind_42 ⟨rfl, ⟨x_s2, u_s2, ⟨_, _, _, _, d_s2⟩, h_s2, tx_s2, rd_s2, ⟨sg, vl, mt₉, lw, ll, la, sz₉, lk₉, chs, lps, dp, ln, pg_s2, hT₉⟩, fo_s2, ex_s2, ⟨_, _, lr_s2⟩, ⟨_, _, _, _, _, dr_s2⟩⟩, (fun jj hjj => by rw [f_s2 jj (by omega), f_s1 jj (by omega)])⟩
  · exact absurd ((bI_0 _).mp bq6) (by omega)
set_option maxHeartbeats 4000000 in
set_option maxRecDepth 100000 in
theorem c_X10_price_ok (E : En) (N : Nat) (σ : Nat → va_E) (r₉ u₉ kd pr : Int) (yr yw yk yp : Int → Int) (hs : Int) (tx : Int → Int) (tl : Int) (t₉ : Tr) (xb xn xf q1₉ q2₉ q3₉ : Int) (hN₉ : 101 ≤ N) (hO : okS r₉ u₉ kd pr yr yw yk yp hs tx tl t₉ xb xn xf q1₉ q2₉ q3₉) (hS₉ : clS E σ r₉ u₉ kd pr yr yw yk yp hs tx tl t₉ xb xn xf q1₉ q2₉ q3₉) (x₉ : Int) (hx : 2 ≤ x₉ ∧ x₉ ≤ 99) : CI E M_X10_price 16 [vr E 0, vi x₉] N σ (fun y₉ σ' => y₉ = pr ∧ clS E σ' r₉ u₉ kd x₉ (psh yr r₉) (psh yw u₉) (psh yk kd) (psh yp pr) (min (hs + 1) 8) tx tl t₉ xb xn xf q1₉ q2₉ q3₉ ∧ ∀ q₉, 94 ≤ q₉ → σ' q₉ = σ q₉) := by
  refine CT.of2 (own := RX10) (by decide) rfl (Nat.le_of_ble_eq_true rfl) ?_
  intro p e R s m args below meth c Q hF hr hlk hnm hz hR hQ
  obtain ⟨z0, z1, ⟨a1₉, a2, a3, a4, z2⟩, zh, z13₉, zrd, ⟨sg, vl, mt₉, lw, ll, la, sz₉, lk₉, chs, lps, dp, ln, zp, hT₉⟩, zfo, zex, ⟨b1, b2, z99⟩, ⟨d1₉, d2₉, d3₉, d4₉, d5₉, z100⟩⟩ := hS₉
  obtain ⟨⟨hrw, hu, hkd, hpr⟩, hhs, hyy, htl, htx, hxb, hxn, hxf, hq1, hq2, hq3, hwf, hdp3, hl80, hl24⟩ := hO
  have eg := en_rg hrw.1
  obtain ⟨-, -, hpa0, htl9, htk9, hch9, hlp9, hdp9, hln9, ho⟩ := hT₉
  have hT₉ : prT t₉ sg vl mt₉ lw ll la sz₉ lk₉ chs lps dp ln := ⟨hwf, hdp3, hpa0, htl9, htk9, hch9, hlp9, hdp9, hln9, ho⟩
  refine go_iload_n (pc := 0) hF dX10_price_0 1 rfl ?_
  refine go_iconst (pc := 1) hF dX10_price_1 ?_
  refine go_bipush (pc := 2) hF dX10_price_2 (by decide) ?_
  refine go_callSP (pc := 4) hF [vi x₉, vi 2, vi 99] [] ms_X10_81 dX10_price_4 (c_X10_isWithin E N σ x₉ 2 99 (by omega) ⟨by decide, by decide⟩ ⟨by decide, by decide⟩) rfl rfl (Nat.le_of_ble_eq_true rfl) (by decide) ⟨Nat.zero_le _, Nat.zero_le _⟩ ?_
  refine go_if_ne (pc := 7) hF 15 dX10_price_7 (by decide) (bI_rg _) (fun bq7 => ?_) (fun bq7 => ?_)
  · refine go_aload_n (pc := 15) hF dX10_price_15 0 rfl ?_
    refine go_get (pc := 16) hF fl_X10_22 dX10_price_16 (by omega) z0 rfl ?_
    refine go_aload_n (pc := 19) hF dX10_price_19 0 rfl ?_
    refine go_get (pc := 20) hF fl_X10_10 dX10_price_20 (by omega) z0 rfl ?_
    refine go_callVV (pc := 23) hF [vr E 1] [] mv_X10_89 dX10_price_23 (by omega) zh.cell.choose_spec (zh.remember hN₉ hhs z1) rfl rfl (Nat.le_of_ble_eq_true rfl) (by decide) ⟨Nat.zero_le _, Nat.zero_le _⟩ (fun s1₉ h_s1 => ?_)
    obtain ⟨uh_s1, f_s1⟩ := h_s1
    have x_s1 := (f_s1 0 (by omega)).trans z0
    have c_s1 := (f_s1 1 (by omega)).trans z1
    have d_s1 := (f_s1 2 (by omega)).trans z2
    have tx_s1 := (f_s1 13 (by omega)).trans z13₉
    have rd_s1 := zrd.keep (fun jj h1 h2 => f_s1 jj (by omega))
    have fo_s1 := zfo.keep (fun jj h1 h2 => f_s1 jj (by omega))
    have ex_s1 := zex.keep (fun jj h1 h2 => f_s1 jj (by omega))
    have lr_s1 := (f_s1 92 (by omega)).trans z99
    have dr_s1 := (f_s1 93 (by omega)).trans z100
    have pg_s1 := zp.keep (fun jj h1 h2 => f_s1 jj (by omega))
    refine go_aload_n (pc := 26) hF dX10_price_26 0 rfl ?_
    refine go_get (pc := 27) hF fl_X10_10 dX10_price_27 (by omega) x_s1 rfl ?_
    refine go_get (pc := 30) hF fl_X10_108 dX10_price_30 (by omega) c_s1 rfl ?_
    refine go_istore_n (pc := 33) hF [(2, vi pr), (0, vr E 0), (1, vi x₉)] dX10_price_33 rfl (by decide) ?_
    refine go_aload_n (pc := 34) hF dX10_price_34 1 rfl ?_
    refine go_get (pc := 35) hF fl_X10_10 dX10_price_35 (by omega) x_s1 rfl ?_
    refine go_iload_n (pc := 38) hF dX10_price_38 2 rfl ?_
    refine go_put (pc := 39) hF [vi (en r₉), vi u₉, vi kd, vi x₉] fl_X10_108 dX10_price_39 (by omega) c_s1 rfl rfl rfl (Nat.le_of_ble_eq_true rfl) (fun s2₉ u_s2 f_s2 => ?_)
    have x_s2 := (f_s2 0 (by omega)).trans x_s1
    have d_s2 := (f_s2 2 (by omega)).trans d_s1
    have h_s2 := uh_s1.keep (fun jj h1 h2 => f_s2 jj (by omega))
    have tx_s2 := (f_s2 13 (by omega)).trans tx_s1
    have rd_s2 := rd_s1.keep (fun jj h1 h2 => f_s2 jj (by omega))
    have fo_s2 := fo_s1.keep (fun jj h1 h2 => f_s2 jj (by omega))
    have ex_s2 := ex_s1.keep (fun jj h1 h2 => f_s2 jj (by omega))
    have lr_s2 := (f_s2 92 (by omega)).trans lr_s1
    have dr_s2 := (f_s2 93 (by omega)).trans dr_s1
    have pg_s2 := pg_s1.keep (fun jj h1 h2 => f_s2 jj (by omega))
    refine go_iload_n (pc := 42) hF dX10_price_42 0 rfl ?_
    exact go_iretQ hF hr hlk hQ dX10_price_43 ⟨rfl, ⟨x_s2, u_s2, ⟨_, _, _, _, d_s2⟩, h_s2, tx_s2, rd_s2, ⟨sg, vl, mt₉, lw, ll, la, sz₉, lk₉, chs, lps, dp, ln, pg_s2, hT₉⟩, fo_s2, ex_s2, ⟨_, _, lr_s2⟩, ⟨_, _, _, _, _, dr_s2⟩⟩, (fun jj hjj => by rw [f_s2 jj (by omega), f_s1 jj (by omega)])⟩
  · exact absurd ((bI_0 _).mp bq7) (by omega)
set_option maxHeartbeats 4000000 in
set_option maxRecDepth 100000 in
theorem c_X10_empties (E : En) (N : Nat) (σ : Nat → va_E) (r₉ u₉ kd pr : Int) (yr yw yk yp : Int → Int) (hs : Int) (tx : Int → Int) (tl : Int) (t₉ : Tr) (xb xn xf q1₉ q2₉ q3₉ : Int) (hN₉ : 101 ≤ N) (hO : okS r₉ u₉ kd pr yr yw yk yp hs tx tl t₉ xb xn xf q1₉ q2₉ q3₉) (hS₉ : clS E σ r₉ u₉ kd pr yr yw yk yp hs tx tl t₉ xb xn xf q1₉ q2₉ q3₉) : CI E M_X10_empties 16 [vr E 0] N σ (fun y₉ σ' => y₉ = mLong r₉ ∧ clS E σ' 0 u₉ kd pr (psh yr r₉) (psh yw u₉) (psh yk kd) (psh yp pr) (min (hs + 1) 8) tx tl t₉ xb xn xf q1₉ q2₉ q3₉ ∧ ∀ q₉, 94 ≤ q₉ → σ' q₉ = σ q₉) := by
  refine CT.of2 (own := RX10) (by decide) rfl (Nat.le_of_ble_eq_true rfl) ?_
  intro p e R s m args below meth c Q hF hr hlk hnm hz hR hQ
  obtain ⟨z0, z1, ⟨a1₉, a2, a3, a4, z2⟩, zh, z13₉, zrd, ⟨sg, vl, mt₉, lw, ll, la, sz₉, lk₉, chs, lps, dp, ln, zp, hT₉⟩, zfo, zex, ⟨b1, b2, z99⟩, ⟨d1₉, d2₉, d3₉, d4₉, d5₉, z100⟩⟩ := hS₉
  obtain ⟨⟨hrw, hu, hkd, hpr⟩, hhs, hyy, htl, htx, hxb, hxn, hxf, hq1, hq2, hq3, hwf, hdp3, hl80, hl24⟩ := hO
  have eg := en_rg hrw.1
  obtain ⟨-, -, hpa0, htl9, htk9, hch9, hlp9, hdp9, hln9, ho⟩ := hT₉
  have hT₉ : prT t₉ sg vl mt₉ lw ll la sz₉ lk₉ chs lps dp ln := ⟨hwf, hdp3, hpa0, htl9, htk9, hch9, hlp9, hdp9, hln9, ho⟩
  refine go_aload_n (pc := 0) hF dX10_empties_0 0 rfl ?_
  refine go_get (pc := 1) hF fl_X10_22 dX10_empties_1 (by omega) z0 rfl ?_
  refine go_aload_n (pc := 4) hF dX10_empties_4 0 rfl ?_
  refine go_get (pc := 5) hF fl_X10_10 dX10_empties_5 (by omega) z0 rfl ?_
  refine go_callVV (pc := 8) hF [vr E 1] [] mv_X10_89 dX10_empties_8 (by omega) zh.cell.choose_spec (zh.remember hN₉ hhs z1) rfl rfl (Nat.le_of_ble_eq_true rfl) (by decide) ⟨Nat.zero_le _, Nat.zero_le _⟩ (fun s1₉ h_s1 => ?_)
  obtain ⟨uh_s1, f_s1⟩ := h_s1
  have x_s1 := (f_s1 0 (by omega)).trans z0
  have c_s1 := (f_s1 1 (by omega)).trans z1
  have d_s1 := (f_s1 2 (by omega)).trans z2
  have tx_s1 := (f_s1 13 (by omega)).trans z13₉
  have rd_s1 := zrd.keep (fun jj h1 h2 => f_s1 jj (by omega))
  have fo_s1 := zfo.keep (fun jj h1 h2 => f_s1 jj (by omega))
  have ex_s1 := zex.keep (fun jj h1 h2 => f_s1 jj (by omega))
  have lr_s1 := (f_s1 92 (by omega)).trans z99
  have dr_s1 := (f_s1 93 (by omega)).trans z100
  have pg_s1 := zp.keep (fun jj h1 h2 => f_s1 jj (by omega))
  refine go_aload_n (pc := 11) hF dX10_empties_11 0 rfl ?_
  refine go_get (pc := 12) hF fl_X10_10 dX10_empties_12 (by omega) x_s1 rfl ?_
  refine go_get (pc := 15) hF fl_X10_96 dX10_empties_15 (by omega) c_s1 rfl ?_
  refine go_callSP (pc := 18) hF [vi (en r₉)] [] ms_X10_111 dX10_empties_18 (c_X8_sizeOf E N s1₉ (en r₉) (by omega)) rfl rfl (Nat.le_of_ble_eq_true rfl) (by decide) ⟨Nat.zero_le _, Nat.zero_le _⟩ ?_
  refine go_istore_n (pc := 21) hF [(1, vi (cSize (en r₉))), (0, vr E 0)] dX10_empties_21 rfl (by decide) ?_
  refine go_aload_n (pc := 22) hF dX10_empties_22 1 rfl ?_
  refine go_get (pc := 23) hF fl_X10_10 dX10_empties_23 (by omega) x_s1 rfl ?_
  refine go_iconst (pc := 26) hF dX10_empties_26 ?_
  refine go_put (pc := 27) hF [vi 0, vi u₉, vi kd, vi pr] fl_X10_96 dX10_empties_27 (by omega) c_s1 rfl rfl rfl (Nat.le_of_ble_eq_true rfl) (fun s2₉ u_s2 f_s2 => ?_)
  have x_s2 := (f_s2 0 (by omega)).trans x_s1
  have d_s2 := (f_s2 2 (by omega)).trans d_s1
  have h_s2 := uh_s1.keep (fun jj h1 h2 => f_s2 jj (by omega))
  have tx_s2 := (f_s2 13 (by omega)).trans tx_s1
  have rd_s2 := rd_s1.keep (fun jj h1 h2 => f_s2 jj (by omega))
  have fo_s2 := fo_s1.keep (fun jj h1 h2 => f_s2 jj (by omega))
  have ex_s2 := ex_s1.keep (fun jj h1 h2 => f_s2 jj (by omega))
  have lr_s2 := (f_s2 92 (by omega)).trans lr_s1
  have dr_s2 := (f_s2 93 (by omega)).trans dr_s1
  have pg_s2 := pg_s1.keep (fun jj h1 h2 => f_s2 jj (by omega))
  refine go_iload_n (pc := 30) hF dX10_empties_30 0 rfl ?_
  exact go_iretQ hF hr hlk hQ dX10_empties_31 ⟨(en_ok (vrow_up hrw (by omega)) (w₉ := 1) (by omega)).1.1, ⟨x_s2, u_s2, ⟨_, _, _, _, d_s2⟩, h_s2, tx_s2, rd_s2, ⟨sg, vl, mt₉, lw, ll, la, sz₉, lk₉, chs, lps, dp, ln, pg_s2, hT₉⟩, fo_s2, ex_s2, ⟨_, _, lr_s2⟩, ⟨_, _, _, _, _, dr_s2⟩⟩, (fun jj hjj => by rw [f_s2 jj (by omega), f_s1 jj (by omega)])⟩
set_option maxHeartbeats 4000000 in
set_option maxRecDepth 100000 in
theorem c_X10_look_ok (E : En) (N : Nat) (σ : Nat → va_E) (r₉ u₉ kd pr : Int) (yr yw yk yp : Int → Int) (hs : Int) (tx : Int → Int) (tl : Int) (t₉ : Tr) (xb xn xf q1₉ q2₉ q3₉ : Int) (hN₉ : 101 ≤ N) (hO : okS r₉ u₉ kd pr yr yw yk yp hs tx tl t₉ xb xn xf q1₉ q2₉ q3₉) (hS₉ : clS E σ r₉ u₉ kd pr yr yw yk yp hs tx tl t₉ xb xn xf q1₉ q2₉ q3₉) (x₉ : Int) (hx : 0 ≤ x₉ ∧ x₉ ≤ 5) : CI E M_X10_look 16 [vr E 0, vi x₉] N σ (fun y₉ σ' => y₉ = (if mPlace r₉ x₉ = -1 then pr else 1) ∧ clS E σ' (mAfter r₉ x₉ u₉ kd) u₉ kd pr (psh yr r₉) (psh yw u₉) (psh yk kd) (psh yp pr) (min (hs + 1) 8) tx tl t₉ xb xn xf q1₉ q2₉ q3₉ ∧ ∀ q₉, 94 ≤ q₉ → σ' q₉ = σ q₉) := by
  refine CT.of2 (own := RX10) (by decide) rfl (Nat.le_of_ble_eq_true rfl) ?_
  intro p e R s m args below meth c Q hF hr hlk hnm hz hR hQ
  obtain ⟨z0, z1, ⟨a1₉, a2, a3, a4, z2⟩, zh, z13₉, zrd, ⟨sg, vl, mt₉, lw, ll, la, sz₉, lk₉, chs, lps, dp, ln, zp, hT₉⟩, zfo, zex, ⟨b1, b2, z99⟩, ⟨d1₉, d2₉, d3₉, d4₉, d5₉, z100⟩⟩ := hS₉
  obtain ⟨⟨hrw, hu, hkd, hpr⟩, hhs, hyy, htl, htx, hxb, hxn, hxf, hq1, hq2, hq3, hwf, hdp3, hl80, hl24⟩ := hO
  have eg := en_rg hrw.1
  obtain ⟨-, -, hpa0, htl9, htk9, hch9, hlp9, hdp9, hln9, ho⟩ := hT₉
  have hT₉ : prT t₉ sg vl mt₉ lw ll la sz₉ lk₉ chs lps dp ln := ⟨hwf, hdp3, hpa0, htl9, htk9, hch9, hlp9, hdp9, hln9, ho⟩
  refine go_iload_n (pc := 0) hF dX10_look_0 1 rfl ?_
  refine go_callSP (pc := 1) hF [vi x₉] [] ms_X10_115 dX10_look_1 (c_X10_isLine E N σ x₉ (by omega)) rfl rfl (Nat.le_of_ble_eq_true rfl) (by decide) ⟨Nat.zero_le _, Nat.zero_le _⟩ ?_
  refine go_if_ne (pc := 4) hF 12 dX10_look_4 (by decide) (bI_rg _) (fun bq4 => ?_) (fun bq4 => ?_)
  · refine go_aload_n (pc := 12) hF dX10_look_12 0 rfl ?_
    refine go_get (pc := 13) hF fl_X10_22 dX10_look_13 (by omega) z0 rfl ?_
    refine go_aload_n (pc := 16) hF dX10_look_16 0 rfl ?_
    refine go_get (pc := 17) hF fl_X10_10 dX10_look_17 (by omega) z0 rfl ?_
    refine go_callVV (pc := 20) hF [vr E 1] [] mv_X10_89 dX10_look_20 (by omega) zh.cell.choose_spec (zh.remember hN₉ hhs z1) rfl rfl (Nat.le_of_ble_eq_true rfl) (by decide) ⟨Nat.zero_le _, Nat.zero_le _⟩ (fun s1₉ h_s1 => ?_)
    obtain ⟨uh_s1, f_s1⟩ := h_s1
    have x_s1 := (f_s1 0 (by omega)).trans z0
    have c_s1 := (f_s1 1 (by omega)).trans z1
    have d_s1 := (f_s1 2 (by omega)).trans z2
    have tx_s1 := (f_s1 13 (by omega)).trans z13₉
    have rd_s1 := zrd.keep (fun jj h1 h2 => f_s1 jj (by omega))
    have fo_s1 := zfo.keep (fun jj h1 h2 => f_s1 jj (by omega))
    have ex_s1 := zex.keep (fun jj h1 h2 => f_s1 jj (by omega))
    have lr_s1 := (f_s1 92 (by omega)).trans z99
    have dr_s1 := (f_s1 93 (by omega)).trans z100
    have pg_s1 := zp.keep (fun jj h1 h2 => f_s1 jj (by omega))
    refine go_aload_n (pc := 23) hF dX10_look_23 0 rfl ?_
    refine go_get (pc := 24) hF fl_X10_10 dX10_look_24 (by omega) x_s1 rfl ?_
    refine go_iload_n (pc := 27) hF dX10_look_27 1 rfl ?_
    refine go_callVI (pc := 28) hF [vi x₉] [] mv_X10_119 dX10_look_28 (by omega) c_s1 (c_X1_lookAt E N s1₉ 1 (en r₉) u₉ kd pr x₉ (by omega) hu hkd hx (by omega) c_s1) rfl rfl (Nat.le_of_ble_eq_true rfl) (by decide) ⟨Nat.zero_le _, Nat.zero_le _⟩ (fun r_s2 s2₉ h_s2 => ?_)
    obtain ⟨e_s2, u0_s2, f_s2⟩ := h_s2
    have x_s2 := (f_s2 0 (by omega)).trans x_s1
    have d_s2 := (f_s2 2 (by omega)).trans d_s1
    have h_s2 := uh_s1.keep (fun jj h1 h2 => f_s2 jj (by omega))
    have tx_s2 := (f_s2 13 (by omega)).trans tx_s1
    have rd_s2 := rd_s1.keep (fun jj h1 h2 => f_s2 jj (by omega))
    have fo_s2 := fo_s1.keep (fun jj h1 h2 => f_s2 jj (by omega))
    have ex_s2 := ex_s1.keep (fun jj h1 h2 => f_s2 jj (by omega))
    have lr_s2 := (f_s2 92 (by omega)).trans lr_s1
    have dr_s2 := (f_s2 93 (by omega)).trans dr_s1
    have pg_s2 := pg_s1.keep (fun jj h1 h2 => f_s2 jj (by omega))
    subst e_s2
    have ro := row_ok hrw hx hu hkd
    exact go_iretQ hF hr hlk hQ dX10_look_31 ⟨by unfold cCost; rw [ro.1], ⟨x_s2, (by rw [← ro.2.1]; exact u0_s2), ⟨_, _, _, _, d_s2⟩, h_s2, tx_s2, rd_s2, ⟨sg, vl, mt₉, lw, ll, la, sz₉, lk₉, chs, lps, dp, ln, pg_s2, hT₉⟩, fo_s2, ex_s2, ⟨_, _, lr_s2⟩, ⟨_, _, _, _, _, dr_s2⟩⟩, (fun jj hjj => by rw [f_s2 jj (by omega), f_s1 jj (by omega)])⟩
  · exact absurd ((bI_0 _).mp bq4) (by omega)
set_option maxHeartbeats 4000000 in
set_option maxRecDepth 100000 in
theorem c_X10_held_bad (E : En) (N : Nat) (σ : Nat → va_E) (r₉ u₉ kd pr : Int) (yr yw yk yp : Int → Int) (hs : Int) (tx : Int → Int) (tl : Int) (t₉ : Tr) (xb xn xf q1₉ q2₉ q3₉ : Int) (hN₉ : 101 ≤ N) (hO : okS r₉ u₉ kd pr yr yw yk yp hs tx tl t₉ xb xn xf q1₉ q2₉ q3₉) (hS₉ : clS E σ r₉ u₉ kd pr yr yw yk yp hs tx tl t₉ xb xn xf q1₉ q2₉ q3₉) (x₉ : Int) (hx : rg x₉) (hno : x₉ < 0) : CI E M_X10_held 16 [vr E 0, vi x₉] N σ (fun y₉ σ' => y₉ = (-2) ∧ clS E σ' r₉ u₉ kd pr yr yw yk yp hs tx tl t₉ (wr₉ (xb + 1)) xn xf q1₉ q2₉ q3₉ ∧ ∀ q₉, 94 ≤ q₉ → σ' q₉ = σ q₉) := by
  refine CT.of2 (own := RX10) (by decide) rfl (Nat.le_of_ble_eq_true rfl) ?_
  intro p e R s m args below meth c Q hF hr hlk hnm hz hR hQ
  obtain ⟨z0, z1, ⟨a1₉, a2, a3, a4, z2⟩, zh, z13₉, zrd, ⟨sg, vl, mt₉, lw, ll, la, sz₉, lk₉, chs, lps, dp, ln, zp, hT₉⟩, zfo, zex, ⟨b1, b2, z99⟩, ⟨d1₉, d2₉, d3₉, d4₉, d5₉, z100⟩⟩ := hS₉
  obtain ⟨⟨hrw, hu, hkd, hpr⟩, hhs, hyy, htl, htx, hxb, hxn, hxf, hq1, hq2, hq3, hwf, hdp3, hl80, hl24⟩ := hO
  have eg := en_rg hrw.1
  obtain ⟨-, -, hpa0, htl9, htk9, hch9, hlp9, hdp9, hln9, ho⟩ := hT₉
  have hT₉ : prT t₉ sg vl mt₉ lw ll la sz₉ lk₉ chs lps dp ln := ⟨hwf, hdp3, hpa0, htl9, htk9, hch9, hlp9, hdp9, hln9, ho⟩
  refine go_iload_n (pc := 0) hF dX10_held_0 1 rfl ?_
  refine go_if_ge (pc := 1) hF 9 dX10_held_1 (by decide) (by omega) (fun bq1 => ?_) (fun bq1 => ?_)
  · exact absurd bq1 (by omega)
  · refine go_aload_n (pc := 4) hF dX10_held_4 0 rfl ?_
    refine go_callVI (pc := 5) hF [] [] mv_X10_85 dX10_held_5 (by omega) z0 (c_X10_refuseBad E N σ hN₉ z0) rfl rfl (Nat.le_of_ble_eq_true rfl) (by decide) ⟨Nat.zero_le _, Nat.zero_le _⟩ (fun r_s1 s1₉ h_s1 => ?_)
    obtain ⟨e_s1, u0_s1, f_s1⟩ := h_s1
    have c_s1 := (f_s1 1 (by omega)).trans z1
    have d_s1 := (f_s1 2 (by omega)).trans z2
    have h_s1 := zh.keep (fun jj h1 h2 => f_s1 jj (by omega))
    have tx_s1 := (f_s1 13 (by omega)).trans z13₉
    have rd_s1 := zrd.keep (fun jj h1 h2 => f_s1 jj (by omega))
    have fo_s1 := zfo.keep (fun jj h1 h2 => f_s1 jj (by omega))
    have ex_s1 := zex.keep (fun jj h1 h2 => f_s1 jj (by omega))
    have lr_s1 := (f_s1 92 (by omega)).trans z99
    have dr_s1 := (f_s1 93 (by omega)).trans z100
    have pg_s1 := zp.keep (fun jj h1 h2 => f_s1 jj (by omega))
    subst e_s1
    exact go_iretQ hF hr hlk hQ dX10_held_8 ⟨rfl, ⟨(by rw [vi_wr]; exact u0_s1), c_s1, ⟨_, _, _, _, d_s1⟩, h_s1, tx_s1, rd_s1, ⟨sg, vl, mt₉, lw, ll, la, sz₉, lk₉, chs, lps, dp, ln, pg_s1, hT₉⟩, fo_s1, ex_s1, ⟨_, _, lr_s1⟩, ⟨_, _, _, _, _, dr_s1⟩⟩, (fun jj hjj => by rw [f_s1 jj (by omega)])⟩
set_option maxHeartbeats 4000000 in
set_option maxRecDepth 100000 in
theorem c_X10_held_ok (E : En) (N : Nat) (σ : Nat → va_E) (r₉ u₉ kd pr : Int) (yr yw yk yp : Int → Int) (hs : Int) (tx : Int → Int) (tl : Int) (t₉ : Tr) (xb xn xf q1₉ q2₉ q3₉ : Int) (hN₉ : 101 ≤ N) (hO : okS r₉ u₉ kd pr yr yw yk yp hs tx tl t₉ xb xn xf q1₉ q2₉ q3₉) (hS₉ : clS E σ r₉ u₉ kd pr yr yw yk yp hs tx tl t₉ xb xn xf q1₉ q2₉ q3₉) (x₉ : Int) (hx : rg x₉) (h0 : 0 ≤ x₉) : CI E M_X10_held 16 [vr E 0, vi x₉] N σ (fun y₉ σ' => y₉ = (if x₉ = 0 then mAt r₉ 0 else if x₉ = 1 then mAt r₉ 1 else if x₉ = 2 then mAt r₉ 2 else -1) ∧ clS E σ' r₉ u₉ kd pr yr yw yk yp hs tx tl t₉ xb xn xf q1₉ q2₉ q3₉ ∧ ∀ q₉, 94 ≤ q₉ → σ' q₉ = σ q₉) := by
  refine CT.of2 (own := RX10) (by decide) rfl (Nat.le_of_ble_eq_true rfl) ?_
  intro p e R s m args below meth c Q hF hr hlk hnm hz hR hQ
  obtain ⟨z0, z1, ⟨a1₉, a2, a3, a4, z2⟩, zh, z13₉, zrd, ⟨sg, vl, mt₉, lw, ll, la, sz₉, lk₉, chs, lps, dp, ln, zp, hT₉⟩, zfo, zex, ⟨b1, b2, z99⟩, ⟨d1₉, d2₉, d3₉, d4₉, d5₉, z100⟩⟩ := hS₉
  obtain ⟨⟨hrw, hu, hkd, hpr⟩, hhs, hyy, htl, htx, hxb, hxn, hxf, hq1, hq2, hq3, hwf, hdp3, hl80, hl24⟩ := hO
  have eg := en_rg hrw.1
  obtain ⟨-, -, hpa0, htl9, htk9, hch9, hlp9, hdp9, hln9, ho⟩ := hT₉
  have hT₉ : prT t₉ sg vl mt₉ lw ll la sz₉ lk₉ chs lps dp ln := ⟨hwf, hdp3, hpa0, htl9, htk9, hch9, hlp9, hdp9, hln9, ho⟩
  refine go_iload_n (pc := 0) hF dX10_held_0 1 rfl ?_
  refine go_if_ge (pc := 1) hF 9 dX10_held_1 (by decide) (by omega) (fun bq1 => ?_) (fun bq1 => ?_)
  · refine go_aload_n (pc := 9) hF dX10_held_9 0 rfl ?_
    refine go_get (pc := 10) hF fl_X10_10 dX10_held_10 (by omega) z0 rfl ?_
    refine go_get (pc := 13) hF fl_X10_96 dX10_held_13 (by omega) z1 rfl ?_
    refine go_iload_n (pc := 16) hF dX10_held_16 1 rfl ?_
    refine go_callSP (pc := 17) hF [vi (en r₉), vi x₉] [] ms_X10_122 dX10_held_17 (c_X8_lineAt E N σ (en r₉) x₉ (by omega) (by first | omega | (constructor <;> decide))) rfl rfl (Nat.le_of_ble_eq_true rfl) (by decide) ⟨Nat.zero_le _, Nat.zero_le _⟩ ?_
    have ek := (en_ok (vrow_up hrw (by omega)) (w₉ := 1) (by omega)).1
    have eh : cL (en r₉) x₉ = if x₉ = 0 then mAt r₉ 0 else if x₉ = 1 then mAt r₉ 1 else if x₉ = 2 then mAt r₉ 2 else -1 := by
      obtain e | e | e | e : x₉ = 0 ∨ x₉ = 1 ∨ x₉ = 2 ∨ 3 ≤ x₉ := by omega
      · subst e; exact ek.2.1
      · subst e; exact ek.2.2.1
      · subst e; exact ek.2.2.2
      · unfold cL; rw [if_neg (by omega), if_neg (by omega), if_neg (by omega), if_neg (by omega), if_neg (by omega), if_neg (by omega)]
    exact go_iretQ hF hr hlk hQ dX10_held_20 ⟨eh, ⟨z0, z1, ⟨_, _, _, _, z2⟩, zh, z13₉, zrd, ⟨sg, vl, mt₉, lw, ll, la, sz₉, lk₉, chs, lps, dp, ln, zp, hT₉⟩, zfo, zex, ⟨_, _, z99⟩, ⟨_, _, _, _, _, z100⟩⟩, (fun j₉ hj => rfl)⟩
  · exact absurd bq1 (by omega)
set_option maxHeartbeats 4000000 in
set_option maxRecDepth 100000 in
theorem c_X10_type_full (E : En) (N : Nat) (σ : Nat → va_E) (r₉ u₉ kd pr : Int) (yr yw yk yp : Int → Int) (hs : Int) (tx : Int → Int) (tl : Int) (t₉ : Tr) (xb xn xf q1₉ q2₉ q3₉ : Int) (hN₉ : 101 ≤ N) (hO : okS r₉ u₉ kd pr yr yw yk yp hs tx tl t₉ xb xn xf q1₉ q2₉ q3₉) (hS₉ : clS E σ r₉ u₉ kd pr yr yw yk yp hs tx tl t₉ xb xn xf q1₉ q2₉ q3₉) (x₉ : Int) (hx : 0 ≤ x₉ ∧ x₉ ≤ 127) (hf : tl = 80) : CI E M_X10_type 16 [vr E 0, vi x₉] N σ (fun y₉ σ' => y₉ = (-4) ∧ clS E σ' r₉ u₉ kd pr yr yw yk yp hs tx tl t₉ xb xn (wr₉ (xf + 1)) q1₉ q2₉ q3₉ ∧ ∀ q₉, 94 ≤ q₉ → σ' q₉ = σ q₉) := by
  refine CT.of2 (own := RX10) (by decide) rfl (Nat.le_of_ble_eq_true rfl) ?_
  intro p e R s m args below meth c Q hF hr hlk hnm hz hR hQ
  obtain ⟨z0, z1, ⟨a1₉, a2, a3, a4, z2⟩, zh, z13₉, zrd, ⟨sg, vl, mt₉, lw, ll, la, sz₉, lk₉, chs, lps, dp, ln, zp, hT₉⟩, zfo, zex, ⟨b1, b2, z99⟩, ⟨d1₉, d2₉, d3₉, d4₉, d5₉, z100⟩⟩ := hS₉
  obtain ⟨⟨hrw, hu, hkd, hpr⟩, hhs, hyy, htl, htx, hxb, hxn, hxf, hq1, hq2, hq3, hwf, hdp3, hl80, hl24⟩ := hO
  have eg := en_rg hrw.1
  obtain ⟨-, -, hpa0, htl9, htk9, hch9, hlp9, hdp9, hln9, ho⟩ := hT₉
  have hT₉ : prT t₉ sg vl mt₉ lw ll la sz₉ lk₉ chs lps dp ln := ⟨hwf, hdp3, hpa0, htl9, htk9, hch9, hlp9, hdp9, hln9, ho⟩
  refine go_iload_n (pc := 0) hF dX10_type_0 1 rfl ?_
  refine go_iconst (pc := 1) hF dX10_type_1 ?_
  refine go_bipush (pc := 2) hF dX10_type_2 (by decide) ?_
  refine go_callSP (pc := 4) hF [vi x₉, vi 0, vi 127] [] ms_X10_81 dX10_type_4 (c_X10_isWithin E N σ x₉ 0 127 (by omega) ⟨by decide, by decide⟩ ⟨by decide, by decide⟩) rfl rfl (Nat.le_of_ble_eq_true rfl) (by decide) ⟨Nat.zero_le _, Nat.zero_le _⟩ ?_
  refine go_if_ne (pc := 7) hF 15 dX10_type_7 (by decide) (bI_rg _) (fun bq7 => ?_) (fun bq7 => ?_)
  · refine go_aload_n (pc := 15) hF dX10_type_15 0 rfl ?_
    refine go_get (pc := 16) hF fl_X10_30 dX10_type_16 (by omega) z0 rfl ?_
    refine go_if_lt (pc := 19) hF 34 dX10_type_19 (by decide) (by omega) (fun bq19 => ?_) (fun bq19 => ?_)
    · exact absurd bq19 (by omega)
    · refine go_aload_n (pc := 22) hF dX10_type_22 0 rfl ?_
      refine go_get (pc := 23) hF fl_X10_30 dX10_type_23 (by omega) z0 rfl ?_
      refine go_aload_n (pc := 26) hF dX10_type_26 0 rfl ?_
      refine go_get (pc := 27) hF fl_X10_26 dX10_type_27 (by omega) z0 rfl ?_
      refine go_alen (pc := 30) hF dX10_type_30 (by omega) z13₉ ?_
      refine go_icmp_lt (pc := 31) hF 47 dX10_type_31 (by decide) (by omega) ⟨by decide, by decide⟩ (fun bq31 => ?_) (fun bq31 => ?_)
      · exact absurd bq31 (by omega)
      · refine go_aload_n (pc := 34) hF dX10_type_34 0 rfl ?_
        refine go_dup (pc := 35) hF dX10_type_35 rfl ?_
        refine go_get (pc := 36) hF fl_X10_78 dX10_type_36 (by omega) z0 rfl ?_
        refine go_iconst (pc := 39) hF dX10_type_39 ?_
        refine go_iadd (pc := 40) hF dX10_type_40 ?_
        refine go_put (pc := 41) hF [vr E 1, vr E 2, vr E 3, vr E 13, vi tl, vr E 14, vr E 23, vr E 30, vr E 56, vr E 92, vr E 93, vi xb, vi xn, vi (xf + 1)] fl_X10_78 dX10_type_41 (by omega) z0 rfl rfl rfl (Nat.le_of_ble_eq_true rfl) (fun s1₉ u_s1 f_s1 => ?_)
        have c_s1 := (f_s1 1 (by omega)).trans z1
        have d_s1 := (f_s1 2 (by omega)).trans z2
        have h_s1 := zh.keep (fun jj h1 h2 => f_s1 jj (by omega))
        have tx_s1 := (f_s1 13 (by omega)).trans z13₉
        have rd_s1 := zrd.keep (fun jj h1 h2 => f_s1 jj (by omega))
        have fo_s1 := zfo.keep (fun jj h1 h2 => f_s1 jj (by omega))
        have ex_s1 := zex.keep (fun jj h1 h2 => f_s1 jj (by omega))
        have lr_s1 := (f_s1 92 (by omega)).trans z99
        have dr_s1 := (f_s1 93 (by omega)).trans z100
        have pg_s1 := zp.keep (fun jj h1 h2 => f_s1 jj (by omega))
        refine go_bipush (pc := 44) hF dX10_type_44 (by decide) ?_
        exact go_iretQ hF hr hlk hQ dX10_type_46 ⟨rfl, ⟨(by rw [vi_wr]; exact u_s1), c_s1, ⟨_, _, _, _, d_s1⟩, h_s1, tx_s1, rd_s1, ⟨sg, vl, mt₉, lw, ll, la, sz₉, lk₉, chs, lps, dp, ln, pg_s1, hT₉⟩, fo_s1, ex_s1, ⟨_, _, lr_s1⟩, ⟨_, _, _, _, _, dr_s1⟩⟩, (fun jj hjj => by rw [f_s1 jj (by omega)])⟩
  · exact absurd ((bI_0 _).mp bq7) (by omega)
set_option maxHeartbeats 4000000 in
set_option maxRecDepth 100000 in
theorem c_X10_type_ok (E : En) (N : Nat) (σ : Nat → va_E) (r₉ u₉ kd pr : Int) (yr yw yk yp : Int → Int) (hs : Int) (tx : Int → Int) (tl : Int) (t₉ : Tr) (xb xn xf q1₉ q2₉ q3₉ : Int) (hN₉ : 101 ≤ N) (hO : okS r₉ u₉ kd pr yr yw yk yp hs tx tl t₉ xb xn xf q1₉ q2₉ q3₉) (hS₉ : clS E σ r₉ u₉ kd pr yr yw yk yp hs tx tl t₉ xb xn xf q1₉ q2₉ q3₉) (x₉ : Int) (hx : 0 ≤ x₉ ∧ x₉ ≤ 127) (hf : tl < 80) : CI E M_X10_type 16 [vr E 0, vi x₉] N σ (fun y₉ σ' => y₉ = (tl + 1) ∧ clS E σ' r₉ u₉ kd pr yr yw yk yp hs (up tx tl x₉) (tl + 1) t₉ xb xn xf q1₉ q2₉ q3₉ ∧ ∀ q₉, 94 ≤ q₉ → σ' q₉ = σ q₉) := by
  refine CT.of2 (own := RX10) (by decide) rfl (Nat.le_of_ble_eq_true rfl) ?_
  intro p e R s m args below meth c Q hF hr hlk hnm hz hR hQ
  obtain ⟨z0, z1, ⟨a1₉, a2, a3, a4, z2⟩, zh, z13₉, zrd, ⟨sg, vl, mt₉, lw, ll, la, sz₉, lk₉, chs, lps, dp, ln, zp, hT₉⟩, zfo, zex, ⟨b1, b2, z99⟩, ⟨d1₉, d2₉, d3₉, d4₉, d5₉, z100⟩⟩ := hS₉
  obtain ⟨⟨hrw, hu, hkd, hpr⟩, hhs, hyy, htl, htx, hxb, hxn, hxf, hq1, hq2, hq3, hwf, hdp3, hl80, hl24⟩ := hO
  have eg := en_rg hrw.1
  obtain ⟨-, -, hpa0, htl9, htk9, hch9, hlp9, hdp9, hln9, ho⟩ := hT₉
  have hT₉ : prT t₉ sg vl mt₉ lw ll la sz₉ lk₉ chs lps dp ln := ⟨hwf, hdp3, hpa0, htl9, htk9, hch9, hlp9, hdp9, hln9, ho⟩
  refine go_iload_n (pc := 0) hF dX10_type_0 1 rfl ?_
  refine go_iconst (pc := 1) hF dX10_type_1 ?_
  refine go_bipush (pc := 2) hF dX10_type_2 (by decide) ?_
  refine go_callSP (pc := 4) hF [vi x₉, vi 0, vi 127] [] ms_X10_81 dX10_type_4 (c_X10_isWithin E N σ x₉ 0 127 (by omega) ⟨by decide, by decide⟩ ⟨by decide, by decide⟩) rfl rfl (Nat.le_of_ble_eq_true rfl) (by decide) ⟨Nat.zero_le _, Nat.zero_le _⟩ ?_
  refine go_if_ne (pc := 7) hF 15 dX10_type_7 (by decide) (bI_rg _) (fun bq7 => ?_) (fun bq7 => ?_)
  · refine go_aload_n (pc := 15) hF dX10_type_15 0 rfl ?_
    refine go_get (pc := 16) hF fl_X10_30 dX10_type_16 (by omega) z0 rfl ?_
    refine go_if_lt (pc := 19) hF 34 dX10_type_19 (by decide) (by omega) (fun bq19 => ?_) (fun bq19 => ?_)
    · exact absurd bq19 (by omega)
    · refine go_aload_n (pc := 22) hF dX10_type_22 0 rfl ?_
      refine go_get (pc := 23) hF fl_X10_30 dX10_type_23 (by omega) z0 rfl ?_
      refine go_aload_n (pc := 26) hF dX10_type_26 0 rfl ?_
      refine go_get (pc := 27) hF fl_X10_26 dX10_type_27 (by omega) z0 rfl ?_
      refine go_alen (pc := 30) hF dX10_type_30 (by omega) z13₉ ?_
      refine go_icmp_lt (pc := 31) hF 47 dX10_type_31 (by decide) (by omega) ⟨by decide, by decide⟩ (fun bq31 => ?_) (fun bq31 => ?_)
      · refine go_aload_n (pc := 47) hF dX10_type_47 0 rfl ?_
        refine go_get (pc := 48) hF fl_X10_26 dX10_type_48 (by omega) z0 rfl ?_
        refine go_aload_n (pc := 51) hF dX10_type_51 0 rfl ?_
        refine go_get (pc := 52) hF fl_X10_30 dX10_type_52 (by omega) z0 rfl ?_
        refine go_iload_n (pc := 55) hF dX10_type_55 1 rfl ?_
        refine go_iast (pc := 56) hF dX10_type_56 (by omega) z13₉ (by omega) (fun s1₉ u_s1 f_s1 => ?_)
        have x_s1 := (f_s1 0 (by omega)).trans z0
        have c_s1 := (f_s1 1 (by omega)).trans z1
        have d_s1 := (f_s1 2 (by omega)).trans z2
        have h_s1 := zh.keep (fun jj h1 h2 => f_s1 jj (by omega))
        have rd_s1 := zrd.keep (fun jj h1 h2 => f_s1 jj (by omega))
        have fo_s1 := zfo.keep (fun jj h1 h2 => f_s1 jj (by omega))
        have ex_s1 := zex.keep (fun jj h1 h2 => f_s1 jj (by omega))
        have lr_s1 := (f_s1 92 (by omega)).trans z99
        have dr_s1 := (f_s1 93 (by omega)).trans z100
        have pg_s1 := zp.keep (fun jj h1 h2 => f_s1 jj (by omega))
        refine go_aload_n (pc := 57) hF dX10_type_57 0 rfl ?_
        refine go_dup (pc := 58) hF dX10_type_58 rfl ?_
        refine go_get (pc := 59) hF fl_X10_30 dX10_type_59 (by omega) x_s1 rfl ?_
        refine go_iconst (pc := 62) hF dX10_type_62 ?_
        refine go_iadd (pc := 63) hF dX10_type_63 ?_
        refine go_put (pc := 64) hF [vr E 1, vr E 2, vr E 3, vr E 13, vi (tl + 1), vr E 14, vr E 23, vr E 30, vr E 56, vr E 92, vr E 93, vi xb, vi xn, vi xf] fl_X10_30 dX10_type_64 (by omega) x_s1 rfl rfl rfl (Nat.le_of_ble_eq_true rfl) (fun s2₉ u_s2 f_s2 => ?_)
        have c_s2 := (f_s2 1 (by omega)).trans c_s1
        have d_s2 := (f_s2 2 (by omega)).trans d_s1
        have h_s2 := h_s1.keep (fun jj h1 h2 => f_s2 jj (by omega))
        have tx_s2 := (f_s2 13 (by omega)).trans u_s1
        have rd_s2 := rd_s1.keep (fun jj h1 h2 => f_s2 jj (by omega))
        have fo_s2 := fo_s1.keep (fun jj h1 h2 => f_s2 jj (by omega))
        have ex_s2 := ex_s1.keep (fun jj h1 h2 => f_s2 jj (by omega))
        have lr_s2 := (f_s2 92 (by omega)).trans lr_s1
        have dr_s2 := (f_s2 93 (by omega)).trans dr_s1
        have pg_s2 := pg_s1.keep (fun jj h1 h2 => f_s2 jj (by omega))
        refine go_aload_n (pc := 67) hF dX10_type_67 0 rfl ?_
        refine go_get (pc := 68) hF fl_X10_30 dX10_type_68 (by omega) u_s2 rfl ?_
        exact go_iretQ hF hr hlk hQ dX10_type_71 ⟨rfl, ⟨u_s2, c_s2, ⟨_, _, _, _, d_s2⟩, h_s2, tx_s2, rd_s2, ⟨sg, vl, mt₉, lw, ll, la, sz₉, lk₉, chs, lps, dp, ln, pg_s2, hT₉⟩, fo_s2, ex_s2, ⟨_, _, lr_s2⟩, ⟨_, _, _, _, _, dr_s2⟩⟩, (fun jj hjj => by rw [f_s2 jj (by omega), f_s1 jj (by omega)])⟩
      · exact absurd bq31 (by omega)
  · exact absurd ((bI_0 _).mp bq7) (by omega)
set_option maxHeartbeats 4000000 in
set_option maxRecDepth 100000 in
theorem c_X10_clear (E : En) (N : Nat) (σ : Nat → va_E) (r₉ u₉ kd pr : Int) (yr yw yk yp : Int → Int) (hs : Int) (tx : Int → Int) (tl : Int) (t₉ : Tr) (xb xn xf q1₉ q2₉ q3₉ : Int) (hN₉ : 101 ≤ N) (hO : okS r₉ u₉ kd pr yr yw yk yp hs tx tl t₉ xb xn xf q1₉ q2₉ q3₉) (hS₉ : clS E σ r₉ u₉ kd pr yr yw yk yp hs tx tl t₉ xb xn xf q1₉ q2₉ q3₉) : CI E M_X10_clear 16 [vr E 0] N σ (fun y₉ σ' => y₉ = tl ∧ clS E σ' r₉ u₉ kd pr yr yw yk yp hs tx 0 t₉ xb xn xf q1₉ q2₉ q3₉ ∧ ∀ q₉, 94 ≤ q₉ → σ' q₉ = σ q₉) := by
  refine CT.of2 (own := RX10) (by decide) rfl (Nat.le_of_ble_eq_true rfl) ?_
  intro p e R s m args below meth c Q hF hr hlk hnm hz hR hQ
  obtain ⟨z0, z1, ⟨a1₉, a2, a3, a4, z2⟩, zh, z13₉, zrd, ⟨sg, vl, mt₉, lw, ll, la, sz₉, lk₉, chs, lps, dp, ln, zp, hT₉⟩, zfo, zex, ⟨b1, b2, z99⟩, ⟨d1₉, d2₉, d3₉, d4₉, d5₉, z100⟩⟩ := hS₉
  obtain ⟨⟨hrw, hu, hkd, hpr⟩, hhs, hyy, htl, htx, hxb, hxn, hxf, hq1, hq2, hq3, hwf, hdp3, hl80, hl24⟩ := hO
  have eg := en_rg hrw.1
  obtain ⟨-, -, hpa0, htl9, htk9, hch9, hlp9, hdp9, hln9, ho⟩ := hT₉
  have hT₉ : prT t₉ sg vl mt₉ lw ll la sz₉ lk₉ chs lps dp ln := ⟨hwf, hdp3, hpa0, htl9, htk9, hch9, hlp9, hdp9, hln9, ho⟩
  refine go_aload_n (pc := 0) hF dX10_clear_0 0 rfl ?_
  refine go_get (pc := 1) hF fl_X10_30 dX10_clear_1 (by omega) z0 rfl ?_
  refine go_istore_n (pc := 4) hF [(1, vi tl), (0, vr E 0)] dX10_clear_4 rfl (by decide) ?_
  refine go_aload_n (pc := 5) hF dX10_clear_5 1 rfl ?_
  refine go_iconst (pc := 6) hF dX10_clear_6 ?_
  refine go_put (pc := 7) hF [vr E 1, vr E 2, vr E 3, vr E 13, vi 0, vr E 14, vr E 23, vr E 30, vr E 56, vr E 92, vr E 93, vi xb, vi xn, vi xf] fl_X10_30 dX10_clear_7 (by omega) z0 rfl rfl rfl (Nat.le_of_ble_eq_true rfl) (fun s1₉ u_s1 f_s1 => ?_)
  have c_s1 := (f_s1 1 (by omega)).trans z1
  have d_s1 := (f_s1 2 (by omega)).trans z2
  have h_s1 := zh.keep (fun jj h1 h2 => f_s1 jj (by omega))
  have tx_s1 := (f_s1 13 (by omega)).trans z13₉
  have rd_s1 := zrd.keep (fun jj h1 h2 => f_s1 jj (by omega))
  have fo_s1 := zfo.keep (fun jj h1 h2 => f_s1 jj (by omega))
  have ex_s1 := zex.keep (fun jj h1 h2 => f_s1 jj (by omega))
  have lr_s1 := (f_s1 92 (by omega)).trans z99
  have dr_s1 := (f_s1 93 (by omega)).trans z100
  have pg_s1 := zp.keep (fun jj h1 h2 => f_s1 jj (by omega))
  refine go_iload_n (pc := 10) hF dX10_clear_10 0 rfl ?_
  exact go_iretQ hF hr hlk hQ dX10_clear_11 ⟨rfl, ⟨u_s1, c_s1, ⟨_, _, _, _, d_s1⟩, h_s1, tx_s1, rd_s1, ⟨sg, vl, mt₉, lw, ll, la, sz₉, lk₉, chs, lps, dp, ln, pg_s1, hT₉⟩, fo_s1, ex_s1, ⟨_, _, lr_s1⟩, ⟨_, _, _, _, _, dr_s1⟩⟩, (fun jj hjj => by rw [f_s1 jj (by omega)])⟩
set_option maxHeartbeats 4000000 in
set_option maxRecDepth 100000 in
theorem c_X10_told_ok (E : En) (N : Nat) (σ : Nat → va_E) (r₉ u₉ kd pr : Int) (yr yw yk yp : Int → Int) (hs : Int) (tx : Int → Int) (tl : Int) (t₉ : Tr) (xb xn xf q1₉ q2₉ q3₉ : Int) (hN₉ : 101 ≤ N) (hO : okS r₉ u₉ kd pr yr yw yk yp hs tx tl t₉ xb xn xf q1₉ q2₉ q3₉) (hS₉ : clS E σ r₉ u₉ kd pr yr yw yk yp hs tx tl t₉ xb xn xf q1₉ q2₉ q3₉) (x₉ : Int) (hx : 0 ≤ x₉ ∧ x₉ ≤ 4) : CI E M_X10_told 16 [vr E 0, vi x₉] N σ (fun y₉ σ' => y₉ = gTell (tLks t₉) (tChs t₉) (tLps t₉) (tDep t₉) (tMsk t₉ 0) x₉ ∧ clS E σ' r₉ u₉ kd pr yr yw yk yp hs tx tl t₉ xb xn xf q1₉ q2₉ q3₉ ∧ ∀ q₉, 94 ≤ q₉ → σ' q₉ = σ q₉) := by
  refine CT.of2 (own := RX10) (by decide) rfl (Nat.le_of_ble_eq_true rfl) ?_
  intro p e R s m args below meth c Q hF hr hlk hnm hz hR hQ
  obtain ⟨z0, z1, ⟨a1₉, a2, a3, a4, z2⟩, zh, z13₉, zrd, ⟨sg, vl, mt₉, lw, ll, la, sz₉, lk₉, chs, lps, dp, ln, zp, hT₉⟩, zfo, zex, ⟨b1, b2, z99⟩, ⟨d1₉, d2₉, d3₉, d4₉, d5₉, z100⟩⟩ := hS₉
  obtain ⟨⟨hrw, hu, hkd, hpr⟩, hhs, hyy, htl, htx, hxb, hxn, hxf, hq1, hq2, hq3, hwf, hdp3, hl80, hl24⟩ := hO
  have eg := en_rg hrw.1
  obtain ⟨-, -, hpa0, htl9, htk9, hch9, hlp9, hdp9, hln9, ho⟩ := hT₉
  have hT₉ : prT t₉ sg vl mt₉ lw ll la sz₉ lk₉ chs lps dp ln := ⟨hwf, hdp3, hpa0, htl9, htk9, hch9, hlp9, hdp9, hln9, ho⟩
  refine go_iload_n (pc := 0) hF dX10_told_0 1 rfl ?_
  refine go_iconst (pc := 1) hF dX10_told_1 ?_
  refine go_iconst (pc := 2) hF dX10_told_2 ?_
  refine go_callSP (pc := 3) hF [vi x₉, vi 0, vi 4] [] ms_X10_81 dX10_told_3 (c_X10_isWithin E N σ x₉ 0 4 (by omega) ⟨by decide, by decide⟩ ⟨by decide, by decide⟩) rfl rfl (Nat.le_of_ble_eq_true rfl) (by decide) ⟨Nat.zero_le _, Nat.zero_le _⟩ ?_
  refine go_if_ne (pc := 6) hF 14 dX10_told_6 (by decide) (bI_rg _) (fun bq6 => ?_) (fun bq6 => ?_)
  · refine go_aload_n (pc := 14) hF dX10_told_14 0 rfl ?_
    refine go_get (pc := 15) hF fl_X10_44 dX10_told_15 (by omega) z0 rfl ?_
    refine go_iload_n (pc := 18) hF dX10_told_18 1 rfl ?_
    refine go_callVP (pc := 19) hF [vi x₉] [] mv_X10_143 dX10_told_19 (by omega) zp.1 (c_X6_tell E N σ 23 (by omega) zp x₉ (by omega)) rfl rfl (Nat.le_of_ble_eq_true rfl) (by decide) ⟨Nat.zero_le _, Nat.zero_le _⟩ ?_
    exact go_iretQ hF hr hlk hQ dX10_told_22 ⟨by rw [htk9, ← hch9, ← hlp9, ← hdp9, ← hln9], ⟨z0, z1, ⟨_, _, _, _, z2⟩, zh, z13₉, zrd, ⟨sg, vl, mt₉, lw, ll, la, sz₉, lk₉, chs, lps, dp, ln, zp, hT₉⟩, zfo, zex, ⟨_, _, z99⟩, ⟨_, _, _, _, _, z100⟩⟩, (fun j₉ hj => rfl)⟩
  · exact absurd ((bI_0 _).mp bq6) (by omega)
set_option maxHeartbeats 4000000 in
set_option maxRecDepth 100000 in
theorem c_X10_ran_ok (E : En) (N : Nat) (σ : Nat → va_E) (r₉ u₉ kd pr : Int) (yr yw yk yp : Int → Int) (hs : Int) (tx : Int → Int) (tl : Int) (t₉ : Tr) (xb xn xf q1₉ q2₉ q3₉ : Int) (hN₉ : 101 ≤ N) (hO : okS r₉ u₉ kd pr yr yw yk yp hs tx tl t₉ xb xn xf q1₉ q2₉ q3₉) (hS₉ : clS E σ r₉ u₉ kd pr yr yw yk yp hs tx tl t₉ xb xn xf q1₉ q2₉ q3₉) (x₉ : Int) (hx : 0 ≤ x₉ ∧ x₉ ≤ 2) : CI E M_X10_ran 16 [vr E 0, vi x₉] N σ (fun y₉ σ' => y₉ = (if x₉ = 0 then q1₉ else if x₉ = 1 then q2₉ else q3₉) ∧ clS E σ' r₉ u₉ kd pr yr yw yk yp hs tx tl t₉ xb xn xf q1₉ q2₉ q3₉ ∧ ∀ q₉, 94 ≤ q₉ → σ' q₉ = σ q₉) := by
  refine CT.of2 (own := RX10) (by decide) rfl (Nat.le_of_ble_eq_true rfl) ?_
  intro p e R s m args below meth c Q hF hr hlk hnm hz hR hQ
  obtain ⟨z0, z1, ⟨a1₉, a2, a3, a4, z2⟩, zh, z13₉, zrd, ⟨sg, vl, mt₉, lw, ll, la, sz₉, lk₉, chs, lps, dp, ln, zp, hT₉⟩, zfo, zex, ⟨b1, b2, z99⟩, ⟨d1₉, d2₉, d3₉, d4₉, d5₉, z100⟩⟩ := hS₉
  obtain ⟨⟨hrw, hu, hkd, hpr⟩, hhs, hyy, htl, htx, hxb, hxn, hxf, hq1, hq2, hq3, hwf, hdp3, hl80, hl24⟩ := hO
  have eg := en_rg hrw.1
  obtain ⟨-, -, hpa0, htl9, htk9, hch9, hlp9, hdp9, hln9, ho⟩ := hT₉
  have hT₉ : prT t₉ sg vl mt₉ lw ll la sz₉ lk₉ chs lps dp ln := ⟨hwf, hdp3, hpa0, htl9, htk9, hch9, hlp9, hdp9, hln9, ho⟩
  refine go_iload_n (pc := 0) hF dX10_ran_0 1 rfl ?_
  refine go_iconst (pc := 1) hF dX10_ran_1 ?_
  refine go_iconst (pc := 2) hF dX10_ran_2 ?_
  refine go_callSP (pc := 3) hF [vi x₉, vi 0, vi 2] [] ms_X10_81 dX10_ran_3 (c_X10_isWithin E N σ x₉ 0 2 (by omega) ⟨by decide, by decide⟩ ⟨by decide, by decide⟩) rfl rfl (Nat.le_of_ble_eq_true rfl) (by decide) ⟨Nat.zero_le _, Nat.zero_le _⟩ ?_
  refine go_if_ne (pc := 6) hF 14 dX10_ran_6 (by decide) (bI_rg _) (fun bq6 => ?_) (fun bq6 => ?_)
  · refine go_aload_n (pc := 14) hF dX10_ran_14 0 rfl ?_
    refine go_get (pc := 15) hF fl_X10_65 dX10_ran_15 (by omega) z0 rfl ?_
    refine go_iload_n (pc := 18) hF dX10_ran_18 1 rfl ?_
    refine go_callVP (pc := 19) hF [vi x₉] [] mv_X10_206 dX10_ran_19 (by omega) z99 (c_X9_tell E N σ 92 b1 b2 q1₉ q2₉ q3₉ x₉ (by omega) (by omega) z99) rfl rfl (Nat.le_of_ble_eq_true rfl) (by decide) ⟨Nat.zero_le _, Nat.zero_le _⟩ ?_
    exact go_iretQ hF hr hlk hQ dX10_ran_22 ⟨rfl, ⟨z0, z1, ⟨_, _, _, _, z2⟩, zh, z13₉, zrd, ⟨sg, vl, mt₉, lw, ll, la, sz₉, lk₉, chs, lps, dp, ln, zp, hT₉⟩, zfo, zex, ⟨_, _, z99⟩, ⟨_, _, _, _, _, z100⟩⟩, (fun j₉ hj => rfl)⟩
  · exact absurd ((bI_0 _).mp bq6) (by omega)
set_option maxHeartbeats 4000000 in
set_option maxRecDepth 100000 in
theorem c_X10_undo_no (E : En) (N : Nat) (σ : Nat → va_E) (r₉ u₉ kd pr : Int) (yr yw yk yp : Int → Int) (hs : Int) (tx : Int → Int) (tl : Int) (t₉ : Tr) (xb xn xf q1₉ q2₉ q3₉ : Int) (hN₉ : 101 ≤ N) (hO : okS r₉ u₉ kd pr yr yw yk yp hs tx tl t₉ xb xn xf q1₉ q2₉ q3₉) (hS₉ : clS E σ r₉ u₉ kd pr yr yw yk yp hs tx tl t₉ xb xn xf q1₉ q2₉ q3₉) (h0 : hs = 0) : CI E M_X10_undo 16 [vr E 0] N σ (fun y₉ σ' => y₉ = (-3) ∧ clS E σ' r₉ u₉ kd pr yr yw yk yp hs tx tl t₉ xb (wr₉ (xn + 1)) xf q1₉ q2₉ q3₉ ∧ ∀ q₉, 94 ≤ q₉ → σ' q₉ = σ q₉) := by
  refine CT.of2 (own := RX10) (by decide) rfl (Nat.le_of_ble_eq_true rfl) ?_
  intro p e R s m args below meth c Q hF hr hlk hnm hz hR hQ
  obtain ⟨z0, z1, ⟨a1₉, a2, a3, a4, z2⟩, zh, z13₉, zrd, ⟨sg, vl, mt₉, lw, ll, la, sz₉, lk₉, chs, lps, dp, ln, zp, hT₉⟩, zfo, zex, ⟨b1, b2, z99⟩, ⟨d1₉, d2₉, d3₉, d4₉, d5₉, z100⟩⟩ := hS₉
  obtain ⟨⟨hrw, hu, hkd, hpr⟩, hhs, hyy, htl, htx, hxb, hxn, hxf, hq1, hq2, hq3, hwf, hdp3, hl80, hl24⟩ := hO
  have eg := en_rg hrw.1
  obtain ⟨-, -, hpa0, htl9, htk9, hch9, hlp9, hdp9, hln9, ho⟩ := hT₉
  have hT₉ : prT t₉ sg vl mt₉ lw ll la sz₉ lk₉ chs lps dp ln := ⟨hwf, hdp3, hpa0, htl9, htk9, hch9, hlp9, hdp9, hln9, ho⟩
  refine go_aload_n (pc := 0) hF dX10_undo_0 0 rfl ?_
  refine go_get (pc := 1) hF fl_X10_22 dX10_undo_1 (by omega) z0 rfl ?_
  refine go_get (pc := 4) hF fl_X10_207 dX10_undo_4 (by omega) zh.cell.choose_spec rfl ?_
  refine go_if_ne (pc := 7) hF 23 dX10_undo_7 (by decide) (by omega) (fun bq7 => ?_) (fun bq7 => ?_)
  · exact absurd bq7 (by omega)
  · refine go_aload_n (pc := 10) hF dX10_undo_10 0 rfl ?_
    refine go_dup (pc := 11) hF dX10_undo_11 rfl ?_
    refine go_get (pc := 12) hF fl_X10_75 dX10_undo_12 (by omega) z0 rfl ?_
    refine go_iconst (pc := 15) hF dX10_undo_15 ?_
    refine go_iadd (pc := 16) hF dX10_undo_16 ?_
    refine go_put (pc := 17) hF [vr E 1, vr E 2, vr E 3, vr E 13, vi tl, vr E 14, vr E 23, vr E 30, vr E 56, vr E 92, vr E 93, vi xb, vi (xn + 1), vi xf] fl_X10_75 dX10_undo_17 (by omega) z0 rfl rfl rfl (Nat.le_of_ble_eq_true rfl) (fun s1₉ u_s1 f_s1 => ?_)
    have c_s1 := (f_s1 1 (by omega)).trans z1
    have d_s1 := (f_s1 2 (by omega)).trans z2
    have h_s1 := zh.keep (fun jj h1 h2 => f_s1 jj (by omega))
    have tx_s1 := (f_s1 13 (by omega)).trans z13₉
    have rd_s1 := zrd.keep (fun jj h1 h2 => f_s1 jj (by omega))
    have fo_s1 := zfo.keep (fun jj h1 h2 => f_s1 jj (by omega))
    have ex_s1 := zex.keep (fun jj h1 h2 => f_s1 jj (by omega))
    have lr_s1 := (f_s1 92 (by omega)).trans z99
    have dr_s1 := (f_s1 93 (by omega)).trans z100
    have pg_s1 := zp.keep (fun jj h1 h2 => f_s1 jj (by omega))
    refine go_bipush (pc := 20) hF dX10_undo_20 (by decide) ?_
    exact go_iretQ hF hr hlk hQ dX10_undo_22 ⟨rfl, ⟨(by rw [vi_wr]; exact u_s1), c_s1, ⟨_, _, _, _, d_s1⟩, h_s1, tx_s1, rd_s1, ⟨sg, vl, mt₉, lw, ll, la, sz₉, lk₉, chs, lps, dp, ln, pg_s1, hT₉⟩, fo_s1, ex_s1, ⟨_, _, lr_s1⟩, ⟨_, _, _, _, _, dr_s1⟩⟩, (fun jj hjj => by rw [f_s1 jj (by omega)])⟩
set_option maxHeartbeats 4000000 in
set_option maxRecDepth 100000 in
theorem c_X10_undo_ok (E : En) (N : Nat) (σ : Nat → va_E) (r₉ u₉ kd pr : Int) (yr yw yk yp : Int → Int) (hs : Int) (tx : Int → Int) (tl : Int) (t₉ : Tr) (xb xn xf q1₉ q2₉ q3₉ : Int) (hN₉ : 101 ≤ N) (hO : okS r₉ u₉ kd pr yr yw yk yp hs tx tl t₉ xb xn xf q1₉ q2₉ q3₉) (hS₉ : clS E σ r₉ u₉ kd pr yr yw yk yp hs tx tl t₉ xb xn xf q1₉ q2₉ q3₉) (h0 : 0 < hs) : CI E M_X10_undo 16 [vr E 0] N σ (fun y₉ σ' => y₉ = (hs - 1) ∧ clS E σ' (yr 0) (yw 0) (yk 0) (yp 0) (fun i₉ => yr (i₉ + 1)) (fun i₉ => yw (i₉ + 1)) (fun i₉ => yk (i₉ + 1)) (fun i₉ => yp (i₉ + 1)) (hs - 1) tx tl t₉ xb xn xf q1₉ q2₉ q3₉ ∧ ∀ q₉, 94 ≤ q₉ → σ' q₉ = σ q₉) := by
  refine CT.of2 (own := RX10) (by decide) rfl (Nat.le_of_ble_eq_true rfl) ?_
  intro p e R s m args below meth c Q hF hr hlk hnm hz hR hQ
  obtain ⟨z0, z1, ⟨a1₉, a2, a3, a4, z2⟩, zh, z13₉, zrd, ⟨sg, vl, mt₉, lw, ll, la, sz₉, lk₉, chs, lps, dp, ln, zp, hT₉⟩, zfo, zex, ⟨b1, b2, z99⟩, ⟨d1₉, d2₉, d3₉, d4₉, d5₉, z100⟩⟩ := hS₉
  obtain ⟨⟨hrw, hu, hkd, hpr⟩, hhs, hyy, htl, htx, hxb, hxn, hxf, hq1, hq2, hq3, hwf, hdp3, hl80, hl24⟩ := hO
  have eg := en_rg hrw.1
  obtain ⟨-, -, hpa0, htl9, htk9, hch9, hlp9, hdp9, hln9, ho⟩ := hT₉
  have hT₉ : prT t₉ sg vl mt₉ lw ll la sz₉ lk₉ chs lps dp ln := ⟨hwf, hdp3, hpa0, htl9, htk9, hch9, hlp9, hdp9, hln9, ho⟩
  refine go_aload_n (pc := 0) hF dX10_undo_0 0 rfl ?_
  refine go_get (pc := 1) hF fl_X10_22 dX10_undo_1 (by omega) z0 rfl ?_
  refine go_get (pc := 4) hF fl_X10_207 dX10_undo_4 (by omega) zh.cell.choose_spec rfl ?_
  refine go_if_ne (pc := 7) hF 23 dX10_undo_7 (by decide) (by omega) (fun bq7 => ?_) (fun bq7 => ?_)
  · refine go_aload_n (pc := 23) hF dX10_undo_23 0 rfl ?_
    refine go_get (pc := 24) hF fl_X10_22 dX10_undo_24 (by omega) z0 rfl ?_
    refine go_aload_n (pc := 27) hF dX10_undo_27 0 rfl ?_
    refine go_get (pc := 28) hF fl_X10_10 dX10_undo_28 (by omega) z0 rfl ?_
    refine go_callVV (pc := 31) hF [vr E 1] [] mv_X10_210 dX10_undo_31 (by omega) zh.cell.choose_spec (zh.bringBack hN₉ (by omega) z1) rfl rfl (Nat.le_of_ble_eq_true rfl) (by decide) ⟨Nat.zero_le _, Nat.zero_le _⟩ (fun s1₉ h_s1 => ?_)
    obtain ⟨uc_s1, uh_s1, f_s1⟩ := h_s1
    have x_s1 := (f_s1 0 (by omega)).trans z0
    have d_s1 := (f_s1 2 (by omega)).trans z2
    have tx_s1 := (f_s1 13 (by omega)).trans z13₉
    have rd_s1 := zrd.keep (fun jj h1 h2 => f_s1 jj (by omega))
    have fo_s1 := zfo.keep (fun jj h1 h2 => f_s1 jj (by omega))
    have ex_s1 := zex.keep (fun jj h1 h2 => f_s1 jj (by omega))
    have lr_s1 := (f_s1 92 (by omega)).trans z99
    have dr_s1 := (f_s1 93 (by omega)).trans z100
    have pg_s1 := zp.keep (fun jj h1 h2 => f_s1 jj (by omega))
    refine go_aload_n (pc := 34) hF dX10_undo_34 0 rfl ?_
    refine go_get (pc := 35) hF fl_X10_22 dX10_undo_35 (by omega) x_s1 rfl ?_
    refine go_get (pc := 38) hF fl_X10_207 dX10_undo_38 (by omega) uh_s1.cell.choose_spec rfl ?_
    exact go_iretQ hF hr hlk hQ dX10_undo_41 ⟨rfl, ⟨x_s1, uc_s1, ⟨_, _, _, _, d_s1⟩, uh_s1, tx_s1, rd_s1, ⟨sg, vl, mt₉, lw, ll, la, sz₉, lk₉, chs, lps, dp, ln, pg_s1, hT₉⟩, fo_s1, ex_s1, ⟨_, _, lr_s1⟩, ⟨_, _, _, _, _, dr_s1⟩⟩, (fun jj hjj => by rw [f_s1 jj (by omega)])⟩
  · exact absurd bq7 (by omega)
