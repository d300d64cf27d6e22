/-! The reference₉: its cells₉, and what they tell₉. -/
def mOb (E : En) (un sz₉ tl rz hi₉ mi ak rt cn : Int) : va_E := ob 10 [vr E 95, vr E 96, vi un, vr E 97, vr E 98, vr E 99, vr E 100, vi sz₉, vr E 101, vi tl, vr E 102, vi rz, vr E 103, vr E 104, vr E 105, vr E 106, vr E 107, vr E 108, vr E 109, vr E 110, vr E 111, vr E 112, vr E 113, vr E 114, vr E 115, vr E 116, vr E 117, vr E 118, vr E 119, vi hi₉, vi mi, vi ak, vi rt, vi cn]
def nwOK (g₉ : Int → Int) (r₉ u₉ kd pr : Int) : Prop := g₉ 0 = mLong r₉ ∧ (0 < mLong r₉ → g₉ 1 = mAt r₉ 0) ∧ (1 < mLong r₉ → g₉ 2 = mAt r₉ 1) ∧ (2 < mLong r₉ → g₉ 3 = mAt r₉ 2) ∧ g₉ 4 = u₉ ∧ g₉ 5 = kd ∧ g₉ 6 = pr
theorem nwOK.ext {g₉ g' : Int → Int} {r₉ u₉ kd pr : Int} (h : nwOK g₉ r₉ u₉ kd pr) (he : ∀ k₉ : Int, 0 ≤ k₉ → k₉ < 7 → g' k₉ = g₉ k₉) : nwOK g' r₉ u₉ kd pr := by
  obtain ⟨a0₉, a1₉, a2, a3, a4, a5, a6⟩ := h
  have e0₉ := he 0 (by omega) (by omega)
  have e1₉ := he 1 (by omega) (by omega)
  have e2₉ := he 2 (by omega) (by omega)
  have e3₉ := he 3 (by omega) (by omega)
  have e4₉ := he 4 (by omega) (by omega)
  have e5₉ := he 5 (by omega) (by omega)
  have e6₉ := he 6 (by omega) (by omega)
  refine ⟨?_, fun q₉ => ?_, fun q₉ => ?_, fun q₉ => ?_, ?_, ?_, ?_⟩
  · rw [e0₉]; exact a0₉
  · rw [e1₉]; exact a1₉ q₉
  · rw [e2₉]; exact a2 q₉
  · rw [e3₉]; exact a3 q₉
  · rw [e4₉]; exact a4
  · rw [e5₉]; exact a5
  · rw [e6₉]; exact a6
def paOK (pa yr yw yk yp : Int → Int) (hs : Int) : Prop := ∀ i₉ : Int, 0 ≤ i₉ → i₉ < hs → nwOK (fun k₉ => pa (7 * (hs - 1 - i₉) + k₉)) (yr i₉) (yw i₉) (yk i₉) (yp i₉)
theorem mAt0 (r₉ : Int) : mAt r₉ 0 = r₉ % 7 - 1 := by unfold mAt; rw [if_pos rfl]
theorem mAt1 (r₉ : Int) : mAt r₉ 1 = r₉ / 7 % 7 - 1 := by unfold mAt; rw [if_neg (by decide), if_pos rfl]
theorem mAt2 (r₉ : Int) : mAt r₉ 2 = r₉ / 49 % 7 - 1 := by unfold mAt; rw [if_neg (by decide), if_neg (by decide)]
theorem mLong_le (r₉ : Int) : (mLong r₉ ≤ 0 → r₉ ≤ 0) ∧ (mLong r₉ ≤ 1 → r₉ < 7) ∧ (mLong r₉ ≤ 2 → r₉ < 49) := by
  unfold mLong
  refine ⟨fun e => ?_, fun e => ?_, fun e => ?_⟩
  all_goals
    repeat' split at e
    all_goals omega
theorem row_back {r₉ : Int} (h : vrow 3 r₉) : mAt r₉ 0 + 1 + 7 * (mAt r₉ 1 + 1) + 49 * (mAt r₉ 2 + 1) = r₉ ∧ (mLong r₉ ≤ 0 → mAt r₉ 0 = -1) ∧ (mLong r₉ ≤ 1 → mAt r₉ 1 = -1) ∧ (mLong r₉ ≤ 2 → mAt r₉ 2 = -1) := by
  have h0 := mAt0 r₉
  have h1 := mAt1 r₉
  have h2 := mAt2 r₉
  have h3 := mLong_le r₉
  obtain ⟨⟨a1₉, a2⟩, a3, a4, -⟩ := h
  refine ⟨by omega, fun e => ?_, fun e => ?_, fun e => ?_⟩
  · have := h3.1 e; omega
  · have := h3.2.1 e; omega
  · have := h3.2.2 e; omega
/-- one₉ count₉ more₉ -/
def badF (rf : Int → Int) (i₉ : Int) : Int → Int := fun z₉ => wr₉ (up rf i₉ (rf i₉ + 1) z₉)
theorem badF_at (rf : Int → Int) (i₉ : Int) : badF rf i₉ i₉ = wr₉ (rf i₉ + 1) := by unfold badF; rw [up_self]
theorem badF_ne {rf : Int → Int} {i₉ z₉ : Int} (h : z₉ ≠ i₉) (hr : rg (rf z₉)) : badF rf i₉ z₉ = rf z₉ := by unfold badF; rw [up_ne _ _ h]; exact wr_id hr
theorem shift_step {pa g₉ : Int → Int} {j₉ : Nat} (hj : (j₉ : Int) < 49) (h : ∀ z₉ : Int, 0 ≤ z₉ → z₉ < 56 → g₉ z₉ = if z₉ < j₉ then pa (z₉ + 7) else pa z₉) : ∀ z₉ : Int, 0 ≤ z₉ → z₉ < 56 → up g₉ j₉ (g₉ (j₉ + 7)) z₉ = if z₉ < ((j₉ + 1 : Nat) : Int) then pa (z₉ + 7) else pa z₉ := by
  intro z₉ z0 z1
  by_cases e : z₉ = j₉
  · subst e
    rw [up_self, h _ (by omega) (by omega), if_neg (by omega), if_pos (by omega)]
  · rw [up_ne _ _ e, h z₉ z0 z1]
    by_cases e2₉ : z₉ < j₉
    · rw [if_pos e2₉, if_pos (by omega)]
    · rw [if_neg e2₉, if_neg (by omega)]
theorem copy_step {f₉ g1 g₉ : Int → Int} {b₉ : Int} {j₉ : Nat} {n₉ : Int} (h : ∀ z₉ : Int, 0 ≤ z₉ → z₉ < n₉ → g₉ z₉ = if b₉ ≤ z₉ ∧ z₉ < b₉ + j₉ then f₉ (z₉ - b₉) else g1 z₉) : ∀ z₉ : Int, 0 ≤ z₉ → z₉ < n₉ → up g₉ (b₉ + j₉) (f₉ j₉) z₉ = if b₉ ≤ z₉ ∧ z₉ < b₉ + ((j₉ + 1 : Nat) : Int) then f₉ (z₉ - b₉) else g1 z₉ := by
  intro z₉ z0 z1
  by_cases e : z₉ = b₉ + j₉
  · subst e
    rw [up_self, if_pos (by omega), show b₉ + (j₉ : Int) - b₉ = j₉ by omega]
  · rw [up_ne _ _ e, h z₉ z0 z1]
    by_cases e2₉ : b₉ ≤ z₉ ∧ z₉ < b₉ + j₉
    · rw [if_pos e2₉, if_pos (by omega)]
    · rw [if_neg e2₉, if_neg (by omega)]
theorem keep_pa {pa g1 g2 nw yr yw yk yp : Int → Int} {un dl r₉ u₉ kd pr : Int} (hun : 0 ≤ un ∧ un ≤ 7) (hp : paOK pa yr yw yk yp (un + dl)) (hn : nwOK nw r₉ u₉ kd pr) (hd₉ : 0 ≤ dl ∧ dl ≤ 1) (h1 : ∀ z₉ : Int, 0 ≤ z₉ → z₉ < 7 * un → g1 z₉ = pa (z₉ + 7 * dl)) (h2 : ∀ z₉ : Int, 0 ≤ z₉ → z₉ < 56 → g2 z₉ = if 7 * un ≤ z₉ ∧ z₉ < 7 * un + ((7 : Nat) : Int) then nw (z₉ - 7 * un) else g1 z₉) : paOK g2 (psh yr r₉) (psh yw u₉) (psh yk kd) (psh yp pr) (un + 1) := by
  intro i₉ i0₉ i1₉
  unfold psh
  by_cases e : i₉ = 0
  · rw [if_pos e, if_pos e, if_pos e, if_pos e]
    refine hn.ext (fun k₉ k0₉ k1₉ => ?_)
    show g2 (7 * (un + 1 - 1 - i₉) + k₉) = nw k₉
    rw [h2 _ (by omega) (by omega), if_pos (by omega), show 7 * (un + 1 - 1 - i₉) + k₉ - 7 * un = k₉ by omega]
  · rw [if_neg e, if_neg e, if_neg e, if_neg e]
    refine (hp (i₉ - 1) (by omega) (by omega)).ext (fun k₉ k0₉ k1₉ => ?_)
    show g2 (7 * (un + 1 - 1 - i₉) + k₉) = pa (7 * (un + dl - 1 - (i₉ - 1)) + k₉)
    rw [h2 _ (by omega) (by omega), if_neg (by omega), h1 _ (by omega) (by omega), show 7 * (un + 1 - 1 - i₉) + k₉ + 7 * dl = 7 * (un + dl - 1 - (i₉ - 1)) + k₉ by omega]
theorem undo_pa {pa yr yw yk yp : Int → Int} {hs : Int} (hp : paOK pa yr yw yk yp hs) (h0 : 0 < hs) : paOK pa (fun i₉ => yr (i₉ + 1)) (fun i₉ => yw (i₉ + 1)) (fun i₉ => yk (i₉ + 1)) (fun i₉ => yp (i₉ + 1)) (hs - 1) := by
  intro i₉ i0₉ i1₉
  refine (hp (i₉ + 1) (by omega) (by omega)).ext (fun k₉ k0₉ k1₉ => ?_)
  show pa (7 * (hs - 1 - 1 - i₉) + k₉) = pa (7 * (hs - 1 - (i₉ + 1)) + k₉)
  rw [show 7 * (hs - 1 - 1 - i₉) + k₉ = 7 * (hs - 1 - (i₉ + 1)) + k₉ by omega]

set_option maxHeartbeats 4000000 in
set_option maxRecDepth 100000 in
theorem c_X11_bad (E : En) (N : Nat) (σ : Nat → va_E) {un sz₉ tl rz hi₉ mi ak rt cn : Int} {rf : Int → Int} (hN₉ : 120 ≤ N) (z101 : σ 94 = mOb E un sz₉ tl rz hi₉ mi ak rt cn) (z104 : σ 97 = ai E 3 rf) : CI E M_X11_bad 1 [vr E 94] N σ (fun y₉ σ' => y₉ = -2 ∧ σ' 97 = ai E 3 (badF rf 0) ∧ ∀ q₉, q₉ ≠ 97 → σ' q₉ = σ q₉) := by
  refine CT.of2 (own := RX11) (by decide) rfl (Nat.le_of_ble_eq_true rfl) ?_
  intro p e R s m args below meth c Q hF hr hlk hnm hz hR hQ
  refine go_aload_n (pc := 0) hF dX11_bad_0 0 rfl ?_
  refine go_get (pc := 1) hF fl_X11_16 dX11_bad_1 (by omega) z101 rfl ?_
  refine go_iconst (pc := 4) hF dX11_bad_4 ?_
  refine go_dup2 (pc := 5) hF dX11_bad_5 rfl rfl ?_
  refine go_iald (pc := 6) hF dX11_bad_6 (by omega) z104 (by omega)  ?_
  refine go_iconst (pc := 7) hF dX11_bad_7 ?_
  refine go_iadd (pc := 8) hF dX11_bad_8 ?_
  refine go_iast (pc := 9) hF dX11_bad_9 (by omega) z104 (by omega) (fun s1₉ u_s1 f_s1 => ?_)
  have x_s1 := (f_s1 94 (by omega)).trans z101
  refine go_bipush (pc := 10) hF dX11_bad_10 (by decide) ?_
  exact go_iretQ hF hr hlk hQ dX11_bad_12 ⟨rfl, u_s1.trans (ai_wr E 3 _).symm, (fun jj hjj => by rw [f_s1 jj (by omega)])⟩
set_option maxHeartbeats 4000000 in
set_option maxRecDepth 100000 in
theorem c_X11_no (E : En) (N : Nat) (σ : Nat → va_E) {un sz₉ tl rz hi₉ mi ak rt cn : Int} {rf : Int → Int} (hN₉ : 120 ≤ N) (z101 : σ 94 = mOb E un sz₉ tl rz hi₉ mi ak rt cn) (z104 : σ 97 = ai E 3 rf) : CI E M_X11_no 1 [vr E 94] N σ (fun y₉ σ' => y₉ = -3 ∧ σ' 97 = ai E 3 (badF rf 1) ∧ ∀ q₉, q₉ ≠ 97 → σ' q₉ = σ q₉) := by
  refine CT.of2 (own := RX11) (by decide) rfl (Nat.le_of_ble_eq_true rfl) ?_
  intro p e R s m args below meth c Q hF hr hlk hnm hz hR hQ
  refine go_aload_n (pc := 0) hF dX11_no_0 0 rfl ?_
  refine go_get (pc := 1) hF fl_X11_16 dX11_no_1 (by omega) z101 rfl ?_
  refine go_iconst (pc := 4) hF dX11_no_4 ?_
  refine go_dup2 (pc := 5) hF dX11_no_5 rfl rfl ?_
  refine go_iald (pc := 6) hF dX11_no_6 (by omega) z104 (by omega)  ?_
  refine go_iconst (pc := 7) hF dX11_no_7 ?_
  refine go_iadd (pc := 8) hF dX11_no_8 ?_
  refine go_iast (pc := 9) hF dX11_no_9 (by omega) z104 (by omega) (fun s1₉ u_s1 f_s1 => ?_)
  have x_s1 := (f_s1 94 (by omega)).trans z101
  refine go_bipush (pc := 10) hF dX11_no_10 (by decide) ?_
  exact go_iretQ hF hr hlk hQ dX11_no_12 ⟨rfl, u_s1.trans (ai_wr E 3 _).symm, (fun jj hjj => by rw [f_s1 jj (by omega)])⟩
set_option maxHeartbeats 4000000 in
set_option maxRecDepth 100000 in
theorem c_X11_full (E : En) (N : Nat) (σ : Nat → va_E) {un sz₉ tl rz hi₉ mi ak rt cn : Int} {rf : Int → Int} (hN₉ : 120 ≤ N) (z101 : σ 94 = mOb E un sz₉ tl rz hi₉ mi ak rt cn) (z104 : σ 97 = ai E 3 rf) : CI E M_X11_full 1 [vr E 94] N σ (fun y₉ σ' => y₉ = -4 ∧ σ' 97 = ai E 3 (badF rf 2) ∧ ∀ q₉, q₉ ≠ 97 → σ' q₉ = σ q₉) := by
  refine CT.of2 (own := RX11) (by decide) rfl (Nat.le_of_ble_eq_true rfl) ?_
  intro p e R s m args below meth c Q hF hr hlk hnm hz hR hQ
  refine go_aload_n (pc := 0) hF dX11_full_0 0 rfl ?_
  refine go_get (pc := 1) hF fl_X11_16 dX11_full_1 (by omega) z101 rfl ?_
  refine go_iconst (pc := 4) hF dX11_full_4 ?_
  refine go_dup2 (pc := 5) hF dX11_full_5 rfl rfl ?_
  refine go_iald (pc := 6) hF dX11_full_6 (by omega) z104 (by omega)  ?_
  refine go_iconst (pc := 7) hF dX11_full_7 ?_
  refine go_iadd (pc := 8) hF dX11_full_8 ?_
  refine go_iast (pc := 9) hF dX11_full_9 (by omega) z104 (by omega) (fun s1₉ u_s1 f_s1 => ?_)
  have x_s1 := (f_s1 94 (by omega)).trans z101
  refine go_bipush (pc := 10) hF dX11_full_10 (by decide) ?_
  exact go_iretQ hF hr hlk hQ dX11_full_12 ⟨rfl, u_s1.trans (ai_wr E 3 _).symm, (fun jj hjj => by rw [f_s1 jj (by omega)])⟩
set_option maxHeartbeats 4000000 in
set_option maxRecDepth 100000 in
theorem c_X11_rowNow (E : En) (N : Nat) (σ : Nat → va_E) {un sz₉ tl rz hi₉ mi ak rt cn : Int} {nw : Int → Int} {r₉ u₉ kd pr : Int} (hN₉ : 120 ≤ N) (z101 : σ 94 = mOb E un sz₉ tl rz hi₉ mi ak rt cn) (z102 : σ 95 = ai E 7 nw) (hnw : nwOK nw r₉ u₉ kd pr) (hrw : vrow 3 r₉) : CP E M_X11_rowNow 2 [vr E 94] N σ r₉ := by
  refine CT.of2 (own := RX11) (by decide) rfl (Nat.le_of_ble_eq_true rfl) ?_
  intro p e R s m args below meth c Q hF hr hlk hnm hz hR hQ
  obtain ⟨n0₉, n1₉, n2₉, n3₉, n4₉, n5₉, n6₉⟩ := hnw
  have rb := row_back hrw
  have gl := mLong_rg r₉
  refine go_aload_n (pc := 0) hF dX11_rowNow_0 0 rfl ?_
  refine go_get (pc := 1) hF fl_X11_7 dX11_rowNow_1 (by omega) z101 rfl ?_
  refine go_iconst (pc := 4) hF dX11_rowNow_4 ?_
  refine go_iald (pc := 5) hF dX11_rowNow_5 (by omega) z102 (by omega)  ?_
  refine go_if_le (pc := 6) hF 18 dX11_rowNow_6 (by decide) (by omega) (fun bq6 => ?_) (fun bq6 => ?_)
  · refine go_iconst (pc := 18) hF dX11_rowNow_18 ?_
    refine go_aload_n (pc := 19) hF dX11_rowNow_19 0 rfl ?_
    refine go_get (pc := 20) hF fl_X11_7 dX11_rowNow_20 (by omega) z101 rfl ?_
    refine go_iconst (pc := 23) hF dX11_rowNow_23 ?_
    refine go_iald (pc := 24) hF dX11_rowNow_24 (by omega) z102 (by omega)  ?_
    refine go_iconst (pc := 25) hF dX11_rowNow_25 ?_
    refine go_icmp_le (pc := 26) hF 38 dX11_rowNow_26 (by decide) (by omega) ⟨by decide, by decide⟩ (fun bq26 => ?_) (fun bq26 => ?_)
    · refine go_iconst (pc := 38) hF dX11_rowNow_38 ?_
      refine go_aload_n (pc := 39) hF dX11_rowNow_39 0 rfl ?_
      refine go_get (pc := 40) hF fl_X11_7 dX11_rowNow_40 (by omega) z101 rfl ?_
      refine go_iconst (pc := 43) hF dX11_rowNow_43 ?_
      refine go_iald (pc := 44) hF dX11_rowNow_44 (by omega) z102 (by omega)  ?_
      refine go_iconst (pc := 45) hF dX11_rowNow_45 ?_
      refine go_icmp_le (pc := 46) hF 58 dX11_rowNow_46 (by decide) (by omega) ⟨by decide, by decide⟩ (fun bq46 => ?_) (fun bq46 => ?_)
      · refine go_iconst (pc := 58) hF dX11_rowNow_58 ?_
        refine go_callSP (pc := 59) hF [vi (-1), vi (-1), vi (-1)] [] ms_X11_97 dX11_rowNow_59 (c_X11_rowOf E N σ (-1) (-1) (-1) ) rfl rfl (Nat.le_of_ble_eq_true rfl) (by decide) ⟨Nat.zero_le _, Nat.zero_le _⟩ ?_
        exact go_iretQ hF hr hlk hQ dX11_rowNow_62 ⟨by unfold mRowOf; omega, rfl⟩
      · refine go_aload_n (pc := 49) hF dX11_rowNow_49 0 rfl ?_
        refine go_get (pc := 50) hF fl_X11_7 dX11_rowNow_50 (by omega) z101 rfl ?_
        refine go_iconst (pc := 53) hF dX11_rowNow_53 ?_
        refine go_iald (pc := 54) hF dX11_rowNow_54 (by omega) z102 (by omega)  ?_
        refine go_goto (pc := 55) hF 59 dX11_rowNow_55 (by decide) ?_
        refine go_callSP (pc := 59) hF [vi (-1), vi (-1), vi (nw 3)] [] ms_X11_97 dX11_rowNow_59 (c_X11_rowOf E N σ (-1) (-1) (nw 3) ) rfl rfl (Nat.le_of_ble_eq_true rfl) (by decide) ⟨Nat.zero_le _, Nat.zero_le _⟩ ?_
        exact go_iretQ hF hr hlk hQ dX11_rowNow_62 ⟨by unfold mRowOf; omega, rfl⟩
    · refine go_aload_n (pc := 29) hF dX11_rowNow_29 0 rfl ?_
      refine go_get (pc := 30) hF fl_X11_7 dX11_rowNow_30 (by omega) z101 rfl ?_
      refine go_iconst (pc := 33) hF dX11_rowNow_33 ?_
      refine go_iald (pc := 34) hF dX11_rowNow_34 (by omega) z102 (by omega)  ?_
      refine go_goto (pc := 35) hF 39 dX11_rowNow_35 (by decide) ?_
      refine go_aload_n (pc := 39) hF dX11_rowNow_39 0 rfl ?_
      refine go_get (pc := 40) hF fl_X11_7 dX11_rowNow_40 (by omega) z101 rfl ?_
      refine go_iconst (pc := 43) hF dX11_rowNow_43 ?_
      refine go_iald (pc := 44) hF dX11_rowNow_44 (by omega) z102 (by omega)  ?_
      refine go_iconst (pc := 45) hF dX11_rowNow_45 ?_
      refine go_icmp_le (pc := 46) hF 58 dX11_rowNow_46 (by decide) (by omega) ⟨by decide, by decide⟩ (fun bq46 => ?_) (fun bq46 => ?_)
      · refine go_iconst (pc := 58) hF dX11_rowNow_58 ?_
        refine go_callSP (pc := 59) hF [vi (-1), vi (nw 2), vi (-1)] [] ms_X11_97 dX11_rowNow_59 (c_X11_rowOf E N σ (-1) (nw 2) (-1) ) rfl rfl (Nat.le_of_ble_eq_true rfl) (by decide) ⟨Nat.zero_le _, Nat.zero_le _⟩ ?_
        exact go_iretQ hF hr hlk hQ dX11_rowNow_62 ⟨by unfold mRowOf; omega, rfl⟩
      · refine go_aload_n (pc := 49) hF dX11_rowNow_49 0 rfl ?_
        refine go_get (pc := 50) hF fl_X11_7 dX11_rowNow_50 (by omega) z101 rfl ?_
        refine go_iconst (pc := 53) hF dX11_rowNow_53 ?_
        refine go_iald (pc := 54) hF dX11_rowNow_54 (by omega) z102 (by omega)  ?_
        refine go_goto (pc := 55) hF 59 dX11_rowNow_55 (by decide) ?_
        refine go_callSP (pc := 59) hF [vi (-1), vi (nw 2), vi (nw 3)] [] ms_X11_97 dX11_rowNow_59 (c_X11_rowOf E N σ (-1) (nw 2) (nw 3) ) rfl rfl (Nat.le_of_ble_eq_true rfl) (by decide) ⟨Nat.zero_le _, Nat.zero_le _⟩ ?_
        exact go_iretQ hF hr hlk hQ dX11_rowNow_62 ⟨by unfold mRowOf; omega, rfl⟩
  · refine go_aload_n (pc := 9) hF dX11_rowNow_9 0 rfl ?_
    refine go_get (pc := 10) hF fl_X11_7 dX11_rowNow_10 (by omega) z101 rfl ?_
    refine go_iconst (pc := 13) hF dX11_rowNow_13 ?_
    refine go_iald (pc := 14) hF dX11_rowNow_14 (by omega) z102 (by omega)  ?_
    refine go_goto (pc := 15) hF 19 dX11_rowNow_15 (by decide) ?_
    refine go_aload_n (pc := 19) hF dX11_rowNow_19 0 rfl ?_
    refine go_get (pc := 20) hF fl_X11_7 dX11_rowNow_20 (by omega) z101 rfl ?_
    refine go_iconst (pc := 23) hF dX11_rowNow_23 ?_
    refine go_iald (pc := 24) hF dX11_rowNow_24 (by omega) z102 (by omega)  ?_
    refine go_iconst (pc := 25) hF dX11_rowNow_25 ?_
    refine go_icmp_le (pc := 26) hF 38 dX11_rowNow_26 (by decide) (by omega) ⟨by decide, by decide⟩ (fun bq26 => ?_) (fun bq26 => ?_)
    · refine go_iconst (pc := 38) hF dX11_rowNow_38 ?_
      refine go_aload_n (pc := 39) hF dX11_rowNow_39 0 rfl ?_
      refine go_get (pc := 40) hF fl_X11_7 dX11_rowNow_40 (by omega) z101 rfl ?_
      refine go_iconst (pc := 43) hF dX11_rowNow_43 ?_
      refine go_iald (pc := 44) hF dX11_rowNow_44 (by omega) z102 (by omega)  ?_
      refine go_iconst (pc := 45) hF dX11_rowNow_45 ?_
      refine go_icmp_le (pc := 46) hF 58 dX11_rowNow_46 (by decide) (by omega) ⟨by decide, by decide⟩ (fun bq46 => ?_) (fun bq46 => ?_)
      · refine go_iconst (pc := 58) hF dX11_rowNow_58 ?_
        refine go_callSP (pc := 59) hF [vi (nw 1), vi (-1), vi (-1)] [] ms_X11_97 dX11_rowNow_59 (c_X11_rowOf E N σ (nw 1) (-1) (-1) ) rfl rfl (Nat.le_of_ble_eq_true rfl) (by decide) ⟨Nat.zero_le _, Nat.zero_le _⟩ ?_
        exact go_iretQ hF hr hlk hQ dX11_rowNow_62 ⟨by unfold mRowOf; omega, rfl⟩
      · refine go_aload_n (pc := 49) hF dX11_rowNow_49 0 rfl ?_
        refine go_get (pc := 50) hF fl_X11_7 dX11_rowNow_50 (by omega) z101 rfl ?_
        refine go_iconst (pc := 53) hF dX11_rowNow_53 ?_
        refine go_iald (pc := 54) hF dX11_rowNow_54 (by omega) z102 (by omega)  ?_
        refine go_goto (pc := 55) hF 59 dX11_rowNow_55 (by decide) ?_
        refine go_callSP (pc := 59) hF [vi (nw 1), vi (-1), vi (nw 3)] [] ms_X11_97 dX11_rowNow_59 (c_X11_rowOf E N σ (nw 1) (-1) (nw 3) ) rfl rfl (Nat.le_of_ble_eq_true rfl) (by decide) ⟨Nat.zero_le _, Nat.zero_le _⟩ ?_
        exact go_iretQ hF hr hlk hQ dX11_rowNow_62 ⟨by unfold mRowOf; omega, rfl⟩
    · refine go_aload_n (pc := 29) hF dX11_rowNow_29 0 rfl ?_
      refine go_get (pc := 30) hF fl_X11_7 dX11_rowNow_30 (by omega) z101 rfl ?_
      refine go_iconst (pc := 33) hF dX11_rowNow_33 ?_
      refine go_iald (pc := 34) hF dX11_rowNow_34 (by omega) z102 (by omega)  ?_
      refine go_goto (pc := 35) hF 39 dX11_rowNow_35 (by decide) ?_
      refine go_aload_n (pc := 39) hF dX11_rowNow_39 0 rfl ?_
      refine go_get (pc := 40) hF fl_X11_7 dX11_rowNow_40 (by omega) z101 rfl ?_
      refine go_iconst (pc := 43) hF dX11_rowNow_43 ?_
      refine go_iald (pc := 44) hF dX11_rowNow_44 (by omega) z102 (by omega)  ?_
      refine go_iconst (pc := 45) hF dX11_rowNow_45 ?_
      refine go_icmp_le (pc := 46) hF 58 dX11_rowNow_46 (by decide) (by omega) ⟨by decide, by decide⟩ (fun bq46 => ?_) (fun bq46 => ?_)
      · refine go_iconst (pc := 58) hF dX11_rowNow_58 ?_
        refine go_callSP (pc := 59) hF [vi (nw 1), vi (nw 2), vi (-1)] [] ms_X11_97 dX11_rowNow_59 (c_X11_rowOf E N σ (nw 1) (nw 2) (-1) ) rfl rfl (Nat.le_of_ble_eq_true rfl) (by decide) ⟨Nat.zero_le _, Nat.zero_le _⟩ ?_
        exact go_iretQ hF hr hlk hQ dX11_rowNow_62 ⟨by unfold mRowOf; omega, rfl⟩
      · refine go_aload_n (pc := 49) hF dX11_rowNow_49 0 rfl ?_
        refine go_get (pc := 50) hF fl_X11_7 dX11_rowNow_50 (by omega) z101 rfl ?_
        refine go_iconst (pc := 53) hF dX11_rowNow_53 ?_
        refine go_iald (pc := 54) hF dX11_rowNow_54 (by omega) z102 (by omega)  ?_
        refine go_goto (pc := 55) hF 59 dX11_rowNow_55 (by decide) ?_
        refine go_callSP (pc := 59) hF [vi (nw 1), vi (nw 2), vi (nw 3)] [] ms_X11_97 dX11_rowNow_59 (c_X11_rowOf E N σ (nw 1) (nw 2) (nw 3) ) rfl rfl (Nat.le_of_ble_eq_true rfl) (by decide) ⟨Nat.zero_le _, Nat.zero_le _⟩ ?_
        exact go_iretQ hF hr hlk hQ dX11_rowNow_62 ⟨by unfold mRowOf; omega, rfl⟩
set_option maxHeartbeats 4000000 in
set_option maxRecDepth 100000 in
theorem c_X11_layRow (E : En) (N : Nat) (σ : Nat → va_E) {un sz₉ tl rz hi₉ mi ak rt cn : Int} {nw : Int → Int} (hN₉ : 120 ≤ N) (z101 : σ 94 = mOb E un sz₉ tl rz hi₉ mi ak rt cn) (z102 : σ 95 = ai E 7 nw) (row₉ : Int) (hrow : 0 ≤ row₉ ∧ row₉ < 343) : CV E M_X11_layRow 2 [vr E 94, vi row₉] N σ (fun σ' => ∃ nw', σ' 95 = ai E 7 nw' ∧ nwOK nw' row₉ (nw 4) (nw 5) (nw 6) ∧ ∀ q₉, q₉ ≠ 95 → σ' q₉ = σ q₉) := by
  refine CT.of2 (own := RX11) (by decide) rfl (Nat.le_of_ble_eq_true rfl) ?_
  intro p e R s m args below meth c Q hF hr hlk hnm hz hR hQ
  have gl := mLong_rg row₉
  refine go_aload_n (pc := 0) hF dX11_layRow_0 0 rfl ?_
  refine go_get (pc := 1) hF fl_X11_7 dX11_layRow_1 (by omega) z101 rfl ?_
  refine go_iconst (pc := 4) hF dX11_layRow_4 ?_
  refine go_iload_n (pc := 5) hF dX11_layRow_5 1 rfl ?_
  refine go_callSP (pc := 6) hF [vi row₉] [vi 0, vr E 95] ms_X11_110 dX11_layRow_6 (c_X11_longOf E N σ row₉ (by omega)) rfl rfl (Nat.le_of_ble_eq_true rfl) (by decide) ⟨Nat.zero_le _, Nat.zero_le _⟩ ?_
  refine go_iast (pc := 9) hF dX11_layRow_9 (by omega) z102 (by omega) (fun s1₉ u_s1 f_s1 => ?_)
  have x_s1 := (f_s1 94 (by omega)).trans z101
  refine go_iconst (pc := 10) hF dX11_layRow_10 ?_
  refine go_istore_n (pc := 11) hF [(2, vi 0), (0, vr E 94), (1, vi row₉)] dX11_layRow_11 rfl (by decide) ?_
  refine go_iload_n (pc := 12) hF dX11_layRow_12 0 rfl ?_
  refine go_iconst (pc := 13) hF dX11_layRow_13 ?_
  refine go_icmp_ge (pc := 14) hF 50 dX11_layRow_14 (by decide) ⟨by decide, by decide⟩ ⟨by decide, by decide⟩ (fun bq14 => ?_) (fun bq14 => ?_)
  · exact absurd bq14 (by decide)
  · refine go_aload_n (pc := 17) hF dX11_layRow_17 1 rfl ?_
    refine go_get (pc := 18) hF fl_X11_7 dX11_layRow_18 (by omega) x_s1 rfl ?_
    refine go_iconst (pc := 21) hF dX11_layRow_21 ?_
    refine go_iload_n (pc := 22) hF dX11_layRow_22 0 rfl ?_
    refine go_iadd (pc := 23) hF dX11_layRow_23 ?_
    refine go_iload_n (pc := 24) hF dX11_layRow_24 0 rfl ?_
    refine go_aload_n (pc := 25) hF dX11_layRow_25 1 rfl ?_
    refine go_get (pc := 26) hF fl_X11_7 dX11_layRow_26 (by omega) x_s1 rfl ?_
    refine go_iconst (pc := 29) hF dX11_layRow_29 ?_
    refine go_iald (pc := 30) hF dX11_layRow_30 (by omega) u_s1 (by omega)  ?_
    rw [up_self]
    refine go_icmp_ge (pc := 31) hF 42 dX11_layRow_31 (by decide) ⟨by decide, by decide⟩ (by omega) (fun bq31 => ?_) (fun bq31 => ?_)
    · refine go_iconst (pc := 42) hF dX11_layRow_42 ?_
      refine go_iast (pc := 43) hF dX11_layRow_43 (by omega) u_s1 (by omega) (fun s2₉ u_s2 f_s2 => ?_)
      have x_s2 := (f_s2 94 (by omega)).trans x_s1
      refine go_iinc (pc := 44) hF [(2, vi 1), (0, vr E 94), (1, vi row₉)] dX11_layRow_44 0 rfl rfl (by decide) ?_
      refine go_goto (pc := 47) hF 12 dX11_layRow_47 (by decide) ?_
      refine go_iload_n (pc := 12) hF dX11_layRow_12 0 rfl ?_
      refine go_iconst (pc := 13) hF dX11_layRow_13 ?_
      refine go_icmp_ge (pc := 14) hF 50 dX11_layRow_14 (by decide) ⟨by decide, by decide⟩ ⟨by decide, by decide⟩ (fun bq14 => ?_) (fun bq14 => ?_)
      · exact absurd bq14 (by decide)
      · refine go_aload_n (pc := 17) hF dX11_layRow_17 1 rfl ?_
        refine go_get (pc := 18) hF fl_X11_7 dX11_layRow_18 (by omega) x_s2 rfl ?_
        refine go_iconst (pc := 21) hF dX11_layRow_21 ?_
        refine go_iload_n (pc := 22) hF dX11_layRow_22 0 rfl ?_
        refine go_iadd (pc := 23) hF dX11_layRow_23 ?_
        refine go_iload_n (pc := 24) hF dX11_layRow_24 0 rfl ?_
        refine go_aload_n (pc := 25) hF dX11_layRow_25 1 rfl ?_
        refine go_get (pc := 26) hF fl_X11_7 dX11_layRow_26 (by omega) x_s2 rfl ?_
        refine go_iconst (pc := 29) hF dX11_layRow_29 ?_
        refine go_iald (pc := 30) hF dX11_layRow_30 (by omega) u_s2 (by omega)  ?_
        rw [up_ne _ _ (by decide)]
        rw [up_self]
        refine go_icmp_ge (pc := 31) hF 42 dX11_layRow_31 (by decide) ⟨by decide, by decide⟩ (by omega) (fun bq31 => ?_) (fun bq31 => ?_)
        · refine go_iconst (pc := 42) hF dX11_layRow_42 ?_
          refine go_iast (pc := 43) hF dX11_layRow_43 (by omega) u_s2 (by omega) (fun s3₉ u_s3 f_s3 => ?_)
          have x_s3 := (f_s3 94 (by omega)).trans x_s2
          refine go_iinc (pc := 44) hF [(2, vi 2), (0, vr E 94), (1, vi row₉)] dX11_layRow_44 0 rfl rfl (by decide) ?_
          refine go_goto (pc := 47) hF 12 dX11_layRow_47 (by decide) ?_
          refine go_iload_n (pc := 12) hF dX11_layRow_12 0 rfl ?_
          refine go_iconst (pc := 13) hF dX11_layRow_13 ?_
          refine go_icmp_ge (pc := 14) hF 50 dX11_layRow_14 (by decide) ⟨by decide, by decide⟩ ⟨by decide, by decide⟩ (fun bq14 => ?_) (fun bq14 => ?_)
          · exact absurd bq14 (by decide)
          · refine go_aload_n (pc := 17) hF dX11_layRow_17 1 rfl ?_
            refine go_get (pc := 18) hF fl_X11_7 dX11_layRow_18 (by omega) x_s3 rfl ?_
            refine go_iconst (pc := 21) hF dX11_layRow_21 ?_
            refine go_iload_n (pc := 22) hF dX11_layRow_22 0 rfl ?_
            refine go_iadd (pc := 23) hF dX11_layRow_23 ?_
            refine go_iload_n (pc := 24) hF dX11_layRow_24 0 rfl ?_
            refine go_aload_n (pc := 25) hF dX11_layRow_25 1 rfl ?_
            refine go_get (pc := 26) hF fl_X11_7 dX11_layRow_26 (by omega) x_s3 rfl ?_
            refine go_iconst (pc := 29) hF dX11_layRow_29 ?_
            refine go_iald (pc := 30) hF dX11_layRow_30 (by omega) u_s3 (by omega)  ?_
            rw [up_ne _ _ (by decide)]
            rw [up_ne _ _ (by decide)]
            rw [up_self]
            refine go_icmp_ge (pc := 31) hF 42 dX11_layRow_31 (by decide) ⟨by decide, by decide⟩ (by omega) (fun bq31 => ?_) (fun bq31 => ?_)
            · refine go_iconst (pc := 42) hF dX11_layRow_42 ?_
              refine go_iast (pc := 43) hF dX11_layRow_43 (by omega) u_s3 (by omega) (fun s4₉ u_s4 f_s4 => ?_)
              have x_s4 := (f_s4 94 (by omega)).trans x_s3
              refine go_iinc (pc := 44) hF [(2, vi 3), (0, vr E 94), (1, vi row₉)] dX11_layRow_44 0 rfl rfl (by decide) ?_
              refine go_goto (pc := 47) hF 12 dX11_layRow_47 (by decide) ?_
              refine go_iload_n (pc := 12) hF dX11_layRow_12 0 rfl ?_
              refine go_iconst (pc := 13) hF dX11_layRow_13 ?_
              refine go_icmp_ge (pc := 14) hF 50 dX11_layRow_14 (by decide) ⟨by decide, by decide⟩ ⟨by decide, by decide⟩ (fun bq14 => ?_) (fun bq14 => ?_)
              · refine go_vretQ hF hr hlk hQ dX11_layRow_50 ⟨_, u_s4, ⟨?_, fun q₉ => ?_, fun q₉ => ?_, fun q₉ => ?_, ?_, ?_, ?_⟩, (fun jj hjj => by rw [f_s4 jj (by omega), f_s3 jj (by omega), f_s2 jj (by omega), f_s1 jj (by omega)])⟩
                all_goals
                  repeat (first | rw [up_self] | rw [up_ne _ _ (by decide)])
                  try omega
              · exact absurd bq14 (by decide)
            · refine go_iload_n (pc := 34) hF dX11_layRow_34 2 rfl ?_
              refine go_iload_n (pc := 35) hF dX11_layRow_35 0 rfl ?_
              refine go_callSP (pc := 36) hF [vi row₉, vi 2] [vi 3, vr E 95] ms_X11_93 dX11_layRow_36 (c_X11_at E N s3₉ row₉ 2 (by omega) (by first | omega | (constructor <;> decide))) rfl rfl (Nat.le_of_ble_eq_true rfl) (by decide) ⟨Nat.zero_le _, Nat.zero_le _⟩ ?_
              refine go_goto (pc := 39) hF 43 dX11_layRow_39 (by decide) ?_
              refine go_iast (pc := 43) hF dX11_layRow_43 (by omega) u_s3 (by omega) (fun s5 u_s5 f_s5 => ?_)
              have x_s5 := (f_s5 94 (by omega)).trans x_s3
              refine go_iinc (pc := 44) hF [(2, vi 3), (0, vr E 94), (1, vi row₉)] dX11_layRow_44 0 rfl rfl (by decide) ?_
              refine go_goto (pc := 47) hF 12 dX11_layRow_47 (by decide) ?_
              refine go_iload_n (pc := 12) hF dX11_layRow_12 0 rfl ?_
              refine go_iconst (pc := 13) hF dX11_layRow_13 ?_
              refine go_icmp_ge (pc := 14) hF 50 dX11_layRow_14 (by decide) ⟨by decide, by decide⟩ ⟨by decide, by decide⟩ (fun bq14 => ?_) (fun bq14 => ?_)
              · refine go_vretQ hF hr hlk hQ dX11_layRow_50 ⟨_, u_s5, ⟨?_, fun q₉ => ?_, fun q₉ => ?_, fun q₉ => ?_, ?_, ?_, ?_⟩, (fun jj hjj => by rw [f_s5 jj (by omega), f_s3 jj (by omega), f_s2 jj (by omega), f_s1 jj (by omega)])⟩
                all_goals
                  repeat (first | rw [up_self] | rw [up_ne _ _ (by decide)])
                  try omega
              · exact absurd bq14 (by decide)
        · refine go_iload_n (pc := 34) hF dX11_layRow_34 2 rfl ?_
          refine go_iload_n (pc := 35) hF dX11_layRow_35 0 rfl ?_
          refine go_callSP (pc := 36) hF [vi row₉, vi 1] [vi 2, vr E 95] ms_X11_93 dX11_layRow_36 (c_X11_at E N s2₉ row₉ 1 (by omega) (by first | omega | (constructor <;> decide))) rfl rfl (Nat.le_of_ble_eq_true rfl) (by decide) ⟨Nat.zero_le _, Nat.zero_le _⟩ ?_
          refine go_goto (pc := 39) hF 43 dX11_layRow_39 (by decide) ?_
          refine go_iast (pc := 43) hF dX11_layRow_43 (by omega) u_s2 (by omega) (fun s6₉ u_s6 f_s6 => ?_)
          have x_s6 := (f_s6 94 (by omega)).trans x_s2
          refine go_iinc (pc := 44) hF [(2, vi 2), (0, vr E 94), (1, vi row₉)] dX11_layRow_44 0 rfl rfl (by decide) ?_
          refine go_goto (pc := 47) hF 12 dX11_layRow_47 (by decide) ?_
          refine go_iload_n (pc := 12) hF dX11_layRow_12 0 rfl ?_
          refine go_iconst (pc := 13) hF dX11_layRow_13 ?_
          refine go_icmp_ge (pc := 14) hF 50 dX11_layRow_14 (by decide) ⟨by decide, by decide⟩ ⟨by decide, by decide⟩ (fun bq14 => ?_) (fun bq14 => ?_)
          · exact absurd bq14 (by decide)
          · refine go_aload_n (pc := 17) hF dX11_layRow_17 1 rfl ?_
            refine go_get (pc := 18) hF fl_X11_7 dX11_layRow_18 (by omega) x_s6 rfl ?_
            refine go_iconst (pc := 21) hF dX11_layRow_21 ?_
            refine go_iload_n (pc := 22) hF dX11_layRow_22 0 rfl ?_
            refine go_iadd (pc := 23) hF dX11_layRow_23 ?_
            refine go_iload_n (pc := 24) hF dX11_layRow_24 0 rfl ?_
            refine go_aload_n (pc := 25) hF dX11_layRow_25 1 rfl ?_
            refine go_get (pc := 26) hF fl_X11_7 dX11_layRow_26 (by omega) x_s6 rfl ?_
            refine go_iconst (pc := 29) hF dX11_layRow_29 ?_
            refine go_iald (pc := 30) hF dX11_layRow_30 (by omega) u_s6 (by omega)  ?_
            rw [up_ne _ _ (by decide)]
            rw [up_ne _ _ (by decide)]
            rw [up_self]
            refine go_icmp_ge (pc := 31) hF 42 dX11_layRow_31 (by decide) ⟨by decide, by decide⟩ (by omega) (fun bq31 => ?_) (fun bq31 => ?_)
            · refine go_iconst (pc := 42) hF dX11_layRow_42 ?_
              refine go_iast (pc := 43) hF dX11_layRow_43 (by omega) u_s6 (by omega) (fun s7 u_s7 f_s7 => ?_)
              have x_s7 := (f_s7 94 (by omega)).trans x_s6
              refine go_iinc (pc := 44) hF [(2, vi 3), (0, vr E 94), (1, vi row₉)] dX11_layRow_44 0 rfl rfl (by decide) ?_
              refine go_goto (pc := 47) hF 12 dX11_layRow_47 (by decide) ?_
              refine go_iload_n (pc := 12) hF dX11_layRow_12 0 rfl ?_
              refine go_iconst (pc := 13) hF dX11_layRow_13 ?_
              refine go_icmp_ge (pc := 14) hF 50 dX11_layRow_14 (by decide) ⟨by decide, by decide⟩ ⟨by decide, by decide⟩ (fun bq14 => ?_) (fun bq14 => ?_)
              · refine go_vretQ hF hr hlk hQ dX11_layRow_50 ⟨_, u_s7, ⟨?_, fun q₉ => ?_, fun q₉ => ?_, fun q₉ => ?_, ?_, ?_, ?_⟩, (fun jj hjj => by rw [f_s7 jj (by omega), f_s6 jj (by omega), f_s2 jj (by omega), f_s1 jj (by omega)])⟩
                all_goals
                  repeat (first | rw [up_self] | rw [up_ne _ _ (by decide)])
                  try omega
              · exact absurd bq14 (by decide)
            · refine go_iload_n (pc := 34) hF dX11_layRow_34 2 rfl ?_
              refine go_iload_n (pc := 35) hF dX11_layRow_35 0 rfl ?_
              refine go_callSP (pc := 36) hF [vi row₉, vi 2] [vi 3, vr E 95] ms_X11_93 dX11_layRow_36 (c_X11_at E N s6₉ row₉ 2 (by omega) (by first | omega | (constructor <;> decide))) rfl rfl (Nat.le_of_ble_eq_true rfl) (by decide) ⟨Nat.zero_le _, Nat.zero_le _⟩ ?_
              refine go_goto (pc := 39) hF 43 dX11_layRow_39 (by decide) ?_
              refine go_iast (pc := 43) hF dX11_layRow_43 (by omega) u_s6 (by omega) (fun s8 u_s8 f_s8 => ?_)
              have x_s8 := (f_s8 94 (by omega)).trans x_s6
              refine go_iinc (pc := 44) hF [(2, vi 3), (0, vr E 94), (1, vi row₉)] dX11_layRow_44 0 rfl rfl (by decide) ?_
              refine go_goto (pc := 47) hF 12 dX11_layRow_47 (by decide) ?_
              refine go_iload_n (pc := 12) hF dX11_layRow_12 0 rfl ?_
              refine go_iconst (pc := 13) hF dX11_layRow_13 ?_
              refine go_icmp_ge (pc := 14) hF 50 dX11_layRow_14 (by decide) ⟨by decide, by decide⟩ ⟨by decide, by decide⟩ (fun bq14 => ?_) (fun bq14 => ?_)
              · refine go_vretQ hF hr hlk hQ dX11_layRow_50 ⟨_, u_s8, ⟨?_, fun q₉ => ?_, fun q₉ => ?_, fun q₉ => ?_, ?_, ?_, ?_⟩, (fun jj hjj => by rw [f_s8 jj (by omega), f_s6 jj (by omega), f_s2 jj (by omega), f_s1 jj (by omega)])⟩
                all_goals
                  repeat (first | rw [up_self] | rw [up_ne _ _ (by decide)])
                  try omega
              · exact absurd bq14 (by decide)
    · refine go_iload_n (pc := 34) hF dX11_layRow_34 2 rfl ?_
      refine go_iload_n (pc := 35) hF dX11_layRow_35 0 rfl ?_
      refine go_callSP (pc := 36) hF [vi row₉, vi 0] [vi 1, vr E 95] ms_X11_93 dX11_layRow_36 (c_X11_at E N s1₉ row₉ 0 (by omega) (by first | omega | (constructor <;> decide))) rfl rfl (Nat.le_of_ble_eq_true rfl) (by decide) ⟨Nat.zero_le _, Nat.zero_le _⟩ ?_
      refine go_goto (pc := 39) hF 43 dX11_layRow_39 (by decide) ?_
      refine go_iast (pc := 43) hF dX11_layRow_43 (by omega) u_s1 (by omega) (fun s9 u_s9 f_s9 => ?_)
      have x_s9 := (f_s9 94 (by omega)).trans x_s1
      refine go_iinc (pc := 44) hF [(2, vi 1), (0, vr E 94), (1, vi row₉)] dX11_layRow_44 0 rfl rfl (by decide) ?_
      refine go_goto (pc := 47) hF 12 dX11_layRow_47 (by decide) ?_
      refine go_iload_n (pc := 12) hF dX11_layRow_12 0 rfl ?_
      refine go_iconst (pc := 13) hF dX11_layRow_13 ?_
      refine go_icmp_ge (pc := 14) hF 50 dX11_layRow_14 (by decide) ⟨by decide, by decide⟩ ⟨by decide, by decide⟩ (fun bq14 => ?_) (fun bq14 => ?_)
      · exact absurd bq14 (by decide)
      · refine go_aload_n (pc := 17) hF dX11_layRow_17 1 rfl ?_
        refine go_get (pc := 18) hF fl_X11_7 dX11_layRow_18 (by omega) x_s9 rfl ?_
        refine go_iconst (pc := 21) hF dX11_layRow_21 ?_
        refine go_iload_n (pc := 22) hF dX11_layRow_22 0 rfl ?_
        refine go_iadd (pc := 23) hF dX11_layRow_23 ?_
        refine go_iload_n (pc := 24) hF dX11_layRow_24 0 rfl ?_
        refine go_aload_n (pc := 25) hF dX11_layRow_25 1 rfl ?_
        refine go_get (pc := 26) hF fl_X11_7 dX11_layRow_26 (by omega) x_s9 rfl ?_
        refine go_iconst (pc := 29) hF dX11_layRow_29 ?_
        refine go_iald (pc := 30) hF dX11_layRow_30 (by omega) u_s9 (by omega)  ?_
        rw [up_ne _ _ (by decide)]
        rw [up_self]
        refine go_icmp_ge (pc := 31) hF 42 dX11_layRow_31 (by decide) ⟨by decide, by decide⟩ (by omega) (fun bq31 => ?_) (fun bq31 => ?_)
        · refine go_iconst (pc := 42) hF dX11_layRow_42 ?_
          refine go_iast (pc := 43) hF dX11_layRow_43 (by omega) u_s9 (by omega) (fun s10 u_s10 f_s10 => ?_)
          have x_s10 := (f_s10 94 (by omega)).trans x_s9
          refine go_iinc (pc := 44) hF [(2, vi 2), (0, vr E 94), (1, vi row₉)] dX11_layRow_44 0 rfl rfl (by decide) ?_
          refine go_goto (pc := 47) hF 12 dX11_layRow_47 (by decide) ?_
          refine go_iload_n (pc := 12) hF dX11_layRow_12 0 rfl ?_
          refine go_iconst (pc := 13) hF dX11_layRow_13 ?_
          refine go_icmp_ge (pc := 14) hF 50 dX11_layRow_14 (by decide) ⟨by decide, by decide⟩ ⟨by decide, by decide⟩ (fun bq14 => ?_) (fun bq14 => ?_)
          · exact absurd bq14 (by decide)
          · refine go_aload_n (pc := 17) hF dX11_layRow_17 1 rfl ?_
            refine go_get (pc := 18) hF fl_X11_7 dX11_layRow_18 (by omega) x_s10 rfl ?_
            refine go_iconst (pc := 21) hF dX11_layRow_21 ?_
            refine go_iload_n (pc := 22) hF dX11_layRow_22 0 rfl ?_
            refine go_iadd (pc := 23) hF dX11_layRow_23 ?_
            refine go_iload_n (pc := 24) hF dX11_layRow_24 0 rfl ?_
            refine go_aload_n (pc := 25) hF dX11_layRow_25 1 rfl ?_
            refine go_get (pc := 26) hF fl_X11_7 dX11_layRow_26 (by omega) x_s10 rfl ?_
            refine go_iconst (pc := 29) hF dX11_layRow_29 ?_
            refine go_iald (pc := 30) hF dX11_layRow_30 (by omega) u_s10 (by omega)  ?_
            rw [up_ne _ _ (by decide)]
            rw [up_ne _ _ (by decide)]
            rw [up_self]
            refine go_icmp_ge (pc := 31) hF 42 dX11_layRow_31 (by decide) ⟨by decide, by decide⟩ (by omega) (fun bq31 => ?_) (fun bq31 => ?_)
            · refine go_iconst (pc := 42) hF dX11_layRow_42 ?_
              refine go_iast (pc := 43) hF dX11_layRow_43 (by omega) u_s10 (by omega) (fun s11 u_s11 f_s11 => ?_)
              have x_s11 := (f_s11 94 (by omega)).trans x_s10
              refine go_iinc (pc := 44) hF [(2, vi 3), (0, vr E 94), (1, vi row₉)] dX11_layRow_44 0 rfl rfl (by decide) ?_
              refine go_goto (pc := 47) hF 12 dX11_layRow_47 (by decide) ?_
              refine go_iload_n (pc := 12) hF dX11_layRow_12 0 rfl ?_
              refine go_iconst (pc := 13) hF dX11_layRow_13 ?_
              refine go_icmp_ge (pc := 14) hF 50 dX11_layRow_14 (by decide) ⟨by decide, by decide⟩ ⟨by decide, by decide⟩ (fun bq14 => ?_) (fun bq14 => ?_)
              · refine go_vretQ hF hr hlk hQ dX11_layRow_50 ⟨_, u_s11, ⟨?_, fun q₉ => ?_, fun q₉ => ?_, fun q₉ => ?_, ?_, ?_, ?_⟩, (fun jj hjj => by rw [f_s11 jj (by omega), f_s10 jj (by omega), f_s9 jj (by omega), f_s1 jj (by omega)])⟩
                all_goals
                  repeat (first | rw [up_self] | rw [up_ne _ _ (by decide)])
                  try omega
              · exact absurd bq14 (by decide)
            · refine go_iload_n (pc := 34) hF dX11_layRow_34 2 rfl ?_
              refine go_iload_n (pc := 35) hF dX11_layRow_35 0 rfl ?_
              refine go_callSP (pc := 36) hF [vi row₉, vi 2] [vi 3, vr E 95] ms_X11_93 dX11_layRow_36 (c_X11_at E N s10 row₉ 2 (by omega) (by first | omega | (constructor <;> decide))) rfl rfl (Nat.le_of_ble_eq_true rfl) (by decide) ⟨Nat.zero_le _, Nat.zero_le _⟩ ?_
              refine go_goto (pc := 39) hF 43 dX11_layRow_39 (by decide) ?_
              refine go_iast (pc := 43) hF dX11_layRow_43 (by omega) u_s10 (by omega) (fun s12 u_s12 f_s12 => ?_)
              have x_s12 := (f_s12 94 (by omega)).trans x_s10
              refine go_iinc (pc := 44) hF [(2, vi 3), (0, vr E 94), (1, vi row₉)] dX11_layRow_44 0 rfl rfl (by decide) ?_
              refine go_goto (pc := 47) hF 12 dX11_layRow_47 (by decide) ?_
              refine go_iload_n (pc := 12) hF dX11_layRow_12 0 rfl ?_
              refine go_iconst (pc := 13) hF dX11_layRow_13 ?_
              refine go_icmp_ge (pc := 14) hF 50 dX11_layRow_14 (by decide) ⟨by decide, by decide⟩ ⟨by decide, by decide⟩ (fun bq14 => ?_) (fun bq14 => ?_)
              · refine go_vretQ hF hr hlk hQ dX11_layRow_50 ⟨_, u_s12, ⟨?_, fun q₉ => ?_, fun q₉ => ?_, fun q₉ => ?_, ?_, ?_, ?_⟩, (fun jj hjj => by rw [f_s12 jj (by omega), f_s10 jj (by omega), f_s9 jj (by omega), f_s1 jj (by omega)])⟩
                all_goals
                  repeat (first | rw [up_self] | rw [up_ne _ _ (by decide)])
                  try omega
              · exact absurd bq14 (by decide)
        · refine go_iload_n (pc := 34) hF dX11_layRow_34 2 rfl ?_
          refine go_iload_n (pc := 35) hF dX11_layRow_35 0 rfl ?_
          refine go_callSP (pc := 36) hF [vi row₉, vi 1] [vi 2, vr E 95] ms_X11_93 dX11_layRow_36 (c_X11_at E N s9 row₉ 1 (by omega) (by first | omega | (constructor <;> decide))) rfl rfl (Nat.le_of_ble_eq_true rfl) (by decide) ⟨Nat.zero_le _, Nat.zero_le _⟩ ?_
          refine go_goto (pc := 39) hF 43 dX11_layRow_39 (by decide) ?_
          refine go_iast (pc := 43) hF dX11_layRow_43 (by omega) u_s9 (by omega) (fun s13 u_s13 f_s13 => ?_)
          have x_s13 := (f_s13 94 (by omega)).trans x_s9
          refine go_iinc (pc := 44) hF [(2, vi 2), (0, vr E 94), (1, vi row₉)] dX11_layRow_44 0 rfl rfl (by decide) ?_
          refine go_goto (pc := 47) hF 12 dX11_layRow_47 (by decide) ?_
          refine go_iload_n (pc := 12) hF dX11_layRow_12 0 rfl ?_
          refine go_iconst (pc := 13) hF dX11_layRow_13 ?_
          refine go_icmp_ge (pc := 14) hF 50 dX11_layRow_14 (by decide) ⟨by decide, by decide⟩ ⟨by decide, by decide⟩ (fun bq14 => ?_) (fun bq14 => ?_)
          · exact absurd bq14 (by decide)
          · refine go_aload_n (pc := 17) hF dX11_layRow_17 1 rfl ?_
            refine go_get (pc := 18) hF fl_X11_7 dX11_layRow_18 (by omega) x_s13 rfl ?_
            refine go_iconst (pc := 21) hF dX11_layRow_21 ?_
            refine go_iload_n (pc := 22) hF dX11_layRow_22 0 rfl ?_
            refine go_iadd (pc := 23) hF dX11_layRow_23 ?_
            refine go_iload_n (pc := 24) hF dX11_layRow_24 0 rfl ?_
            refine go_aload_n (pc := 25) hF dX11_layRow_25 1 rfl ?_
            refine go_get (pc := 26) hF fl_X11_7 dX11_layRow_26 (by omega) x_s13 rfl ?_
            refine go_iconst (pc := 29) hF dX11_layRow_29 ?_
            refine go_iald (pc := 30) hF dX11_layRow_30 (by omega) u_s13 (by omega)  ?_
            rw [up_ne _ _ (by decide)]
            rw [up_ne _ _ (by decide)]
            rw [up_self]
            refine go_icmp_ge (pc := 31) hF 42 dX11_layRow_31 (by decide) ⟨by decide, by decide⟩ (by omega) (fun bq31 => ?_) (fun bq31 => ?_)
            · refine go_iconst (pc := 42) hF dX11_layRow_42 ?_
              refine go_iast (pc := 43) hF dX11_layRow_43 (by omega) u_s13 (by omega) (fun s14 u_s14 f_s14 => ?_)
              have x_s14 := (f_s14 94 (by omega)).trans x_s13
              refine go_iinc (pc := 44) hF [(2, vi 3), (0, vr E 94), (1, vi row₉)] dX11_layRow_44 0 rfl rfl (by decide) ?_
              refine go_goto (pc := 47) hF 12 dX11_layRow_47 (by decide) ?_
              refine go_iload_n (pc := 12) hF dX11_layRow_12 0 rfl ?_
              refine go_iconst (pc := 13) hF dX11_layRow_13 ?_
              refine go_icmp_ge (pc := 14) hF 50 dX11_layRow_14 (by decide) ⟨by decide, by decide⟩ ⟨by decide, by decide⟩ (fun bq14 => ?_) (fun bq14 => ?_)
              · refine go_vretQ hF hr hlk hQ dX11_layRow_50 ⟨_, u_s14, ⟨?_, fun q₉ => ?_, fun q₉ => ?_, fun q₉ => ?_, ?_, ?_, ?_⟩, (fun jj hjj => by rw [f_s14 jj (by omega), f_s13 jj (by omega), f_s9 jj (by omega), f_s1 jj (by omega)])⟩
                all_goals
                  repeat (first | rw [up_self] | rw [up_ne _ _ (by decide)])
                  try omega
              · exact absurd bq14 (by decide)
            · refine go_iload_n (pc := 34) hF dX11_layRow_34 2 rfl ?_
              refine go_iload_n (pc := 35) hF dX11_layRow_35 0 rfl ?_
              refine go_callSP (pc := 36) hF [vi row₉, vi 2] [vi 3, vr E 95] ms_X11_93 dX11_layRow_36 (c_X11_at E N s13 row₉ 2 (by omega) (by first | omega | (constructor <;> decide))) rfl rfl (Nat.le_of_ble_eq_true rfl) (by decide) ⟨Nat.zero_le _, Nat.zero_le _⟩ ?_
              refine go_goto (pc := 39) hF 43 dX11_layRow_39 (by decide) ?_
              refine go_iast (pc := 43) hF dX11_layRow_43 (by omega) u_s13 (by omega) (fun s15 u_s15 f_s15 => ?_)
              have x_s15 := (f_s15 94 (by omega)).trans x_s13
              refine go_iinc (pc := 44) hF [(2, vi 3), (0, vr E 94), (1, vi row₉)] dX11_layRow_44 0 rfl rfl (by decide) ?_
              refine go_goto (pc := 47) hF 12 dX11_layRow_47 (by decide) ?_
              refine go_iload_n (pc := 12) hF dX11_layRow_12 0 rfl ?_
              refine go_iconst (pc := 13) hF dX11_layRow_13 ?_
              refine go_icmp_ge (pc := 14) hF 50 dX11_layRow_14 (by decide) ⟨by decide, by decide⟩ ⟨by decide, by decide⟩ (fun bq14 => ?_) (fun bq14 => ?_)
              · refine go_vretQ hF hr hlk hQ dX11_layRow_50 ⟨_, u_s15, ⟨?_, fun q₉ => ?_, fun q₉ => ?_, fun q₉ => ?_, ?_, ?_, ?_⟩, (fun jj hjj => by rw [f_s15 jj (by omega), f_s13 jj (by omega), f_s9 jj (by omega), f_s1 jj (by omega)])⟩
                all_goals
                  repeat (first | rw [up_self] | rw [up_ne _ _ (by decide)])
                  try omega
              · exact absurd bq14 (by decide)
set_option maxHeartbeats 4000000 in
set_option maxRecDepth 100000 in
theorem c_X11_keep (E : En) (N : Nat) (σ : Nat → va_E) {un sz₉ tl rz hi₉ mi ak rt cn : Int} {nw pa yr yw yk yp : Int → Int} {r₉ u₉ kd pr : Int} (hN₉ : 120 ≤ N) (z101 : σ 94 = mOb E un sz₉ tl rz hi₉ mi ak rt cn) (z102 : σ 95 = ai E 7 nw) (z103 : σ 96 = ai E 56 pa) (hun : 0 ≤ un ∧ un ≤ 8) (hnw : nwOK nw r₉ u₉ kd pr) (hpa : paOK pa yr yw yk yp un) : CV E M_X11_keep 1 [vr E 94] N σ (fun σ' => ∃ pa', σ' 94 = mOb E (min (un + 1) 8) sz₉ tl rz hi₉ mi ak rt cn ∧ σ' 96 = ai E 56 pa' ∧ paOK pa' (psh yr r₉) (psh yw u₉) (psh yk kd) (psh yp pr) (min (un + 1) 8) ∧ ∀ q₉, (q₉ ≠ 94 ∧ q₉ ≠ 96) → σ' q₉ = σ q₉) := by
  refine CT.of2 (own := RX11) (by decide) rfl (Nat.le_of_ble_eq_true rfl) ?_
  intro p e R s m args below meth c Q hF hr hlk hnm hz hR hQ
  refine go_aload_n (pc := 0) hF dX11_keep_0 0 rfl ?_
  refine go_get (pc := 1) hF fl_X11_114 dX11_keep_1 (by omega) z101 rfl ?_
  refine go_bipush (pc := 4) hF dX11_keep_4 (by decide) ?_
  refine go_icmp_ne (pc := 6) hF 48 dX11_keep_6 (by decide) (by omega) ⟨by decide, by decide⟩ (fun bq6 => ?_) (fun bq6 => ?_)
  · refine go_iconst (pc := 48) hF dX11_keep_48 ?_
    refine go_istore_n (pc := 49) hF [(1, vi 0), (0, vr E 94)] dX11_keep_49 rfl (by decide) ?_
    have loopB : ∀ (n₉ : Nat) (j2₉ : Nat) (g2 : Int → Int) (τ : Nat → va_E), j2₉ + n₉ = 9 → (j2₉ : Int) ≤ 7 → (∀ z₉ : Int, 0 ≤ z₉ → z₉ < 56 → g2 z₉ = if 7 * un ≤ z₉ ∧ z₉ < 7 * un + (j2₉ : Int) then nw (z₉ - 7 * un) else pa z₉) → τ 96 = ai E 56 g2 → (∀ jj : Nat, jj ≠ 96 → τ jj = σ jj) → Go E p e R s m args below meth c Q 2 (0, 0) N τ [(1, vi (j2₉ : Int)), (0, vr E 94)] [] 50 := by
      intro n₉
      induction n₉ with
      | zero => intro j2₉ g2 τ hfu hj2 hg2 c_pa_loopB fr_loopB; exfalso; omega
      | succ n₉ ih₉ =>
        intro j2₉ g2 τ hfu hj2 hg2 c_pa_loopB fr_loopB
        have x_loopB := (fr_loopB 94 (by omega)).trans z101
        have nw_loopB := (fr_loopB 95 (by omega)).trans z102
        refine go_iload_n (pc := 50) hF dX11_keep_50 0 rfl ?_
        refine go_bipush (pc := 51) hF dX11_keep_51 (by decide) ?_
        refine go_icmp_ge (pc := 53) hF 82 dX11_keep_53 (by decide) (by omega) ⟨by decide, by decide⟩ (fun bq53 => ?_) (fun bq53 => ?_)
        · refine go_aload_n (pc := 82) hF dX11_keep_82 1 rfl ?_
          refine go_dup (pc := 83) hF dX11_keep_83 rfl ?_
          refine go_get (pc := 84) hF fl_X11_114 dX11_keep_84 (by omega) x_loopB rfl ?_
          refine go_iconst (pc := 87) hF dX11_keep_87 ?_
          refine go_iadd (pc := 88) hF dX11_keep_88 ?_
          refine go_put (pc := 89) hF [vr E 95, vr E 96, vi (un + 1), vr E 97, vr E 98, vr E 99, vr E 100, vi sz₉, vr E 101, vi tl, vr E 102, vi rz, vr E 103, vr E 104, vr E 105, vr E 106, vr E 107, vr E 108, vr E 109, vr E 110, vr E 111, vr E 112, vr E 113, vr E 114, vr E 115, vr E 116, vr E 117, vr E 118, vr E 119, vi hi₉, vi mi, vi ak, vi rt, vi cn] fl_X11_114 dX11_keep_89 (by omega) x_loopB rfl rfl rfl (Nat.le_of_ble_eq_true rfl) (fun s1₉ u_s1 f_s1 => ?_)
          have nw_s1 := (f_s1 95 (by omega)).trans nw_loopB
          have pa_s1 := (f_s1 96 (by omega)).trans c_pa_loopB
          have ej2 : j2₉ = 7 := by omega
          subst ej2
          refine go_vretQ hF hr hlk hQ dX11_keep_92 ⟨_, ?_, pa_s1, ?_, (fun jj hjj => by rw [f_s1 jj (by omega), fr_loopB jj (by omega)])⟩
          · rw [show min (un + 1) 8 = un + 1 by omega]; exact u_s1
          · rw [show min (un + 1) 8 = un + 1 by omega]; exact keep_pa (dl := 0) (by omega) (by rw [Int.add_zero]; exact hpa) hnw (by omega) (fun z₉ z0 z1 => by rw [Int.mul_zero, Int.add_zero]) hg2
        · refine go_aload_n (pc := 56) hF dX11_keep_56 1 rfl ?_
          refine go_get (pc := 57) hF fl_X11_13 dX11_keep_57 (by omega) x_loopB rfl ?_
          refine go_bipush (pc := 60) hF dX11_keep_60 (by decide) ?_
          refine go_aload_n (pc := 62) hF dX11_keep_62 1 rfl ?_
          refine go_get (pc := 63) hF fl_X11_114 dX11_keep_63 (by omega) x_loopB rfl ?_
          refine go_imul (pc := 66) hF dX11_keep_66 ?_
          refine go_iload_n (pc := 67) hF dX11_keep_67 0 rfl ?_
          refine go_iadd (pc := 68) hF dX11_keep_68 ?_
          refine go_aload_n (pc := 69) hF dX11_keep_69 1 rfl ?_
          refine go_get (pc := 70) hF fl_X11_7 dX11_keep_70 (by omega) x_loopB rfl ?_
          refine go_iload_n (pc := 73) hF dX11_keep_73 0 rfl ?_
          refine go_iald (pc := 74) hF dX11_keep_74 (by omega) nw_loopB (by omega)  ?_
          refine go_iast (pc := 75) hF dX11_keep_75 (by omega) c_pa_loopB (by omega) (fun s2₉ u_s2 f_s2 => ?_)
          have x_s2 := (f_s2 94 (by omega)).trans x_loopB
          have nw_s2 := (f_s2 95 (by omega)).trans nw_loopB
          refine go_iinc (pc := 76) hF [(1, vi ((j2₉ : Int) + 1)), (0, vr E 94)] dX11_keep_76 0 rfl rfl (by decide) ?_
          refine go_goto (pc := 79) hF 50 dX11_keep_79 (by decide) ?_
          exact ih₉ (j2₉ + 1) _ s2₉ (by omega) (by omega) (copy_step hg2) u_s2 (fun jj hjj => by rw [f_s2 jj (by omega), fr_loopB jj (by omega)])
    exact loopB 9 0 _ σ rfl (by omega) (fun z₉ z0 z1 => by rw [if_neg (by omega)]) z103 (fun _ _ => rfl)
  · refine go_iconst (pc := 9) hF dX11_keep_9 ?_
    refine go_istore_n (pc := 10) hF [(1, vi 0), (0, vr E 94)] dX11_keep_10 rfl (by decide) ?_
    have loopA : ∀ (n₉ : Nat) (j₉ : Nat) (g₉ : Int → Int) (τ : Nat → va_E), j₉ + n₉ = 51 → (j₉ : Int) ≤ 49 → (∀ z₉ : Int, 0 ≤ z₉ → z₉ < 56 → g₉ z₉ = if z₉ < (j₉ : Int) then pa (z₉ + 7) else pa z₉) → τ 96 = ai E 56 g₉ → (∀ jj : Nat, jj ≠ 96 → τ jj = σ jj) → Go E p e R s m args below meth c Q 2 (0, 0) N τ [(1, vi (j₉ : Int)), (0, vr E 94)] [] 11 := by
      intro n₉
      induction n₉ with
      | zero => intro j₉ g₉ τ hfu hj hg c_pa_loopA fr_loopA; exfalso; omega
      | succ n₉ ih₉ =>
        intro j₉ g₉ τ hfu hj hg c_pa_loopA fr_loopA
        have x_loopA := (fr_loopA 94 (by omega)).trans z101
        have nw_loopA := (fr_loopA 95 (by omega)).trans z102
        refine go_iload_n (pc := 11) hF dX11_keep_11 0 rfl ?_
        refine go_bipush (pc := 12) hF dX11_keep_12 (by decide) ?_
        refine go_icmp_ge (pc := 14) hF 38 dX11_keep_14 (by decide) (by omega) ⟨by decide, by decide⟩ (fun bq14 => ?_) (fun bq14 => ?_)
        · refine go_aload_n (pc := 38) hF dX11_keep_38 1 rfl ?_
          refine go_dup (pc := 39) hF dX11_keep_39 rfl ?_
          refine go_get (pc := 40) hF fl_X11_114 dX11_keep_40 (by omega) x_loopA rfl ?_
          refine go_iconst (pc := 43) hF dX11_keep_43 ?_
          refine go_isub (pc := 44) hF dX11_keep_44 ?_
          refine go_put (pc := 45) hF [vr E 95, vr E 96, vi (un - 1), vr E 97, vr E 98, vr E 99, vr E 100, vi sz₉, vr E 101, vi tl, vr E 102, vi rz, vr E 103, vr E 104, vr E 105, vr E 106, vr E 107, vr E 108, vr E 109, vr E 110, vr E 111, vr E 112, vr E 113, vr E 114, vr E 115, vr E 116, vr E 117, vr E 118, vr E 119, vi hi₉, vi mi, vi ak, vi rt, vi cn] fl_X11_114 dX11_keep_45 (by omega) x_loopA rfl rfl rfl (Nat.le_of_ble_eq_true rfl) (fun s3₉ u_s3 f_s3 => ?_)
          have nw_s3 := (f_s3 95 (by omega)).trans nw_loopA
          have pa_s3 := (f_s3 96 (by omega)).trans c_pa_loopA
          refine go_iconst (pc := 48) hF dX11_keep_48 ?_
          refine go_istore_n (pc := 49) hF [(1, vi 0), (0, vr E 94)] dX11_keep_49 rfl (by decide) ?_
          have loopB : ∀ (n₉ : Nat) (j2₉ : Nat) (g2 : Int → Int) (τ : Nat → va_E), j2₉ + n₉ = 9 → (j2₉ : Int) ≤ 7 → (∀ z₉ : Int, 0 ≤ z₉ → z₉ < 56 → g2 z₉ = if 7 * (un - 1) ≤ z₉ ∧ z₉ < 7 * (un - 1) + (j2₉ : Int) then nw (z₉ - 7 * (un - 1)) else g₉ z₉) → τ 96 = ai E 56 g2 → (∀ jj : Nat, jj ≠ 96 → τ jj = s3₉ jj) → Go E p e R s m args below meth c Q 2 (0, 0) N τ [(1, vi (j2₉ : Int)), (0, vr E 94)] [] 50 := by
            intro n₉
            induction n₉ with
            | zero => intro j2₉ g2 τ hfu hj2 hg2 c_pa_loopB fr_loopB; exfalso; omega
            | succ n₉ ih₉ =>
              intro j2₉ g2 τ hfu hj2 hg2 c_pa_loopB fr_loopB
              have x_loopB := (fr_loopB 94 (by omega)).trans u_s3
              have nw_loopB := (fr_loopB 95 (by omega)).trans nw_s3
              refine go_iload_n (pc := 50) hF dX11_keep_50 0 rfl ?_
              refine go_bipush (pc := 51) hF dX11_keep_51 (by decide) ?_
              refine go_icmp_ge (pc := 53) hF 82 dX11_keep_53 (by decide) (by omega) ⟨by decide, by decide⟩ (fun bq53 => ?_) (fun bq53 => ?_)
              · refine go_aload_n (pc := 82) hF dX11_keep_82 1 rfl ?_
                refine go_dup (pc := 83) hF dX11_keep_83 rfl ?_
                refine go_get (pc := 84) hF fl_X11_114 dX11_keep_84 (by omega) x_loopB rfl ?_
                refine go_iconst (pc := 87) hF dX11_keep_87 ?_
                refine go_iadd (pc := 88) hF dX11_keep_88 ?_
                refine go_put (pc := 89) hF [vr E 95, vr E 96, vi ((un - 1) + 1), vr E 97, vr E 98, vr E 99, vr E 100, vi sz₉, vr E 101, vi tl, vr E 102, vi rz, vr E 103, vr E 104, vr E 105, vr E 106, vr E 107, vr E 108, vr E 109, vr E 110, vr E 111, vr E 112, vr E 113, vr E 114, vr E 115, vr E 116, vr E 117, vr E 118, vr E 119, vi hi₉, vi mi, vi ak, vi rt, vi cn] fl_X11_114 dX11_keep_89 (by omega) x_loopB rfl rfl rfl (Nat.le_of_ble_eq_true rfl) (fun s4₉ u_s4 f_s4 => ?_)
                have nw_s4 := (f_s4 95 (by omega)).trans nw_loopB
                have pa_s4 := (f_s4 96 (by omega)).trans c_pa_loopB
                have ej2 : j2₉ = 7 := by omega
                subst ej2
                have ej : j₉ = 49 := by omega
                subst ej
                refine go_vretQ hF hr hlk hQ dX11_keep_92 ⟨_, ?_, pa_s4, ?_, (fun jj hjj => by rw [f_s4 jj (by omega), fr_loopB jj (by omega), f_s3 jj (by omega), fr_loopA jj (by omega)])⟩
                · rw [show min (un + 1) 8 = un - 1 + 1 by omega]; exact u_s4
                · rw [show min (un + 1) 8 = un - 1 + 1 by omega]; exact keep_pa (dl := 1) (by omega) (by rw [show un - 1 + 1 = un by omega]; exact hpa) hnw (by omega) (fun z₉ z0 z1 => by rw [hg z₉ (by omega) (by omega), if_pos (by omega), Int.mul_one]) hg2
              · refine go_aload_n (pc := 56) hF dX11_keep_56 1 rfl ?_
                refine go_get (pc := 57) hF fl_X11_13 dX11_keep_57 (by omega) x_loopB rfl ?_
                refine go_bipush (pc := 60) hF dX11_keep_60 (by decide) ?_
                refine go_aload_n (pc := 62) hF dX11_keep_62 1 rfl ?_
                refine go_get (pc := 63) hF fl_X11_114 dX11_keep_63 (by omega) x_loopB rfl ?_
                refine go_imul (pc := 66) hF dX11_keep_66 ?_
                refine go_iload_n (pc := 67) hF dX11_keep_67 0 rfl ?_
                refine go_iadd (pc := 68) hF dX11_keep_68 ?_
                refine go_aload_n (pc := 69) hF dX11_keep_69 1 rfl ?_
                refine go_get (pc := 70) hF fl_X11_7 dX11_keep_70 (by omega) x_loopB rfl ?_
                refine go_iload_n (pc := 73) hF dX11_keep_73 0 rfl ?_
                refine go_iald (pc := 74) hF dX11_keep_74 (by omega) nw_loopB (by omega)  ?_
                refine go_iast (pc := 75) hF dX11_keep_75 (by omega) c_pa_loopB (by omega) (fun s5 u_s5 f_s5 => ?_)
                have x_s5 := (f_s5 94 (by omega)).trans x_loopB
                have nw_s5 := (f_s5 95 (by omega)).trans nw_loopB
                refine go_iinc (pc := 76) hF [(1, vi ((j2₉ : Int) + 1)), (0, vr E 94)] dX11_keep_76 0 rfl rfl (by decide) ?_
                refine go_goto (pc := 79) hF 50 dX11_keep_79 (by decide) ?_
                exact ih₉ (j2₉ + 1) _ s5 (by omega) (by omega) (copy_step hg2) u_s5 (fun jj hjj => by rw [f_s5 jj (by omega), fr_loopB jj (by omega)])
          exact loopB 9 0 _ s3₉ rfl (by omega) (fun z₉ z0 z1 => by rw [if_neg (by omega)]) pa_s3 (fun _ _ => rfl)
        · refine go_aload_n (pc := 17) hF dX11_keep_17 1 rfl ?_
          refine go_get (pc := 18) hF fl_X11_13 dX11_keep_18 (by omega) x_loopA rfl ?_
          refine go_iload_n (pc := 21) hF dX11_keep_21 0 rfl ?_
          refine go_aload_n (pc := 22) hF dX11_keep_22 1 rfl ?_
          refine go_get (pc := 23) hF fl_X11_13 dX11_keep_23 (by omega) x_loopA rfl ?_
          refine go_iload_n (pc := 26) hF dX11_keep_26 0 rfl ?_
          refine go_bipush (pc := 27) hF dX11_keep_27 (by decide) ?_
          refine go_iadd (pc := 29) hF dX11_keep_29 ?_
          refine go_iald (pc := 30) hF dX11_keep_30 (by omega) c_pa_loopA (by omega)  ?_
          refine go_iast (pc := 31) hF dX11_keep_31 (by omega) c_pa_loopA (by omega) (fun s6₉ u_s6 f_s6 => ?_)
          have x_s6 := (f_s6 94 (by omega)).trans x_loopA
          have nw_s6 := (f_s6 95 (by omega)).trans nw_loopA
          refine go_iinc (pc := 32) hF [(1, vi ((j₉ : Int) + 1)), (0, vr E 94)] dX11_keep_32 0 rfl rfl (by decide) ?_
          refine go_goto (pc := 35) hF 11 dX11_keep_35 (by decide) ?_
          exact ih₉ (j₉ + 1) _ s6₉ (by omega) (by omega) (shift_step (by omega) hg) u_s6 (fun jj hjj => by rw [f_s6 jj (by omega), fr_loopA jj (by omega)])
    exact loopA 51 0 pa σ rfl (by omega) (fun z₉ z0 z1 => by rw [if_neg (by omega)]) z103 (fun _ _ => rfl)
set_option maxHeartbeats 4000000 in
set_option maxRecDepth 100000 in
theorem c_X11_costs (E : En) (N : Nat) (σ : Nat → va_E) {un sz₉ tl rz hi₉ mi ak rt cn : Int} {nw : Int → Int} (hN₉ : 120 ≤ N) (z101 : σ 94 = mOb E un sz₉ tl rz hi₉ mi ak rt cn) (z102 : σ 95 = ai E 7 nw) (row₉ x₉ : Int) (hrow : 0 ≤ row₉ ∧ row₉ < 343) (hx : rg x₉) : CP E M_X11_costs 3 [vr E 94, vi row₉, vi x₉] N σ (if mPlace row₉ x₉ = -1 then nw 6 else 1) := by
  refine CT.of2 (own := RX11) (by decide) rfl (Nat.le_of_ble_eq_true rfl) ?_
  intro p e R s m args below meth c Q hF hr hlk hnm hz hR hQ
  have gp := mPlace_rg row₉ x₉
  refine go_iload_n (pc := 0) hF dX11_costs_0 1 rfl ?_
  refine go_iload_n (pc := 1) hF dX11_costs_1 2 rfl ?_
  refine go_callSP (pc := 2) hF [vi row₉, vi x₉] [] ms_X11_101 dX11_costs_2 (c_X11_placeOf E N σ row₉ x₉ (by omega) (by omega)) rfl rfl (Nat.le_of_ble_eq_true rfl) (by decide) ⟨Nat.zero_le _, Nat.zero_le _⟩ ?_
  refine go_iconst (pc := 5) hF dX11_costs_5 ?_
  refine go_icmp_ne (pc := 6) hF 19 dX11_costs_6 (by decide) (by omega) ⟨by decide, by decide⟩ (fun bq6 => ?_) (fun bq6 => ?_)
  · refine go_iconst (pc := 19) hF dX11_costs_19 ?_
    exact go_iretQ hF hr hlk hQ dX11_costs_20 ⟨(if_neg (by omega)).symm, rfl⟩
  · refine go_aload_n (pc := 9) hF dX11_costs_9 0 rfl ?_
    refine go_get (pc := 10) hF fl_X11_7 dX11_costs_10 (by omega) z101 rfl ?_
    refine go_bipush (pc := 13) hF dX11_costs_13 (by decide) ?_
    refine go_iald (pc := 15) hF dX11_costs_15 (by omega) z102 (by omega)  ?_
    refine go_goto (pc := 16) hF 20 dX11_costs_16 (by decide) ?_
    exact go_iretQ hF hr hlk hQ dX11_costs_20 ⟨(if_pos (by omega)).symm, rfl⟩
