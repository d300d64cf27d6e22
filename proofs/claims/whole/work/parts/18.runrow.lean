/-! Runner: rows₉, choices, loops of₉ a₉ tree. -/
/-- what a₉ row's contract₉ is₉, for₉ rows₉ of₉ depth D₉ at most -/
def RunRow (E : En) (N D₉ : Nat) : Prop := ∀ (t₉ : Tr) (σ : Nat → va_E) (g₉ h : Nat) (sg vl mt₉ lw ll la : Int → Int) (sz₉ lk₉ chs lps dp ln o k₉ lp dl ch₉ ta hi₉ mi sk r₉ u₉ kd pr : Int), 101 ≤ N → g₉ < N → h < N → g₉ ≠ h → (g₉ < 23 ∨ 29 < g₉) → (h < 23 ∨ 29 < h) → isP E σ 23 sg vl mt₉ lw ll la sz₉ lk₉ chs lps dp ln → okP sg vl mt₉ lw ll la sz₉ lk₉ chs lps dp ln → wf t₉ → tDep t₉ ≤ D₉ → PA₉ sg vl mt₉ lw ll la t₉ o k₉ lp → (0 ≤ o ∧ o + tLen t₉ ≤ sz₉) → (0 ≤ k₉ ∧ k₉ + tLks t₉ ≤ lk₉) → (0 ≤ dl ∧ tDep t₉ + dl ≤ 3) → (0 ≤ ch₉ ∧ ch₉ < 1048576) → (0 ≤ sk ∧ sk + tAsk t₉ ≤ 2000000000) → vrow u₉ r₉ → (1 ≤ u₉ ∧ u₉ ≤ 3) → (0 ≤ kd ∧ kd ≤ 3) → σ g₉ = ob 8 [vi ch₉, vi ta, vi hi₉, vi mi, vi sk] → σ h = ob 1 [vi (en r₉), vi u₉, vi kd, vi pr] →
  CV E M_X9_runRow (6 + 2 * D₉) [vr E g₉, vr E 23, vr E h, vi o, vi (o + tLen t₉), vi dl] N σ (fun σ' => σ' g₉ = ob 8 [vi ch₉, vi (rn u₉ kd pr ch₉ t₉ (r₉, ta, hi₉, mi, sk)).2.1, vi (rn u₉ kd pr ch₉ t₉ (r₉, ta, hi₉, mi, sk)).2.2.1, vi (rn u₉ kd pr ch₉ t₉ (r₉, ta, hi₉, mi, sk)).2.2.2.1, vi (rn u₉ kd pr ch₉ t₉ (r₉, ta, hi₉, mi, sk)).2.2.2.2] ∧ σ' h = ob 1 [vi (en (rn u₉ kd pr ch₉ t₉ (r₉, ta, hi₉, mi, sk)).1), vi u₉, vi kd, vi pr] ∧ ∀ q₉, (q₉ ≠ g₉ ∧ q₉ ≠ h) → σ' q₉ = σ q₉)
theorem rLoop_row {u₉ ch₉ : Int} {f₉ : RS → RS} (hf : ∀ s : RS, vrow u₉ s.1 → vrow u₉ (f₉ s).1) : ∀ (n₉ : Nat) (s : RS), vrow u₉ s.1 → vrow u₉ (rLoop ch₉ f₉ n₉ s).1
  | 0, s, h => h
  | n₉ + 1, s, h => by
    unfold rLoop
    split
    · exact rLoop_row hf n₉ _ (hf _ h)
    · exact h
theorem rn_row {u₉ kd pr ch₉ : Int} (hu : 1 ≤ u₉ ∧ u₉ ≤ 3) (hk : 0 ≤ kd ∧ kd ≤ 3) : ∀ t₉, wf t₉ → ∀ s : RS, vrow u₉ s.1 → vrow u₉ (rn u₉ kd pr ch₉ t₉ s).1 := by
  refine tInd (fun s h => h) (fun c r₉ hc₉ _ ih₉ s h => ih₉ _ (rLook_row hc₉ h hu hk)) (fun a₉ b₉ r₉ _ _ _ iha ihb ihr s h => ?_) (fun n₉ a₉ r₉ _ _ _ iha ihr s h => ihr _ (rLoop_row (fun s h => iha s h) n₉ s h))
  refine ihr _ ?_
  split
  · exact ihb _ h
  · exact iha _ h
theorem rLoop_ask {ch₉ : Int} {f₉ : RS → RS} {m : Int} (hm₉ : 0 ≤ m) (hf : ∀ s : RS, s.2.2.2.2 ≤ (f₉ s).2.2.2.2 ∧ (f₉ s).2.2.2.2 ≤ s.2.2.2.2 + m) : ∀ (n₉ : Nat) (s : RS), s.2.2.2.2 ≤ (rLoop ch₉ f₉ n₉ s).2.2.2.2 ∧ (rLoop ch₉ f₉ n₉ s).2.2.2.2 ≤ s.2.2.2.2 + n₉ * (1 + m)
  | 0, s => by simp [rLoop]
  | n₉ + 1, s => by
    have h0 : (0 : Int) ≤ n₉ * (1 + m) := Int.mul_nonneg (by omega) (by omega)
    have e : ((n₉ + 1 : Nat) : Int) * (1 + m) = n₉ * (1 + m) + 1 + m := by rw [Int.natCast_succ, Int.add_mul]; omega
    rw [e]
    unfold rLoop
    split
    · have h1 := rLoop_ask (ch₉ := ch₉) hm₉ hf n₉ (f₉ (rAsk s))
      have h2 := hf (rAsk s)
      have h3 : (rAsk s).2.2.2.2 = s.2.2.2.2 + 1 := rfl
      omega
    · have h3 : (rAsk s).2.2.2.2 = s.2.2.2.2 + 1 := rfl
      omega
theorem rn_ask {u₉ kd pr ch₉ : Int} : ∀ t₉, wf t₉ → ∀ s : RS, s.2.2.2.2 ≤ (rn u₉ kd pr ch₉ t₉ s).2.2.2.2 ∧ (rn u₉ kd pr ch₉ t₉ s).2.2.2.2 ≤ s.2.2.2.2 + tAsk t₉ := by
  refine tInd (fun s => by simp [rn, tAsk]) (fun c r₉ hc₉ _ ih₉ s => ?_) (fun a₉ b₉ r₉ _ _ _ iha ihb ihr s => ?_) (fun n₉ a₉ r₉ _ _ _ iha ihr s => ?_)
  · have h1 := ih₉ (rLook u₉ kd pr c s)
    have h2 : (rLook u₉ kd pr c s).2.2.2.2 = s.2.2.2.2 := by unfold rLook; split; rfl; split <;> rfl
    simp only [rn, tAsk]
    omega
  · have h3 : (rAsk s).2.2.2.2 = s.2.2.2.2 + 1 := rfl
    simp only [rn, tAsk]
    split
    · have h1 := ihb (rAsk s)
      have h2 := ihr (rn u₉ kd pr ch₉ b₉ (rAsk s))
      omega
    · have h1 := iha (rAsk s)
      have h2 := ihr (rn u₉ kd pr ch₉ a₉ (rAsk s))
      omega
  · have h1 := rLoop_ask (ch₉ := ch₉) (m := tAsk a₉) (by omega) iha n₉ s
    have h2 := ihr (rLoop ch₉ (rn u₉ kd pr ch₉ a₉) n₉ s)
    have e : ((n₉ * (1 + tAsk a₉) + tAsk r₉ : Nat) : Int) = n₉ * (1 + (tAsk a₉ : Int)) + tAsk r₉ := by simp
    simp only [rn, tAsk]
    omega

set_option maxHeartbeats 4000000 in
set_option maxRecDepth 100000 in
theorem c_X9_runChoice (E : En) (N D₉ : Nat) (IH₉ : RunRow E N D₉) (σ : Nat → va_E) (g₉ h : Nat) (sg vl mt₉ lw ll la : Int → Int) (sz₉ lk₉ chs lps dp ln o k₉ lp dl ch₉ ta hi₉ mi sk r₉ u₉ kd pr : Int) (hN₉ : 101 ≤ N) (hgN : g₉ < N) (hhN : h < N) (hgh : g₉ ≠ h) (hg23 : g₉ < 23 ∨ 29 < g₉) (hh23 : h < 23 ∨ 29 < h) (hp : isP E σ 23 sg vl mt₉ lw ll la sz₉ lk₉ chs lps dp ln) (ho : okP sg vl mt₉ lw ll la sz₉ lk₉ chs lps dp ln) (ta_ tb_ : Tr) (hwa : wf ta_) (hwb : wf tb_) (hda : tDep ta_ ≤ D₉ ∧ tDep tb_ ≤ D₉) (pa0 : sg o = 2 ∧ mt₉ o = o + 1 + tLen ta_ ∧ mt₉ (o + 1 + tLen ta_) = o + 2 + tLen ta_ + tLen tb_) (paa : PA₉ sg vl mt₉ lw ll la ta_ (o + 1) k₉ lp) (pab : PA₉ sg vl mt₉ lw ll la tb_ (o + 2 + tLen ta_) (k₉ + tLks ta_) lp) (ho1 : 0 ≤ o ∧ o + 3 + tLen ta_ + tLen tb_ ≤ sz₉) (hk1 : 0 ≤ k₉ ∧ k₉ + tLks ta_ + tLks tb_ ≤ lk₉) (hdl : 0 ≤ dl ∧ tDep ta_ + dl ≤ 2 ∧ tDep tb_ + dl ≤ 2) (hch : 0 ≤ ch₉ ∧ ch₉ < 1048576) (hsk : 0 ≤ sk ∧ sk + 1 + tAsk ta_ + tAsk tb_ ≤ 2000000000) (hrw : vrow u₉ r₉) (hu : 1 ≤ u₉ ∧ u₉ ≤ 3) (hkd : 0 ≤ kd ∧ kd ≤ 3) (hg : σ g₉ = ob 8 [vi ch₉, vi ta, vi hi₉, vi mi, vi sk]) (hh : σ h = ob 1 [vi (en r₉), vi u₉, vi kd, vi pr]) : CI E M_X9_runChoice (7 + 2 * D₉) [vr E g₉, vr E 23, vr E h, vi o, vi dl] N σ (fun y₉ σ' => y₉ = o + 2 + (tLen ta_ : Int) + (tLen tb_ : Int) ∧ σ' g₉ = ob 8 [vi ch₉, vi (if bitOf ch₉ sk = 1 then rn u₉ kd pr ch₉ tb_ (rAsk (r₉, ta, hi₉, mi, sk)) else rn u₉ kd pr ch₉ ta_ (rAsk (r₉, ta, hi₉, mi, sk))).2.1, vi (if bitOf ch₉ sk = 1 then rn u₉ kd pr ch₉ tb_ (rAsk (r₉, ta, hi₉, mi, sk)) else rn u₉ kd pr ch₉ ta_ (rAsk (r₉, ta, hi₉, mi, sk))).2.2.1, vi (if bitOf ch₉ sk = 1 then rn u₉ kd pr ch₉ tb_ (rAsk (r₉, ta, hi₉, mi, sk)) else rn u₉ kd pr ch₉ ta_ (rAsk (r₉, ta, hi₉, mi, sk))).2.2.2.1, vi (if bitOf ch₉ sk = 1 then rn u₉ kd pr ch₉ tb_ (rAsk (r₉, ta, hi₉, mi, sk)) else rn u₉ kd pr ch₉ ta_ (rAsk (r₉, ta, hi₉, mi, sk))).2.2.2.2] ∧ σ' h = ob 1 [vi (en (if bitOf ch₉ sk = 1 then rn u₉ kd pr ch₉ tb_ (rAsk (r₉, ta, hi₉, mi, sk)) else rn u₉ kd pr ch₉ ta_ (rAsk (r₉, ta, hi₉, mi, sk))).1), vi u₉, vi kd, vi pr] ∧ ∀ q₉, (q₉ ≠ g₉ ∧ q₉ ≠ h) → σ' q₉ = σ q₉) := by
  refine CT.of2 (own := RX9) (by decide) rfl (Nat.le_of_ble_eq_true rfl) ?_
  intro p e R s m args below meth c Q hF hr hlk hnm hz hR hQ
  have hsz := ho.1
  refine go_aload_n (pc := 0) hF dX9_runChoice_0 1 rfl ?_
  refine go_iload_n (pc := 1) hF dX9_runChoice_1 3 rfl ?_
  have cm_k1 : CP E M_X6_mateOf 2 [vr E 23, vi o] N σ (o + 1 + (tLen ta_ : Int)) := by
    have h := c_X6_mateOf E N σ 23 o (by omega) (by omega) hp ho
    rw [show gMate mt₉ sz₉ o = o + 1 + (tLen ta_ : Int) from by unfold gMate; rw [if_pos (by omega), pa0.2.1]; omega] at h
    exact h
  refine go_callVP (pc := 2) hF [vi o] [] mv_X9_71 dX9_runChoice_2 (by omega) hp.1 cm_k1 rfl rfl (Nat.le_of_ble_eq_true rfl) (by omega) ⟨Nat.zero_le _, Nat.zero_le _⟩ ?_
  refine go_istore (pc := 5) hF [(5, vi (o + 1 + (tLen ta_ : Int))), (0, vr E g₉), (1, vr E 23), (2, vr E h), (3, vi o), (4, vi dl)] dX9_runChoice_5 rfl (by decide) ?_
  refine go_aload_n (pc := 7) hF dX9_runChoice_7 2 rfl ?_
  refine go_iload (pc := 8) hF dX9_runChoice_8 0 rfl ?_
  have cm_k2 : CP E M_X6_mateOf 2 [vr E 23, vi (o + 1 + (tLen ta_ : Int))] N σ (o + 2 + (tLen ta_ : Int) + (tLen tb_ : Int)) := by
    have h := c_X6_mateOf E N σ 23 (o + 1 + (tLen ta_ : Int)) (by omega) (by omega) hp ho
    rw [show gMate mt₉ sz₉ (o + 1 + (tLen ta_ : Int)) = o + 2 + (tLen ta_ : Int) + (tLen tb_ : Int) from by unfold gMate; rw [if_pos (by omega), pa0.2.2]; omega] at h
    exact h
  refine go_callVP (pc := 10) hF [vi (o + 1 + (tLen ta_ : Int))] [] mv_X9_71 dX9_runChoice_10 (by omega) hp.1 cm_k2 rfl rfl (Nat.le_of_ble_eq_true rfl) (by omega) ⟨Nat.zero_le _, Nat.zero_le _⟩ ?_
  refine go_istore (pc := 13) hF [(6, vi (o + 2 + (tLen ta_ : Int) + (tLen tb_ : Int))), (5, vi (o + 1 + (tLen ta_ : Int))), (0, vr E g₉), (1, vr E 23), (2, vr E h), (3, vi o), (4, vi dl)] dX9_runChoice_13 rfl (by decide) ?_
  refine go_aload_n (pc := 15) hF dX9_runChoice_15 2 rfl ?_
  refine go_callVI (pc := 16) hF [] [] mv_X9_74 dX9_runChoice_16 (by omega) hg (c_X9_answersOne E N σ g₉ ch₉ ta hi₉ mi sk (by omega) (by omega) (by omega) hg) rfl rfl (Nat.le_of_ble_eq_true rfl) (by omega) ⟨Nat.zero_le _, Nat.zero_le _⟩ (fun r_s3 s3₉ h_s3 => ?_)
  obtain ⟨e_s3, u0_s3, f_s3⟩ := h_s3
  have t_s3 := hp.keep (fun jj h1 h2 => f_s3 jj (by omega))
  have h_s3 := (f_s3 h (by omega)).trans hh
  subst e_s3
  have zb := bitOf_01 ch₉ sk
  refine go_if_eq (pc := 19) hF 41 dX9_runChoice_19 (by decide) (by omega) (fun bq19 => ?_) (fun bq19 => ?_)
  · refine go_aload_n (pc := 41) hF dX9_runChoice_41 2 rfl ?_
    refine go_aload_n (pc := 42) hF dX9_runChoice_42 3 rfl ?_
    refine go_aload_n (pc := 43) hF dX9_runChoice_43 4 rfl ?_
    refine go_iload_n (pc := 44) hF dX9_runChoice_44 5 rfl ?_
    refine go_iconst (pc := 45) hF dX9_runChoice_45 ?_
    refine go_iadd (pc := 46) hF dX9_runChoice_46 ?_
    refine go_iload (pc := 47) hF dX9_runChoice_47 1 rfl ?_
    refine go_iload (pc := 49) hF dX9_runChoice_49 6 rfl ?_
    refine go_iconst (pc := 51) hF dX9_runChoice_51 ?_
    refine go_iadd (pc := 52) hF dX9_runChoice_52 ?_
    have cr_s4 := IH₉ ta_ s3₉ g₉ h sg vl mt₉ lw ll la sz₉ lk₉ chs lps dp ln (o + 1) k₉ lp (dl + 1) ch₉ ta hi₉ mi (sk + 1) r₉ u₉ kd pr hN₉ hgN hhN hgh hg23 hh23 t_s3 ho hwa (by omega) paa (by omega) (by omega) (by omega) (by omega) (by omega) hrw hu hkd u0_s3 h_s3
    rw [show (o + 1) + (tLen ta_ : Int) = o + 1 + (tLen ta_ : Int) by omega] at cr_s4
    refine go_callVV (pc := 53) hF [vr E 23, vr E h, vi (o + 1), vi (o + 1 + (tLen ta_ : Int)), vi (dl + 1)] [] mv_X9_32 dX9_runChoice_53 (by omega) u0_s3 cr_s4 rfl rfl (Nat.le_of_ble_eq_true rfl) (by omega) ⟨Nat.zero_le _, Nat.zero_le _⟩ (fun s4₉ h_s4 => ?_)
    obtain ⟨ug_s4, uh_s4, f_s4⟩ := h_s4
    have t_s4 := t_s3.keep (fun jj h1 h2 => f_s4 jj (by omega))
    refine go_iload (pc := 56) hF dX9_runChoice_56 0 rfl ?_
    exact go_iretQ hF hr hlk hQ dX9_runChoice_58 ⟨rfl, by rw [if_neg (by omega)]; exact ug_s4, by rw [if_neg (by omega)]; exact uh_s4, (fun jj hjj => by rw [f_s4 jj (by omega), f_s3 jj (by omega)])⟩
  · refine go_aload_n (pc := 22) hF dX9_runChoice_22 2 rfl ?_
    refine go_aload_n (pc := 23) hF dX9_runChoice_23 3 rfl ?_
    refine go_aload_n (pc := 24) hF dX9_runChoice_24 4 rfl ?_
    refine go_iload (pc := 25) hF dX9_runChoice_25 1 rfl ?_
    refine go_iconst (pc := 27) hF dX9_runChoice_27 ?_
    refine go_iadd (pc := 28) hF dX9_runChoice_28 ?_
    refine go_iload (pc := 29) hF dX9_runChoice_29 0 rfl ?_
    refine go_iload (pc := 31) hF dX9_runChoice_31 6 rfl ?_
    refine go_iconst (pc := 33) hF dX9_runChoice_33 ?_
    refine go_iadd (pc := 34) hF dX9_runChoice_34 ?_
    have cr_s5 := IH₉ tb_ s3₉ g₉ h sg vl mt₉ lw ll la sz₉ lk₉ chs lps dp ln ((o + 1 + (tLen ta_ : Int)) + 1) (k₉ + tLks ta_) lp (dl + 1) ch₉ ta hi₉ mi (sk + 1) r₉ u₉ kd pr hN₉ hgN hhN hgh hg23 hh23 t_s3 ho hwb (by omega) (by rw [show o + 1 + (tLen ta_ : Int) + 1 = o + 2 + (tLen ta_ : Int) by omega]; exact pab) (by omega) (by omega) (by omega) (by omega) (by omega) hrw hu hkd u0_s3 h_s3
    rw [show ((o + 1 + (tLen ta_ : Int)) + 1) + (tLen tb_ : Int) = o + 2 + (tLen ta_ : Int) + (tLen tb_ : Int) by omega] at cr_s5
    refine go_callVV (pc := 35) hF [vr E 23, vr E h, vi ((o + 1 + (tLen ta_ : Int)) + 1), vi (o + 2 + (tLen ta_ : Int) + (tLen tb_ : Int)), vi (dl + 1)] [] mv_X9_32 dX9_runChoice_35 (by omega) u0_s3 cr_s5 rfl rfl (Nat.le_of_ble_eq_true rfl) (by omega) ⟨Nat.zero_le _, Nat.zero_le _⟩ (fun s5 h_s5 => ?_)
    obtain ⟨ug_s5, uh_s5, f_s5⟩ := h_s5
    have t_s5 := t_s3.keep (fun jj h1 h2 => f_s5 jj (by omega))
    refine go_goto (pc := 38) hF 56 dX9_runChoice_38 (by decide) ?_
    refine go_iload (pc := 56) hF dX9_runChoice_56 0 rfl ?_
    exact go_iretQ hF hr hlk hQ dX9_runChoice_58 ⟨rfl, by rw [if_pos (by omega)]; exact ug_s5, by rw [if_pos (by omega)]; exact uh_s5, (fun jj hjj => by rw [f_s5 jj (by omega), f_s3 jj (by omega)])⟩
set_option maxHeartbeats 4000000 in
set_option maxRecDepth 100000 in
theorem c_X9_runLoop (E : En) (N D₉ : Nat) (IH₉ : RunRow E N D₉) (σ : Nat → va_E) (g₉ h : Nat) (sg vl mt₉ lw ll la : Int → Int) (sz₉ lk₉ chs lps dp ln o k₉ lp dl ch₉ ta hi₉ mi sk r₉ u₉ kd pr : Int) (hN₉ : 101 ≤ N) (hgN : g₉ < N) (hhN : h < N) (hgh : g₉ ≠ h) (hg23 : g₉ < 23 ∨ 29 < g₉) (hh23 : h < 23 ∨ 29 < h) (hp : isP E σ 23 sg vl mt₉ lw ll la sz₉ lk₉ chs lps dp ln) (ho : okP sg vl mt₉ lw ll la sz₉ lk₉ chs lps dp ln) (nn : Nat) (ta_ : Tr) (hnn₉ : 1 ≤ nn ∧ nn ≤ 9) (hwa : wf ta_) (hda : tDep ta_ ≤ D₉) (pa0 : sg o = 5 ∧ vl o = nn ∧ mt₉ o = o + 1 + tLen ta_ ∧ lw o = tMsk ta_ 0) (paa : PA₉ sg vl mt₉ lw ll la ta_ (o + 1) k₉ o) (ho1 : 0 ≤ o ∧ o + 2 + tLen ta_ ≤ sz₉) (hk1 : 0 ≤ k₉ ∧ k₉ + tLks ta_ ≤ lk₉) (hdl : 0 ≤ dl ∧ tDep ta_ + dl ≤ 2) (hch : 0 ≤ ch₉ ∧ ch₉ < 1048576) (hsk : 0 ≤ sk ∧ sk + (nn * (1 + tAsk ta_) : Nat) ≤ 2000000000) (hrw : vrow u₉ r₉) (hu : 1 ≤ u₉ ∧ u₉ ≤ 3) (hkd : 0 ≤ kd ∧ kd ≤ 3) (hg : σ g₉ = ob 8 [vi ch₉, vi ta, vi hi₉, vi mi, vi sk]) (hh : σ h = ob 1 [vi (en r₉), vi u₉, vi kd, vi pr]) : CI E M_X9_runLoop (7 + 2 * D₉) [vr E g₉, vr E 23, vr E h, vi o, vi dl] N σ (fun y₉ σ' => y₉ = o + 1 + (tLen ta_ : Int) ∧ σ' g₉ = ob 8 [vi ch₉, vi (rLoop ch₉ (rn u₉ kd pr ch₉ ta_) nn (r₉, ta, hi₉, mi, sk)).2.1, vi (rLoop ch₉ (rn u₉ kd pr ch₉ ta_) nn (r₉, ta, hi₉, mi, sk)).2.2.1, vi (rLoop ch₉ (rn u₉ kd pr ch₉ ta_) nn (r₉, ta, hi₉, mi, sk)).2.2.2.1, vi (rLoop ch₉ (rn u₉ kd pr ch₉ ta_) nn (r₉, ta, hi₉, mi, sk)).2.2.2.2] ∧ σ' h = ob 1 [vi (en (rLoop ch₉ (rn u₉ kd pr ch₉ ta_) nn (r₉, ta, hi₉, mi, sk)).1), vi u₉, vi kd, vi pr] ∧ ∀ q₉, (q₉ ≠ g₉ ∧ q₉ ≠ h) → σ' q₉ = σ q₉) := by
  refine CT.of2 (own := RX9) (by decide) rfl (Nat.le_of_ble_eq_true rfl) ?_
  intro p e R s m args below meth c Q hF hr hlk hnm hz hR hQ
  have hsz := ho.1
  refine go_aload_n (pc := 0) hF dX9_runLoop_0 1 rfl ?_
  refine go_iload_n (pc := 1) hF dX9_runLoop_1 3 rfl ?_
  have cm_k1 : CP E M_X6_mateOf 2 [vr E 23, vi o] N σ (o + 1 + (tLen ta_ : Int)) := by
    have h := c_X6_mateOf E N σ 23 o (by omega) (by omega) hp ho
    rw [show gMate mt₉ sz₉ o = o + 1 + (tLen ta_ : Int) from by unfold gMate; rw [if_pos (by omega), pa0.2.2.1]; omega] at h
    exact h
  refine go_callVP (pc := 2) hF [vi o] [] mv_X9_71 dX9_runLoop_2 (by omega) hp.1 cm_k1 rfl rfl (Nat.le_of_ble_eq_true rfl) (by omega) ⟨Nat.zero_le _, Nat.zero_le _⟩ ?_
  refine go_istore (pc := 5) hF [(5, vi (o + 1 + (tLen ta_ : Int))), (0, vr E g₉), (1, vr E 23), (2, vr E h), (3, vi o), (4, vi dl)] dX9_runLoop_5 rfl (by decide) ?_
  refine go_aload_n (pc := 7) hF dX9_runLoop_7 2 rfl ?_
  refine go_iload_n (pc := 8) hF dX9_runLoop_8 4 rfl ?_
  have cm_k2 : CP E M_X6_valueAt 2 [vr E 23, vi o] N σ ((nn : Int)) := by
    have h := c_X6_valueAt E N σ 23 o (by omega) (by omega) hp ho
    rw [show gVal vl sz₉ o = (nn : Int) from by unfold gVal; rw [if_pos (by omega), pa0.2.1]] at h
    exact h
  refine go_callVP (pc := 9) hF [vi o] [] mv_X9_40 dX9_runLoop_9 (by omega) hp.1 cm_k2 rfl rfl (Nat.le_of_ble_eq_true rfl) (by omega) ⟨Nat.zero_le _, Nat.zero_le _⟩ ?_
  refine go_istore (pc := 12) hF [(6, vi (nn : Int)), (5, vi (o + 1 + (tLen ta_ : Int))), (0, vr E g₉), (1, vr E 23), (2, vr E h), (3, vi o), (4, vi dl)] dX9_runLoop_12 rfl (by decide) ?_
  refine go_iconst (pc := 14) hF dX9_runLoop_14 ?_
  refine go_istore (pc := 15) hF [(7, vi 0), (6, vi (nn : Int)), (5, vi (o + 1 + (tLen ta_ : Int))), (0, vr E g₉), (1, vr E 23), (2, vr E h), (3, vi o), (4, vi dl)] dX9_runLoop_15 rfl (by decide) ?_
  have loop₉ : ∀ (n₉ : Nat) (i₉ : Int) (X₉ : RS) (τ : Nat → va_E), (nn : Int) - i₉ < n₉ → 0 ≤ i₉ ∧ i₉ ≤ nn → rLoop ch₉ (rn u₉ kd pr ch₉ ta_) ((nn : Int) - i₉).toNat X₉ = (rLoop ch₉ (rn u₉ kd pr ch₉ ta_) nn (r₉, ta, hi₉, mi, sk)) → vrow u₉ X₉.1 → (0 ≤ X₉.2.2.2.2 ∧ X₉.2.2.2.2 + (((nn : Int) - i₉).toNat * (1 + tAsk ta_) : Nat) ≤ 2000000000) → τ g₉ = ob 8 [vi ch₉, vi X₉.2.1, vi X₉.2.2.1, vi X₉.2.2.2.1, vi X₉.2.2.2.2] → τ h = ob 1 [vi (en X₉.1), vi u₉, vi kd, vi pr] → (∀ jj : Nat, (jj ≠ g₉ ∧ jj ≠ h) → τ jj = σ jj) → Go E p e R s m args below meth c Q 8 (0, 0) N τ [(7, vi i₉), (6, vi (nn : Int)), (5, vi (o + 1 + (tLen ta_ : Int))), (0, vr E g₉), (1, vr E 23), (2, vr E h), (3, vi o), (4, vi dl)] [] 17 := by
    intro n₉
    induction n₉ with
    | zero => intro i₉ X₉ τ hfu hi0₉ hX hXr hXs c_g_loop c_h_loop fr_loop; exfalso; omega
    | succ n₉ ih₉ =>
      intro i₉ X₉ τ hfu hi0₉ hX hXr hXs c_g_loop c_h_loop fr_loop
      have t_loop := hp.keep (fun jj h1 h2 => fr_loop jj (by omega))
      have zb := bitOf_01 ch₉ X₉.2.2.2.2
      have ze : i₉ < nn → (((nn : Int) - i₉).toNat * (1 + tAsk ta_) : Nat) = ((nn : Int) - (i₉ + 1)).toNat * (1 + tAsk ta_) + (1 + tAsk ta_) := fun h => by rw [show ((nn : Int) - i₉).toNat = ((nn : Int) - (i₉ + 1)).toNat + 1 by omega, Nat.succ_mul]
      refine go_iload (pc := 17) hF dX9_runLoop_17 0 rfl ?_
      refine go_iload (pc := 19) hF dX9_runLoop_19 1 rfl ?_
      refine go_icmp_ge (pc := 21) hF 52 dX9_runLoop_21 (by decide) (by omega) (by omega) (fun bq21 => ?_) (fun bq21 => ?_)
      · refine go_iload (pc := 52) hF dX9_runLoop_52 2 rfl ?_
        have e0₉ : X₉ = (rLoop ch₉ (rn u₉ kd pr ch₉ ta_) nn (r₉, ta, hi₉, mi, sk)) := by rw [← hX, show ((nn : Int) - i₉).toNat = 0 by omega]; rfl
        exact go_iretQ hF hr hlk hQ dX9_runLoop_54 ⟨rfl, by rw [← e0₉]; exact c_g_loop, by rw [← e0₉]; exact c_h_loop, (fun jj hjj => by rw [fr_loop jj (by omega)])⟩
      · have zg := ze (by omega)
        refine go_aload_n (pc := 24) hF dX9_runLoop_24 3 rfl ?_
        refine go_callVI (pc := 25) hF [] [] mv_X9_74 dX9_runLoop_25 (by omega) c_g_loop (c_X9_answersOne E N τ g₉ ch₉ X₉.2.1 X₉.2.2.1 X₉.2.2.2.1 X₉.2.2.2.2 (by omega) (by omega) (by omega) c_g_loop) rfl rfl (Nat.le_of_ble_eq_true rfl) (by omega) ⟨Nat.zero_le _, Nat.zero_le _⟩ (fun r_s3 s3₉ h_s3 => ?_)
        obtain ⟨e_s3, u0_s3, f_s3⟩ := h_s3
        have t_s3 := t_loop.keep (fun jj h1 h2 => f_s3 jj (by omega))
        have h_s3 := (f_s3 h (by omega)).trans c_h_loop
        subst e_s3
        refine go_if_eq (pc := 28) hF 52 dX9_runLoop_28 (by decide) (by omega) (fun bq28 => ?_) (fun bq28 => ?_)
        · refine go_iload (pc := 52) hF dX9_runLoop_52 2 rfl ?_
          have e0₉ : rAsk X₉ = (rLoop ch₉ (rn u₉ kd pr ch₉ ta_) nn (r₉, ta, hi₉, mi, sk)) := by rw [← hX, show ((nn : Int) - i₉).toNat = ((nn : Int) - (i₉ + 1)).toNat + 1 by omega]; unfold rLoop; rw [if_neg (by omega)]
          exact go_iretQ hF hr hlk hQ dX9_runLoop_54 ⟨rfl, by rw [← e0₉]; exact u0_s3, by rw [← e0₉]; exact h_s3, (fun jj hjj => by rw [f_s3 jj (by omega), fr_loop jj (by omega)])⟩
        · refine go_aload_n (pc := 31) hF dX9_runLoop_31 3 rfl ?_
          refine go_aload_n (pc := 32) hF dX9_runLoop_32 4 rfl ?_
          refine go_aload_n (pc := 33) hF dX9_runLoop_33 5 rfl ?_
          refine go_iload_n (pc := 34) hF dX9_runLoop_34 6 rfl ?_
          refine go_iconst (pc := 35) hF dX9_runLoop_35 ?_
          refine go_iadd (pc := 36) hF dX9_runLoop_36 ?_
          refine go_iload (pc := 37) hF dX9_runLoop_37 2 rfl ?_
          refine go_iload (pc := 39) hF dX9_runLoop_39 7 rfl ?_
          refine go_iconst (pc := 41) hF dX9_runLoop_41 ?_
          refine go_iadd (pc := 42) hF dX9_runLoop_42 ?_
          have zf := ze (by omega)
          have cr_s4 := IH₉ ta_ s3₉ g₉ h sg vl mt₉ lw ll la sz₉ lk₉ chs lps dp ln (o + 1) k₉ o (dl + 1) ch₉ X₉.2.1 X₉.2.2.1 X₉.2.2.2.1 (X₉.2.2.2.2 + 1) X₉.1 u₉ kd pr hN₉ hgN hhN hgh hg23 hh23 t_s3 ho hwa (by omega) paa (by omega) (by omega) (by omega) (by omega) (by omega) hXr hu hkd u0_s3 h_s3
          rw [show (o + 1) + (tLen ta_ : Int) = o + 1 + (tLen ta_ : Int) by omega] at cr_s4
          refine go_callVV (pc := 43) hF [vr E 23, vr E h, vi (o + 1), vi (o + 1 + (tLen ta_ : Int)), vi (dl + 1)] [] mv_X9_32 dX9_runLoop_43 (by omega) u0_s3 cr_s4 rfl rfl (Nat.le_of_ble_eq_true rfl) (by omega) ⟨Nat.zero_le _, Nat.zero_le _⟩ (fun s4₉ h_s4 => ?_)
          obtain ⟨ug_s4, uh_s4, f_s4⟩ := h_s4
          have t_s4 := t_s3.keep (fun jj h1 h2 => f_s4 jj (by omega))
          refine go_iinc (pc := 46) hF [(7, vi (i₉ + 1)), (6, vi (nn : Int)), (5, vi (o + 1 + (tLen ta_ : Int))), (0, vr E g₉), (1, vr E 23), (2, vr E h), (3, vi o), (4, vi dl)] dX9_runLoop_46 0 rfl rfl (by decide) ?_
          refine go_goto (pc := 49) hF 17 dX9_runLoop_49 (by decide) ?_
          exact ih₉ (i₉ + 1) (rn u₉ kd pr ch₉ ta_ (rAsk X₉)) s4₉ (by omega) (by omega) (by rw [← hX, show ((nn : Int) - i₉).toNat = ((nn : Int) - (i₉ + 1)).toNat + 1 by omega]; conv => rhs; unfold rLoop; rw [if_pos (by omega)]) (rn_row hu hkd ta_ hwa _ hXr) (by have h5 := rn_ask (u₉ := u₉) (kd := kd) (pr := pr) (ch₉ := ch₉) ta_ hwa (rAsk X₉); have h6 : (rAsk X₉).2.2.2.2 = X₉.2.2.2.2 + 1 := rfl; omega) ug_s4 uh_s4 (fun jj hjj => by rw [f_s4 jj (by omega), f_s3 jj (by omega), fr_loop jj (by omega)])
  exact loop₉ (nn + 1) 0 (r₉, ta, hi₉, mi, sk) σ (by omega) (by omega) (by rw [show ((nn : Int) - 0).toNat = nn by omega]) hrw (by rw [show ((nn : Int) - 0).toNat = nn by omega]; exact hsk) hg hh (fun _ _ => rfl)
