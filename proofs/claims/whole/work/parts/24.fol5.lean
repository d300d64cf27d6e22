/-! Following: follow, and what is₉ read₉. -/
def A0 (v₉ : Int) : AG₉ := (fun _ => v₉, fun _ => v₉)
def folOK (t₉ : Tr) (v₉ : Int) (mm my : Int → Int) (A₉ : AG₉) : Prop := (∀ z₉ : Int, 0 ≤ z₉ → z₉ < tLks t₉ → mm z₉ = (rec1 v₉ t₉ (A0 v₉)).getD z₉.toNat 0 ∧ my z₉ = (rec2 v₉ t₉ (A0 v₉)).getD z₉.toNat 0) ∧ A₉ = fa v₉ t₉ (A0 v₉)
/-- what Following holds₉: nothing₉ yet, or all₉ of₉ the tree t₉ by v₉ ways -/
def folS (E : En) (σ : Nat → va_E) (t₉ : Tr) (v₉ kn₉ : Int) : Prop := ∃ (mm my : Int → Int) (A₉ : AG₉), isFo E σ v₉ kn₉ mm my ∧ isA E σ 35 A₉.1 A₉.2 ∧ scr E σ 0 ∧ (kn₉ = 0 ∨ (kn₉ = 1 ∧ folOK t₉ v₉ mm my A₉))
theorem rgA_A0 {v₉ : Int} (h : 1 ≤ v₉ ∧ v₉ ≤ 3) : rgA (A0 v₉) := fun z₉ _ _ => ⟨⟨by show 0 ≤ v₉; omega, by show v₉ ≤ 3; omega⟩, by show 0 ≤ v₉; omega, by show v₉ ≤ 3; omega⟩
theorem folS.keep {E : En} {σ τ : Nat → va_E} {t₉ : Tr} {v₉ kn₉ : Int} (h : folS E σ t₉ v₉ kn₉) (hk : ∀ j₉, 30 ≤ j₉ → j₉ ≤ 55 → τ j₉ = σ j₉) : folS E τ t₉ v₉ kn₉ := by
  obtain ⟨mm, my, A₉, h1, h2, h3, h4⟩ := h
  exact ⟨mm, my, A₉, h1.keep (fun j₉ a₉ b₉ => hk j₉ a₉ (by omega)), h2.keep (fun j₉ a₉ b₉ => hk j₉ (by omega) (by omega)), h3.keep (fun j₉ a₉ b₉ => hk j₉ (by omega) b₉), h4⟩
set_option maxHeartbeats 4000000 in
set_option maxRecDepth 100000 in
theorem c_X3_mustAt (E : En) (N : Nat) (σ : Nat → va_E) (mm my : Int → Int) (v₉ kn₉ a₉ : Int) (hN₉ : 101 ≤ N) (hf : isFo E σ v₉ kn₉ mm my) (ha₉ : 0 ≤ a₉ ∧ a₉ < 24) : CP E M_X3_mustAt 1 [vr E 30, vi a₉] N σ (mm a₉) := by
  refine CT.of2 (own := RX3) (by decide) rfl (Nat.le_of_ble_eq_true rfl) ?_
  intro p e R s m args below meth c Q hF hr hlk hnm hz hR hQ
  refine go_iload_n (pc := 0) hF dX3_mustAt_0 1 rfl ?_
  refine go_if_lt (pc := 1) hF 19 dX3_mustAt_1 (by decide) (by omega) (fun bq1 => ?_) (fun bq1 => ?_)
  · exact absurd bq1 (by omega)
  · refine go_iload_n (pc := 4) hF dX3_mustAt_4 1 rfl ?_
    refine go_bipush (pc := 5) hF dX3_mustAt_5 (by decide) ?_
    refine go_icmp_ge (pc := 7) hF 19 dX3_mustAt_7 (by decide) (by omega) ⟨by decide, by decide⟩ (fun bq7 => ?_) (fun bq7 => ?_)
    · exact absurd bq7 (by omega)
    · refine go_aload_n (pc := 10) hF dX3_mustAt_10 0 rfl ?_
      refine go_get (pc := 11) hF fl_X3_9 dX3_mustAt_11 (by omega) hf.1 rfl ?_
      refine go_iload_n (pc := 14) hF dX3_mustAt_14 1 rfl ?_
      refine go_iald (pc := 15) hF dX3_mustAt_15 (by omega) hf.2.1 (by omega)  ?_
      refine go_goto (pc := 16) hF 23 dX3_mustAt_16 (by decide) ?_
      exact go_iretQ hF hr hlk hQ dX3_mustAt_23 ⟨rfl, rfl⟩
set_option maxHeartbeats 4000000 in
set_option maxRecDepth 100000 in
theorem c_X3_mayAt (E : En) (N : Nat) (σ : Nat → va_E) (mm my : Int → Int) (v₉ kn₉ a₉ : Int) (hN₉ : 101 ≤ N) (hf : isFo E σ v₉ kn₉ mm my) (ha₉ : 0 ≤ a₉ ∧ a₉ < 24) : CP E M_X3_mayAt 1 [vr E 30, vi a₉] N σ (my a₉) := by
  refine CT.of2 (own := RX3) (by decide) rfl (Nat.le_of_ble_eq_true rfl) ?_
  intro p e R s m args below meth c Q hF hr hlk hnm hz hR hQ
  refine go_iload_n (pc := 0) hF dX3_mayAt_0 1 rfl ?_
  refine go_if_lt (pc := 1) hF 19 dX3_mayAt_1 (by decide) (by omega) (fun bq1 => ?_) (fun bq1 => ?_)
  · exact absurd bq1 (by omega)
  · refine go_iload_n (pc := 4) hF dX3_mayAt_4 1 rfl ?_
    refine go_bipush (pc := 5) hF dX3_mayAt_5 (by decide) ?_
    refine go_icmp_ge (pc := 7) hF 19 dX3_mayAt_7 (by decide) (by omega) ⟨by decide, by decide⟩ (fun bq7 => ?_) (fun bq7 => ?_)
    · exact absurd bq7 (by omega)
    · refine go_aload_n (pc := 10) hF dX3_mayAt_10 0 rfl ?_
      refine go_get (pc := 11) hF fl_X3_15 dX3_mayAt_11 (by omega) hf.1 rfl ?_
      refine go_iload_n (pc := 14) hF dX3_mayAt_14 1 rfl ?_
      refine go_iald (pc := 15) hF dX3_mayAt_15 (by omega) hf.2.2.1 (by omega)  ?_
      refine go_goto (pc := 16) hF 23 dX3_mayAt_16 (by decide) ?_
      exact go_iretQ hF hr hlk hQ dX3_mayAt_23 ⟨rfl, rfl⟩
def soA (v₉ : Int) (mm my : Int → Int) (a₉ : Int) : Int := if mm a₉ < v₉ then 1 else if v₉ ≤ my a₉ then 2 else 0
set_option maxHeartbeats 4000000 in
set_option maxRecDepth 100000 in
theorem c_X3_sortOf (E : En) (N : Nat) (σ : Nat → va_E) (mm my : Int → Int) (v₉ kn₉ a₉ : Int) (hN₉ : 101 ≤ N) (hf : isFo E σ v₉ kn₉ mm my) (ha₉ : 0 ≤ a₉ ∧ a₉ < 24) (hm1 : rg (mm a₉)) (hm2 : rg (my a₉)) (hv : rg v₉) : CP E M_X3_sortOf 2 [vr E 30, vi a₉] N σ (soA v₉ mm my a₉) := by
  refine CT.of2 (own := RX3) (by decide) rfl (Nat.le_of_ble_eq_true rfl) ?_
  intro p e R s m args below meth c Q hF hr hlk hnm hz hR hQ
  refine go_aload_n (pc := 0) hF dX3_sortOf_0 0 rfl ?_
  refine go_iload_n (pc := 1) hF dX3_sortOf_1 1 rfl ?_
  refine go_callVP (pc := 2) hF [vi a₉] [] mv_X3_55 dX3_sortOf_2 (by omega) hf.1 (c_X3_mustAt E N σ mm my v₉ kn₉ a₉ hN₉ hf (by omega)) rfl rfl (Nat.le_of_ble_eq_true rfl) (by decide) ⟨Nat.zero_le _, Nat.zero_le _⟩ ?_
  refine go_aload_n (pc := 5) hF dX3_sortOf_5 0 rfl ?_
  refine go_get (pc := 6) hF fl_X3_27 dX3_sortOf_6 (by omega) hf.1 rfl ?_
  refine go_icmp_ge (pc := 9) hF 14 dX3_sortOf_9 (by decide) (by omega) (by omega) (fun bq9 => ?_) (fun bq9 => ?_)
  · refine go_aload_n (pc := 14) hF dX3_sortOf_14 0 rfl ?_
    refine go_iload_n (pc := 15) hF dX3_sortOf_15 1 rfl ?_
    refine go_callVP (pc := 16) hF [vi a₉] [] mv_X3_59 dX3_sortOf_16 (by omega) hf.1 (c_X3_mayAt E N σ mm my v₉ kn₉ a₉ hN₉ hf (by omega)) rfl rfl (Nat.le_of_ble_eq_true rfl) (by decide) ⟨Nat.zero_le _, Nat.zero_le _⟩ ?_
    refine go_aload_n (pc := 19) hF dX3_sortOf_19 0 rfl ?_
    refine go_get (pc := 20) hF fl_X3_27 dX3_sortOf_20 (by omega) hf.1 rfl ?_
    refine go_icmp_lt (pc := 23) hF 30 dX3_sortOf_23 (by decide) (by omega) (by omega) (fun bq23 => ?_) (fun bq23 => ?_)
    · refine go_iconst (pc := 30) hF dX3_sortOf_30 ?_
      exact go_iretQ hF hr hlk hQ dX3_sortOf_31 ⟨by unfold soA; repeat (first | rfl | omega | (rw [if_pos (by omega)]) | (rw [if_neg (by omega)])), rfl⟩
    · refine go_iconst (pc := 26) hF dX3_sortOf_26 ?_
      refine go_goto (pc := 27) hF 31 dX3_sortOf_27 (by decide) ?_
      exact go_iretQ hF hr hlk hQ dX3_sortOf_31 ⟨by unfold soA; repeat (first | rfl | omega | (rw [if_pos (by omega)]) | (rw [if_neg (by omega)])), rfl⟩
  · refine go_iconst (pc := 12) hF dX3_sortOf_12 ?_
    exact go_iretQ hF hr hlk hQ dX3_sortOf_13 ⟨by unfold soA; repeat (first | rfl | omega | (rw [if_pos (by omega)]) | (rw [if_neg (by omega)])), rfl⟩
set_option maxHeartbeats 4000000 in
set_option maxRecDepth 100000 in
theorem c_X3_mustBehind (E : En) (N : Nat) (σ : Nat → va_E) (mm my : Int → Int) (v₉ kn₉ a₉ : Int) (hN₉ : 101 ≤ N) (hf : isFo E σ v₉ kn₉ mm my) (mu₉ ma : Int → Int) (hA : isA E σ 35 mu₉ ma) (ha₉ : 0 ≤ a₉ ∧ a₉ ≤ 5) : CP E M_X3_mustBehind 3 [vr E 30, vi a₉] N σ (mu₉ a₉) := by
  refine CT.of2 (own := RX3) (by decide) rfl (Nat.le_of_ble_eq_true rfl) ?_
  intro p e R s m args below meth c Q hF hr hlk hnm hz hR hQ
  refine go_iload_n (pc := 0) hF dX3_mustBehind_0 1 rfl ?_
  refine go_callNP (pc := 1) hF [vi a₉] [] mn_X3_49 dX3_mustBehind_1 (c_X10_isLine E N σ a₉ (by omega)) rfl rfl (Nat.le_of_ble_eq_true rfl) (by decide) ⟨Nat.zero_le _, Nat.zero_le _⟩ ?_
  refine go_if_eq (pc := 4) hF 21 dX3_mustBehind_4 (by decide) (bI_rg _) (fun bq4 => ?_) (fun bq4 => ?_)
  · exact absurd ((bI_0 _).mp bq4) (by omega)
  · refine go_aload_n (pc := 7) hF dX3_mustBehind_7 0 rfl ?_
    refine go_get (pc := 8) hF fl_X3_20 dX3_mustBehind_8 (by omega) hf.1 rfl ?_
    refine go_iconst (pc := 11) hF dX3_mustBehind_11 ?_
    refine go_aald (pc := 12) hF 3 35 dX3_mustBehind_12 rfl (by omega) hf.2.2.2.1 (by omega) rfl ?_
    refine go_get (pc := 13) hF fl_X3_53 dX3_mustBehind_13 (by omega) hA.1 rfl ?_
    refine go_iload_n (pc := 16) hF dX3_mustBehind_16 1 rfl ?_
    refine go_iald (pc := 17) hF dX3_mustBehind_17 (by omega) hA.2.1 (by omega)  ?_
    refine go_goto (pc := 18) hF 25 dX3_mustBehind_18 (by decide) ?_
    exact go_iretQ hF hr hlk hQ dX3_mustBehind_25 ⟨rfl, rfl⟩
set_option maxHeartbeats 4000000 in
set_option maxRecDepth 100000 in
theorem c_X3_mayBehind (E : En) (N : Nat) (σ : Nat → va_E) (mm my : Int → Int) (v₉ kn₉ a₉ : Int) (hN₉ : 101 ≤ N) (hf : isFo E σ v₉ kn₉ mm my) (mu₉ ma : Int → Int) (hA : isA E σ 35 mu₉ ma) (ha₉ : 0 ≤ a₉ ∧ a₉ ≤ 5) : CP E M_X3_mayBehind 3 [vr E 30, vi a₉] N σ (ma a₉) := by
  refine CT.of2 (own := RX3) (by decide) rfl (Nat.le_of_ble_eq_true rfl) ?_
  intro p e R s m args below meth c Q hF hr hlk hnm hz hR hQ
  refine go_iload_n (pc := 0) hF dX3_mayBehind_0 1 rfl ?_
  refine go_callNP (pc := 1) hF [vi a₉] [] mn_X3_49 dX3_mayBehind_1 (c_X10_isLine E N σ a₉ (by omega)) rfl rfl (Nat.le_of_ble_eq_true rfl) (by decide) ⟨Nat.zero_le _, Nat.zero_le _⟩ ?_
  refine go_if_eq (pc := 4) hF 21 dX3_mayBehind_4 (by decide) (bI_rg _) (fun bq4 => ?_) (fun bq4 => ?_)
  · exact absurd ((bI_0 _).mp bq4) (by omega)
  · refine go_aload_n (pc := 7) hF dX3_mayBehind_7 0 rfl ?_
    refine go_get (pc := 8) hF fl_X3_20 dX3_mayBehind_8 (by omega) hf.1 rfl ?_
    refine go_iconst (pc := 11) hF dX3_mayBehind_11 ?_
    refine go_aald (pc := 12) hF 3 35 dX3_mayBehind_12 rfl (by omega) hf.2.2.2.1 (by omega) rfl ?_
    refine go_get (pc := 13) hF fl_X3_54 dX3_mayBehind_13 (by omega) hA.1 rfl ?_
    refine go_iload_n (pc := 16) hF dX3_mayBehind_16 1 rfl ?_
    refine go_iald (pc := 17) hF dX3_mayBehind_17 (by omega) hA.2.2 (by omega)  ?_
    refine go_goto (pc := 18) hF 25 dX3_mayBehind_18 (by decide) ?_
    exact go_iretQ hF hr hlk hQ dX3_mayBehind_25 ⟨rfl, rfl⟩
set_option maxHeartbeats 4000000 in
set_option maxRecDepth 100000 in
theorem c_X3_isKept (E : En) (N : Nat) (σ : Nat → va_E) (sg vl mt₉ lw ll la mm my : Int → Int) (sz₉ lk₉ chs lps dp ln v₉ kn₉ a₉ : Int) (hN₉ : 101 ≤ N) (hp : isP E σ 23 sg vl mt₉ lw ll la sz₉ lk₉ chs lps dp ln) (ho : okP sg vl mt₉ lw ll la sz₉ lk₉ chs lps dp ln) (hf : isFo E σ v₉ kn₉ mm my) (ha₉ : 0 ≤ a₉ ∧ a₉ < 24) (hal : a₉ < lk₉) (hm1 : rg (mm a₉)) (hm2 : rg (my a₉)) (hv : rg v₉) : CP E M_X3_isKept 4 [vr E 30, vr E 23, vi a₉] N σ (bI (soA v₉ mm my a₉ ≠ 1 ∧ la a₉ ≠ -1 ∧ gMany lw la sz₉ lk₉ a₉ ≤ v₉)) := by
  refine CT.of2 (own := RX3) (by decide) rfl (Nat.le_of_ble_eq_true rfl) ?_
  intro p e R s m args below meth c Q hF hr hlk hnm hz hR hQ
  have zs : 0 ≤ soA v₉ mm my a₉ ∧ soA v₉ mm my a₉ ≤ 2 := by unfold soA; repeat (first | omega | split)
  have zm : 0 ≤ gMany lw la sz₉ lk₉ a₉ ∧ gMany lw la sz₉ lk₉ a₉ ≤ 6 := by unfold gMany pc6; repeat (first | omega | split)
  refine go_aload_n (pc := 0) hF dX3_isKept_0 0 rfl ?_
  refine go_iload_n (pc := 1) hF dX3_isKept_1 2 rfl ?_
  refine go_callVP (pc := 2) hF [vi a₉] [] mv_X3_62 dX3_isKept_2 (by omega) hf.1 (c_X3_sortOf E N σ mm my v₉ kn₉ a₉ hN₉ hf (by omega) hm1 hm2 hv) rfl rfl (Nat.le_of_ble_eq_true rfl) (by decide) ⟨Nat.zero_le _, Nat.zero_le _⟩ ?_
  refine go_iconst (pc := 5) hF dX3_isKept_5 ?_
  refine go_icmp_eq (pc := 6) hF 33 dX3_isKept_6 (by decide) (by omega) ⟨by decide, by decide⟩ (fun bq6 => ?_) (fun bq6 => ?_)
  · refine go_iconst (pc := 33) hF dX3_isKept_33 ?_
    exact go_zretQ hF hr hlk hQ dX3_isKept_34 (by decide) ⟨by first | (rw [bI_t (by omega)]; done) | (rw [bI_f (by skip; omega)]; done), rfl⟩
  · refine go_aload_n (pc := 9) hF dX3_isKept_9 1 rfl ?_
    refine go_iload_n (pc := 10) hF dX3_isKept_10 2 rfl ?_
    refine go_callVP (pc := 11) hF [vi a₉] [] mv_X3_65 dX3_isKept_11 (by omega) hp.1 (c_X6_isInLoop E N σ 23 a₉ (by omega) (by omega) hp ho) rfl rfl (Nat.le_of_ble_eq_true rfl) (by decide) ⟨Nat.zero_le _, Nat.zero_le _⟩ ?_
    refine go_if_eq (pc := 14) hF 33 dX3_isKept_14 (by decide) (bI_rg _) (fun bq14 => ?_) (fun bq14 => ?_)
    · refine go_iconst (pc := 33) hF dX3_isKept_33 ?_
      exact go_zretQ hF hr hlk hQ dX3_isKept_34 (by decide) ⟨by first | (rw [bI_t (by omega)]; done) | (rw [bI_f (by have nq14 := bq14; rw [bI_0] at nq14; omega)]; done), rfl⟩
    · have nq14 := bq14; rw [bI_0] at nq14; rw [Decidable.not_not] at nq14
      refine go_aload_n (pc := 17) hF dX3_isKept_17 1 rfl ?_
      refine go_iload_n (pc := 18) hF dX3_isKept_18 2 rfl ?_
      refine go_callVP (pc := 19) hF [vi a₉] [] mv_X3_68 dX3_isKept_19 (by omega) hp.1 (c_X6_howManyLinesAround E N σ 23 a₉ (by omega) (by omega) hp ho) rfl rfl (Nat.le_of_ble_eq_true rfl) (by decide) ⟨Nat.zero_le _, Nat.zero_le _⟩ ?_
      refine go_aload_n (pc := 22) hF dX3_isKept_22 0 rfl ?_
      refine go_get (pc := 23) hF fl_X3_27 dX3_isKept_23 (by omega) hf.1 rfl ?_
      refine go_icmp_gt (pc := 26) hF 33 dX3_isKept_26 (by decide) (by omega) (by omega) (fun bq26 => ?_) (fun bq26 => ?_)
      · refine go_iconst (pc := 33) hF dX3_isKept_33 ?_
        exact go_zretQ hF hr hlk hQ dX3_isKept_34 (by decide) ⟨by first | (rw [bI_t (by omega)]; done) | (rw [bI_f (by skip; omega)]; done), rfl⟩
      · refine go_iconst (pc := 29) hF dX3_isKept_29 ?_
        refine go_goto (pc := 30) hF 34 dX3_isKept_30 (by decide) ?_
        exact go_zretQ hF hr hlk hQ dX3_isKept_34 (by decide) ⟨by first | (rw [bI_t (by omega)]; done) | (rw [bI_f (by skip; omega)]; done), rfl⟩
set_option maxHeartbeats 4000000 in
set_option maxRecDepth 100000 in
theorem c_X3_follow (E : En) (N : Nat) (σ : Nat → va_E) (t₉ : Tr) (sg vl mt₉ lw ll la : Int → Int) (sz₉ lk₉ chs lps dp ln v₉ kn₉ u₉ : Int) (hN₉ : 101 ≤ N) (hp : isP E σ 23 sg vl mt₉ lw ll la sz₉ lk₉ chs lps dp ln) (ho : okP sg vl mt₉ lw ll la sz₉ lk₉ chs lps dp ln) (hwf : wf t₉) (hdp : tDep t₉ ≤ 3) (hpa0 : PA₉ sg vl mt₉ lw ll la t₉ 0 0 (-1)) (htl : (tLen t₉ : Int) = sz₉) (htk : (tLks t₉ : Int) = lk₉) (hu : 1 ≤ u₉ ∧ u₉ ≤ 3) (hv : rg v₉) (hfs : folS E σ t₉ v₉ kn₉) : CV E M_X3_follow 13 [vr E 30, vr E 23, vi u₉] N σ (fun σ' => folS E σ' t₉ u₉ 1 ∧ ∀ q₉, (q₉ < 30 ∨ 55 < q₉) → σ' q₉ = σ q₉) := by
  refine CT.of2 (own := RX3) (by decide) rfl (Nat.le_of_ble_eq_true rfl) ?_
  intro p e R s m args below meth c Q hF hr hlk hnm hz hR hQ
  obtain ⟨mm, my, A₉, hf, hA, hsc, hkk⟩ := hfs
  have hsz := ho.1
  have hkn01 : 0 ≤ kn₉ ∧ kn₉ ≤ 1 := by rcases hkk with h | h <;> omega
  refine go_aload_n (pc := 0) hF dX3_follow_0 0 rfl ?_
  refine go_get (pc := 1) hF fl_X3_31 dX3_follow_1 (by omega) hf.1 rfl ?_
  refine go_if_eq (pc := 4) hF 16 dX3_follow_4 (by decide) (by omega) (fun bq4 => ?_) (fun bq4 => ?_)
  · refine go_aload_n (pc := 16) hF dX3_follow_16 0 rfl ?_
    refine go_iload_n (pc := 17) hF dX3_follow_17 2 rfl ?_
    refine go_put (pc := 18) hF [vr E 31, vr E 32, vr E 33, vr E 34, vi u₉, vi kn₉] fl_X3_27 dX3_follow_18 (by omega) hf.1 rfl rfl rfl (Nat.le_of_ble_eq_true rfl) (fun s1₉ u_s1 f_s1 => ?_)
    have t_s1 := hp.keep (fun jj h1 h2 => f_s1 jj (by omega))
    have fm_s1 := (f_s1 31 (show 31 ≠ 30 by omega)).trans hf.2.1
    have fy_s1 := (f_s1 32 (show 32 ≠ 30 by omega)).trans hf.2.2.1
    have fn_s1 := (f_s1 33 (show 33 ≠ 30 by omega)).trans hf.2.2.2.1
    have fd_s1 := (f_s1 34 (show 34 ≠ 30 by omega)).trans hf.2.2.2.2
    have A0_s1 := hA.keep (fun jj h1 h2 => f_s1 jj (by omega))
    refine go_aload_n (pc := 21) hF dX3_follow_21 0 rfl ?_
    refine go_get (pc := 22) hF fl_X3_20 dX3_follow_22 (by omega) u_s1 rfl ?_
    refine go_iconst (pc := 25) hF dX3_follow_25 ?_
    refine go_aald (pc := 26) hF 3 35 dX3_follow_26 rfl (by omega) fn_s1 (by omega) rfl ?_
    refine go_aload_n (pc := 27) hF dX3_follow_27 0 rfl ?_
    refine go_get (pc := 28) hF fl_X3_27 dX3_follow_28 (by omega) u_s1 rfl ?_
    refine go_callVV (pc := 31) hF [vi u₉] [] mv_X3_36 dX3_follow_31 (by omega) A0_s1.1 (c_X0_start E N s1₉ 35 A₉.1 A₉.2 u₉ (by omega) A0_s1) rfl rfl (Nat.le_of_ble_eq_true rfl) (by decide) ⟨Nat.zero_le _, Nat.zero_le _⟩ (fun s2₉ h_s2 => ?_)
    obtain ⟨uA_s2, f_s2⟩ := h_s2
    have t_s2 := t_s1.keep (fun jj h1 h2 => f_s2 jj (by omega))
    have fo_s2 := (f_s2 30 (by omega)).trans u_s1
    have fm_s2 := (f_s2 31 (by omega)).trans fm_s1
    have fy_s2 := (f_s2 32 (by omega)).trans fy_s1
    have fn_s2 := (f_s2 33 (by omega)).trans fn_s1
    have fd_s2 := (f_s2 34 (by omega)).trans fd_s1
    refine go_aload_n (pc := 34) hF dX3_follow_34 0 rfl ?_
    refine go_aload_n (pc := 35) hF dX3_follow_35 1 rfl ?_
    refine go_iconst (pc := 36) hF dX3_follow_36 ?_
    refine go_aload_n (pc := 37) hF dX3_follow_37 1 rfl ?_
    refine go_get (pc := 38) hF fl_X3_40 dX3_follow_38 (by omega) t_s2.1 rfl ?_
    refine go_iconst (pc := 41) hF dX3_follow_41 ?_
    have isf_s3 : isFo E s2₉ u₉ kn₉ mm my := ⟨fo_s2, fm_s2, fy_s2, fn_s2, fd_s2⟩
    have sc_s3 : scr E s2₉ 0 := hsc.keep (fun jj h1 h2 => by rw [f_s2 jj (by omega), f_s1 jj (by omega)])
    have cr_s3 := fol_row E N 3 t₉ s2₉ sg vl mt₉ lw ll la mm my (A0 u₉).1 (A0 u₉).2 sz₉ lk₉ chs lps dp ln 0 0 (-1) u₉ kn₉ 0 hN₉ t_s2 ho hwf hdp hpa0 (by omega) (by omega) (by omega) hu isf_s3 uA_s2 (rgA_A0 hu) sc_s3
    rw [show (0 : Int) + (tLen t₉ : Int) = sz₉ by omega] at cr_s3
    refine go_callVV (pc := 42) hF [vr E 23, vi 0, vi sz₉, vi 0] [] mv_X3_45 dX3_follow_42 (by omega) fo_s2 cr_s3 rfl rfl (Nat.le_of_ble_eq_true rfl) (by decide) ⟨Nat.zero_le _, Nat.zero_le _⟩ (fun s3₉ h_s3 => ?_)
    obtain ⟨⟨x0_s3, x1_s3, x2_s3, x3_s3, x4_s3⟩, uA_s3, us_s3, f_s3⟩ := h_s3
    have t_s3 := t_s2.keep (fun jj h1 h2 => f_s3 jj (by omega))
    refine go_aload_n (pc := 45) hF dX3_follow_45 0 rfl ?_
    refine go_iconst (pc := 46) hF dX3_follow_46 ?_
    refine go_put (pc := 47) hF [vr E 31, vr E 32, vr E 33, vr E 34, vi u₉, vi 1] fl_X3_31 dX3_follow_47 (by omega) x0_s3 rfl (by decide) rfl (Nat.le_of_ble_eq_true rfl) (fun s4₉ u_s4 f_s4 => ?_)
    have t_s4 := t_s3.keep (fun jj h1 h2 => f_s4 jj (by omega))
    have fm_s4 := (f_s4 31 (show 31 ≠ 30 by omega)).trans x1_s3
    have fy_s4 := (f_s4 32 (show 32 ≠ 30 by omega)).trans x2_s3
    have fn_s4 := (f_s4 33 (show 33 ≠ 30 by omega)).trans x3_s3
    have fd_s4 := (f_s4 34 (show 34 ≠ 30 by omega)).trans x4_s3
    have A0_s4 := uA_s3.keep (fun jj h1 h2 => f_s4 jj (by omega))
    refine go_vretQ hF hr hlk hQ dX3_follow_50 ⟨⟨_, _, fa u₉ t₉ (A0 u₉), ⟨u_s4, fm_s4, fy_s4, fn_s4, fd_s4⟩, A0_s4, us_s3.keep (fun jj h1 h2 => by rw [f_s4 jj (by omega)]), Or.inr ⟨rfl, fun z₉ h1 h2 => ⟨?_, ?_⟩, rfl⟩⟩, (fun jj hjj => by rw [f_s4 jj (by omega), f_s3 jj (by omega), f_s2 jj (by omega), f_s1 jj (by omega)])⟩
    · rw [recU_at, rec1_len hwf, if_pos (by omega), Int.sub_zero]
    · rw [recU_at, rec2_len hwf, if_pos (by omega), Int.sub_zero]
  · refine go_aload_n (pc := 7) hF dX3_follow_7 0 rfl ?_
    refine go_get (pc := 8) hF fl_X3_27 dX3_follow_8 (by omega) hf.1 rfl ?_
    refine go_iload_n (pc := 11) hF dX3_follow_11 2 rfl ?_
    refine go_icmp_ne (pc := 12) hF 16 dX3_follow_12 (by decide) (by omega) (by omega) (fun bq12 => ?_) (fun bq12 => ?_)
    · refine go_aload_n (pc := 16) hF dX3_follow_16 0 rfl ?_
      refine go_iload_n (pc := 17) hF dX3_follow_17 2 rfl ?_
      refine go_put (pc := 18) hF [vr E 31, vr E 32, vr E 33, vr E 34, vi u₉, vi kn₉] fl_X3_27 dX3_follow_18 (by omega) hf.1 rfl rfl rfl (Nat.le_of_ble_eq_true rfl) (fun s5 u_s5 f_s5 => ?_)
      have t_s5 := hp.keep (fun jj h1 h2 => f_s5 jj (by omega))
      have fm_s5 := (f_s5 31 (show 31 ≠ 30 by omega)).trans hf.2.1
      have fy_s5 := (f_s5 32 (show 32 ≠ 30 by omega)).trans hf.2.2.1
      have fn_s5 := (f_s5 33 (show 33 ≠ 30 by omega)).trans hf.2.2.2.1
      have fd_s5 := (f_s5 34 (show 34 ≠ 30 by omega)).trans hf.2.2.2.2
      have A0_s5 := hA.keep (fun jj h1 h2 => f_s5 jj (by omega))
      refine go_aload_n (pc := 21) hF dX3_follow_21 0 rfl ?_
      refine go_get (pc := 22) hF fl_X3_20 dX3_follow_22 (by omega) u_s5 rfl ?_
      refine go_iconst (pc := 25) hF dX3_follow_25 ?_
      refine go_aald (pc := 26) hF 3 35 dX3_follow_26 rfl (by omega) fn_s5 (by omega) rfl ?_
      refine go_aload_n (pc := 27) hF dX3_follow_27 0 rfl ?_
      refine go_get (pc := 28) hF fl_X3_27 dX3_follow_28 (by omega) u_s5 rfl ?_
      refine go_callVV (pc := 31) hF [vi u₉] [] mv_X3_36 dX3_follow_31 (by omega) A0_s5.1 (c_X0_start E N s5 35 A₉.1 A₉.2 u₉ (by omega) A0_s5) rfl rfl (Nat.le_of_ble_eq_true rfl) (by decide) ⟨Nat.zero_le _, Nat.zero_le _⟩ (fun s6₉ h_s6 => ?_)
      obtain ⟨uA_s6, f_s6⟩ := h_s6
      have t_s6 := t_s5.keep (fun jj h1 h2 => f_s6 jj (by omega))
      have fo_s6 := (f_s6 30 (by omega)).trans u_s5
      have fm_s6 := (f_s6 31 (by omega)).trans fm_s5
      have fy_s6 := (f_s6 32 (by omega)).trans fy_s5
      have fn_s6 := (f_s6 33 (by omega)).trans fn_s5
      have fd_s6 := (f_s6 34 (by omega)).trans fd_s5
      refine go_aload_n (pc := 34) hF dX3_follow_34 0 rfl ?_
      refine go_aload_n (pc := 35) hF dX3_follow_35 1 rfl ?_
      refine go_iconst (pc := 36) hF dX3_follow_36 ?_
      refine go_aload_n (pc := 37) hF dX3_follow_37 1 rfl ?_
      refine go_get (pc := 38) hF fl_X3_40 dX3_follow_38 (by omega) t_s6.1 rfl ?_
      refine go_iconst (pc := 41) hF dX3_follow_41 ?_
      have isf_s7 : isFo E s6₉ u₉ kn₉ mm my := ⟨fo_s6, fm_s6, fy_s6, fn_s6, fd_s6⟩
      have sc_s7 : scr E s6₉ 0 := hsc.keep (fun jj h1 h2 => by rw [f_s6 jj (by omega), f_s5 jj (by omega)])
      have cr_s7 := fol_row E N 3 t₉ s6₉ sg vl mt₉ lw ll la mm my (A0 u₉).1 (A0 u₉).2 sz₉ lk₉ chs lps dp ln 0 0 (-1) u₉ kn₉ 0 hN₉ t_s6 ho hwf hdp hpa0 (by omega) (by omega) (by omega) hu isf_s7 uA_s6 (rgA_A0 hu) sc_s7
      rw [show (0 : Int) + (tLen t₉ : Int) = sz₉ by omega] at cr_s7
      refine go_callVV (pc := 42) hF [vr E 23, vi 0, vi sz₉, vi 0] [] mv_X3_45 dX3_follow_42 (by omega) fo_s6 cr_s7 rfl rfl (Nat.le_of_ble_eq_true rfl) (by decide) ⟨Nat.zero_le _, Nat.zero_le _⟩ (fun s7 h_s7 => ?_)
      obtain ⟨⟨x0_s7, x1_s7, x2_s7, x3_s7, x4_s7⟩, uA_s7, us_s7, f_s7⟩ := h_s7
      have t_s7 := t_s6.keep (fun jj h1 h2 => f_s7 jj (by omega))
      refine go_aload_n (pc := 45) hF dX3_follow_45 0 rfl ?_
      refine go_iconst (pc := 46) hF dX3_follow_46 ?_
      refine go_put (pc := 47) hF [vr E 31, vr E 32, vr E 33, vr E 34, vi u₉, vi 1] fl_X3_31 dX3_follow_47 (by omega) x0_s7 rfl (by decide) rfl (Nat.le_of_ble_eq_true rfl) (fun s8 u_s8 f_s8 => ?_)
      have t_s8 := t_s7.keep (fun jj h1 h2 => f_s8 jj (by omega))
      have fm_s8 := (f_s8 31 (show 31 ≠ 30 by omega)).trans x1_s7
      have fy_s8 := (f_s8 32 (show 32 ≠ 30 by omega)).trans x2_s7
      have fn_s8 := (f_s8 33 (show 33 ≠ 30 by omega)).trans x3_s7
      have fd_s8 := (f_s8 34 (show 34 ≠ 30 by omega)).trans x4_s7
      have A0_s8 := uA_s7.keep (fun jj h1 h2 => f_s8 jj (by omega))
      refine go_vretQ hF hr hlk hQ dX3_follow_50 ⟨⟨_, _, fa u₉ t₉ (A0 u₉), ⟨u_s8, fm_s8, fy_s8, fn_s8, fd_s8⟩, A0_s8, us_s7.keep (fun jj h1 h2 => by rw [f_s8 jj (by omega)]), Or.inr ⟨rfl, fun z₉ h1 h2 => ⟨?_, ?_⟩, rfl⟩⟩, (fun jj hjj => by rw [f_s8 jj (by omega), f_s7 jj (by omega), f_s6 jj (by omega), f_s5 jj (by omega)])⟩
      · rw [recU_at, rec1_len hwf, if_pos (by omega), Int.sub_zero]
      · rw [recU_at, rec2_len hwf, if_pos (by omega), Int.sub_zero]
    · have hkn : kn₉ = 1 := by omega
      subst hkn
      have hvu : v₉ = u₉ := by omega
      subst hvu
      exact go_vretQ hF hr hlk hQ dX3_follow_15 ⟨⟨mm, my, A₉, hf, hA, hsc, hkk⟩, fun jj hjj => rfl⟩
