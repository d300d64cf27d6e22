/-! Bounds, and how many₉ ways. -/
theorem tenB {d₉ d' : Nat} (h : d₉ ≤ d') (n₉ : Nat) : 10 ^ d₉ * n₉ ≤ 10 ^ d' * n₉ := Nat.mul_le_mul_right n₉ (Nat.pow_le_pow_right (by decide) h)
theorem upB_rg (so : Int → Int) {pr : Int} (hp : 2 ≤ pr ∧ pr ≤ 99) : ∀ t₉, wf t₉ → ∀ k₉, 0 ≤ upB₉ so pr t₉ k₉ ∧ upB₉ so pr t₉ k₉ ≤ 99 * (10 ^ tDep t₉ * tLen t₉ : Nat) := by
  refine tInd (fun k₉ => by simp [upB₉, tLen]) (fun c r₉ hc₉ _ ih₉ k₉ => ?_) (fun a₉ b₉ r₉ _ _ _ iha ihb ihr k₉ => ?_) (fun n₉ a₉ r₉ hn _ _ iha ihr k₉ => ?_)
  · have h1 := ih₉ (k₉ + if c = 46 then 0 else 1)
    have h2 : 10 ^ tDep r₉ * (1 + tLen r₉) = 10 ^ tDep r₉ + 10 ^ tDep r₉ * tLen r₉ := by rw [Nat.mul_add, Nat.mul_one]
    have h3 : 0 < 10 ^ tDep r₉ := Nat.pow_pos (by decide)
    simp only [upB₉, tLen, tDep]
    generalize upB₉ so pr r₉ (k₉ + if c = 46 then 0 else 1) = yy at h1 ⊢
    rw [h2]
    repeat' split
    all_goals omega
  · have h1 := iha k₉
    have h2 := ihb (k₉ + tLks a₉)
    have h3 := ihr (k₉ + tLks a₉ + tLks b₉)
    simp only [upB₉, tLen, tDep]
    generalize hd₉ : max (1 + max (tDep a₉) (tDep b₉)) (tDep r₉) = d₉
    have k1₉ := tenB (d₉ := tDep a₉) (d' := d₉) (by omega) (tLen a₉)
    have k2₉ := tenB (d₉ := tDep b₉) (d' := d₉) (by omega) (tLen b₉)
    have k3₉ := tenB (d₉ := tDep r₉) (d' := d₉) (by omega) (tLen r₉)
    have h4 : 10 ^ d₉ * (3 + tLen a₉ + tLen b₉ + tLen r₉) = 10 ^ d₉ * 3 + 10 ^ d₉ * tLen a₉ + 10 ^ d₉ * tLen b₉ + 10 ^ d₉ * tLen r₉ := by rw [Nat.mul_add, Nat.mul_add, Nat.mul_add]
    rw [h4]
    omega
  · have h1 := iha k₉
    have h2 := ihr (k₉ + tLks a₉)
    simp only [upB₉, tLen, tDep]
    generalize hd₉ : max (1 + tDep a₉) (tDep r₉) = d₉
    have k1₉ := tenB (d₉ := 1 + tDep a₉) (d' := d₉) (by omega) (tLen a₉)
    have k3₉ := tenB (d₉ := tDep r₉) (d' := d₉) (by omega) (tLen r₉)
    have h4 : 10 ^ d₉ * (2 + tLen a₉ + tLen r₉) = 10 ^ d₉ * 2 + 10 ^ d₉ * tLen a₉ + 10 ^ d₉ * tLen r₉ := by rw [Nat.mul_add, Nat.mul_add]
    have h5 : 10 ^ (1 + tDep a₉) * tLen a₉ = 10 * (10 ^ tDep a₉ * tLen a₉) := by rw [Nat.pow_add, Nat.pow_one, Nat.mul_assoc]
    have h6 : (0 : Int) ≤ n₉ * upB₉ so pr a₉ k₉ := Int.mul_nonneg (by omega) h1.1
    have h7 : (n₉ : Int) * upB₉ so pr a₉ k₉ ≤ 9 * upB₉ so pr a₉ k₉ := Int.mul_le_mul_of_nonneg_right (by omega) h1.1
    rw [h4]
    rw [h5] at k1₉
    omega
theorem loB_rg (so : Int → Int) {pr : Int} (hp : 2 ≤ pr ∧ pr ≤ 99) : ∀ t₉, wf t₉ → ∀ k₉, 0 ≤ loB₉ so pr t₉ k₉ ∧ loB₉ so pr t₉ k₉ ≤ 99 * (10 ^ tDep t₉ * tLen t₉ : Nat) := by
  refine tInd (fun k₉ => by simp [loB₉, tLen]) (fun c r₉ hc₉ _ ih₉ k₉ => ?_) (fun a₉ b₉ r₉ _ _ _ iha ihb ihr k₉ => ?_) (fun n₉ a₉ r₉ hn _ _ iha ihr k₉ => ?_)
  · have h1 := ih₉ (k₉ + if c = 46 then 0 else 1)
    have h2 : 10 ^ tDep r₉ * (1 + tLen r₉) = 10 ^ tDep r₉ + 10 ^ tDep r₉ * tLen r₉ := by rw [Nat.mul_add, Nat.mul_one]
    have h3 : 0 < 10 ^ tDep r₉ := Nat.pow_pos (by decide)
    simp only [loB₉, tLen, tDep]
    generalize loB₉ so pr r₉ (k₉ + if c = 46 then 0 else 1) = yy at h1 ⊢
    rw [h2]
    repeat' split
    all_goals omega
  · have h1 := iha k₉
    have h2 := ihb (k₉ + tLks a₉)
    have h3 := ihr (k₉ + tLks a₉ + tLks b₉)
    simp only [loB₉, tLen, tDep]
    generalize hd₉ : max (1 + max (tDep a₉) (tDep b₉)) (tDep r₉) = d₉
    have k1₉ := tenB (d₉ := tDep a₉) (d' := d₉) (by omega) (tLen a₉)
    have k3₉ := tenB (d₉ := tDep r₉) (d' := d₉) (by omega) (tLen r₉)
    have h4 : 10 ^ d₉ * (3 + tLen a₉ + tLen b₉ + tLen r₉) = 10 ^ d₉ * 3 + 10 ^ d₉ * tLen a₉ + 10 ^ d₉ * tLen b₉ + 10 ^ d₉ * tLen r₉ := by rw [Nat.mul_add, Nat.mul_add, Nat.mul_add]
    rw [h4]
    omega
  · have h2 := ihr (k₉ + tLks a₉)
    simp only [loB₉, tLen, tDep]
    generalize hd₉ : max (1 + tDep a₉) (tDep r₉) = d₉
    have k3₉ := tenB (d₉ := tDep r₉) (d' := d₉) (by omega) (tLen r₉)
    have h4 : 10 ^ d₉ * (2 + tLen a₉ + tLen r₉) = 10 ^ d₉ * 2 + 10 ^ d₉ * tLen a₉ + 10 ^ d₉ * tLen r₉ := by rw [Nat.mul_add, Nat.mul_add]
    rw [h4]
    omega
theorem ten3 {t₉ : Tr} (hd₉ : tDep t₉ ≤ 3) (hl : tLen t₉ ≤ 80) : 10 ^ tDep t₉ * tLen t₉ ≤ 80000 := by
  have h1 := tenB hd₉ (tLen t₉)
  omega
theorem wyB_rg : ∀ t₉, wf t₉ → ∀ x₉ : Int, (1 ≤ x₉ ∧ x₉ ≤ 1000000000) → 1 ≤ wyB t₉ x₉ ∧ wyB t₉ x₉ ≤ 1000000000 := by
  refine tInd (fun x₉ h => h) (fun c r₉ hc₉ _ ih₉ x₉ h => ih₉ x₉ h) (fun a₉ b₉ r₉ _ _ _ iha ihb ihr x₉ h => ihr _ ?_) (fun n₉ a₉ r₉ hn _ _ iha ihr x₉ h => ihr _ ?_)
  · have h1 := iha 1 (by omega)
    have h2 := ihb 1 (by omega)
    have h3 : 1 * (wyB a₉ 1 + wyB b₉ 1) ≤ x₉ * (wyB a₉ 1 + wyB b₉ 1) := Int.mul_le_mul_of_nonneg_right h.1 (by omega)
    omega
  · have h1 := (pws_rg (iha 1 (by omega)) n₉).1
    have h3 : 1 * (pws (wyB a₉ 1) n₉).1 ≤ x₉ * (pws (wyB a₉ 1) n₉).1 := Int.mul_le_mul_of_nonneg_right h.1 (by omega)
    omega

def MstRow (E : En) (N D₉ : Nat) : Prop := ∀ (t₉ : Tr) (σ : Nat → va_E) (sg vl mt₉ lw ll la mm my : Int → Int) (sz₉ lk₉ chs lps dp ln o k₉ lp dl v₉ kn₉ pr : Int), 101 ≤ N → isP E σ 23 sg vl mt₉ lw ll la sz₉ lk₉ chs lps dp ln → okP sg vl mt₉ lw ll la sz₉ lk₉ chs lps dp ln → wf t₉ → tDep t₉ ≤ D₉ → PA₉ sg vl mt₉ lw ll la t₉ o k₉ lp → (0 ≤ o ∧ o + tLen t₉ ≤ sz₉) → (0 ≤ k₉ ∧ k₉ + tLks t₉ ≤ lk₉) → (0 ≤ dl ∧ tDep t₉ + dl ≤ 3) → rg v₉ → (2 ≤ pr ∧ pr ≤ 99) → isFo E σ v₉ kn₉ mm my → (∀ z₉ : Int, 0 ≤ z₉ → z₉ < 24 → rg (mm z₉) ∧ rg (my z₉)) → CP E M_X3_mostOfRow (6 + 2 * D₉) [vr E 30, vr E 23, vi pr, vi o, vi (o + tLen t₉), vi dl] N σ (upB₉ (soA v₉ mm my) pr t₉ k₉)
set_option maxHeartbeats 4000000 in
set_option maxRecDepth 100000 in
theorem mostOfRow_step (E : En) (N D₉ : Nat) (IH₉ : ∀ D9, D₉ = D9 + 1 → MstRow E N D9) : MstRow E N D₉ := by
  intro t₉ σ sg vl mt₉ lw ll la mm my sz₉ lk₉ chs lps dp ln o k₉ lp dl v₉ kn₉ pr hN₉ hp ho hwf hdp hpa0 ho1 hk1 hdl hv hpr hf hmy
  refine CT.of2 (own := RX3) (by decide) rfl (Nat.le_of_ble_eq_true rfl) ?_
  intro p e R s m args below meth c Q hF hr hlk hnm hz hR hQ
  refine go_iconst (pc := 0) hF dX3_mostOfRow_0 ?_
  refine go_istore (pc := 1) hF [(6, vi 0), (0, vr E 30), (1, vr E 23), (2, vi pr), (3, vi o), (4, vi (o + (tLen t₉ : Int))), (5, vi dl)] dX3_mostOfRow_1 rfl (by decide) ?_
  refine go_iload_n (pc := 3) hF dX3_mostOfRow_3 4 rfl ?_
  refine go_istore (pc := 4) hF [(7, vi o), (6, vi 0), (0, vr E 30), (1, vr E 23), (2, vi pr), (3, vi o), (4, vi (o + (tLen t₉ : Int))), (5, vi dl)] dX3_mostOfRow_4 rfl (by decide) ?_
  have hsz := ho.1
  have loop₉ : ∀ tt, wf tt → ∀ (oo kk S₉ : Int) (τ : Nat → va_E), tDep tt ≤ D₉ → (tDep tt : Int) + dl ≤ 3 → PA₉ sg vl mt₉ lw ll la tt oo kk lp → (0 ≤ oo ∧ oo + tLen tt = o + tLen t₉) → (0 ≤ kk ∧ kk + tLks tt ≤ lk₉) → S₉ + upB₉ (soA v₉ mm my) pr tt kk = upB₉ (soA v₉ mm my) pr t₉ k₉ → τ = σ → Go E p e R s m args below meth c Q 11 (0, 0) N τ [(7, vi oo), (6, vi S₉), (0, vr E 30), (1, vr E 23), (2, vi pr), (3, vi o), (4, vi (o + (tLen t₉ : Int))), (5, vi dl)] [] 6 := by
    refine tInd ?_ ?_ ?_ ?_
    · intro oo kk S₉ τ hd1 hd2 hpa hoo hkk hS₉ hts
      have eq_nil : tLen Std.Format.nil = 0 := rfl
      subst hts
      refine go_iload (pc := 6) hF dX3_mostOfRow_6 0 rfl ?_
      refine go_iload (pc := 8) hF dX3_mostOfRow_8 6 rfl ?_
      refine go_icmp_ge (pc := 10) hF 184 dX3_mostOfRow_10 (by decide) (by omega) (by omega) (fun bq10 => ?_) (fun bq10 => ?_)
      · refine go_iload (pc := 184) hF dX3_mostOfRow_184 1 rfl ?_
        exact go_iretQ hF hr hlk hQ dX3_mostOfRow_186 ⟨by rw [← hS₉]; show S₉ = S₉ + 0; omega, rfl⟩
      · exact absurd bq10 (by omega)
    · intro cx rt hcx hwr ih₉
      have eq_tLen : tLen (Std.Format.append (Std.Format.nest cx Std.Format.nil) rt) = 1 + tLen rt := rfl
      have eq_tDep : tDep (Std.Format.append (Std.Format.nest cx Std.Format.nil) rt) = tDep rt := rfl
      have eq_tLks : tLks (Std.Format.append (Std.Format.nest cx Std.Format.nil) rt) = (if cx = 46 then 0 else 1) + tLks rt := rfl
      by_cases hc46 : cx = 46
      · intro oo kk S₉ τ hd1 hd2 hpa hoo hkk hS₉ hts
        obtain ⟨pa1, par_⟩ := hpa
        rw [if_pos hc46] at pa1 eq_tLks
        subst hts
        refine go_iload (pc := 6) hF dX3_mostOfRow_6 0 rfl ?_
        refine go_iload (pc := 8) hF dX3_mostOfRow_8 6 rfl ?_
        refine go_icmp_ge (pc := 10) hF 184 dX3_mostOfRow_10 (by decide) (by omega) (by omega) (fun bq10 => ?_) (fun bq10 => ?_)
        · exact absurd bq10 (by omega)
        · refine go_iload (pc := 13) hF dX3_mostOfRow_13 7 rfl ?_
          refine go_iconst (pc := 15) hF dX3_mostOfRow_15 ?_
          refine go_icmp_gt (pc := 16) hF 184 dX3_mostOfRow_16 (by decide) (by omega) ⟨by decide, by decide⟩ (fun bq16 => ?_) (fun bq16 => ?_)
          · exact absurd bq16 (by omega)
          · refine go_aload_n (pc := 19) hF dX3_mostOfRow_19 3 rfl ?_
            refine go_iload (pc := 20) hF dX3_mostOfRow_20 0 rfl ?_
            have cm_k1 : CP E M_X6_signAt 2 [vr E 23, vi oo] N τ (1) := by
              have h := c_X6_signAt E N τ 23 oo (by omega) (by omega) hp ho
              rw [show gSign sg sz₉ oo = 1 from by unfold gSign; rw [if_pos (by omega)]; exact pa1] at h
              exact h
            refine go_callVP (pc := 22) hF [vi oo] [] mv_X3_78 dX3_mostOfRow_22 (by omega) hp.1 cm_k1 rfl rfl (Nat.le_of_ble_eq_true rfl) (by omega) ⟨Nat.zero_le _, Nat.zero_le _⟩ ?_
            refine go_istore (pc := 25) hF [(8, vi 1), (7, vi oo), (6, vi S₉), (0, vr E 30), (1, vr E 23), (2, vi pr), (3, vi o), (4, vi (o + (tLen t₉ : Int))), (5, vi dl)] dX3_mostOfRow_25 rfl (by decide) ?_
            refine go_aload_n (pc := 27) hF dX3_mostOfRow_27 4 rfl ?_
            refine go_iload (pc := 28) hF dX3_mostOfRow_28 1 rfl ?_
            refine go_callVP (pc := 30) hF [vi oo] [] mv_X3_81 dX3_mostOfRow_30 (by omega) hp.1 (c_X6_mateOf E N τ 23 oo (by omega) (by omega) hp ho) rfl rfl (Nat.le_of_ble_eq_true rfl) (by omega) ⟨Nat.zero_le _, Nat.zero_le _⟩ ?_
            refine go_istore (pc := 33) hF [(9, vi (gMate mt₉ sz₉ oo)), (8, vi 1), (7, vi oo), (6, vi S₉), (0, vr E 30), (1, vr E 23), (2, vi pr), (3, vi o), (4, vi (o + (tLen t₉ : Int))), (5, vi dl)] dX3_mostOfRow_33 rfl (by decide) ?_
            refine go_iload (pc := 35) hF dX3_mostOfRow_35 1 rfl ?_
            refine go_if_ne (pc := 37) hF 67 dX3_mostOfRow_37 (by decide) ⟨by decide, by decide⟩ (fun bq37 => ?_) (fun bq37 => ?_)
            · refine go_iload (pc := 67) hF dX3_mostOfRow_67 1 rfl ?_
              refine go_iconst (pc := 69) hF dX3_mostOfRow_69 ?_
              refine go_icmp_ne (pc := 70) hF 79 dX3_mostOfRow_70 (by decide) ⟨by decide, by decide⟩ ⟨by decide, by decide⟩ (fun bq70 => ?_) (fun bq70 => ?_)
              · exact absurd bq70 (by decide)
              · refine go_iinc (pc := 73) hF [(6, vi (S₉ + 1)), (9, vi (gMate mt₉ sz₉ oo)), (8, vi 1), (7, vi oo), (0, vr E 30), (1, vr E 23), (2, vi pr), (3, vi o), (4, vi (o + (tLen t₉ : Int))), (5, vi dl)] dX3_mostOfRow_73 3 rfl rfl (by decide) ?_
                refine go_goto (pc := 76) hF 178 dX3_mostOfRow_76 (by decide) ?_
                refine go_iinc (pc := 178) hF [(7, vi (oo + 1)), (6, vi (S₉ + 1)), (9, vi (gMate mt₉ sz₉ oo)), (8, vi 1), (0, vr E 30), (1, vr E 23), (2, vi pr), (3, vi o), (4, vi (o + (tLen t₉ : Int))), (5, vi dl)] dX3_mostOfRow_178 3 rfl rfl (by decide) ?_
                refine go_goto (pc := 181) hF 6 dX3_mostOfRow_181 (by decide) ?_
                refine go_lv [(7, vi (oo + 1)), (6, vi (S₉ + 1)), (0, vr E 30), (1, vr E 23), (2, vi pr), (3, vi o), (4, vi (o + (tLen t₉ : Int))), (5, vi dl)] [0, 1, 4, 5, 6, 7, 8, 9] rfl ?_
                exact ih₉ (oo + 1) kk (S₉ + 1) τ (by omega) (by omega) (by rw [if_pos hc46, Int.add_zero] at par_; exact par_) (by omega) (by omega) (by rw [← hS₉]; simp only [upB₉]; rw [if_pos hc46, if_pos hc46, Int.add_zero]; omega) rfl
            · exact absurd bq37 (by decide)
      · intro oo kk S₉ τ hd1 hd2 hpa hoo hkk hS₉ hts
        obtain ⟨pa1, par_⟩ := hpa
        rw [if_neg hc46] at pa1 eq_tLks
        have hc9 : 97 ≤ cx ∧ cx ≤ 102 := by unfold okc at hcx; omega
        have hlk24 := ho.2.1
        subst hts
        refine go_iload (pc := 6) hF dX3_mostOfRow_6 0 rfl ?_
        refine go_iload (pc := 8) hF dX3_mostOfRow_8 6 rfl ?_
        refine go_icmp_ge (pc := 10) hF 184 dX3_mostOfRow_10 (by decide) (by omega) (by omega) (fun bq10 => ?_) (fun bq10 => ?_)
        · exact absurd bq10 (by omega)
        · refine go_iload (pc := 13) hF dX3_mostOfRow_13 7 rfl ?_
          refine go_iconst (pc := 15) hF dX3_mostOfRow_15 ?_
          refine go_icmp_gt (pc := 16) hF 184 dX3_mostOfRow_16 (by decide) (by omega) ⟨by decide, by decide⟩ (fun bq16 => ?_) (fun bq16 => ?_)
          · exact absurd bq16 (by omega)
          · refine go_aload_n (pc := 19) hF dX3_mostOfRow_19 3 rfl ?_
            refine go_iload (pc := 20) hF dX3_mostOfRow_20 0 rfl ?_
            have cm_k2 : CP E M_X6_signAt 2 [vr E 23, vi oo] N τ (0) := by
              have h := c_X6_signAt E N τ 23 oo (by omega) (by omega) hp ho
              rw [show gSign sg sz₉ oo = 0 from by unfold gSign; rw [if_pos (by omega)]; exact pa1.1] at h
              exact h
            refine go_callVP (pc := 22) hF [vi oo] [] mv_X3_78 dX3_mostOfRow_22 (by omega) hp.1 cm_k2 rfl rfl (Nat.le_of_ble_eq_true rfl) (by omega) ⟨Nat.zero_le _, Nat.zero_le _⟩ ?_
            refine go_istore (pc := 25) hF [(8, vi 0), (7, vi oo), (6, vi S₉), (0, vr E 30), (1, vr E 23), (2, vi pr), (3, vi o), (4, vi (o + (tLen t₉ : Int))), (5, vi dl)] dX3_mostOfRow_25 rfl (by decide) ?_
            refine go_aload_n (pc := 27) hF dX3_mostOfRow_27 4 rfl ?_
            refine go_iload (pc := 28) hF dX3_mostOfRow_28 1 rfl ?_
            refine go_callVP (pc := 30) hF [vi oo] [] mv_X3_81 dX3_mostOfRow_30 (by omega) hp.1 (c_X6_mateOf E N τ 23 oo (by omega) (by omega) hp ho) rfl rfl (Nat.le_of_ble_eq_true rfl) (by omega) ⟨Nat.zero_le _, Nat.zero_le _⟩ ?_
            refine go_istore (pc := 33) hF [(9, vi (gMate mt₉ sz₉ oo)), (8, vi 0), (7, vi oo), (6, vi S₉), (0, vr E 30), (1, vr E 23), (2, vi pr), (3, vi o), (4, vi (o + (tLen t₉ : Int))), (5, vi dl)] dX3_mostOfRow_33 rfl (by decide) ?_
            refine go_iload (pc := 35) hF dX3_mostOfRow_35 1 rfl ?_
            refine go_if_ne (pc := 37) hF 67 dX3_mostOfRow_37 (by decide) ⟨by decide, by decide⟩ (fun bq37 => ?_) (fun bq37 => ?_)
            · exact absurd bq37 (by decide)
            · refine go_iload (pc := 40) hF dX3_mostOfRow_40 3 rfl ?_
              refine go_aload_n (pc := 42) hF dX3_mostOfRow_42 4 rfl ?_
              refine go_aload_n (pc := 43) hF dX3_mostOfRow_43 5 rfl ?_
              refine go_iload (pc := 44) hF dX3_mostOfRow_44 2 rfl ?_
              have cm_k3 : CP E M_X6_valueAt 2 [vr E 23, vi oo] N τ (kk) := by
                have h := c_X6_valueAt E N τ 23 oo (by omega) (by omega) hp ho
                rw [show gVal vl sz₉ oo = kk from by unfold gVal; rw [if_pos (by omega)]; exact pa1.2.1] at h
                exact h
              refine go_callVP (pc := 46) hF [vi oo] [vr E 30, vi S₉] mv_X3_84 dX3_mostOfRow_46 (by omega) hp.1 cm_k3 rfl rfl (Nat.le_of_ble_eq_true rfl) (by omega) ⟨Nat.zero_le _, Nat.zero_le _⟩ ?_
              refine go_callVP (pc := 49) hF [vi kk] [vi S₉] mv_X3_62 dX3_mostOfRow_49 (by omega) hf.1 (c_X3_sortOf E N τ mm my v₉ kn₉ kk hN₉ hf (by omega) (hmy kk (by omega) (by omega)).1 (hmy kk (by omega) (by omega)).2 hv) rfl rfl (Nat.le_of_ble_eq_true rfl) (by omega) ⟨Nat.zero_le _, Nat.zero_le _⟩ ?_
              have zs : 0 ≤ soA v₉ mm my kk ∧ soA v₉ mm my kk ≤ 2 := by unfold soA; repeat (first | omega | split)
              refine go_iconst (pc := 52) hF dX3_mostOfRow_52 ?_
              refine go_icmp_ne (pc := 53) hF 60 dX3_mostOfRow_53 (by decide) (by omega) ⟨by decide, by decide⟩ (fun bq53 => ?_) (fun bq53 => ?_)
              · refine go_iload_n (pc := 60) hF dX3_mostOfRow_60 6 rfl ?_
                refine go_iadd (pc := 61) hF dX3_mostOfRow_61 ?_
                refine go_istore (pc := 62) hF [(6, vi (S₉ + pr)), (9, vi (gMate mt₉ sz₉ oo)), (8, vi 0), (7, vi oo), (0, vr E 30), (1, vr E 23), (2, vi pr), (3, vi o), (4, vi (o + (tLen t₉ : Int))), (5, vi dl)] dX3_mostOfRow_62 rfl (by decide) ?_
                refine go_goto (pc := 64) hF 178 dX3_mostOfRow_64 (by decide) ?_
                refine go_iinc (pc := 178) hF [(7, vi (oo + 1)), (6, vi (S₉ + pr)), (9, vi (gMate mt₉ sz₉ oo)), (8, vi 0), (0, vr E 30), (1, vr E 23), (2, vi pr), (3, vi o), (4, vi (o + (tLen t₉ : Int))), (5, vi dl)] dX3_mostOfRow_178 3 rfl rfl (by decide) ?_
                refine go_goto (pc := 181) hF 6 dX3_mostOfRow_181 (by decide) ?_
                refine go_lv [(7, vi (oo + 1)), (6, vi (S₉ + pr)), (0, vr E 30), (1, vr E 23), (2, vi pr), (3, vi o), (4, vi (o + (tLen t₉ : Int))), (5, vi dl)] [0, 1, 4, 5, 6, 7, 8, 9] rfl ?_
                exact ih₉ (oo + 1) (kk + 1) (S₉ + pr) τ (by omega) (by omega) (by rw [if_neg hc46] at par_; exact par_) (by omega) (by omega) (by rw [← hS₉]; simp only [upB₉]; rw [if_neg hc46, if_neg bq53, if_neg hc46]; omega) rfl
              · refine go_iconst (pc := 56) hF dX3_mostOfRow_56 ?_
                refine go_goto (pc := 57) hF 61 dX3_mostOfRow_57 (by decide) ?_
                refine go_iadd (pc := 61) hF dX3_mostOfRow_61 ?_
                refine go_istore (pc := 62) hF [(6, vi (S₉ + 1)), (9, vi (gMate mt₉ sz₉ oo)), (8, vi 0), (7, vi oo), (0, vr E 30), (1, vr E 23), (2, vi pr), (3, vi o), (4, vi (o + (tLen t₉ : Int))), (5, vi dl)] dX3_mostOfRow_62 rfl (by decide) ?_
                refine go_goto (pc := 64) hF 178 dX3_mostOfRow_64 (by decide) ?_
                refine go_iinc (pc := 178) hF [(7, vi (oo + 1)), (6, vi (S₉ + 1)), (9, vi (gMate mt₉ sz₉ oo)), (8, vi 0), (0, vr E 30), (1, vr E 23), (2, vi pr), (3, vi o), (4, vi (o + (tLen t₉ : Int))), (5, vi dl)] dX3_mostOfRow_178 3 rfl rfl (by decide) ?_
                refine go_goto (pc := 181) hF 6 dX3_mostOfRow_181 (by decide) ?_
                refine go_lv [(7, vi (oo + 1)), (6, vi (S₉ + 1)), (0, vr E 30), (1, vr E 23), (2, vi pr), (3, vi o), (4, vi (o + (tLen t₉ : Int))), (5, vi dl)] [0, 1, 4, 5, 6, 7, 8, 9] rfl ?_
                exact ih₉ (oo + 1) (kk + 1) (S₉ + 1) τ (by omega) (by omega) (by rw [if_neg hc46] at par_; exact par_) (by omega) (by omega) (by rw [← hS₉]; simp only [upB₉]; rw [if_neg hc46, if_pos bq53, if_neg hc46]; omega) rfl
    · intro ta_ tb_ rt hwa hwb hwr _ _ ih₉
      have eq_tLen : tLen (Std.Format.append (Std.Format.append ta_ tb_) rt) = 3 + tLen ta_ + tLen tb_ + tLen rt := rfl
      have eq_tDep : tDep (Std.Format.append (Std.Format.append ta_ tb_) rt) = max (1 + max (tDep ta_) (tDep tb_)) (tDep rt) := rfl
      have eq_tLks : tLks (Std.Format.append (Std.Format.append ta_ tb_) rt) = tLks ta_ + tLks tb_ + tLks rt := rfl
      by_cases hD0 : D₉ = 0
      · intro oo kk S₉ τ hd1 hd2 hpa hoo hkk hS₉ hts; exact absurd hd1 (by omega)
      · intro oo kk S₉ τ hd1 hd2 hpa hoo hkk hS₉ hts
        obtain ⟨D9, rfl⟩ : ∃ D9, D₉ = D9 + 1 := ⟨D₉ - 1, by omega⟩
        obtain ⟨pa1, paa, pab, par_⟩ := hpa
        subst hts
        refine go_iload (pc := 6) hF dX3_mostOfRow_6 0 rfl ?_
        refine go_iload (pc := 8) hF dX3_mostOfRow_8 6 rfl ?_
        refine go_icmp_ge (pc := 10) hF 184 dX3_mostOfRow_10 (by decide) (by omega) (by omega) (fun bq10 => ?_) (fun bq10 => ?_)
        · exact absurd bq10 (by omega)
        · refine go_iload (pc := 13) hF dX3_mostOfRow_13 7 rfl ?_
          refine go_iconst (pc := 15) hF dX3_mostOfRow_15 ?_
          refine go_icmp_gt (pc := 16) hF 184 dX3_mostOfRow_16 (by decide) (by omega) ⟨by decide, by decide⟩ (fun bq16 => ?_) (fun bq16 => ?_)
          · exact absurd bq16 (by omega)
          · refine go_aload_n (pc := 19) hF dX3_mostOfRow_19 3 rfl ?_
            refine go_iload (pc := 20) hF dX3_mostOfRow_20 0 rfl ?_
            have cm_k4 : CP E M_X6_signAt 2 [vr E 23, vi oo] N τ (2) := by
              have h := c_X6_signAt E N τ 23 oo (by omega) (by omega) hp ho
              rw [show gSign sg sz₉ oo = 2 from by unfold gSign; rw [if_pos (by omega)]; exact pa1.1] at h
              exact h
            refine go_callVP (pc := 22) hF [vi oo] [] mv_X3_78 dX3_mostOfRow_22 (by omega) hp.1 cm_k4 rfl rfl (Nat.le_of_ble_eq_true rfl) (by omega) ⟨Nat.zero_le _, Nat.zero_le _⟩ ?_
            refine go_istore (pc := 25) hF [(8, vi 2), (7, vi oo), (6, vi S₉), (0, vr E 30), (1, vr E 23), (2, vi pr), (3, vi o), (4, vi (o + (tLen t₉ : Int))), (5, vi dl)] dX3_mostOfRow_25 rfl (by decide) ?_
            refine go_aload_n (pc := 27) hF dX3_mostOfRow_27 4 rfl ?_
            refine go_iload (pc := 28) hF dX3_mostOfRow_28 1 rfl ?_
            have cm_k5 : CP E M_X6_mateOf 2 [vr E 23, vi oo] N τ (oo + 1 + (tLen ta_ : Int)) := by
              have h := c_X6_mateOf E N τ 23 oo (by omega) (by omega) hp ho
              rw [show gMate mt₉ sz₉ oo = oo + 1 + (tLen ta_ : Int) from by unfold gMate; rw [if_pos (by omega), pa1.2.1]; omega] at h
              exact h
            refine go_callVP (pc := 30) hF [vi oo] [] mv_X3_81 dX3_mostOfRow_30 (by omega) hp.1 cm_k5 rfl rfl (Nat.le_of_ble_eq_true rfl) (by omega) ⟨Nat.zero_le _, Nat.zero_le _⟩ ?_
            refine go_istore (pc := 33) hF [(9, vi (oo + 1 + (tLen ta_ : Int))), (8, vi 2), (7, vi oo), (6, vi S₉), (0, vr E 30), (1, vr E 23), (2, vi pr), (3, vi o), (4, vi (o + (tLen t₉ : Int))), (5, vi dl)] dX3_mostOfRow_33 rfl (by decide) ?_
            refine go_iload (pc := 35) hF dX3_mostOfRow_35 1 rfl ?_
            refine go_if_ne (pc := 37) hF 67 dX3_mostOfRow_37 (by decide) ⟨by decide, by decide⟩ (fun bq37 => ?_) (fun bq37 => ?_)
            · refine go_iload (pc := 67) hF dX3_mostOfRow_67 1 rfl ?_
              refine go_iconst (pc := 69) hF dX3_mostOfRow_69 ?_
              refine go_icmp_ne (pc := 70) hF 79 dX3_mostOfRow_70 (by decide) ⟨by decide, by decide⟩ ⟨by decide, by decide⟩ (fun bq70 => ?_) (fun bq70 => ?_)
              · refine go_iload (pc := 79) hF dX3_mostOfRow_79 1 rfl ?_
                refine go_iconst (pc := 81) hF dX3_mostOfRow_81 ?_
                refine go_icmp_ne (pc := 82) hF 140 dX3_mostOfRow_82 (by decide) ⟨by decide, by decide⟩ ⟨by decide, by decide⟩ (fun bq82 => ?_) (fun bq82 => ?_)
                · exact absurd bq82 (by decide)
                · refine go_aload_n (pc := 85) hF dX3_mostOfRow_85 5 rfl ?_
                  refine go_iload (pc := 86) hF dX3_mostOfRow_86 0 rfl ?_
                  have cm_k6 : CP E M_X6_mateOf 2 [vr E 23, vi (oo + 1 + (tLen ta_ : Int))] N τ (oo + 2 + (tLen ta_ : Int) + (tLen tb_ : Int)) := by
                    have h := c_X6_mateOf E N τ 23 (oo + 1 + (tLen ta_ : Int)) (by omega) (by omega) hp ho
                    rw [show gMate mt₉ sz₉ (oo + 1 + (tLen ta_ : Int)) = oo + 2 + (tLen ta_ : Int) + (tLen tb_ : Int) from by unfold gMate; rw [if_pos (by omega), pa1.2.2]; omega] at h
                    exact h
                  refine go_callVP (pc := 88) hF [vi (oo + 1 + (tLen ta_ : Int))] [] mv_X3_81 dX3_mostOfRow_88 (by omega) hp.1 cm_k6 rfl rfl (Nat.le_of_ble_eq_true rfl) (by omega) ⟨Nat.zero_le _, Nat.zero_le _⟩ ?_
                  refine go_istore (pc := 91) hF [(10, vi (oo + 2 + (tLen ta_ : Int) + (tLen tb_ : Int))), (9, vi (oo + 1 + (tLen ta_ : Int))), (8, vi 2), (7, vi oo), (6, vi S₉), (0, vr E 30), (1, vr E 23), (2, vi pr), (3, vi o), (4, vi (o + (tLen t₉ : Int))), (5, vi dl)] dX3_mostOfRow_91 rfl (by decide) ?_
                  refine go_iload (pc := 93) hF dX3_mostOfRow_93 4 rfl ?_
                  refine go_aload_n (pc := 95) hF dX3_mostOfRow_95 5 rfl ?_
                  refine go_aload_n (pc := 96) hF dX3_mostOfRow_96 6 rfl ?_
                  refine go_iload_n (pc := 97) hF dX3_mostOfRow_97 7 rfl ?_
                  refine go_iload (pc := 98) hF dX3_mostOfRow_98 3 rfl ?_
                  refine go_iconst (pc := 100) hF dX3_mostOfRow_100 ?_
                  refine go_iadd (pc := 101) hF dX3_mostOfRow_101 ?_
                  refine go_iload (pc := 102) hF dX3_mostOfRow_102 1 rfl ?_
                  refine go_iload (pc := 104) hF dX3_mostOfRow_104 10 rfl ?_
                  refine go_iconst (pc := 106) hF dX3_mostOfRow_106 ?_
                  refine go_iadd (pc := 107) hF dX3_mostOfRow_107 ?_
                  have cr_k7 := IH₉ D9 rfl ta_ τ sg vl mt₉ lw ll la mm my sz₉ lk₉ chs lps dp ln (oo + 1) kk lp (dl + 1) v₉ kn₉ pr hN₉ hp ho hwa (by omega) paa (by omega) (by omega) (by omega) hv hpr hf hmy
                  rw [show (oo + 1) + (tLen ta_ : Int) = oo + 1 + (tLen ta_ : Int) by omega] at cr_k7
                  refine go_callVP (pc := 108) hF [vr E 23, vi pr, vi (oo + 1), vi (oo + 1 + (tLen ta_ : Int)), vi (dl + 1)] [vi S₉] mv_X3_71 dX3_mostOfRow_108 (by omega) hf.1 cr_k7 rfl rfl (Nat.le_of_ble_eq_true rfl) (by omega) ⟨Nat.zero_le _, Nat.zero_le _⟩ ?_
                  refine go_aload_n (pc := 111) hF dX3_mostOfRow_111 5 rfl ?_
                  refine go_aload_n (pc := 112) hF dX3_mostOfRow_112 6 rfl ?_
                  refine go_iload_n (pc := 113) hF dX3_mostOfRow_113 7 rfl ?_
                  refine go_iload (pc := 114) hF dX3_mostOfRow_114 1 rfl ?_
                  refine go_iconst (pc := 116) hF dX3_mostOfRow_116 ?_
                  refine go_iadd (pc := 117) hF dX3_mostOfRow_117 ?_
                  refine go_iload (pc := 118) hF dX3_mostOfRow_118 0 rfl ?_
                  refine go_iload (pc := 120) hF dX3_mostOfRow_120 10 rfl ?_
                  refine go_iconst (pc := 122) hF dX3_mostOfRow_122 ?_
                  refine go_iadd (pc := 123) hF dX3_mostOfRow_123 ?_
                  have cr_k8 := IH₉ D9 rfl tb_ τ sg vl mt₉ lw ll la mm my sz₉ lk₉ chs lps dp ln ((oo + 1 + (tLen ta_ : Int)) + 1) (kk + tLks ta_) lp (dl + 1) v₉ kn₉ pr hN₉ hp ho hwb (by omega) (by rw [show oo + 1 + (tLen ta_ : Int) + 1 = oo + 2 + (tLen ta_ : Int) by omega]; exact pab) (by omega) (by omega) (by omega) hv hpr hf hmy
                  rw [show ((oo + 1 + (tLen ta_ : Int)) + 1) + (tLen tb_ : Int) = oo + 2 + (tLen ta_ : Int) + (tLen tb_ : Int) by omega] at cr_k8
                  refine go_callVP (pc := 124) hF [vr E 23, vi pr, vi ((oo + 1 + (tLen ta_ : Int)) + 1), vi (oo + 2 + (tLen ta_ : Int) + (tLen tb_ : Int)), vi (dl + 1)] [vi (upB₉ (soA v₉ mm my) pr ta_ kk), vi S₉] mv_X3_71 dX3_mostOfRow_124 (by omega) hf.1 cr_k8 rfl rfl (Nat.le_of_ble_eq_true rfl) (by omega) ⟨Nat.zero_le _, Nat.zero_le _⟩ ?_
                  have z1 := upB_rg (soA v₉ mm my) hpr ta_ hwa kk
                  have z2 := upB_rg (soA v₉ mm my) hpr tb_ hwb (kk + tLks ta_)
                  have z3 := ten3 (t₉ := ta_) (by omega) (by omega)
                  have z4 := ten3 (t₉ := tb_) (by omega) (by omega)
                  refine go_mmax (pc := 127) hF ms_X3_87 dX3_mostOfRow_127 (by omega) (by omega) (Nat.le_of_ble_eq_true rfl) (by omega) ⟨Nat.zero_le _, Nat.zero_le _⟩ ?_
                  refine go_iadd (pc := 130) hF dX3_mostOfRow_130 ?_
                  refine go_istore (pc := 131) hF [(6, vi (S₉ + (max (upB₉ (soA v₉ mm my) pr ta_ kk) (upB₉ (soA v₉ mm my) pr tb_ (kk + tLks ta_))))), (10, vi (oo + 2 + (tLen ta_ : Int) + (tLen tb_ : Int))), (9, vi (oo + 1 + (tLen ta_ : Int))), (8, vi 2), (7, vi oo), (0, vr E 30), (1, vr E 23), (2, vi pr), (3, vi o), (4, vi (o + (tLen t₉ : Int))), (5, vi dl)] dX3_mostOfRow_131 rfl (by decide) ?_
                  refine go_iload (pc := 133) hF dX3_mostOfRow_133 1 rfl ?_
                  refine go_istore (pc := 135) hF [(7, vi (oo + 2 + (tLen ta_ : Int) + (tLen tb_ : Int))), (6, vi (S₉ + (max (upB₉ (soA v₉ mm my) pr ta_ kk) (upB₉ (soA v₉ mm my) pr tb_ (kk + tLks ta_))))), (10, vi (oo + 2 + (tLen ta_ : Int) + (tLen tb_ : Int))), (9, vi (oo + 1 + (tLen ta_ : Int))), (8, vi 2), (0, vr E 30), (1, vr E 23), (2, vi pr), (3, vi o), (4, vi (o + (tLen t₉ : Int))), (5, vi dl)] dX3_mostOfRow_135 rfl (by decide) ?_
                  refine go_goto (pc := 137) hF 178 dX3_mostOfRow_137 (by decide) ?_
                  refine go_iinc (pc := 178) hF [(7, vi ((oo + 2 + (tLen ta_ : Int) + (tLen tb_ : Int)) + 1)), (6, vi (S₉ + (max (upB₉ (soA v₉ mm my) pr ta_ kk) (upB₉ (soA v₉ mm my) pr tb_ (kk + tLks ta_))))), (10, vi (oo + 2 + (tLen ta_ : Int) + (tLen tb_ : Int))), (9, vi (oo + 1 + (tLen ta_ : Int))), (8, vi 2), (0, vr E 30), (1, vr E 23), (2, vi pr), (3, vi o), (4, vi (o + (tLen t₉ : Int))), (5, vi dl)] dX3_mostOfRow_178 0 rfl rfl (by decide) ?_
                  refine go_goto (pc := 181) hF 6 dX3_mostOfRow_181 (by decide) ?_
                  refine go_lv [(7, vi ((oo + 2 + (tLen ta_ : Int) + (tLen tb_ : Int)) + 1)), (6, vi (S₉ + (max (upB₉ (soA v₉ mm my) pr ta_ kk) (upB₉ (soA v₉ mm my) pr tb_ (kk + tLks ta_))))), (0, vr E 30), (1, vr E 23), (2, vi pr), (3, vi o), (4, vi (o + (tLen t₉ : Int))), (5, vi dl)] [0, 1, 5, 6, 7, 8, 9, 10] rfl ?_
                  exact ih₉ _ (kk + tLks ta_ + tLks tb_) (S₉ + max (upB₉ (soA v₉ mm my) pr ta_ kk) (upB₉ (soA v₉ mm my) pr tb_ (kk + tLks ta_))) τ (by omega) (by omega) (by rw [show oo + 2 + (tLen ta_ : Int) + (tLen tb_ : Int) + 1 = oo + 3 + (tLen ta_ : Int) + (tLen tb_ : Int) by omega]; exact par_) (by omega) (by omega) (by rw [← hS₉]; simp only [upB₉] <;> omega) rfl
              · exact absurd bq70 (by decide)
            · exact absurd bq37 (by decide)
    · intro nn ta_ rt hnn₉ hwa hwr _ ih₉
      have eq_tLen : tLen (Std.Format.append (Std.Format.tag nn ta_) rt) = 2 + tLen ta_ + tLen rt := rfl
      have eq_tDep : tDep (Std.Format.append (Std.Format.tag nn ta_) rt) = max (1 + tDep ta_) (tDep rt) := rfl
      have eq_tLks : tLks (Std.Format.append (Std.Format.tag nn ta_) rt) = tLks ta_ + tLks rt := rfl
      by_cases hD0 : D₉ = 0
      · intro oo kk S₉ τ hd1 hd2 hpa hoo hkk hS₉ hts; exact absurd hd1 (by omega)
      · intro oo kk S₉ τ hd1 hd2 hpa hoo hkk hS₉ hts
        obtain ⟨D9, rfl⟩ : ∃ D9, D₉ = D9 + 1 := ⟨D₉ - 1, by omega⟩
        obtain ⟨pa1, paa, par_⟩ := hpa
        subst hts
        refine go_iload (pc := 6) hF dX3_mostOfRow_6 0 rfl ?_
        refine go_iload (pc := 8) hF dX3_mostOfRow_8 6 rfl ?_
        refine go_icmp_ge (pc := 10) hF 184 dX3_mostOfRow_10 (by decide) (by omega) (by omega) (fun bq10 => ?_) (fun bq10 => ?_)
        · exact absurd bq10 (by omega)
        · refine go_iload (pc := 13) hF dX3_mostOfRow_13 7 rfl ?_
          refine go_iconst (pc := 15) hF dX3_mostOfRow_15 ?_
          refine go_icmp_gt (pc := 16) hF 184 dX3_mostOfRow_16 (by decide) (by omega) ⟨by decide, by decide⟩ (fun bq16 => ?_) (fun bq16 => ?_)
          · exact absurd bq16 (by omega)
          · refine go_aload_n (pc := 19) hF dX3_mostOfRow_19 3 rfl ?_
            refine go_iload (pc := 20) hF dX3_mostOfRow_20 0 rfl ?_
            have cm_k9 : CP E M_X6_signAt 2 [vr E 23, vi oo] N τ (5) := by
              have h := c_X6_signAt E N τ 23 oo (by omega) (by omega) hp ho
              rw [show gSign sg sz₉ oo = 5 from by unfold gSign; rw [if_pos (by omega)]; exact pa1.1] at h
              exact h
            refine go_callVP (pc := 22) hF [vi oo] [] mv_X3_78 dX3_mostOfRow_22 (by omega) hp.1 cm_k9 rfl rfl (Nat.le_of_ble_eq_true rfl) (by omega) ⟨Nat.zero_le _, Nat.zero_le _⟩ ?_
            refine go_istore (pc := 25) hF [(8, vi 5), (7, vi oo), (6, vi S₉), (0, vr E 30), (1, vr E 23), (2, vi pr), (3, vi o), (4, vi (o + (tLen t₉ : Int))), (5, vi dl)] dX3_mostOfRow_25 rfl (by decide) ?_
            refine go_aload_n (pc := 27) hF dX3_mostOfRow_27 4 rfl ?_
            refine go_iload (pc := 28) hF dX3_mostOfRow_28 1 rfl ?_
            have cm_k10 : CP E M_X6_mateOf 2 [vr E 23, vi oo] N τ (oo + 1 + (tLen ta_ : Int)) := by
              have h := c_X6_mateOf E N τ 23 oo (by omega) (by omega) hp ho
              rw [show gMate mt₉ sz₉ oo = oo + 1 + (tLen ta_ : Int) from by unfold gMate; rw [if_pos (by omega), pa1.2.2.1]; omega] at h
              exact h
            refine go_callVP (pc := 30) hF [vi oo] [] mv_X3_81 dX3_mostOfRow_30 (by omega) hp.1 cm_k10 rfl rfl (Nat.le_of_ble_eq_true rfl) (by omega) ⟨Nat.zero_le _, Nat.zero_le _⟩ ?_
            refine go_istore (pc := 33) hF [(9, vi (oo + 1 + (tLen ta_ : Int))), (8, vi 5), (7, vi oo), (6, vi S₉), (0, vr E 30), (1, vr E 23), (2, vi pr), (3, vi o), (4, vi (o + (tLen t₉ : Int))), (5, vi dl)] dX3_mostOfRow_33 rfl (by decide) ?_
            refine go_iload (pc := 35) hF dX3_mostOfRow_35 1 rfl ?_
            refine go_if_ne (pc := 37) hF 67 dX3_mostOfRow_37 (by decide) ⟨by decide, by decide⟩ (fun bq37 => ?_) (fun bq37 => ?_)
            · refine go_iload (pc := 67) hF dX3_mostOfRow_67 1 rfl ?_
              refine go_iconst (pc := 69) hF dX3_mostOfRow_69 ?_
              refine go_icmp_ne (pc := 70) hF 79 dX3_mostOfRow_70 (by decide) ⟨by decide, by decide⟩ ⟨by decide, by decide⟩ (fun bq70 => ?_) (fun bq70 => ?_)
              · refine go_iload (pc := 79) hF dX3_mostOfRow_79 1 rfl ?_
                refine go_iconst (pc := 81) hF dX3_mostOfRow_81 ?_
                refine go_icmp_ne (pc := 82) hF 140 dX3_mostOfRow_82 (by decide) ⟨by decide, by decide⟩ ⟨by decide, by decide⟩ (fun bq82 => ?_) (fun bq82 => ?_)
                · refine go_iload (pc := 140) hF dX3_mostOfRow_140 1 rfl ?_
                  refine go_iconst (pc := 142) hF dX3_mostOfRow_142 ?_
                  refine go_icmp_ne (pc := 143) hF 178 dX3_mostOfRow_143 (by decide) ⟨by decide, by decide⟩ ⟨by decide, by decide⟩ (fun bq143 => ?_) (fun bq143 => ?_)
                  · exact absurd bq143 (by decide)
                  · refine go_iload (pc := 146) hF dX3_mostOfRow_146 3 rfl ?_
                    refine go_aload_n (pc := 148) hF dX3_mostOfRow_148 5 rfl ?_
                    refine go_iload (pc := 149) hF dX3_mostOfRow_149 2 rfl ?_
                    have cm_k11 : CP E M_X6_valueAt 2 [vr E 23, vi oo] N τ ((nn : Int)) := by
                      have h := c_X6_valueAt E N τ 23 oo (by omega) (by omega) hp ho
                      rw [show gVal vl sz₉ oo = (nn : Int) from by unfold gVal; rw [if_pos (by omega)]; exact pa1.2.1] at h
                      exact h
                    refine go_callVP (pc := 151) hF [vi oo] [vi S₉] mv_X3_84 dX3_mostOfRow_151 (by omega) hp.1 cm_k11 rfl rfl (Nat.le_of_ble_eq_true rfl) (by omega) ⟨Nat.zero_le _, Nat.zero_le _⟩ ?_
                    refine go_aload_n (pc := 154) hF dX3_mostOfRow_154 4 rfl ?_
                    refine go_aload_n (pc := 155) hF dX3_mostOfRow_155 5 rfl ?_
                    refine go_iload_n (pc := 156) hF dX3_mostOfRow_156 6 rfl ?_
                    refine go_iload (pc := 157) hF dX3_mostOfRow_157 2 rfl ?_
                    refine go_iconst (pc := 159) hF dX3_mostOfRow_159 ?_
                    refine go_iadd (pc := 160) hF dX3_mostOfRow_160 ?_
                    refine go_iload (pc := 161) hF dX3_mostOfRow_161 0 rfl ?_
                    refine go_iload (pc := 163) hF dX3_mostOfRow_163 9 rfl ?_
                    refine go_iconst (pc := 165) hF dX3_mostOfRow_165 ?_
                    refine go_iadd (pc := 166) hF dX3_mostOfRow_166 ?_
                    have cr_k12 := IH₉ D9 rfl ta_ τ sg vl mt₉ lw ll la mm my sz₉ lk₉ chs lps dp ln (oo + 1) kk oo (dl + 1) v₉ kn₉ pr hN₉ hp ho hwa (by omega) paa (by omega) (by omega) (by omega) hv hpr hf hmy
                    rw [show (oo + 1) + (tLen ta_ : Int) = oo + 1 + (tLen ta_ : Int) by omega] at cr_k12
                    refine go_callVP (pc := 167) hF [vr E 23, vi pr, vi (oo + 1), vi (oo + 1 + (tLen ta_ : Int)), vi (dl + 1)] [vi (nn : Int), vi S₉] mv_X3_71 dX3_mostOfRow_167 (by omega) hf.1 cr_k12 rfl rfl (Nat.le_of_ble_eq_true rfl) (by omega) ⟨Nat.zero_le _, Nat.zero_le _⟩ ?_
                    refine go_imul (pc := 170) hF dX3_mostOfRow_170 ?_
                    refine go_iadd (pc := 171) hF dX3_mostOfRow_171 ?_
                    refine go_istore (pc := 172) hF [(6, vi (S₉ + ((nn : Int) * (upB₉ (soA v₉ mm my) pr ta_ kk)))), (9, vi (oo + 1 + (tLen ta_ : Int))), (8, vi 5), (7, vi oo), (0, vr E 30), (1, vr E 23), (2, vi pr), (3, vi o), (4, vi (o + (tLen t₉ : Int))), (5, vi dl)] dX3_mostOfRow_172 rfl (by decide) ?_
                    refine go_iload (pc := 174) hF dX3_mostOfRow_174 1 rfl ?_
                    refine go_istore (pc := 176) hF [(7, vi (oo + 1 + (tLen ta_ : Int))), (6, vi (S₉ + ((nn : Int) * (upB₉ (soA v₉ mm my) pr ta_ kk)))), (9, vi (oo + 1 + (tLen ta_ : Int))), (8, vi 5), (0, vr E 30), (1, vr E 23), (2, vi pr), (3, vi o), (4, vi (o + (tLen t₉ : Int))), (5, vi dl)] dX3_mostOfRow_176 rfl (by decide) ?_
                    refine go_iinc (pc := 178) hF [(7, vi ((oo + 1 + (tLen ta_ : Int)) + 1)), (6, vi (S₉ + ((nn : Int) * (upB₉ (soA v₉ mm my) pr ta_ kk)))), (9, vi (oo + 1 + (tLen ta_ : Int))), (8, vi 5), (0, vr E 30), (1, vr E 23), (2, vi pr), (3, vi o), (4, vi (o + (tLen t₉ : Int))), (5, vi dl)] dX3_mostOfRow_178 0 rfl rfl (by decide) ?_
                    refine go_goto (pc := 181) hF 6 dX3_mostOfRow_181 (by decide) ?_
                    refine go_lv [(7, vi ((oo + 1 + (tLen ta_ : Int)) + 1)), (6, vi (S₉ + ((nn : Int) * (upB₉ (soA v₉ mm my) pr ta_ kk)))), (0, vr E 30), (1, vr E 23), (2, vi pr), (3, vi o), (4, vi (o + (tLen t₉ : Int))), (5, vi dl)] [0, 1, 4, 5, 6, 7, 8, 9] rfl ?_
                    exact ih₉ _ (kk + tLks ta_) (S₉ + (nn : Int) * upB₉ (soA v₉ mm my) pr ta_ kk) τ (by omega) (by omega) (by rw [show oo + 1 + (tLen ta_ : Int) + 1 = oo + 2 + (tLen ta_ : Int) by omega]; exact par_) (by omega) (by omega) (by rw [← hS₉]; simp only [upB₉] <;> omega) rfl
                · exact absurd bq82 (by decide)
              · exact absurd bq70 (by decide)
            · exact absurd bq37 (by decide)
  exact loop₉ t₉ hwf o k₉ 0 σ hdp (by omega) hpa0 ⟨ho1.1, rfl⟩ hk1 (by omega) rfl
theorem mostOfRow_all (E : En) (N : Nat) : ∀ D₉, MstRow E N D₉
  | 0 => mostOfRow_step E N 0 (fun D₉ h => absurd h (by omega))
  | D₉ + 1 => mostOfRow_step E N (D₉ + 1) (fun D9 h => by cases h; exact mostOfRow_all E N D₉)
set_option maxHeartbeats 4000000 in
set_option maxRecDepth 100000 in
theorem c_X3_mostOf (E : En) (N : Nat) (t₉ : Tr) (σ : Nat → va_E) (sg vl mt₉ lw ll la mm my : Int → Int) (sz₉ lk₉ chs lps dp ln v₉ kn₉ pr : Int) (hN₉ : 101 ≤ N) (hp : isP E σ 23 sg vl mt₉ lw ll la sz₉ lk₉ chs lps dp ln) (ho : okP sg vl mt₉ lw ll la sz₉ lk₉ chs lps dp ln) (hwf : wf t₉) (hdp : tDep t₉ ≤ 3) (hpa0 : PA₉ sg vl mt₉ lw ll la t₉ 0 0 (-1)) (htl : (tLen t₉ : Int) = sz₉) (htk : (tLks t₉ : Int) ≤ lk₉) (hv : rg v₉) (hpr : 2 ≤ pr ∧ pr ≤ 99) (hf : isFo E σ v₉ kn₉ mm my) (hmy : ∀ z₉ : Int, 0 ≤ z₉ → z₉ < 24 → rg (mm z₉) ∧ rg (my z₉)) : CP E M_X3_mostOf 13 [vr E 30, vr E 23, vi pr] N σ (upB₉ (soA v₉ mm my) pr t₉ 0) := by
  refine CT.of2 (own := RX3) (by decide) rfl (Nat.le_of_ble_eq_true rfl) ?_
  intro p e R s m args below meth c Q hF hr hlk hnm hz hR hQ
  have hsz := ho.1
  refine go_aload_n (pc := 0) hF dX3_mostOf_0 0 rfl ?_
  refine go_aload_n (pc := 1) hF dX3_mostOf_1 1 rfl ?_
  refine go_iload_n (pc := 2) hF dX3_mostOf_2 2 rfl ?_
  refine go_iconst (pc := 3) hF dX3_mostOf_3 ?_
  refine go_aload_n (pc := 4) hF dX3_mostOf_4 1 rfl ?_
  refine go_get (pc := 5) hF fl_X3_40 dX3_mostOf_5 (by omega) hp.1 rfl ?_
  refine go_iconst (pc := 8) hF dX3_mostOf_8 ?_
  have cr := mostOfRow_all E N 3 t₉ σ sg vl mt₉ lw ll la mm my sz₉ lk₉ chs lps dp ln 0 0 (-1) 0 v₉ kn₉ pr hN₉ hp ho hwf hdp hpa0 (by omega) (by omega) (by omega) hv hpr hf hmy
  rw [show (0 : Int) + (tLen t₉ : Int) = sz₉ by omega] at cr
  refine go_callVP (pc := 9) hF [vr E 23, vi pr, vi 0, vi sz₉, vi 0] [] mv_X3_71 dX3_mostOf_9 (by omega) hf.1 cr rfl rfl (Nat.le_of_ble_eq_true rfl) (by decide) ⟨Nat.zero_le _, Nat.zero_le _⟩ ?_
  exact go_iretQ hF hr hlk hQ dX3_mostOf_12 ⟨rfl, rfl⟩
def LstRow (E : En) (N D₉ : Nat) : Prop := ∀ (t₉ : Tr) (σ : Nat → va_E) (sg vl mt₉ lw ll la mm my : Int → Int) (sz₉ lk₉ chs lps dp ln o k₉ lp dl v₉ kn₉ pr : Int), 101 ≤ N → isP E σ 23 sg vl mt₉ lw ll la sz₉ lk₉ chs lps dp ln → okP sg vl mt₉ lw ll la sz₉ lk₉ chs lps dp ln → wf t₉ → tDep t₉ ≤ D₉ → PA₉ sg vl mt₉ lw ll la t₉ o k₉ lp → (0 ≤ o ∧ o + tLen t₉ ≤ sz₉) → (0 ≤ k₉ ∧ k₉ + tLks t₉ ≤ lk₉) → (0 ≤ dl ∧ tDep t₉ + dl ≤ 3) → rg v₉ → (2 ≤ pr ∧ pr ≤ 99) → isFo E σ v₉ kn₉ mm my → (∀ z₉ : Int, 0 ≤ z₉ → z₉ < 24 → rg (mm z₉) ∧ rg (my z₉)) → CP E M_X3_leastOfRow (6 + 2 * D₉) [vr E 30, vr E 23, vi pr, vi o, vi (o + tLen t₉), vi dl] N σ (loB₉ (soA v₉ mm my) pr t₉ k₉)
set_option maxHeartbeats 4000000 in
set_option maxRecDepth 100000 in
theorem leastOfRow_step (E : En) (N D₉ : Nat) (IH₉ : ∀ D9, D₉ = D9 + 1 → LstRow E N D9) : LstRow E N D₉ := by
  intro t₉ σ sg vl mt₉ lw ll la mm my sz₉ lk₉ chs lps dp ln o k₉ lp dl v₉ kn₉ pr hN₉ hp ho hwf hdp hpa0 ho1 hk1 hdl hv hpr hf hmy
  refine CT.of2 (own := RX3) (by decide) rfl (Nat.le_of_ble_eq_true rfl) ?_
  intro p e R s m args below meth c Q hF hr hlk hnm hz hR hQ
  refine go_iconst (pc := 0) hF dX3_leastOfRow_0 ?_
  refine go_istore (pc := 1) hF [(6, vi 0), (0, vr E 30), (1, vr E 23), (2, vi pr), (3, vi o), (4, vi (o + (tLen t₉ : Int))), (5, vi dl)] dX3_leastOfRow_1 rfl (by decide) ?_
  refine go_iload_n (pc := 3) hF dX3_leastOfRow_3 4 rfl ?_
  refine go_istore (pc := 4) hF [(7, vi o), (6, vi 0), (0, vr E 30), (1, vr E 23), (2, vi pr), (3, vi o), (4, vi (o + (tLen t₉ : Int))), (5, vi dl)] dX3_leastOfRow_4 rfl (by decide) ?_
  have hsz := ho.1
  have loop₉ : ∀ tt, wf tt → ∀ (oo kk S₉ : Int) (τ : Nat → va_E), tDep tt ≤ D₉ → (tDep tt : Int) + dl ≤ 3 → PA₉ sg vl mt₉ lw ll la tt oo kk lp → (0 ≤ oo ∧ oo + tLen tt = o + tLen t₉) → (0 ≤ kk ∧ kk + tLks tt ≤ lk₉) → S₉ + loB₉ (soA v₉ mm my) pr tt kk = loB₉ (soA v₉ mm my) pr t₉ k₉ → τ = σ → Go E p e R s m args below meth c Q 11 (0, 0) N τ [(7, vi oo), (6, vi S₉), (0, vr E 30), (1, vr E 23), (2, vi pr), (3, vi o), (4, vi (o + (tLen t₉ : Int))), (5, vi dl)] [] 6 := by
    refine tInd ?_ ?_ ?_ ?_
    · intro oo kk S₉ τ hd1 hd2 hpa hoo hkk hS₉ hts
      have eq_nil : tLen Std.Format.nil = 0 := rfl
      subst hts
      refine go_iload (pc := 6) hF dX3_leastOfRow_6 0 rfl ?_
      refine go_iload (pc := 8) hF dX3_leastOfRow_8 6 rfl ?_
      refine go_icmp_ge (pc := 10) hF 156 dX3_leastOfRow_10 (by decide) (by omega) (by omega) (fun bq10 => ?_) (fun bq10 => ?_)
      · refine go_iload (pc := 156) hF dX3_leastOfRow_156 1 rfl ?_
        exact go_iretQ hF hr hlk hQ dX3_leastOfRow_158 ⟨by rw [← hS₉]; show S₉ = S₉ + 0; omega, rfl⟩
      · exact absurd bq10 (by omega)
    · intro cx rt hcx hwr ih₉
      have eq_tLen : tLen (Std.Format.append (Std.Format.nest cx Std.Format.nil) rt) = 1 + tLen rt := rfl
      have eq_tDep : tDep (Std.Format.append (Std.Format.nest cx Std.Format.nil) rt) = tDep rt := rfl
      have eq_tLks : tLks (Std.Format.append (Std.Format.nest cx Std.Format.nil) rt) = (if cx = 46 then 0 else 1) + tLks rt := rfl
      by_cases hc46 : cx = 46
      · intro oo kk S₉ τ hd1 hd2 hpa hoo hkk hS₉ hts
        obtain ⟨pa1, par_⟩ := hpa
        rw [if_pos hc46] at pa1 eq_tLks
        subst hts
        refine go_iload (pc := 6) hF dX3_leastOfRow_6 0 rfl ?_
        refine go_iload (pc := 8) hF dX3_leastOfRow_8 6 rfl ?_
        refine go_icmp_ge (pc := 10) hF 156 dX3_leastOfRow_10 (by decide) (by omega) (by omega) (fun bq10 => ?_) (fun bq10 => ?_)
        · exact absurd bq10 (by omega)
        · refine go_iload (pc := 13) hF dX3_leastOfRow_13 7 rfl ?_
          refine go_iconst (pc := 15) hF dX3_leastOfRow_15 ?_
          refine go_icmp_gt (pc := 16) hF 156 dX3_leastOfRow_16 (by decide) (by omega) ⟨by decide, by decide⟩ (fun bq16 => ?_) (fun bq16 => ?_)
          · exact absurd bq16 (by omega)
          · refine go_aload_n (pc := 19) hF dX3_leastOfRow_19 3 rfl ?_
            refine go_iload (pc := 20) hF dX3_leastOfRow_20 0 rfl ?_
            have cm_k1 : CP E M_X6_signAt 2 [vr E 23, vi oo] N τ (1) := by
              have h := c_X6_signAt E N τ 23 oo (by omega) (by omega) hp ho
              rw [show gSign sg sz₉ oo = 1 from by unfold gSign; rw [if_pos (by omega)]; exact pa1] at h
              exact h
            refine go_callVP (pc := 22) hF [vi oo] [] mv_X3_78 dX3_leastOfRow_22 (by omega) hp.1 cm_k1 rfl rfl (Nat.le_of_ble_eq_true rfl) (by omega) ⟨Nat.zero_le _, Nat.zero_le _⟩ ?_
            refine go_istore (pc := 25) hF [(8, vi 1), (7, vi oo), (6, vi S₉), (0, vr E 30), (1, vr E 23), (2, vi pr), (3, vi o), (4, vi (o + (tLen t₉ : Int))), (5, vi dl)] dX3_leastOfRow_25 rfl (by decide) ?_
            refine go_aload_n (pc := 27) hF dX3_leastOfRow_27 4 rfl ?_
            refine go_iload (pc := 28) hF dX3_leastOfRow_28 1 rfl ?_
            refine go_callVP (pc := 30) hF [vi oo] [] mv_X3_81 dX3_leastOfRow_30 (by omega) hp.1 (c_X6_mateOf E N τ 23 oo (by omega) (by omega) hp ho) rfl rfl (Nat.le_of_ble_eq_true rfl) (by omega) ⟨Nat.zero_le _, Nat.zero_le _⟩ ?_
            refine go_istore (pc := 33) hF [(9, vi (gMate mt₉ sz₉ oo)), (8, vi 1), (7, vi oo), (6, vi S₉), (0, vr E 30), (1, vr E 23), (2, vi pr), (3, vi o), (4, vi (o + (tLen t₉ : Int))), (5, vi dl)] dX3_leastOfRow_33 rfl (by decide) ?_
            refine go_iload (pc := 35) hF dX3_leastOfRow_35 1 rfl ?_
            refine go_if_ne (pc := 37) hF 67 dX3_leastOfRow_37 (by decide) ⟨by decide, by decide⟩ (fun bq37 => ?_) (fun bq37 => ?_)
            · refine go_iload (pc := 67) hF dX3_leastOfRow_67 1 rfl ?_
              refine go_iconst (pc := 69) hF dX3_leastOfRow_69 ?_
              refine go_icmp_ne (pc := 70) hF 79 dX3_leastOfRow_70 (by decide) ⟨by decide, by decide⟩ ⟨by decide, by decide⟩ (fun bq70 => ?_) (fun bq70 => ?_)
              · exact absurd bq70 (by decide)
              · refine go_iinc (pc := 73) hF [(6, vi (S₉ + 1)), (9, vi (gMate mt₉ sz₉ oo)), (8, vi 1), (7, vi oo), (0, vr E 30), (1, vr E 23), (2, vi pr), (3, vi o), (4, vi (o + (tLen t₉ : Int))), (5, vi dl)] dX3_leastOfRow_73 3 rfl rfl (by decide) ?_
                refine go_goto (pc := 76) hF 150 dX3_leastOfRow_76 (by decide) ?_
                refine go_iinc (pc := 150) hF [(7, vi (oo + 1)), (6, vi (S₉ + 1)), (9, vi (gMate mt₉ sz₉ oo)), (8, vi 1), (0, vr E 30), (1, vr E 23), (2, vi pr), (3, vi o), (4, vi (o + (tLen t₉ : Int))), (5, vi dl)] dX3_leastOfRow_150 3 rfl rfl (by decide) ?_
                refine go_goto (pc := 153) hF 6 dX3_leastOfRow_153 (by decide) ?_
                refine go_lv [(7, vi (oo + 1)), (6, vi (S₉ + 1)), (0, vr E 30), (1, vr E 23), (2, vi pr), (3, vi o), (4, vi (o + (tLen t₉ : Int))), (5, vi dl)] [0, 1, 4, 5, 6, 7, 8, 9] rfl ?_
                exact ih₉ (oo + 1) kk (S₉ + 1) τ (by omega) (by omega) (by rw [if_pos hc46, Int.add_zero] at par_; exact par_) (by omega) (by omega) (by rw [← hS₉]; simp only [loB₉]; rw [if_pos hc46, if_pos hc46, Int.add_zero]; omega) rfl
            · exact absurd bq37 (by decide)
      · intro oo kk S₉ τ hd1 hd2 hpa hoo hkk hS₉ hts
        obtain ⟨pa1, par_⟩ := hpa
        rw [if_neg hc46] at pa1 eq_tLks
        have hc9 : 97 ≤ cx ∧ cx ≤ 102 := by unfold okc at hcx; omega
        have hlk24 := ho.2.1
        subst hts
        refine go_iload (pc := 6) hF dX3_leastOfRow_6 0 rfl ?_
        refine go_iload (pc := 8) hF dX3_leastOfRow_8 6 rfl ?_
        refine go_icmp_ge (pc := 10) hF 156 dX3_leastOfRow_10 (by decide) (by omega) (by omega) (fun bq10 => ?_) (fun bq10 => ?_)
        · exact absurd bq10 (by omega)
        · refine go_iload (pc := 13) hF dX3_leastOfRow_13 7 rfl ?_
          refine go_iconst (pc := 15) hF dX3_leastOfRow_15 ?_
          refine go_icmp_gt (pc := 16) hF 156 dX3_leastOfRow_16 (by decide) (by omega) ⟨by decide, by decide⟩ (fun bq16 => ?_) (fun bq16 => ?_)
          · exact absurd bq16 (by omega)
          · refine go_aload_n (pc := 19) hF dX3_leastOfRow_19 3 rfl ?_
            refine go_iload (pc := 20) hF dX3_leastOfRow_20 0 rfl ?_
            have cm_k2 : CP E M_X6_signAt 2 [vr E 23, vi oo] N τ (0) := by
              have h := c_X6_signAt E N τ 23 oo (by omega) (by omega) hp ho
              rw [show gSign sg sz₉ oo = 0 from by unfold gSign; rw [if_pos (by omega)]; exact pa1.1] at h
              exact h
            refine go_callVP (pc := 22) hF [vi oo] [] mv_X3_78 dX3_leastOfRow_22 (by omega) hp.1 cm_k2 rfl rfl (Nat.le_of_ble_eq_true rfl) (by omega) ⟨Nat.zero_le _, Nat.zero_le _⟩ ?_
            refine go_istore (pc := 25) hF [(8, vi 0), (7, vi oo), (6, vi S₉), (0, vr E 30), (1, vr E 23), (2, vi pr), (3, vi o), (4, vi (o + (tLen t₉ : Int))), (5, vi dl)] dX3_leastOfRow_25 rfl (by decide) ?_
            refine go_aload_n (pc := 27) hF dX3_leastOfRow_27 4 rfl ?_
            refine go_iload (pc := 28) hF dX3_leastOfRow_28 1 rfl ?_
            refine go_callVP (pc := 30) hF [vi oo] [] mv_X3_81 dX3_leastOfRow_30 (by omega) hp.1 (c_X6_mateOf E N τ 23 oo (by omega) (by omega) hp ho) rfl rfl (Nat.le_of_ble_eq_true rfl) (by omega) ⟨Nat.zero_le _, Nat.zero_le _⟩ ?_
            refine go_istore (pc := 33) hF [(9, vi (gMate mt₉ sz₉ oo)), (8, vi 0), (7, vi oo), (6, vi S₉), (0, vr E 30), (1, vr E 23), (2, vi pr), (3, vi o), (4, vi (o + (tLen t₉ : Int))), (5, vi dl)] dX3_leastOfRow_33 rfl (by decide) ?_
            refine go_iload (pc := 35) hF dX3_leastOfRow_35 1 rfl ?_
            refine go_if_ne (pc := 37) hF 67 dX3_leastOfRow_37 (by decide) ⟨by decide, by decide⟩ (fun bq37 => ?_) (fun bq37 => ?_)
            · exact absurd bq37 (by decide)
            · refine go_iload (pc := 40) hF dX3_leastOfRow_40 3 rfl ?_
              refine go_aload_n (pc := 42) hF dX3_leastOfRow_42 4 rfl ?_
              refine go_aload_n (pc := 43) hF dX3_leastOfRow_43 5 rfl ?_
              refine go_iload (pc := 44) hF dX3_leastOfRow_44 2 rfl ?_
              have cm_k3 : CP E M_X6_valueAt 2 [vr E 23, vi oo] N τ (kk) := by
                have h := c_X6_valueAt E N τ 23 oo (by omega) (by omega) hp ho
                rw [show gVal vl sz₉ oo = kk from by unfold gVal; rw [if_pos (by omega)]; exact pa1.2.1] at h
                exact h
              refine go_callVP (pc := 46) hF [vi oo] [vr E 30, vi S₉] mv_X3_84 dX3_leastOfRow_46 (by omega) hp.1 cm_k3 rfl rfl (Nat.le_of_ble_eq_true rfl) (by omega) ⟨Nat.zero_le _, Nat.zero_le _⟩ ?_
              refine go_callVP (pc := 49) hF [vi kk] [vi S₉] mv_X3_62 dX3_leastOfRow_49 (by omega) hf.1 (c_X3_sortOf E N τ mm my v₉ kn₉ kk hN₉ hf (by omega) (hmy kk (by omega) (by omega)).1 (hmy kk (by omega) (by omega)).2 hv) rfl rfl (Nat.le_of_ble_eq_true rfl) (by omega) ⟨Nat.zero_le _, Nat.zero_le _⟩ ?_
              have zs : 0 ≤ soA v₉ mm my kk ∧ soA v₉ mm my kk ≤ 2 := by unfold soA; repeat (first | omega | split)
              refine go_iconst (pc := 52) hF dX3_leastOfRow_52 ?_
              refine go_icmp_ne (pc := 53) hF 60 dX3_leastOfRow_53 (by decide) (by omega) ⟨by decide, by decide⟩ (fun bq53 => ?_) (fun bq53 => ?_)
              · refine go_iconst (pc := 60) hF dX3_leastOfRow_60 ?_
                refine go_iadd (pc := 61) hF dX3_leastOfRow_61 ?_
                refine go_istore (pc := 62) hF [(6, vi (S₉ + 1)), (9, vi (gMate mt₉ sz₉ oo)), (8, vi 0), (7, vi oo), (0, vr E 30), (1, vr E 23), (2, vi pr), (3, vi o), (4, vi (o + (tLen t₉ : Int))), (5, vi dl)] dX3_leastOfRow_62 rfl (by decide) ?_
                refine go_goto (pc := 64) hF 150 dX3_leastOfRow_64 (by decide) ?_
                refine go_iinc (pc := 150) hF [(7, vi (oo + 1)), (6, vi (S₉ + 1)), (9, vi (gMate mt₉ sz₉ oo)), (8, vi 0), (0, vr E 30), (1, vr E 23), (2, vi pr), (3, vi o), (4, vi (o + (tLen t₉ : Int))), (5, vi dl)] dX3_leastOfRow_150 3 rfl rfl (by decide) ?_
                refine go_goto (pc := 153) hF 6 dX3_leastOfRow_153 (by decide) ?_
                refine go_lv [(7, vi (oo + 1)), (6, vi (S₉ + 1)), (0, vr E 30), (1, vr E 23), (2, vi pr), (3, vi o), (4, vi (o + (tLen t₉ : Int))), (5, vi dl)] [0, 1, 4, 5, 6, 7, 8, 9] rfl ?_
                exact ih₉ (oo + 1) (kk + 1) (S₉ + 1) τ (by omega) (by omega) (by rw [if_neg hc46] at par_; exact par_) (by omega) (by omega) (by rw [← hS₉]; simp only [loB₉]; rw [if_neg hc46, if_neg bq53, if_neg hc46]; omega) rfl
              · refine go_iload_n (pc := 56) hF dX3_leastOfRow_56 6 rfl ?_
                refine go_goto (pc := 57) hF 61 dX3_leastOfRow_57 (by decide) ?_
                refine go_iadd (pc := 61) hF dX3_leastOfRow_61 ?_
                refine go_istore (pc := 62) hF [(6, vi (S₉ + pr)), (9, vi (gMate mt₉ sz₉ oo)), (8, vi 0), (7, vi oo), (0, vr E 30), (1, vr E 23), (2, vi pr), (3, vi o), (4, vi (o + (tLen t₉ : Int))), (5, vi dl)] dX3_leastOfRow_62 rfl (by decide) ?_
                refine go_goto (pc := 64) hF 150 dX3_leastOfRow_64 (by decide) ?_
                refine go_iinc (pc := 150) hF [(7, vi (oo + 1)), (6, vi (S₉ + pr)), (9, vi (gMate mt₉ sz₉ oo)), (8, vi 0), (0, vr E 30), (1, vr E 23), (2, vi pr), (3, vi o), (4, vi (o + (tLen t₉ : Int))), (5, vi dl)] dX3_leastOfRow_150 3 rfl rfl (by decide) ?_
                refine go_goto (pc := 153) hF 6 dX3_leastOfRow_153 (by decide) ?_
                refine go_lv [(7, vi (oo + 1)), (6, vi (S₉ + pr)), (0, vr E 30), (1, vr E 23), (2, vi pr), (3, vi o), (4, vi (o + (tLen t₉ : Int))), (5, vi dl)] [0, 1, 4, 5, 6, 7, 8, 9] rfl ?_
                exact ih₉ (oo + 1) (kk + 1) (S₉ + pr) τ (by omega) (by omega) (by rw [if_neg hc46] at par_; exact par_) (by omega) (by omega) (by rw [← hS₉]; simp only [loB₉]; rw [if_neg hc46, if_pos bq53, if_neg hc46]; omega) rfl
    · intro ta_ tb_ rt hwa hwb hwr _ _ ih₉
      have eq_tLen : tLen (Std.Format.append (Std.Format.append ta_ tb_) rt) = 3 + tLen ta_ + tLen tb_ + tLen rt := rfl
      have eq_tDep : tDep (Std.Format.append (Std.Format.append ta_ tb_) rt) = max (1 + max (tDep ta_) (tDep tb_)) (tDep rt) := rfl
      have eq_tLks : tLks (Std.Format.append (Std.Format.append ta_ tb_) rt) = tLks ta_ + tLks tb_ + tLks rt := rfl
      by_cases hD0 : D₉ = 0
      · intro oo kk S₉ τ hd1 hd2 hpa hoo hkk hS₉ hts; exact absurd hd1 (by omega)
      · intro oo kk S₉ τ hd1 hd2 hpa hoo hkk hS₉ hts
        obtain ⟨D9, rfl⟩ : ∃ D9, D₉ = D9 + 1 := ⟨D₉ - 1, by omega⟩
        obtain ⟨pa1, paa, pab, par_⟩ := hpa
        subst hts
        refine go_iload (pc := 6) hF dX3_leastOfRow_6 0 rfl ?_
        refine go_iload (pc := 8) hF dX3_leastOfRow_8 6 rfl ?_
        refine go_icmp_ge (pc := 10) hF 156 dX3_leastOfRow_10 (by decide) (by omega) (by omega) (fun bq10 => ?_) (fun bq10 => ?_)
        · exact absurd bq10 (by omega)
        · refine go_iload (pc := 13) hF dX3_leastOfRow_13 7 rfl ?_
          refine go_iconst (pc := 15) hF dX3_leastOfRow_15 ?_
          refine go_icmp_gt (pc := 16) hF 156 dX3_leastOfRow_16 (by decide) (by omega) ⟨by decide, by decide⟩ (fun bq16 => ?_) (fun bq16 => ?_)
          · exact absurd bq16 (by omega)
          · refine go_aload_n (pc := 19) hF dX3_leastOfRow_19 3 rfl ?_
            refine go_iload (pc := 20) hF dX3_leastOfRow_20 0 rfl ?_
            have cm_k4 : CP E M_X6_signAt 2 [vr E 23, vi oo] N τ (2) := by
              have h := c_X6_signAt E N τ 23 oo (by omega) (by omega) hp ho
              rw [show gSign sg sz₉ oo = 2 from by unfold gSign; rw [if_pos (by omega)]; exact pa1.1] at h
              exact h
            refine go_callVP (pc := 22) hF [vi oo] [] mv_X3_78 dX3_leastOfRow_22 (by omega) hp.1 cm_k4 rfl rfl (Nat.le_of_ble_eq_true rfl) (by omega) ⟨Nat.zero_le _, Nat.zero_le _⟩ ?_
            refine go_istore (pc := 25) hF [(8, vi 2), (7, vi oo), (6, vi S₉), (0, vr E 30), (1, vr E 23), (2, vi pr), (3, vi o), (4, vi (o + (tLen t₉ : Int))), (5, vi dl)] dX3_leastOfRow_25 rfl (by decide) ?_
            refine go_aload_n (pc := 27) hF dX3_leastOfRow_27 4 rfl ?_
            refine go_iload (pc := 28) hF dX3_leastOfRow_28 1 rfl ?_
            have cm_k5 : CP E M_X6_mateOf 2 [vr E 23, vi oo] N τ (oo + 1 + (tLen ta_ : Int)) := by
              have h := c_X6_mateOf E N τ 23 oo (by omega) (by omega) hp ho
              rw [show gMate mt₉ sz₉ oo = oo + 1 + (tLen ta_ : Int) from by unfold gMate; rw [if_pos (by omega), pa1.2.1]; omega] at h
              exact h
            refine go_callVP (pc := 30) hF [vi oo] [] mv_X3_81 dX3_leastOfRow_30 (by omega) hp.1 cm_k5 rfl rfl (Nat.le_of_ble_eq_true rfl) (by omega) ⟨Nat.zero_le _, Nat.zero_le _⟩ ?_
            refine go_istore (pc := 33) hF [(9, vi (oo + 1 + (tLen ta_ : Int))), (8, vi 2), (7, vi oo), (6, vi S₉), (0, vr E 30), (1, vr E 23), (2, vi pr), (3, vi o), (4, vi (o + (tLen t₉ : Int))), (5, vi dl)] dX3_leastOfRow_33 rfl (by decide) ?_
            refine go_iload (pc := 35) hF dX3_leastOfRow_35 1 rfl ?_
            refine go_if_ne (pc := 37) hF 67 dX3_leastOfRow_37 (by decide) ⟨by decide, by decide⟩ (fun bq37 => ?_) (fun bq37 => ?_)
            · refine go_iload (pc := 67) hF dX3_leastOfRow_67 1 rfl ?_
              refine go_iconst (pc := 69) hF dX3_leastOfRow_69 ?_
              refine go_icmp_ne (pc := 70) hF 79 dX3_leastOfRow_70 (by decide) ⟨by decide, by decide⟩ ⟨by decide, by decide⟩ (fun bq70 => ?_) (fun bq70 => ?_)
              · refine go_iload (pc := 79) hF dX3_leastOfRow_79 1 rfl ?_
                refine go_iconst (pc := 81) hF dX3_leastOfRow_81 ?_
                refine go_icmp_ne (pc := 82) hF 140 dX3_leastOfRow_82 (by decide) ⟨by decide, by decide⟩ ⟨by decide, by decide⟩ (fun bq82 => ?_) (fun bq82 => ?_)
                · exact absurd bq82 (by decide)
                · refine go_aload_n (pc := 85) hF dX3_leastOfRow_85 5 rfl ?_
                  refine go_iload (pc := 86) hF dX3_leastOfRow_86 0 rfl ?_
                  have cm_k6 : CP E M_X6_mateOf 2 [vr E 23, vi (oo + 1 + (tLen ta_ : Int))] N τ (oo + 2 + (tLen ta_ : Int) + (tLen tb_ : Int)) := by
                    have h := c_X6_mateOf E N τ 23 (oo + 1 + (tLen ta_ : Int)) (by omega) (by omega) hp ho
                    rw [show gMate mt₉ sz₉ (oo + 1 + (tLen ta_ : Int)) = oo + 2 + (tLen ta_ : Int) + (tLen tb_ : Int) from by unfold gMate; rw [if_pos (by omega), pa1.2.2]; omega] at h
                    exact h
                  refine go_callVP (pc := 88) hF [vi (oo + 1 + (tLen ta_ : Int))] [] mv_X3_81 dX3_leastOfRow_88 (by omega) hp.1 cm_k6 rfl rfl (Nat.le_of_ble_eq_true rfl) (by omega) ⟨Nat.zero_le _, Nat.zero_le _⟩ ?_
                  refine go_istore (pc := 91) hF [(10, vi (oo + 2 + (tLen ta_ : Int) + (tLen tb_ : Int))), (9, vi (oo + 1 + (tLen ta_ : Int))), (8, vi 2), (7, vi oo), (6, vi S₉), (0, vr E 30), (1, vr E 23), (2, vi pr), (3, vi o), (4, vi (o + (tLen t₉ : Int))), (5, vi dl)] dX3_leastOfRow_91 rfl (by decide) ?_
                  refine go_iload (pc := 93) hF dX3_leastOfRow_93 4 rfl ?_
                  refine go_aload_n (pc := 95) hF dX3_leastOfRow_95 5 rfl ?_
                  refine go_aload_n (pc := 96) hF dX3_leastOfRow_96 6 rfl ?_
                  refine go_iload_n (pc := 97) hF dX3_leastOfRow_97 7 rfl ?_
                  refine go_iload (pc := 98) hF dX3_leastOfRow_98 3 rfl ?_
                  refine go_iconst (pc := 100) hF dX3_leastOfRow_100 ?_
                  refine go_iadd (pc := 101) hF dX3_leastOfRow_101 ?_
                  refine go_iload (pc := 102) hF dX3_leastOfRow_102 1 rfl ?_
                  refine go_iload (pc := 104) hF dX3_leastOfRow_104 10 rfl ?_
                  refine go_iconst (pc := 106) hF dX3_leastOfRow_106 ?_
                  refine go_iadd (pc := 107) hF dX3_leastOfRow_107 ?_
                  have cr_k7 := IH₉ D9 rfl ta_ τ sg vl mt₉ lw ll la mm my sz₉ lk₉ chs lps dp ln (oo + 1) kk lp (dl + 1) v₉ kn₉ pr hN₉ hp ho hwa (by omega) paa (by omega) (by omega) (by omega) hv hpr hf hmy
                  rw [show (oo + 1) + (tLen ta_ : Int) = oo + 1 + (tLen ta_ : Int) by omega] at cr_k7
                  refine go_callVP (pc := 108) hF [vr E 23, vi pr, vi (oo + 1), vi (oo + 1 + (tLen ta_ : Int)), vi (dl + 1)] [vi S₉] mv_X3_75 dX3_leastOfRow_108 (by omega) hf.1 cr_k7 rfl rfl (Nat.le_of_ble_eq_true rfl) (by omega) ⟨Nat.zero_le _, Nat.zero_le _⟩ ?_
                  refine go_aload_n (pc := 111) hF dX3_leastOfRow_111 5 rfl ?_
                  refine go_aload_n (pc := 112) hF dX3_leastOfRow_112 6 rfl ?_
                  refine go_iload_n (pc := 113) hF dX3_leastOfRow_113 7 rfl ?_
                  refine go_iload (pc := 114) hF dX3_leastOfRow_114 1 rfl ?_
                  refine go_iconst (pc := 116) hF dX3_leastOfRow_116 ?_
                  refine go_iadd (pc := 117) hF dX3_leastOfRow_117 ?_
                  refine go_iload (pc := 118) hF dX3_leastOfRow_118 0 rfl ?_
                  refine go_iload (pc := 120) hF dX3_leastOfRow_120 10 rfl ?_
                  refine go_iconst (pc := 122) hF dX3_leastOfRow_122 ?_
                  refine go_iadd (pc := 123) hF dX3_leastOfRow_123 ?_
                  have cr_k8 := IH₉ D9 rfl tb_ τ sg vl mt₉ lw ll la mm my sz₉ lk₉ chs lps dp ln ((oo + 1 + (tLen ta_ : Int)) + 1) (kk + tLks ta_) lp (dl + 1) v₉ kn₉ pr hN₉ hp ho hwb (by omega) (by rw [show oo + 1 + (tLen ta_ : Int) + 1 = oo + 2 + (tLen ta_ : Int) by omega]; exact pab) (by omega) (by omega) (by omega) hv hpr hf hmy
                  rw [show ((oo + 1 + (tLen ta_ : Int)) + 1) + (tLen tb_ : Int) = oo + 2 + (tLen ta_ : Int) + (tLen tb_ : Int) by omega] at cr_k8
                  refine go_callVP (pc := 124) hF [vr E 23, vi pr, vi ((oo + 1 + (tLen ta_ : Int)) + 1), vi (oo + 2 + (tLen ta_ : Int) + (tLen tb_ : Int)), vi (dl + 1)] [vi (loB₉ (soA v₉ mm my) pr ta_ kk), vi S₉] mv_X3_75 dX3_leastOfRow_124 (by omega) hf.1 cr_k8 rfl rfl (Nat.le_of_ble_eq_true rfl) (by omega) ⟨Nat.zero_le _, Nat.zero_le _⟩ ?_
                  have z1 := loB_rg (soA v₉ mm my) hpr ta_ hwa kk
                  have z2 := loB_rg (soA v₉ mm my) hpr tb_ hwb (kk + tLks ta_)
                  have z3 := ten3 (t₉ := ta_) (by omega) (by omega)
                  have z4 := ten3 (t₉ := tb_) (by omega) (by omega)
                  refine go_mmin (pc := 127) hF ms_X3_93 dX3_leastOfRow_127 (by omega) (by omega) (Nat.le_of_ble_eq_true rfl) (by omega) ⟨Nat.zero_le _, Nat.zero_le _⟩ ?_
                  refine go_iadd (pc := 130) hF dX3_leastOfRow_130 ?_
                  refine go_istore (pc := 131) hF [(6, vi (S₉ + (min (loB₉ (soA v₉ mm my) pr ta_ kk) (loB₉ (soA v₉ mm my) pr tb_ (kk + tLks ta_))))), (10, vi (oo + 2 + (tLen ta_ : Int) + (tLen tb_ : Int))), (9, vi (oo + 1 + (tLen ta_ : Int))), (8, vi 2), (7, vi oo), (0, vr E 30), (1, vr E 23), (2, vi pr), (3, vi o), (4, vi (o + (tLen t₉ : Int))), (5, vi dl)] dX3_leastOfRow_131 rfl (by decide) ?_
                  refine go_iload (pc := 133) hF dX3_leastOfRow_133 1 rfl ?_
                  refine go_istore (pc := 135) hF [(7, vi (oo + 2 + (tLen ta_ : Int) + (tLen tb_ : Int))), (6, vi (S₉ + (min (loB₉ (soA v₉ mm my) pr ta_ kk) (loB₉ (soA v₉ mm my) pr tb_ (kk + tLks ta_))))), (10, vi (oo + 2 + (tLen ta_ : Int) + (tLen tb_ : Int))), (9, vi (oo + 1 + (tLen ta_ : Int))), (8, vi 2), (0, vr E 30), (1, vr E 23), (2, vi pr), (3, vi o), (4, vi (o + (tLen t₉ : Int))), (5, vi dl)] dX3_leastOfRow_135 rfl (by decide) ?_
                  refine go_goto (pc := 137) hF 150 dX3_leastOfRow_137 (by decide) ?_
                  refine go_iinc (pc := 150) hF [(7, vi ((oo + 2 + (tLen ta_ : Int) + (tLen tb_ : Int)) + 1)), (6, vi (S₉ + (min (loB₉ (soA v₉ mm my) pr ta_ kk) (loB₉ (soA v₉ mm my) pr tb_ (kk + tLks ta_))))), (10, vi (oo + 2 + (tLen ta_ : Int) + (tLen tb_ : Int))), (9, vi (oo + 1 + (tLen ta_ : Int))), (8, vi 2), (0, vr E 30), (1, vr E 23), (2, vi pr), (3, vi o), (4, vi (o + (tLen t₉ : Int))), (5, vi dl)] dX3_leastOfRow_150 0 rfl rfl (by decide) ?_
                  refine go_goto (pc := 153) hF 6 dX3_leastOfRow_153 (by decide) ?_
                  refine go_lv [(7, vi ((oo + 2 + (tLen ta_ : Int) + (tLen tb_ : Int)) + 1)), (6, vi (S₉ + (min (loB₉ (soA v₉ mm my) pr ta_ kk) (loB₉ (soA v₉ mm my) pr tb_ (kk + tLks ta_))))), (0, vr E 30), (1, vr E 23), (2, vi pr), (3, vi o), (4, vi (o + (tLen t₉ : Int))), (5, vi dl)] [0, 1, 5, 6, 7, 8, 9, 10] rfl ?_
                  exact ih₉ _ (kk + tLks ta_ + tLks tb_) (S₉ + min (loB₉ (soA v₉ mm my) pr ta_ kk) (loB₉ (soA v₉ mm my) pr tb_ (kk + tLks ta_))) τ (by omega) (by omega) (by rw [show oo + 2 + (tLen ta_ : Int) + (tLen tb_ : Int) + 1 = oo + 3 + (tLen ta_ : Int) + (tLen tb_ : Int) by omega]; exact par_) (by omega) (by omega) (by rw [← hS₉]; simp only [loB₉] <;> omega) rfl
              · exact absurd bq70 (by decide)
            · exact absurd bq37 (by decide)
    · intro nn ta_ rt hnn₉ hwa hwr _ ih₉
      have eq_tLen : tLen (Std.Format.append (Std.Format.tag nn ta_) rt) = 2 + tLen ta_ + tLen rt := rfl
      have eq_tDep : tDep (Std.Format.append (Std.Format.tag nn ta_) rt) = max (1 + tDep ta_) (tDep rt) := rfl
      have eq_tLks : tLks (Std.Format.append (Std.Format.tag nn ta_) rt) = tLks ta_ + tLks rt := rfl
      by_cases hD0 : D₉ = 0
      · intro oo kk S₉ τ hd1 hd2 hpa hoo hkk hS₉ hts; exact absurd hd1 (by omega)
      · intro oo kk S₉ τ hd1 hd2 hpa hoo hkk hS₉ hts
        obtain ⟨D9, rfl⟩ : ∃ D9, D₉ = D9 + 1 := ⟨D₉ - 1, by omega⟩
        obtain ⟨pa1, paa, par_⟩ := hpa
        subst hts
        refine go_iload (pc := 6) hF dX3_leastOfRow_6 0 rfl ?_
        refine go_iload (pc := 8) hF dX3_leastOfRow_8 6 rfl ?_
        refine go_icmp_ge (pc := 10) hF 156 dX3_leastOfRow_10 (by decide) (by omega) (by omega) (fun bq10 => ?_) (fun bq10 => ?_)
        · exact absurd bq10 (by omega)
        · refine go_iload (pc := 13) hF dX3_leastOfRow_13 7 rfl ?_
          refine go_iconst (pc := 15) hF dX3_leastOfRow_15 ?_
          refine go_icmp_gt (pc := 16) hF 156 dX3_leastOfRow_16 (by decide) (by omega) ⟨by decide, by decide⟩ (fun bq16 => ?_) (fun bq16 => ?_)
          · exact absurd bq16 (by omega)
          · refine go_aload_n (pc := 19) hF dX3_leastOfRow_19 3 rfl ?_
            refine go_iload (pc := 20) hF dX3_leastOfRow_20 0 rfl ?_
            have cm_k9 : CP E M_X6_signAt 2 [vr E 23, vi oo] N τ (5) := by
              have h := c_X6_signAt E N τ 23 oo (by omega) (by omega) hp ho
              rw [show gSign sg sz₉ oo = 5 from by unfold gSign; rw [if_pos (by omega)]; exact pa1.1] at h
              exact h
            refine go_callVP (pc := 22) hF [vi oo] [] mv_X3_78 dX3_leastOfRow_22 (by omega) hp.1 cm_k9 rfl rfl (Nat.le_of_ble_eq_true rfl) (by omega) ⟨Nat.zero_le _, Nat.zero_le _⟩ ?_
            refine go_istore (pc := 25) hF [(8, vi 5), (7, vi oo), (6, vi S₉), (0, vr E 30), (1, vr E 23), (2, vi pr), (3, vi o), (4, vi (o + (tLen t₉ : Int))), (5, vi dl)] dX3_leastOfRow_25 rfl (by decide) ?_
            refine go_aload_n (pc := 27) hF dX3_leastOfRow_27 4 rfl ?_
            refine go_iload (pc := 28) hF dX3_leastOfRow_28 1 rfl ?_
            have cm_k10 : CP E M_X6_mateOf 2 [vr E 23, vi oo] N τ (oo + 1 + (tLen ta_ : Int)) := by
              have h := c_X6_mateOf E N τ 23 oo (by omega) (by omega) hp ho
              rw [show gMate mt₉ sz₉ oo = oo + 1 + (tLen ta_ : Int) from by unfold gMate; rw [if_pos (by omega), pa1.2.2.1]; omega] at h
              exact h
            refine go_callVP (pc := 30) hF [vi oo] [] mv_X3_81 dX3_leastOfRow_30 (by omega) hp.1 cm_k10 rfl rfl (Nat.le_of_ble_eq_true rfl) (by omega) ⟨Nat.zero_le _, Nat.zero_le _⟩ ?_
            refine go_istore (pc := 33) hF [(9, vi (oo + 1 + (tLen ta_ : Int))), (8, vi 5), (7, vi oo), (6, vi S₉), (0, vr E 30), (1, vr E 23), (2, vi pr), (3, vi o), (4, vi (o + (tLen t₉ : Int))), (5, vi dl)] dX3_leastOfRow_33 rfl (by decide) ?_
            refine go_iload (pc := 35) hF dX3_leastOfRow_35 1 rfl ?_
            refine go_if_ne (pc := 37) hF 67 dX3_leastOfRow_37 (by decide) ⟨by decide, by decide⟩ (fun bq37 => ?_) (fun bq37 => ?_)
            · refine go_iload (pc := 67) hF dX3_leastOfRow_67 1 rfl ?_
              refine go_iconst (pc := 69) hF dX3_leastOfRow_69 ?_
              refine go_icmp_ne (pc := 70) hF 79 dX3_leastOfRow_70 (by decide) ⟨by decide, by decide⟩ ⟨by decide, by decide⟩ (fun bq70 => ?_) (fun bq70 => ?_)
              · refine go_iload (pc := 79) hF dX3_leastOfRow_79 1 rfl ?_
                refine go_iconst (pc := 81) hF dX3_leastOfRow_81 ?_
                refine go_icmp_ne (pc := 82) hF 140 dX3_leastOfRow_82 (by decide) ⟨by decide, by decide⟩ ⟨by decide, by decide⟩ (fun bq82 => ?_) (fun bq82 => ?_)
                · refine go_iload (pc := 140) hF dX3_leastOfRow_140 1 rfl ?_
                  refine go_iconst (pc := 142) hF dX3_leastOfRow_142 ?_
                  refine go_icmp_ne (pc := 143) hF 150 dX3_leastOfRow_143 (by decide) ⟨by decide, by decide⟩ ⟨by decide, by decide⟩ (fun bq143 => ?_) (fun bq143 => ?_)
                  · exact absurd bq143 (by decide)
                  · refine go_iload (pc := 146) hF dX3_leastOfRow_146 0 rfl ?_
                    refine go_istore (pc := 148) hF [(7, vi (oo + 1 + (tLen ta_ : Int))), (9, vi (oo + 1 + (tLen ta_ : Int))), (8, vi 5), (6, vi S₉), (0, vr E 30), (1, vr E 23), (2, vi pr), (3, vi o), (4, vi (o + (tLen t₉ : Int))), (5, vi dl)] dX3_leastOfRow_148 rfl (by decide) ?_
                    refine go_iinc (pc := 150) hF [(7, vi ((oo + 1 + (tLen ta_ : Int)) + 1)), (9, vi (oo + 1 + (tLen ta_ : Int))), (8, vi 5), (6, vi S₉), (0, vr E 30), (1, vr E 23), (2, vi pr), (3, vi o), (4, vi (o + (tLen t₉ : Int))), (5, vi dl)] dX3_leastOfRow_150 0 rfl rfl (by decide) ?_
                    refine go_goto (pc := 153) hF 6 dX3_leastOfRow_153 (by decide) ?_
                    refine go_lv [(7, vi ((oo + 1 + (tLen ta_ : Int)) + 1)), (6, vi S₉), (0, vr E 30), (1, vr E 23), (2, vi pr), (3, vi o), (4, vi (o + (tLen t₉ : Int))), (5, vi dl)] [0, 3, 4, 5, 6, 7, 8, 9] rfl ?_
                    exact ih₉ _ (kk + tLks ta_) S₉ τ (by omega) (by omega) (by rw [show oo + 1 + (tLen ta_ : Int) + 1 = oo + 2 + (tLen ta_ : Int) by omega]; exact par_) (by omega) (by omega) (by rw [← hS₉]; simp only [loB₉] <;> omega) rfl
                · exact absurd bq82 (by decide)
              · exact absurd bq70 (by decide)
            · exact absurd bq37 (by decide)
  exact loop₉ t₉ hwf o k₉ 0 σ hdp (by omega) hpa0 ⟨ho1.1, rfl⟩ hk1 (by omega) rfl
theorem leastOfRow_all (E : En) (N : Nat) : ∀ D₉, LstRow E N D₉
  | 0 => leastOfRow_step E N 0 (fun D₉ h => absurd h (by omega))
  | D₉ + 1 => leastOfRow_step E N (D₉ + 1) (fun D9 h => by cases h; exact leastOfRow_all E N D₉)
set_option maxHeartbeats 4000000 in
set_option maxRecDepth 100000 in
theorem c_X3_leastOf (E : En) (N : Nat) (t₉ : Tr) (σ : Nat → va_E) (sg vl mt₉ lw ll la mm my : Int → Int) (sz₉ lk₉ chs lps dp ln v₉ kn₉ pr : Int) (hN₉ : 101 ≤ N) (hp : isP E σ 23 sg vl mt₉ lw ll la sz₉ lk₉ chs lps dp ln) (ho : okP sg vl mt₉ lw ll la sz₉ lk₉ chs lps dp ln) (hwf : wf t₉) (hdp : tDep t₉ ≤ 3) (hpa0 : PA₉ sg vl mt₉ lw ll la t₉ 0 0 (-1)) (htl : (tLen t₉ : Int) = sz₉) (htk : (tLks t₉ : Int) ≤ lk₉) (hv : rg v₉) (hpr : 2 ≤ pr ∧ pr ≤ 99) (hf : isFo E σ v₉ kn₉ mm my) (hmy : ∀ z₉ : Int, 0 ≤ z₉ → z₉ < 24 → rg (mm z₉) ∧ rg (my z₉)) : CP E M_X3_leastOf 13 [vr E 30, vr E 23, vi pr] N σ (loB₉ (soA v₉ mm my) pr t₉ 0) := by
  refine CT.of2 (own := RX3) (by decide) rfl (Nat.le_of_ble_eq_true rfl) ?_
  intro p e R s m args below meth c Q hF hr hlk hnm hz hR hQ
  have hsz := ho.1
  refine go_aload_n (pc := 0) hF dX3_leastOf_0 0 rfl ?_
  refine go_aload_n (pc := 1) hF dX3_leastOf_1 1 rfl ?_
  refine go_iload_n (pc := 2) hF dX3_leastOf_2 2 rfl ?_
  refine go_iconst (pc := 3) hF dX3_leastOf_3 ?_
  refine go_aload_n (pc := 4) hF dX3_leastOf_4 1 rfl ?_
  refine go_get (pc := 5) hF fl_X3_40 dX3_leastOf_5 (by omega) hp.1 rfl ?_
  refine go_iconst (pc := 8) hF dX3_leastOf_8 ?_
  have cr := leastOfRow_all E N 3 t₉ σ sg vl mt₉ lw ll la mm my sz₉ lk₉ chs lps dp ln 0 0 (-1) 0 v₉ kn₉ pr hN₉ hp ho hwf hdp hpa0 (by omega) (by omega) (by omega) hv hpr hf hmy
  rw [show (0 : Int) + (tLen t₉ : Int) = sz₉ by omega] at cr
  refine go_callVP (pc := 9) hF [vr E 23, vi pr, vi 0, vi sz₉, vi 0] [] mv_X3_75 dX3_leastOf_9 (by omega) hf.1 cr rfl rfl (Nat.le_of_ble_eq_true rfl) (by decide) ⟨Nat.zero_le _, Nat.zero_le _⟩ ?_
  exact go_iretQ hF hr hlk hQ dX3_leastOf_12 ⟨rfl, rfl⟩
