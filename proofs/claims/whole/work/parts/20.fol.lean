/-! Following: the ages through₉ a₉ tree. -/
def isFo (E : En) (σ : Nat → va_E) (v₉ kn₉ : Int) (mm my : Int → Int) : Prop := σ 30 = ob 3 [vr E 31, vr E 32, vr E 33, vr E 34, vi v₉, vi kn₉] ∧ σ 31 = ai E 24 mm ∧ σ 32 = ai E 24 my ∧ σ 33 = ar E 3 4 (fun z₉ => 35 + 3 * z₉) ∧ σ 34 = ar E 3 3 (fun z₉ => 47 + 3 * z₉)
theorem isFo.keep {E : En} {σ τ : Nat → va_E} {v₉ kn₉ : Int} {mm my : Int → Int} (h : isFo E σ v₉ kn₉ mm my) (hk : ∀ j₉, 30 ≤ j₉ → j₉ ≤ 34 → τ j₉ = σ j₉) : isFo E τ v₉ kn₉ mm my := by
  obtain ⟨h0, h1, h2, h3, h4⟩ := h
  exact ⟨(hk _ (by omega) (by omega)).trans h0, (hk _ (by omega) (by omega)).trans h1, (hk _ (by omega) (by omega)).trans h2, (hk _ (by omega) (by omega)).trans h3, (hk _ (by omega) (by omega)).trans h4⟩
def jA (E : En) (σ : Nat → va_E) (i₉ : Nat) : Prop := ∃ mu₉ ma, isA E σ i₉ mu₉ ma
theorem jA.keep {E : En} {σ τ : Nat → va_E} {i₉ : Nat} (h : jA E σ i₉) (hk : ∀ j₉, i₉ ≤ j₉ → j₉ ≤ i₉ + 2 → τ j₉ = σ j₉) : jA E τ i₉ := by
  obtain ⟨mu₉, ma, h⟩ := h
  exact ⟨mu₉, ma, h.keep hk⟩
/-- what lies free₉ for₉ deeper rows₉ -/
def scr (E : En) (σ : Nat → va_E) (dl : Nat) : Prop := (∀ d₉, dl < d₉ → d₉ ≤ 3 → jA E σ (35 + 3 * d₉)) ∧ ∀ d₉, dl ≤ d₉ → d₉ ≤ 2 → jA E σ (47 + 3 * d₉)
def rgA (A₉ : AG₉) : Prop := ∀ z₉ : Int, 0 ≤ z₉ → z₉ < 6 → (0 ≤ A₉.1 z₉ ∧ A₉.1 z₉ ≤ 3) ∧ 0 ≤ A₉.2 z₉ ∧ A₉.2 z₉ ≤ 3
theorem rgA_look {A₉ : AG₉} {v₉ c : Int} (h : rgA A₉) (hv : 1 ≤ v₉ ∧ v₉ ≤ 3) (hc₉ : okc c) : rgA (aLook v₉ c A₉) := by
  unfold aLook
  split
  · exact h
  · intro z₉ h1 h2
    have h3 := h z₉ h1 h2
    have h4 := h (c - 97) (by unfold okc at hc₉; omega) (by unfold okc at hc₉; omega)
    simp only [lkMu, lkMa]
    constructor <;> (repeat' split) <;> omega
theorem rgA_join {A₉ B₉ : AG₉} (h : rgA A₉) (h' : rgA B₉) : rgA (aJoin A₉ B₉) := by
  intro z₉ h1 h2
  have h3 := h z₉ h1 h2
  have h4 := h' z₉ h1 h2
  simp only [aJoin, jnMu, jnMa]
  constructor <;> split <;> omega
theorem rgA_fix {f₉ : AG₉ → AG₉} (hf : ∀ A₉, rgA A₉ → rgA (f₉ A₉)) : ∀ (n₉ : Nat) (A₉ : AG₉), rgA A₉ → rgA (aFix f₉ n₉ A₉)
  | 0, A₉, h => h
  | n₉ + 1, A₉, h => by
    unfold aFix
    by_cases hs : aSame A₉ (f₉ A₉)
    · rw [if_pos hs]; exact h
    · rw [if_neg hs]; exact rgA_fix hf n₉ _ (rgA_join h (hf A₉ h))
theorem rgA_fa {v₉ : Int} (hv : 1 ≤ v₉ ∧ v₉ ≤ 3) : ∀ t₉, wf t₉ → ∀ A₉, rgA A₉ → rgA (fa v₉ t₉ A₉) := by
  refine tInd (fun A₉ h => h) (fun c r₉ hc₉ _ ih₉ A₉ h => ih₉ _ (rgA_look h hv hc₉)) (fun a₉ b₉ r₉ _ _ _ iha ihb ihr A₉ h => ihr _ (rgA_join (iha A₉ h) (ihb A₉ h))) (fun n₉ a₉ r₉ _ _ _ iha ihr A₉ h => ihr _ (rgA_fix (fun A₉ h => iha A₉ h) 37 A₉ h))
/-- a₉ list₉ written₉ from a₉ place₉ on₉ -/
def recU (g₉ : Int → Int) : Int → List Int → Int → Int
  | _, [] => g₉
  | k₉, x₉ :: l => recU (up g₉ k₉ x₉) (k₉ + 1) l
theorem recU_app (g₉ : Int → Int) : ∀ (l1 l2 : List Int) (k₉ : Int), recU g₉ k₉ (l1 ++ l2) = recU (recU g₉ k₉ l1) (k₉ + l1.length) l2 := by
  intro l1
  induction l1 generalizing g₉ with
  | nil => intro l2 k₉; simp [recU]
  | cons x₉ l ih₉ =>
    intro l2 k₉
    rw [List.cons_append, recU, recU, ih₉]
    congr 1
    simp only [List.length_cons]
    omega
theorem recU_at (g₉ : Int → Int) : ∀ (l : List Int) (k₉ z₉ : Int), recU g₉ k₉ l z₉ = if k₉ ≤ z₉ ∧ z₉ < k₉ + l.length then l.getD (z₉ - k₉).toNat 0 else g₉ z₉ := by
  intro l
  induction l generalizing g₉ with
  | nil => intro k₉ z₉; simp [recU]; omega
  | cons x₉ l ih₉ =>
    intro k₉ z₉
    rw [recU, ih₉]
    by_cases h : z₉ = k₉
    · subst h
      rw [if_neg (by omega), up_self, if_pos (by simp only [List.length_cons]; omega)]
      simp
    · by_cases h2 : k₉ + 1 ≤ z₉ ∧ z₉ < k₉ + 1 + l.length
      · rw [if_pos h2, if_pos (by simp only [List.length_cons]; omega), show (z₉ - k₉).toNat = (z₉ - (k₉ + 1)).toNat + 1 by omega]
        rfl
      · rw [if_neg h2, if_neg (by simp only [List.length_cons]; omega), up_ne _ _ h]
theorem recU_twice (g₉ : Int → Int) (k₉ : Int) (l1 l2 : List Int) (h : l1.length = l2.length) : recU (recU g₉ k₉ l1) k₉ l2 = recU g₉ k₉ l2 := by
  funext z₉
  rw [recU_at, recU_at, recU_at, h]
  split
  · rfl
  · rfl
theorem fRec_len {v₉ : Int} : ∀ t₉, wf t₉ → ∀ A₉, (fRec v₉ t₉ A₉).length = tLks t₉ := by
  refine tInd (fun A₉ => rfl) (fun c r₉ hc₉ _ ih₉ A₉ => ?_) (fun a₉ b₉ r₉ _ _ _ iha ihb ihr A₉ => ?_) (fun n₉ a₉ r₉ _ _ _ iha ihr A₉ => ?_)
  · rw [fRec, tLks, List.length_append, ih₉]
    split <;> rfl
  · rw [fRec, tLks, List.length_append, List.length_append, iha, ihb, ihr]
  · rw [fRec, tLks, List.length_append, iha, ihr]
noncomputable def rec1 (v₉ : Int) (t₉ : Tr) (A₉ : AG₉) : List Int := (fRec v₉ t₉ A₉).map Prod.fst
noncomputable def rec2 (v₉ : Int) (t₉ : Tr) (A₉ : AG₉) : List Int := (fRec v₉ t₉ A₉).map Prod.snd
theorem rec1_len {v₉ : Int} {t₉ : Tr} (h : wf t₉) (A₉ : AG₉) : (rec1 v₉ t₉ A₉).length = tLks t₉ := by rw [rec1, List.length_map, fRec_len t₉ h]
theorem rec2_len {v₉ : Int} {t₉ : Tr} (h : wf t₉) (A₉ : AG₉) : (rec2 v₉ t₉ A₉).length = tLks t₉ := by rw [rec2, List.length_map, fRec_len t₉ h]
def FolRow (E : En) (N D₉ : Nat) : Prop := ∀ (t₉ : Tr) (σ : Nat → va_E) (sg vl mt₉ lw ll la mm my mu₉ ma : Int → Int) (sz₉ lk₉ chs lps dp ln o k₉ lp v₉ kn₉ : Int) (dl : Nat), 101 ≤ N → isP E σ 23 sg vl mt₉ lw ll la sz₉ lk₉ chs lps dp ln → okP sg vl mt₉ lw ll la sz₉ lk₉ chs lps dp ln → wf t₉ → tDep t₉ ≤ D₉ → PA₉ sg vl mt₉ lw ll la t₉ o k₉ lp → (0 ≤ o ∧ o + tLen t₉ ≤ sz₉) → (0 ≤ k₉ ∧ k₉ + tLks t₉ ≤ lk₉) → tDep t₉ + dl ≤ 3 → (1 ≤ v₉ ∧ v₉ ≤ 3) → isFo E σ v₉ kn₉ mm my → isA E σ (35 + 3 * dl) mu₉ ma → rgA (mu₉, ma) → scr E σ dl →
  CV E M_X3_followRow (6 + 2 * D₉) [vr E 30, vr E 23, vi o, vi (o + tLen t₉), vi dl] N σ (fun σ' => isFo E σ' v₉ kn₉ (recU mm k₉ (rec1 v₉ t₉ (mu₉, ma))) (recU my k₉ (rec2 v₉ t₉ (mu₉, ma))) ∧ isA E σ' (35 + 3 * dl) (fa v₉ t₉ (mu₉, ma)).1 (fa v₉ t₉ (mu₉, ma)).2 ∧ scr E σ' dl ∧ ∀ q₉, (q₉ ≠ 31 ∧ q₉ ≠ 32 ∧ (q₉ < 35 + 3 * dl ∨ (46 < q₉ ∧ q₉ < 47 + 3 * dl) ∨ 55 < q₉)) → σ' q₉ = σ q₉)
theorem scr.keep {E : En} {σ τ : Nat → va_E} {dl : Nat} (h : scr E σ dl) (hk : ∀ j₉, (38 + 3 * dl ≤ j₉ ∧ j₉ ≤ 46 ∨ 47 + 3 * dl ≤ j₉) → j₉ ≤ 55 → τ j₉ = σ j₉) : scr E τ dl := ⟨fun d₉ h1 h2 => (h.1 d₉ h1 h2).keep (fun j₉ k1₉ k2₉ => hk j₉ (by omega) (by omega)), fun d₉ h1 h2 => (h.2 d₉ h1 h2).keep (fun j₉ k1₉ k2₉ => hk j₉ (by omega) (by omega))⟩
theorem scr.deeper {E : En} {σ : Nat → va_E} {dl : Nat} (h : scr E σ dl) : scr E σ (dl + 1) := ⟨fun d₉ h1 h2 => h.1 d₉ (by omega) h2, fun d₉ h1 h2 => h.2 d₉ (by omega) h2⟩

set_option maxHeartbeats 4000000 in
set_option maxRecDepth 100000 in
theorem c_X3_followLook (E : En) (N : Nat) (σ : Nat → va_E) (i₉ : Nat) (mm my mu₉ ma : Int → Int) (k₉ x₉ v₉ kn₉ : Int) (hN₉ : 101 ≤ N) (hi₉ : 35 ≤ i₉ ∧ i₉ ≤ 53) (hk : 0 ≤ k₉ ∧ k₉ < 24) (hx : 0 ≤ x₉ ∧ x₉ ≤ 5) (hv : 1 ≤ v₉ ∧ v₉ ≤ 3) (hf : isFo E σ v₉ kn₉ mm my) (hA : isA E σ i₉ mu₉ ma) (hrA : rgA (mu₉, ma)) : CV E M_X3_followLook 4 [vr E 30, vi k₉, vi x₉, vr E i₉] N σ (fun σ' => isFo E σ' v₉ kn₉ (up mm k₉ (mu₉ x₉)) (up my k₉ (ma x₉)) ∧ isA E σ' i₉ (lkMu mu₉ x₉) (lkMa ma x₉ v₉) ∧ ∀ q₉, (q₉ ≠ 31 ∧ q₉ ≠ 32 ∧ (q₉ < i₉ ∨ i₉ + 2 < q₉)) → σ' q₉ = σ q₉) := by
  refine CT.of2 (own := RX3) (by decide) rfl (Nat.le_of_ble_eq_true rfl) ?_
  intro p e R s m args below meth c Q hF hr hlk hnm hz hR hQ
  refine go_iload_n (pc := 0) hF dX3_followLook_0 1 rfl ?_
  refine go_iconst (pc := 1) hF dX3_followLook_1 ?_
  refine go_bipush (pc := 2) hF dX3_followLook_2 (by decide) ?_
  refine go_callNP (pc := 4) hF [vi k₉, vi 0, vi 23] [] mn_X3_96 dX3_followLook_4 (c_X10_isWithin E N σ k₉ 0 23 (by omega) ⟨by decide, by decide⟩ ⟨by decide, by decide⟩) rfl rfl (Nat.le_of_ble_eq_true rfl) (by decide) ⟨Nat.zero_le _, Nat.zero_le _⟩ ?_
  refine go_if_eq (pc := 7) hF 17 dX3_followLook_7 (by decide) (bI_rg _) (fun bq7 => ?_) (fun bq7 => ?_)
  · exact absurd ((bI_0 _).mp bq7) (by omega)
  · refine go_iload_n (pc := 10) hF dX3_followLook_10 2 rfl ?_
    refine go_callNP (pc := 11) hF [vi x₉] [] mn_X3_49 dX3_followLook_11 (c_X10_isLine E N σ x₉ (by omega)) rfl rfl (Nat.le_of_ble_eq_true rfl) (by decide) ⟨Nat.zero_le _, Nat.zero_le _⟩ ?_
    refine go_if_ne (pc := 14) hF 18 dX3_followLook_14 (by decide) (bI_rg _) (fun bq14 => ?_) (fun bq14 => ?_)
    · refine go_aload_n (pc := 18) hF dX3_followLook_18 0 rfl ?_
      refine go_get (pc := 19) hF fl_X3_9 dX3_followLook_19 (by omega) hf.1 rfl ?_
      refine go_iload_n (pc := 22) hF dX3_followLook_22 1 rfl ?_
      refine go_aload_n (pc := 23) hF dX3_followLook_23 3 rfl ?_
      refine go_get (pc := 24) hF fl_X3_53 dX3_followLook_24 (by omega) hA.1 rfl ?_
      refine go_iload_n (pc := 27) hF dX3_followLook_27 2 rfl ?_
      refine go_iald (pc := 28) hF dX3_followLook_28 (by omega) hA.2.1 (by omega)  ?_
      refine go_iast (pc := 29) hF dX3_followLook_29 (by omega) hf.2.1 (by omega) (fun s1₉ u_s1 f_s1 => ?_)
      have fo_s1 := (f_s1 30 (show 30 ≠ 31 by omega)).trans hf.1
      have fy_s1 := (f_s1 32 (show 32 ≠ 31 by omega)).trans hf.2.2.1
      have fn_s1 := (f_s1 33 (show 33 ≠ 31 by omega)).trans hf.2.2.2.1
      have fd_s1 := (f_s1 34 (show 34 ≠ 31 by omega)).trans hf.2.2.2.2
      have a_s1 := (f_s1 i₉ (show i₉ ≠ 31 by omega)).trans hA.1
      have am_s1 := (f_s1 (i₉ + 1) (show i₉ + 1 ≠ 31 by omega)).trans hA.2.1
      have ay_s1 := (f_s1 (i₉ + 2) (show i₉ + 2 ≠ 31 by omega)).trans hA.2.2
      refine go_aload_n (pc := 30) hF dX3_followLook_30 0 rfl ?_
      refine go_get (pc := 31) hF fl_X3_15 dX3_followLook_31 (by omega) fo_s1 rfl ?_
      refine go_iload_n (pc := 34) hF dX3_followLook_34 1 rfl ?_
      refine go_aload_n (pc := 35) hF dX3_followLook_35 3 rfl ?_
      refine go_get (pc := 36) hF fl_X3_54 dX3_followLook_36 (by omega) a_s1 rfl ?_
      refine go_iload_n (pc := 39) hF dX3_followLook_39 2 rfl ?_
      refine go_iald (pc := 40) hF dX3_followLook_40 (by omega) ay_s1 (by omega)  ?_
      refine go_iast (pc := 41) hF dX3_followLook_41 (by omega) fy_s1 (by omega) (fun s2₉ u_s2 f_s2 => ?_)
      have fo_s2 := (f_s2 30 (show 30 ≠ 32 by omega)).trans fo_s1
      have fm_s2 := (f_s2 31 (show 31 ≠ 32 by omega)).trans u_s1
      have fn_s2 := (f_s2 33 (show 33 ≠ 32 by omega)).trans fn_s1
      have fd_s2 := (f_s2 34 (show 34 ≠ 32 by omega)).trans fd_s1
      have a_s2 := (f_s2 i₉ (show i₉ ≠ 32 by omega)).trans a_s1
      have am_s2 := (f_s2 (i₉ + 1) (show i₉ + 1 ≠ 32 by omega)).trans am_s1
      have ay_s2 := (f_s2 (i₉ + 2) (show i₉ + 2 ≠ 32 by omega)).trans ay_s1
      refine go_aload_n (pc := 42) hF dX3_followLook_42 3 rfl ?_
      refine go_iload_n (pc := 43) hF dX3_followLook_43 2 rfl ?_
      refine go_aload_n (pc := 44) hF dX3_followLook_44 0 rfl ?_
      refine go_get (pc := 45) hF fl_X3_27 dX3_followLook_45 (by omega) fo_s2 rfl ?_
      refine go_callVV (pc := 48) hF [vi x₉, vi v₉] [] mv_X3_114 dX3_followLook_48 (by omega) a_s2 (c_X0_lookAt E N s2₉ i₉ mu₉ ma x₉ v₉ hx hv (fun z₉ h1 h2 => (hrA z₉ h1 h2).1) (fun z₉ h1 h2 => (hrA z₉ h1 h2).2) (by omega) ⟨a_s2, am_s2, ay_s2⟩) rfl rfl (Nat.le_of_ble_eq_true rfl) (by decide) ⟨Nat.zero_le _, Nat.zero_le _⟩ (fun s3₉ h_s3 => ?_)
      obtain ⟨uA_s3, f_s3⟩ := h_s3
      have fo_s3 := (f_s3 30 (by omega)).trans fo_s2
      have fm_s3 := (f_s3 31 (by omega)).trans fm_s2
      have fy_s3 := (f_s3 32 (by omega)).trans u_s2
      have fn_s3 := (f_s3 33 (by omega)).trans fn_s2
      have fd_s3 := (f_s3 34 (by omega)).trans fd_s2
      exact go_vretQ hF hr hlk hQ dX3_followLook_51 ⟨⟨fo_s3, fm_s3, fy_s3, fn_s3, fd_s3⟩, uA_s3, (fun jj hjj => by rw [f_s3 jj (by omega), f_s2 jj (by omega), f_s1 jj (by omega)])⟩
    · exact absurd ((bI_0 _).mp bq14) (by omega)
