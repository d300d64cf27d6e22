/-! What is₉ answered, by the tree. -/
theorem getD_app {α : Type} (l1 l2 : List α) (i₉ : Nat) (d₉ : α) : (l1 ++ l2).getD i₉ d₉ = if i₉ < l1.length then l1.getD i₉ d₉ else l2.getD (i₉ - l1.length) d₉ := by
  rw [List.getD_eq_getElem?_getD, List.getElem?_append]
  split
  · rw [List.getD_eq_getElem?_getD]
  · rw [List.getD_eq_getElem?_getD]
/-- the looks' lines; the figure and the lines of₉ the innermost loop₉ around each₉, (0, 0) where there₉ is₉ none -/
def tLn : Tr → List Int
  | .append (.nest c .nil) r₉ => (if c = 46 then [] else [c - 97]) ++ tLn r₉
  | .append (.append a₉ b₉) r₉ => tLn a₉ ++ tLn b₉ ++ tLn r₉
  | .append (.tag _ a₉) r₉ => tLn a₉ ++ tLn r₉
  | _ => []
def tInf : Tr → Int × Int → List (Int × Int)
  | .append (.nest c .nil) r₉, x₉ => (if c = 46 then [] else [x₉]) ++ tInf r₉ x₉
  | .append (.append a₉ b₉) r₉, x₉ => tInf a₉ x₉ ++ tInf b₉ x₉ ++ tInf r₉ x₉
  | .append (.tag n₉ a₉) r₉, x₉ => tInf a₉ ((n₉ : Int), tMsk a₉ 0) ++ tInf r₉ x₉
  | _, _ => []
theorem tLn_len : ∀ t₉, wf t₉ → (tLn t₉).length = tLks t₉ := by
  refine tInd rfl (fun c r₉ _ _ ih₉ => ?_) (fun a₉ b₉ r₉ _ _ _ iha ihb ih₉ => ?_) (fun n₉ a₉ r₉ _ _ _ iha ih₉ => ?_)
  · show ((if c = 46 then [] else [c - 97]) ++ tLn r₉).length = (if c = 46 then 0 else 1) + tLks r₉
    rw [List.length_append, ih₉]; split <;> rfl
  · show (tLn a₉ ++ tLn b₉ ++ tLn r₉).length = tLks a₉ + tLks b₉ + tLks r₉
    rw [List.length_append, List.length_append, iha, ihb, ih₉]
  · show (tLn a₉ ++ tLn r₉).length = tLks a₉ + tLks r₉
    rw [List.length_append, iha, ih₉]
theorem tInf_len : ∀ t₉, wf t₉ → ∀ x₉, (tInf t₉ x₉).length = tLks t₉ := by
  refine tInd (fun x₉ => rfl) (fun c r₉ _ _ ih₉ x₉ => ?_) (fun a₉ b₉ r₉ _ _ _ iha ihb ih₉ x₉ => ?_) (fun n₉ a₉ r₉ _ _ _ iha ih₉ x₉ => ?_)
  · show ((if c = 46 then [] else [x₉]) ++ tInf r₉ x₉).length = (if c = 46 then 0 else 1) + tLks r₉
    rw [List.length_append, ih₉]; split <;> rfl
  · show (tInf a₉ x₉ ++ tInf b₉ x₉ ++ tInf r₉ x₉).length = tLks a₉ + tLks b₉ + tLks r₉
    rw [List.length_append, List.length_append, iha, ihb, ih₉]
  · show (tInf a₉ ((n₉ : Int), tMsk a₉ 0) ++ tInf r₉ x₉).length = tLks a₉ + tLks r₉
    rw [List.length_append, iha, ih₉]
def lkOK (vl lw ll la : Int → Int) (o len₉ lp : Int) (x₉ : Int × Int) (k₉ : Int) (line : Int) (inf : Int × Int) : Prop := ll k₉ = line ∧ ((la k₉ = lp ∧ inf = x₉) ∨ ((o ≤ la k₉ ∧ la k₉ < o + len₉) ∧ vl (la k₉) = inf.1 ∧ lw (la k₉) = inf.2 ∧ 1 ≤ inf.1 ∧ inf.1 ≤ 9))
theorem lkOK.wide {vl lw ll la : Int → Int} {o len₉ o' len' lp k₉ line : Int} {x₉ inf : Int × Int} (h : lkOK vl lw ll la o len₉ lp x₉ k₉ line inf) (h1 : o' ≤ o ∧ o + len₉ ≤ o' + len') : lkOK vl lw ll la o' len' lp x₉ k₉ line inf := ⟨h.1, h.2.elim Or.inl (fun q₉ => Or.inr ⟨by omega, q₉.2⟩)⟩
theorem PA_inf {sg vl mt₉ lw ll la : Int → Int} : ∀ t₉, wf t₉ → ∀ (o k₉ lp : Int) (x₉ : Int × Int), PA₉ sg vl mt₉ lw ll la t₉ o k₉ lp → ∀ i₉ : Nat, i₉ < tLks t₉ → lkOK vl lw ll la o (tLen t₉) lp x₉ (k₉ + i₉) ((tLn t₉).getD i₉ 0) ((tInf t₉ x₉).getD i₉ (0, 0)) := by
  refine tInd (fun o k₉ lp x₉ _ i₉ hi₉ => absurd hi₉ (by show ¬ i₉ < 0; omega)) (fun c r₉ _ hr ih₉ o k₉ lp x₉ h i₉ hi₉ => ?_) (fun a₉ b₉ r₉ ha₉ hb₉ hr iha ihb ih₉ o k₉ lp x₉ h i₉ hi₉ => ?_) (fun n₉ a₉ r₉ hn ha₉ hr iha ih₉ o k₉ lp x₉ h i₉ hi₉ => ?_)
  · have eL : tLen (.append (.nest c .nil) r₉) = 1 + tLen r₉ := rfl
    have hi₉ : i₉ < (if c = 46 then 0 else 1) + tLks r₉ := hi₉
    obtain ⟨h3, h4⟩ := h
    show lkOK vl lw ll la o _ lp x₉ (k₉ + i₉) (((if c = 46 then [] else [c - 97]) ++ tLn r₉).getD i₉ 0) (((if c = 46 then [] else [x₉]) ++ tInf r₉ x₉).getD i₉ (0, 0))
    rw [eL]
    by_cases e : c = 46
    · rw [if_pos e] at hi₉ h4 h3
      rw [if_pos e, if_pos e, List.nil_append, List.nil_append]
      rw [Int.add_zero] at h4
      exact (ih₉ _ _ _ x₉ h4 i₉ (by omega)).wide (by omega)
    · rw [if_neg e] at hi₉ h4 h3
      rw [if_neg e, if_neg e]
      cases i₉ with
      | zero => exact ⟨by rw [show k₉ + ((0 : Nat) : Int) = k₉ by omega]; exact h3.2.2.1, Or.inl ⟨by rw [show k₉ + ((0 : Nat) : Int) = k₉ by omega]; exact h3.2.2.2, rfl⟩⟩
      | succ i₉ =>
        have := (ih₉ _ _ _ x₉ h4 i₉ (by omega)).wide (o' := o) (len' := ((1 + tLen r₉ : Nat) : Int)) (by omega)
        rw [show k₉ + ((i₉ + 1 : Nat) : Int) = k₉ + 1 + i₉ by omega]
        exact this
  · have eL : tLen (.append (.append a₉ b₉) r₉) = 3 + tLen a₉ + tLen b₉ + tLen r₉ := rfl
    have hi₉ : i₉ < tLks a₉ + tLks b₉ + tLks r₉ := hi₉
    obtain ⟨-, h6, h7, h8⟩ := h
    show lkOK vl lw ll la o _ lp x₉ (k₉ + i₉) ((tLn a₉ ++ tLn b₉ ++ tLn r₉).getD i₉ 0) ((tInf a₉ x₉ ++ tInf b₉ x₉ ++ tInf r₉ x₉).getD i₉ (0, 0))
    rw [eL, getD_app, getD_app, getD_app, getD_app, List.length_append, List.length_append, tLn_len a₉ ha₉, tLn_len b₉ hb₉, tInf_len a₉ ha₉, tInf_len b₉ hb₉]
    by_cases e1₉ : i₉ < tLks a₉
    · rw [if_pos (by omega), if_pos e1₉, if_pos (by omega), if_pos e1₉]
      exact (iha _ _ _ x₉ h6 i₉ e1₉).wide (by omega)
    · by_cases e2₉ : i₉ < tLks a₉ + tLks b₉
      · rw [if_pos e2₉, if_neg e1₉, if_pos e2₉, if_neg e1₉]
        have := (ihb _ _ _ x₉ h7 (i₉ - tLks a₉) (by omega)).wide (o' := o) (len' := ((3 + tLen a₉ + tLen b₉ + tLen r₉ : Nat) : Int)) (by omega)
        rw [show k₉ + (i₉ : Int) = k₉ + tLks a₉ + ((i₉ - tLks a₉ : Nat) : Int) by omega]
        exact this
      · rw [if_neg e2₉, if_neg e2₉]
        have := (ih₉ _ _ _ x₉ h8 (i₉ - (tLks a₉ + tLks b₉)) (by omega)).wide (o' := o) (len' := ((3 + tLen a₉ + tLen b₉ + tLen r₉ : Nat) : Int)) (by omega)
        rw [show k₉ + (i₉ : Int) = k₉ + tLks a₉ + tLks b₉ + ((i₉ - (tLks a₉ + tLks b₉) : Nat) : Int) by omega]
        exact this
  · have eL : tLen (.append (.tag n₉ a₉) r₉) = 2 + tLen a₉ + tLen r₉ := rfl
    have hi₉ : i₉ < tLks a₉ + tLks r₉ := hi₉
    obtain ⟨⟨-, h4, -, h5⟩, h6, h8⟩ := h
    show lkOK vl lw ll la o _ lp x₉ (k₉ + i₉) ((tLn a₉ ++ tLn r₉).getD i₉ 0) ((tInf a₉ ((n₉ : Int), tMsk a₉ 0) ++ tInf r₉ x₉).getD i₉ (0, 0))
    rw [eL, getD_app, getD_app, tLn_len a₉ ha₉, tInf_len a₉ ha₉]
    by_cases e1₉ : i₉ < tLks a₉
    · rw [if_pos e1₉, if_pos e1₉]
      have q₉ := iha _ _ _ ((n₉ : Int), tMsk a₉ 0) h6 i₉ e1₉
      refine ⟨q₉.1, Or.inr ?_⟩
      rcases q₉.2 with ⟨q1₉, q2₉⟩ | q₉
      · rw [q1₉, q2₉]; exact ⟨by omega, h4, h5, by show (1 : Int) ≤ n₉; omega, by show (n₉ : Int) ≤ 9; omega⟩
      · exact ⟨by omega, q₉.2⟩
    · rw [if_neg e1₉, if_neg e1₉]
      have := (ih₉ _ _ _ x₉ h8 (i₉ - tLks a₉) (by omega)).wide (o' := o) (len' := ((2 + tLen a₉ + tLen r₉ : Nat) : Int)) (by omega)
      rw [show k₉ + (i₉ : Int) = k₉ + tLks a₉ + ((i₉ - tLks a₉ : Nat) : Int) by omega]
      exact this
theorem fRec_rg {v₉ : Int} (hv : 1 ≤ v₉ ∧ v₉ ≤ 3) : ∀ t₉, wf t₉ → ∀ A₉, rgA A₉ → ∀ q₉ ∈ fRec v₉ t₉ A₉, (0 ≤ q₉.1 ∧ q₉.1 ≤ 3) ∧ 0 ≤ q₉.2 ∧ q₉.2 ≤ 3 := by
  refine tInd (fun A₉ _ q₉ hq => absurd hq List.not_mem_nil) (fun c r₉ hc₉ hr ih₉ A₉ hA q₉ hq => ?_) (fun a₉ b₉ r₉ ha₉ hb₉ hr iha ihb ih₉ A₉ hA q₉ hq => ?_) (fun n₉ a₉ r₉ hn ha₉ hr iha ih₉ A₉ hA q₉ hq => ?_)
  · have hq : q₉ ∈ (if c = 46 then [] else [(A₉.1 (c - 97), A₉.2 (c - 97))]) ++ fRec v₉ r₉ (aLook v₉ c A₉) := hq
    rcases List.mem_append.mp hq with h | h
    · by_cases e : c = 46
      · rw [if_pos e] at h; exact absurd h List.not_mem_nil
      · rw [if_neg e] at h
        rw [List.mem_singleton.mp h]
        exact hA (c - 97) (by unfold okc at hc₉; omega) (by unfold okc at hc₉; omega)
    · exact ih₉ _ (rgA_look hA hv hc₉) q₉ h
  · have hq : q₉ ∈ fRec v₉ a₉ A₉ ++ fRec v₉ b₉ A₉ ++ fRec v₉ r₉ (aJoin (fa v₉ a₉ A₉) (fa v₉ b₉ A₉)) := hq
    rcases List.mem_append.mp hq with h | h
    · rcases List.mem_append.mp h with h | h
      · exact iha A₉ hA q₉ h
      · exact ihb A₉ hA q₉ h
    · exact ih₉ _ (rgA_join (rgA_fa hv a₉ ha₉ A₉ hA) (rgA_fa hv b₉ hb₉ A₉ hA)) q₉ h
  · have hf := rgA_fix (fun A₉ hA => rgA_fa hv a₉ ha₉ A₉ hA) 37 A₉ hA
    have hq : q₉ ∈ fRec v₉ a₉ (aFix (fa v₉ a₉) 37 A₉) ++ fRec v₉ r₉ (aFix (fa v₉ a₉) 37 A₉) := hq
    rcases List.mem_append.mp hq with h | h
    · exact iha _ hf q₉ h
    · exact ih₉ _ hf q₉ h
noncomputable def R1 (t₉ : Tr) (u₉ z₉ : Int) : Int := (rec1 u₉ t₉ (A0 u₉)).getD z₉.toNat 0
noncomputable def R2 (t₉ : Tr) (u₉ z₉ : Int) : Int := (rec2 u₉ t₉ (A0 u₉)).getD z₉.toNat 0
theorem R_rg {t₉ : Tr} {u₉ z₉ : Int} (hw : wf t₉) (hu : 1 ≤ u₉ ∧ u₉ ≤ 3) (hz : 0 ≤ z₉ ∧ z₉ < tLks t₉) : (0 ≤ R1 t₉ u₉ z₉ ∧ R1 t₉ u₉ z₉ ≤ 3) ∧ 0 ≤ R2 t₉ u₉ z₉ ∧ R2 t₉ u₉ z₉ ≤ 3 := by
  have hl := fRec_len (v₉ := u₉) t₉ hw (A0 u₉)
  have hi₉ : z₉.toNat < (fRec u₉ t₉ (A0 u₉)).length := by omega
  have hm₉ := fRec_rg hu t₉ hw (A0 u₉) (rgA_A0 hu) _ (List.getElem_mem hi₉)
  have e1₉ : R1 t₉ u₉ z₉ = ((fRec u₉ t₉ (A0 u₉))[z₉.toNat]).1 := by
    unfold R1 rec1
    rw [List.getD_eq_getElem?_getD, List.getElem?_map, List.getElem?_eq_getElem hi₉]; rfl
  have e2₉ : R2 t₉ u₉ z₉ = ((fRec u₉ t₉ (A0 u₉))[z₉.toNat]).2 := by
    unfold R2 rec2
    rw [List.getD_eq_getElem?_getD, List.getElem?_map, List.getElem?_eq_getElem hi₉]; rfl
  rw [e1₉, e2₉]; exact hm₉
theorem wr_id {x₉ : Int} (h : rg x₉) : wr₉ x₉ = x₉ := iI_toInt h
theorem ai_wr (E : En) (n₉ : Nat) (g₉ : Int → Int) : ai E n₉ (fun z₉ => wr₉ (g₉ z₉)) = ai E n₉ g₉ := by
  unfold ai
  have : (fun j₉ : Nat => iI (wr₉ (g₉ j₉))) = fun j₉ : Nat => iI (g₉ j₉) := funext (fun j₉ => iI_of _)
  rw [this]
/-- what a₉ followed program tells₉ -/
theorem fol_use {E : En} {σ : Nat → va_E} {t₉ : Tr} {u₉ : Int} (hw : wf t₉) (hu : 1 ≤ u₉ ∧ u₉ ≤ 3) (h : folS E σ t₉ u₉ 1) : ∃ mm my : Int → Int, isFo E σ u₉ 1 mm my ∧ isA E σ 35 (fa u₉ t₉ (A0 u₉)).1 (fa u₉ t₉ (A0 u₉)).2 ∧ (∀ z₉ : Int, 0 ≤ z₉ → z₉ < 24 → rg (mm z₉) ∧ rg (my z₉)) ∧ ∀ z₉ : Int, 0 ≤ z₉ → z₉ < tLks t₉ → mm z₉ = R1 t₉ u₉ z₉ ∧ my z₉ = R2 t₉ u₉ z₉ := by
  obtain ⟨mm, my, A₉, h1, h2, h3, h4⟩ := h
  obtain ⟨-, h5, rfl⟩ : (1 : Int) = 1 ∧ folOK t₉ u₉ mm my A₉ := h4.elim (fun q₉ => absurd q₉ (by decide)) id
  refine ⟨fun z₉ => wr₉ (mm z₉), fun z₉ => wr₉ (my z₉), ⟨h1.1, ?_, ?_, h1.2.2.2⟩, h2, fun z₉ _ _ => ⟨wr_rg _, wr_rg _⟩, fun z₉ z0 z1 => ?_⟩
  · rw [ai_wr]; exact h1.2.1
  · rw [ai_wr]; exact h1.2.2.1
  · have e := h5 z₉ z0 z1
    have g₉ := R_rg (t₉ := t₉) (u₉ := u₉) (z₉ := z₉) hw hu ⟨z0, z1⟩
    show wr₉ (mm z₉) = _ ∧ wr₉ (my z₉) = _
    rw [e.1, e.2]
    exact ⟨wr_id (show rg (R1 t₉ u₉ z₉) from ⟨by omega, by omega⟩), wr_id (show rg (R2 t₉ u₉ z₉) from ⟨by omega, by omega⟩)⟩
theorem upB_congr {so so' : Int → Int} {pr : Int} : ∀ t₉, wf t₉ → ∀ k₉, (∀ z₉ : Int, k₉ ≤ z₉ → z₉ < k₉ + tLks t₉ → so' z₉ = so z₉) → upB₉ so' pr t₉ k₉ = upB₉ so pr t₉ k₉ := by
  refine tInd (fun k₉ _ => rfl) (fun c r₉ _ _ ih₉ k₉ h => ?_) (fun a₉ b₉ r₉ _ _ _ iha ihb ih₉ k₉ h => ?_) (fun n₉ a₉ r₉ _ _ _ iha ih₉ k₉ h => ?_)
  · have eK : tLks (.append (.nest c .nil) r₉) = (if c = 46 then 0 else 1) + tLks r₉ := rfl
    rw [eK] at h
    show (if c = 46 then 1 else if so' k₉ = 1 then 1 else pr) + upB₉ so' pr r₉ (k₉ + if c = 46 then 0 else 1) = (if c = 46 then 1 else if so k₉ = 1 then 1 else pr) + upB₉ so pr r₉ (k₉ + if c = 46 then 0 else 1)
    by_cases e : c = 46
    · simp only [e, if_true] at h ⊢
      rw [ih₉ _ (fun z₉ z0 z1 => h z₉ (by omega) (by omega))]
    · simp only [e, if_false] at h ⊢
      rw [ih₉ _ (fun z₉ z0 z1 => h z₉ (by omega) (by omega)), h k₉ (by omega) (by omega)]
  · have eK : tLks (.append (.append a₉ b₉) r₉) = tLks a₉ + tLks b₉ + tLks r₉ := rfl
    rw [eK] at h
    show max (upB₉ so' pr a₉ k₉) (upB₉ so' pr b₉ (k₉ + tLks a₉)) + upB₉ so' pr r₉ (k₉ + tLks a₉ + tLks b₉) = max (upB₉ so pr a₉ k₉) (upB₉ so pr b₉ (k₉ + tLks a₉)) + upB₉ so pr r₉ (k₉ + tLks a₉ + tLks b₉)
    rw [iha _ (fun z₉ z0 z1 => h z₉ (by omega) (by omega)), ihb _ (fun z₉ z0 z1 => h z₉ (by omega) (by omega)), ih₉ _ (fun z₉ z0 z1 => h z₉ (by omega) (by omega))]
  · have eK : tLks (.append (.tag n₉ a₉) r₉) = tLks a₉ + tLks r₉ := rfl
    rw [eK] at h
    show n₉ * upB₉ so' pr a₉ k₉ + upB₉ so' pr r₉ (k₉ + tLks a₉) = n₉ * upB₉ so pr a₉ k₉ + upB₉ so pr r₉ (k₉ + tLks a₉)
    rw [iha _ (fun z₉ z0 z1 => h z₉ (by omega) (by omega)), ih₉ _ (fun z₉ z0 z1 => h z₉ (by omega) (by omega))]
theorem loB_congr {so so' : Int → Int} {pr : Int} : ∀ t₉, wf t₉ → ∀ k₉, (∀ z₉ : Int, k₉ ≤ z₉ → z₉ < k₉ + tLks t₉ → so' z₉ = so z₉) → loB₉ so' pr t₉ k₉ = loB₉ so pr t₉ k₉ := by
  refine tInd (fun k₉ _ => rfl) (fun c r₉ _ _ ih₉ k₉ h => ?_) (fun a₉ b₉ r₉ _ _ _ iha ihb ih₉ k₉ h => ?_) (fun n₉ a₉ r₉ _ _ _ iha ih₉ k₉ h => ?_)
  · have eK : tLks (.append (.nest c .nil) r₉) = (if c = 46 then 0 else 1) + tLks r₉ := rfl
    rw [eK] at h
    show (if c = 46 then 1 else if so' k₉ = 2 then pr else 1) + loB₉ so' pr r₉ (k₉ + if c = 46 then 0 else 1) = (if c = 46 then 1 else if so k₉ = 2 then pr else 1) + loB₉ so pr r₉ (k₉ + if c = 46 then 0 else 1)
    by_cases e : c = 46
    · simp only [e, if_true] at h ⊢
      rw [ih₉ _ (fun z₉ z0 z1 => h z₉ (by omega) (by omega))]
    · simp only [e, if_false] at h ⊢
      rw [ih₉ _ (fun z₉ z0 z1 => h z₉ (by omega) (by omega)), h k₉ (by omega) (by omega)]
  · have eK : tLks (.append (.append a₉ b₉) r₉) = tLks a₉ + tLks b₉ + tLks r₉ := rfl
    rw [eK] at h
    show min (loB₉ so' pr a₉ k₉) (loB₉ so' pr b₉ (k₉ + tLks a₉)) + loB₉ so' pr r₉ (k₉ + tLks a₉ + tLks b₉) = min (loB₉ so pr a₉ k₉) (loB₉ so pr b₉ (k₉ + tLks a₉)) + loB₉ so pr r₉ (k₉ + tLks a₉ + tLks b₉)
    rw [iha _ (fun z₉ z0 z1 => h z₉ (by omega) (by omega)), ihb _ (fun z₉ z0 z1 => h z₉ (by omega) (by omega)), ih₉ _ (fun z₉ z0 z1 => h z₉ (by omega) (by omega))]
  · have eK : tLks (.append (.tag n₉ a₉) r₉) = tLks a₉ + tLks r₉ := rfl
    rw [eK] at h
    show loB₉ so' pr r₉ (k₉ + tLks a₉) = loB₉ so pr r₉ (k₉ + tLks a₉)
    exact ih₉ _ (fun z₉ z0 z1 => h z₉ (by omega) (by omega))
noncomputable def soT (t₉ : Tr) (u₉ k₉ : Int) : Int := if R1 t₉ u₉ k₉ < u₉ then 1 else if u₉ ≤ R2 t₉ u₉ k₉ then 2 else 0
def infT (t₉ : Tr) (k₉ : Int) : Int × Int := (tInf t₉ (0, 0)).getD k₉.toNat (0, 0)
noncomputable def kpT (t₉ : Tr) (u₉ k₉ : Int) : Int := bI (soT t₉ u₉ k₉ ≠ 1 ∧ (infT t₉ k₉).1 ≠ 0 ∧ pc6 (infT t₉ k₉).2 ≤ u₉)
noncomputable def ofA (t₉ : Tr) (u₉ k₉ x₉ : Int) : Int := if x₉ = 0 then (tLn t₉).getD k₉.toNat 0 else if x₉ = 1 then soT t₉ u₉ k₉ else if x₉ = 2 then R1 t₉ u₉ k₉ else if x₉ = 3 then R2 t₉ u₉ k₉ else if x₉ = 4 then kpT t₉ u₉ k₉ else (infT t₉ k₉).1
noncomputable def suG (t₉ : Tr) (u₉ x₉ k₉ : Int) : Int := if x₉ = 3 then kpT t₉ u₉ k₉ else bI (soT t₉ u₉ k₉ = x₉)
noncomputable def suT (t₉ : Tr) (u₉ x₉ : Int) : Nat → Int
  | 0 => 0
  | n₉ + 1 => suT t₉ u₉ x₉ n₉ + suG t₉ u₉ x₉ n₉
theorem suG_01 (t₉ : Tr) (u₉ x₉ k₉ : Int) : suG t₉ u₉ x₉ k₉ = 0 ∨ suG t₉ u₉ x₉ k₉ = 1 := by
  unfold suG kpT bI
  repeat' split
  all_goals simp
theorem suT_rg (t₉ : Tr) (u₉ x₉ : Int) : ∀ n₉ : Nat, 0 ≤ suT t₉ u₉ x₉ n₉ ∧ suT t₉ u₉ x₉ n₉ ≤ n₉
  | 0 => by show (0 : Int) ≤ 0 ∧ (0 : Int) ≤ ((0 : Nat) : Int); omega
  | n₉ + 1 => by
    have := suT_rg t₉ u₉ x₉ n₉
    have h := suG_01 t₉ u₉ x₉ n₉
    show 0 ≤ suT t₉ u₉ x₉ n₉ + suG t₉ u₉ x₉ n₉ ∧ suT t₉ u₉ x₉ n₉ + suG t₉ u₉ x₉ n₉ ≤ ((n₉ + 1 : Nat) : Int)
    omega
/-- what a₉ program's arrays₉ tell₉ of₉ a₉ look₉ -/
theorem prT_look {t₉ : Tr} {sg vl mt₉ lw ll la : Int → Int} {sz₉ lk₉ ch₉ lp dp ln k₉ : Int} (h : prT t₉ sg vl mt₉ lw ll la sz₉ lk₉ ch₉ lp dp ln) (hk : 0 ≤ k₉ ∧ k₉ < tLks t₉) : ll k₉ = (tLn t₉).getD k₉.toNat 0 ∧ ((la k₉ = -1 ∧ infT t₉ k₉ = (0, 0)) ∨ ((0 ≤ la k₉ ∧ la k₉ < sz₉) ∧ vl (la k₉) = (infT t₉ k₉).1 ∧ lw (la k₉) = (infT t₉ k₉).2 ∧ 1 ≤ (infT t₉ k₉).1 ∧ (infT t₉ k₉).1 ≤ 9)) := by
  have q₉ := PA_inf t₉ h.1 0 0 (-1) (0, 0) h.2.2.1 k₉.toNat (by omega)
  rw [show (0 : Int) + (k₉.toNat : Int) = k₉ by omega] at q₉
  have e := h.2.2.2.1
  refine ⟨q₉.1, q₉.2.elim Or.inl (fun q₉ => Or.inr ⟨by omega, q₉.2⟩)⟩
theorem kpT_of {t₉ : Tr} {sg vl mt₉ lw ll la mm my : Int → Int} {sz₉ lk₉ ch₉ lp dp ln k₉ u₉ : Int} (h : prT t₉ sg vl mt₉ lw ll la sz₉ lk₉ ch₉ lp dp ln) (hk : 0 ≤ k₉ ∧ k₉ < tLks t₉) (hm₉ : mm k₉ = R1 t₉ u₉ k₉ ∧ my k₉ = R2 t₉ u₉ k₉) : bI (soA u₉ mm my k₉ ≠ 1 ∧ la k₉ ≠ -1 ∧ gMany lw la sz₉ lk₉ k₉ ≤ u₉) = kpT t₉ u₉ k₉ := by
  have q₉ := (prT_look h hk).2
  have e := h.2.2.2.2.1
  have ho := h.2.2.2.2.2.2.2.2.2
  have hso : soA u₉ mm my k₉ = soT t₉ u₉ k₉ := by unfold soA soT; rw [hm₉.1, hm₉.2]
  unfold kpT gMany
  rw [hso]
  rcases q₉ with ⟨q1₉, q2₉⟩ | ⟨q1₉, q2₉, q3₉, q4₉⟩
  · rw [q2₉, bI_f (fun z₉ => z₉.2.1 q1₉), bI_f (fun z₉ => z₉.2.1 rfl)]
  · rw [if_pos ⟨by have := ho.2.1; omega, by have := ho.1; omega⟩, q3₉]
    by_cases c : soT t₉ u₉ k₉ ≠ 1 ∧ pc6 (infT t₉ k₉).2 ≤ u₉
    · rw [bI_t ⟨c.1, by omega, c.2⟩, bI_t ⟨c.1, by omega, c.2⟩]
    · rw [bI_f (fun z₉ => c ⟨z₉.1, z₉.2.2⟩), bI_f (fun z₉ => c ⟨z₉.1, z₉.2.2⟩)]
/-- the best₉ of₉ three₉ -/
def wbA (y1 y2 y3 : Int) : Int := if y2 < y1 then (if y3 < y2 then 3 else 2) else if y3 < y1 then 3 else 1
def dwX (x₉ : Int) : Int := (x₉ * 1103515245 + 12345) % 2147483648
def dwC (x₉ : Int) : Int := x₉ / 1024 % 1048576
def dw (t₉ : Tr) (r₉ u₉ kd pr : Int) : Nat → Int → Int → Int
  | 0, _, m => m
  | n₉ + 1, x₉, m => dw t₉ r₉ u₉ kd pr n₉ (dwX x₉) (max m (wr₉ (rn u₉ kd pr (dwC (dwX x₉)) t₉ (r₉, 0, 0, 0, 0)).2.1))
def cntA (xb xn xf tl u₉ kd pr lg hs x₉ : Int) : Int := if x₉ = 0 then xb else if x₉ = 1 then xn else if x₉ = 2 then xf else if x₉ = 3 then tl else if x₉ = 4 then u₉ else if x₉ = 5 then kd else if x₉ = 6 then pr else if x₉ = 7 then lg else hs
def dgL (r₉ : Int) : List Int := if mLong r₉ = 0 then [] else if mLong r₉ = 1 then [mAt r₉ 0] else if mLong r₉ = 2 then [mAt r₉ 0, mAt r₉ 1] else [mAt r₉ 0, mAt r₉ 1, mAt r₉ 2]
def dgS (r₉ u₉ kd pr hs tl : Int) (t₉ : Tr) (xb xn xf q1₉ q2₉ q3₉ : Int) : Int := ([xb, xn, xf, tl, u₉, kd, pr, mLong r₉, hs] ++ dgL r₉ ++ [(tLks t₉ : Int), (tChs t₉ : Int), (tLps t₉ : Int), (tDep t₉ : Int), tMsk t₉ 0] ++ [q1₉, q2₉, q3₉]).foldl (fun h v₉ => 31 * h + v₉) 1999

