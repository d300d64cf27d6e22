/-! The looks₉ by their places₉. -/
def lpF (s : Int × List Int) (c : Int) : Int × List Int := (s.1 + 1, if 97 ≤ c ∧ c ≤ 102 then s.2 ++ [s.1] else s.2)
theorem lpF_no {s : Int × List Int} {c : Int} (h : ¬ (97 ≤ c ∧ c ≤ 102)) : lpF s c = (s.1 + 1, s.2) := by unfold lpF; rw [if_neg h]
theorem lpF_yes {s : Int × List Int} {c : Int} (h : 97 ≤ c ∧ c ≤ 102) : lpF s c = (s.1 + 1, s.2 ++ [s.1]) := by unfold lpF; rw [if_pos h]
theorem lp_tree {sn eo bo : Int → Int} : ∀ t₉, wf t₉ → ∀ o s, MA₉ sn eo bo t₉ o → fs lpF sn o (tLen t₉) s = (s.1 + tLen t₉, s.2 ++ lpos t₉ s.1) := by
  intro t₉ hw o s h
  refine fs_tree (G₉ := fun (t₉ : Tr) (s : Int × List Int) => (s.1 + (tLen t₉ : Int), s.2 ++ lpos t₉ s.1)) (I₉ := fun _ => True) (fun _ _ _ => trivial) (fun s _ => ?_) (fun c r₉ s _ hc₉ => ?_) (fun a₉ b₉ r₉ s _ => ?_) (fun n₉ a₉ r₉ s _ hn => ?_) t₉ hw o s trivial h
  · show (s.1 + ((0 : Nat) : Int), s.2 ++ []) = s
    rw [List.append_nil, show s.1 + ((0 : Nat) : Int) = s.1 by omega]
  · show (s.1 + ((1 + tLen r₉ : Nat) : Int), s.2 ++ ((if c = 46 then [] else [s.1]) ++ lpos r₉ (s.1 + 1))) = ((lpF s c).1 + (tLen r₉ : Int), (lpF s c).2 ++ lpos r₉ (lpF s c).1)
    unfold okc at hc₉
    by_cases e : c = 46
    · rw [lpF_no (by omega), if_pos e, List.nil_append]
      show (s.1 + ((1 + tLen r₉ : Nat) : Int), s.2 ++ lpos r₉ (s.1 + 1)) = (s.1 + 1 + (tLen r₉ : Int), s.2 ++ lpos r₉ (s.1 + 1))
      rw [show s.1 + ((1 + tLen r₉ : Nat) : Int) = s.1 + 1 + tLen r₉ by omega]
    · rw [lpF_yes (by omega), if_neg e]
      show (s.1 + ((1 + tLen r₉ : Nat) : Int), s.2 ++ ([s.1] ++ lpos r₉ (s.1 + 1))) = (s.1 + 1 + (tLen r₉ : Int), s.2 ++ [s.1] ++ lpos r₉ (s.1 + 1))
      rw [show s.1 + ((1 + tLen r₉ : Nat) : Int) = s.1 + 1 + tLen r₉ by omega, List.append_assoc]
  · rw [lpF_no (by omega), lpF_no (by omega), lpF_no (by omega)]
    show (s.1 + ((3 + tLen a₉ + tLen b₉ + tLen r₉ : Nat) : Int), s.2 ++ (lpos a₉ (s.1 + 1) ++ lpos b₉ (s.1 + 2 + tLen a₉) ++ lpos r₉ (s.1 + 3 + tLen a₉ + tLen b₉))) = (s.1 + 1 + (tLen a₉ : Int) + 1 + (tLen b₉ : Int) + 1 + (tLen r₉ : Int), s.2 ++ lpos a₉ (s.1 + 1) ++ lpos b₉ (s.1 + 1 + (tLen a₉ : Int) + 1) ++ lpos r₉ (s.1 + 1 + (tLen a₉ : Int) + 1 + (tLen b₉ : Int) + 1))
    rw [show s.1 + 1 + (tLen a₉ : Int) + 1 + (tLen b₉ : Int) + 1 = s.1 + 3 + tLen a₉ + tLen b₉ by omega, show s.1 + 1 + (tLen a₉ : Int) + 1 = s.1 + 2 + tLen a₉ by omega, show s.1 + ((3 + tLen a₉ + tLen b₉ + tLen r₉ : Nat) : Int) = s.1 + 3 + tLen a₉ + tLen b₉ + tLen r₉ by omega, List.append_assoc, List.append_assoc, List.append_assoc]
  · rw [lpF_no (by omega), lpF_no (by omega)]
    show (s.1 + ((2 + tLen a₉ + tLen r₉ : Nat) : Int), s.2 ++ (lpos a₉ (s.1 + 1) ++ lpos r₉ (s.1 + 2 + tLen a₉))) = (s.1 + 1 + (tLen a₉ : Int) + 1 + (tLen r₉ : Int), s.2 ++ lpos a₉ (s.1 + 1) ++ lpos r₉ (s.1 + 1 + (tLen a₉ : Int) + 1))
    rw [show s.1 + 1 + (tLen a₉ : Int) + 1 = s.1 + 2 + tLen a₉ by omega, show s.1 + ((2 + tLen a₉ + tLen r₉ : Nat) : Int) = s.1 + 2 + tLen a₉ + tLen r₉ by omega, List.append_assoc]
/-- how many₉ looks₉ stand ahead₉ of₉ a₉ place₉ -/
def kN₉ (sn : Int → Int) (j₉ : Nat) : Int := fs (cwF 0) sn 0 j₉ 0
theorem kN_yes {sn : Int → Int} {j₉ : Nat} (h : 97 ≤ sn j₉ ∧ sn j₉ ≤ 102) : kN₉ sn (j₉ + 1) = kN₉ sn j₉ + 1 := by
  show fs (cwF 0) sn 0 j₉ 0 + cw₉ 0 (sn (0 + (j₉ : Int))) = _
  rw [Int.zero_add, cw0, bI_t h]; rfl
theorem kN_no {sn : Int → Int} {j₉ : Nat} (h : ¬ (97 ≤ sn j₉ ∧ sn j₉ ≤ 102)) : kN₉ sn (j₉ + 1) = kN₉ sn j₉ := by
  show fs (cwF 0) sn 0 j₉ 0 + cw₉ 0 (sn (0 + (j₉ : Int))) = _
  rw [Int.zero_add, cw0, bI_f h, Int.add_zero]; rfl
theorem kN_0 (sn : Int → Int) : kN₉ sn 0 = 0 := rfl
theorem kN_rg (sn : Int → Int) (j₉ : Nat) : 0 ≤ kN₉ sn j₉ ∧ kN₉ sn j₉ ≤ j₉ := cwF_rg 0 sn 0 j₉
theorem kN_mono (sn : Int → Int) (j₉ : Nat) : ∀ m : Nat, kN₉ sn j₉ ≤ kN₉ sn (j₉ + m)
  | 0 => Int.le_refl _
  | m + 1 => by
    have h := kN_mono sn j₉ m
    by_cases e : 97 ≤ sn ((j₉ + m : Nat) : Int) ∧ sn ((j₉ + m : Nat) : Int) ≤ 102
    · have := kN_yes e
      rw [show j₉ + (m + 1) = j₉ + m + 1 by omega]; omega
    · have := kN_no e
      rw [show j₉ + (m + 1) = j₉ + m + 1 by omega]; omega
theorem kN_all {sn eo bo : Int → Int} {t₉ : Tr} (hw : wf t₉) (hM₉ : MA₉ sn eo bo t₉ 0) : kN₉ sn (tLen t₉) = tLks t₉ := by
  unfold kN₉
  rw [cnt_tree 0 (Or.inl rfl) t₉ hw 0 0 hM₉, Int.zero_add]; rfl
theorem kN_lt {sn eo bo : Int → Int} {t₉ : Tr} (hw : wf t₉) (hM₉ : MA₉ sn eo bo t₉ 0) {j₉ : Nat} (hj : j₉ ≤ tLen t₉) (hk : kN₉ sn j₉ < tLks t₉) : j₉ < tLen t₉ := by
  by_cases e : j₉ = tLen t₉
  · rw [e, kN_all hw hM₉] at hk; omega
  · omega
theorem lp_fst (sn : Int → Int) : ∀ n₉ : Nat, (fs lpF sn 0 n₉ (0, [])).1 = n₉
  | 0 => rfl
  | n₉ + 1 => by
    show (fs lpF sn 0 n₉ (0, [])).1 + 1 = ((n₉ + 1 : Nat) : Int)
    rw [lp_fst sn n₉]; omega
theorem lp_len (sn : Int → Int) : ∀ n₉ : Nat, ((fs lpF sn 0 n₉ (0, [])).2.length : Int) = kN₉ sn n₉
  | 0 => rfl
  | n₉ + 1 => by
    have h := lp_len sn n₉
    show ((lpF (fs lpF sn 0 n₉ (0, [])) (sn (0 + (n₉ : Int)))).2.length : Int) = _
    rw [Int.zero_add]
    by_cases e : 97 ≤ sn n₉ ∧ sn n₉ ≤ 102
    · rw [lpF_yes e, kN_yes e, ← h]
      show (((fs lpF sn 0 n₉ (0, [])).2 ++ [(fs lpF sn 0 n₉ (0, [])).1]).length : Int) = _
      rw [List.length_append]; rfl
    · rw [lpF_no e, kN_no e, ← h]
theorem lp_get (sn : Int → Int) {j₉ : Nat} (hj : 97 ≤ sn j₉ ∧ sn j₉ ≤ 102) : ∀ m : Nat, (fs lpF sn 0 (j₉ + 1 + m) (0, [])).2.getD (kN₉ sn j₉).toNat 0 = j₉
  | 0 => by
    show (lpF (fs lpF sn 0 j₉ (0, [])) (sn (0 + (j₉ : Int)))).2.getD (kN₉ sn j₉).toNat 0 = j₉
    rw [Int.zero_add, lpF_yes hj]
    show ((fs lpF sn 0 j₉ (0, [])).2 ++ [(fs lpF sn 0 j₉ (0, [])).1]).getD (kN₉ sn j₉).toNat 0 = j₉
    have h := lp_len sn j₉
    rw [getD_app, if_neg (by omega), show (kN₉ sn j₉).toNat - (fs lpF sn 0 j₉ (0, [])).2.length = 0 by omega]
    show (fs lpF sn 0 j₉ (0, [])).1 = j₉
    exact lp_fst sn j₉
  | m + 1 => by
    have ih₉ := lp_get sn hj m
    show (lpF (fs lpF sn 0 (j₉ + 1 + m) (0, [])) (sn (0 + ((j₉ + 1 + m : Nat) : Int)))).2.getD (kN₉ sn j₉).toNat 0 = j₉
    rw [Int.zero_add]
    by_cases e : 97 ≤ sn ((j₉ + 1 + m : Nat) : Int) ∧ sn ((j₉ + 1 + m : Nat) : Int) ≤ 102
    · rw [lpF_yes e]
      show ((fs lpF sn 0 (j₉ + 1 + m) (0, [])).2 ++ [(fs lpF sn 0 (j₉ + 1 + m) (0, [])).1]).getD (kN₉ sn j₉).toNat 0 = j₉
      have h := lp_len sn (j₉ + 1 + m)
      have h1 := kN_mono sn (j₉ + 1) m
      have h2 := kN_yes hj
      have h3 := kN_rg sn j₉
      rw [getD_app, if_pos (by omega)]
      exact ih₉
    · rw [lpF_no e]; exact ih₉
theorem look_k₉ {sn eo bo : Int → Int} {t₉ : Tr} (hw : wf t₉) (hM₉ : MA₉ sn eo bo t₉ 0) {j₉ : Nat} (hj : j₉ < tLen t₉) (hl : 97 ≤ sn j₉ ∧ sn j₉ ≤ 102) : (0 ≤ kN₉ sn j₉ ∧ kN₉ sn j₉ < tLks t₉) ∧ (lpos t₉ 0).getD (kN₉ sn j₉).toNat 0 = j₉ := by
  have h0 := kN_rg sn j₉
  have h1 := kN_mono sn (j₉ + 1) (tLen t₉ - (j₉ + 1))
  rw [show j₉ + 1 + (tLen t₉ - (j₉ + 1)) = tLen t₉ by omega, kN_all hw hM₉, kN_yes hl] at h1
  refine ⟨by omega, ?_⟩
  have h2 := lp_get sn hl (tLen t₉ - (j₉ + 1))
  rw [show j₉ + 1 + (tLen t₉ - (j₉ + 1)) = tLen t₉ by omega, lp_tree t₉ hw 0 (0, []) hM₉] at h2
  exact h2
theorem lpos_len : ∀ t₉, wf t₉ → ∀ o, (lpos t₉ o).length = tLks t₉ := by
  refine tInd (fun o => rfl) (fun c r₉ _ _ ih₉ o => ?_) (fun a₉ b₉ r₉ _ _ _ iha ihb ih₉ o => ?_) (fun n₉ a₉ r₉ _ _ _ iha ih₉ o => ?_)
  · show ((if c = 46 then [] else [o]) ++ lpos r₉ (o + 1)).length = (if c = 46 then 0 else 1) + tLks r₉
    rw [List.length_append, ih₉]; split <;> rfl
  · show (lpos a₉ (o + 1) ++ lpos b₉ (o + 2 + tLen a₉) ++ lpos r₉ (o + 3 + tLen a₉ + tLen b₉)).length = tLks a₉ + tLks b₉ + tLks r₉
    rw [List.length_append, List.length_append, iha, ihb, ih₉]
  · show (lpos a₉ (o + 1) ++ lpos r₉ (o + 2 + tLen a₉)).length = tLks a₉ + tLks r₉
    rw [List.length_append, iha, ih₉]
theorem lpos_at {sn eo bo : Int → Int} {t₉ : Tr} (hw : wf t₉) (hM₉ : MA₉ sn eo bo t₉ 0) {j₉ : Nat} (hj : j₉ < tLen t₉) (hl : 97 ≤ sn j₉ ∧ sn j₉ ≤ 102) : (lpos t₉ 0)[(kN₉ sn j₉).toNat]? = some (j₉ : Int) := by
  have h := look_k₉ hw hM₉ hj hl
  have hi₉ : (kN₉ sn j₉).toNat < (lpos t₉ 0).length := by rw [lpos_len t₉ hw]; omega
  have h2 := h.2
  rw [List.getD_eq_getElem?_getD, List.getElem?_eq_getElem hi₉] at h2
  rw [List.getElem?_eq_getElem hi₉]
  exact congrArg some h2
theorem lpos_ln {sn eo bo : Int → Int} : ∀ t₉, wf t₉ → ∀ o, MA₉ sn eo bo t₉ o → (lpos t₉ o).map (fun p => sn p - 97) = tLn t₉ := by
  refine tInd (fun o _ => rfl) (fun c r₉ _ _ ih₉ o h => ?_) (fun a₉ b₉ r₉ _ _ _ iha ihb ih₉ o h => ?_) (fun n₉ a₉ r₉ _ _ _ iha ih₉ o h => ?_)
  · show ((if c = 46 then [] else [o]) ++ lpos r₉ (o + 1)).map _ = (if c = 46 then [] else [c - 97]) ++ tLn r₉
    rw [List.map_append, ih₉ _ h.2]
    by_cases e : c = 46
    · rw [if_pos e, if_pos e]; rfl
    · rw [if_neg e, if_neg e]
      show [sn o - 97] ++ _ = _
      rw [h.1]
  · show (lpos a₉ (o + 1) ++ lpos b₉ (o + 2 + tLen a₉) ++ lpos r₉ (o + 3 + tLen a₉ + tLen b₉)).map _ = tLn a₉ ++ tLn b₉ ++ tLn r₉
    rw [List.map_append, List.map_append, iha _ h.2.1, ihb _ h.2.2.1, ih₉ _ h.2.2.2]
  · show (lpos a₉ (o + 1) ++ lpos r₉ (o + 2 + tLen a₉)).map _ = tLn a₉ ++ tLn r₉
    rw [List.map_append, iha _ h.2.1, ih₉ _ h.2.2]
theorem ln_at {sn eo bo : Int → Int} {t₉ : Tr} (hw : wf t₉) (hM₉ : MA₉ sn eo bo t₉ 0) {j₉ : Nat} (hj : j₉ < tLen t₉) (hl : 97 ≤ sn j₉ ∧ sn j₉ ≤ 102) : (tLn t₉).getD (kN₉ sn j₉).toNat 0 = sn j₉ - 97 := by
  rw [← lpos_ln t₉ hw 0 hM₉, List.getD_eq_getElem?_getD, List.getElem?_map, lpos_at hw hM₉ hj hl]; rfl
/-- what is₉ recorded at the looks₉ -/
def foR (sn : Int → Int) (t₉ : Tr) (u₉ : Int) (ma my : Int → Int) : Prop := ∀ j₉ : Nat, j₉ < tLen t₉ → 97 ≤ sn j₉ ∧ sn j₉ ≤ 102 → (ma j₉ = R1 t₉ u₉ (kN₉ sn j₉) ∧ my j₉ = R2 t₉ u₉ (kN₉ sn j₉)) ∧ (0 ≤ ma j₉ ∧ ma j₉ ≤ u₉) ∧ 0 ≤ my j₉ ∧ my j₉ ≤ u₉
theorem fRec_rgV {v₉ : Int} (hv : 1 ≤ v₉) : ∀ t₉, wf t₉ → ∀ A₉, rgV v₉ A₉ → ∀ q₉ ∈ fRec v₉ t₉ A₉, (0 ≤ q₉.1 ∧ q₉.1 ≤ v₉) ∧ 0 ≤ q₉.2 ∧ q₉.2 ≤ v₉ := by
  refine tInd (fun A₉ _ q₉ hq => absurd hq List.not_mem_nil) (fun c r₉ hc₉ hr ih₉ A₉ hA q₉ hq => ?_) (fun a₉ b₉ r₉ ha₉ hb₉ hr iha ihb ih₉ A₉ hA q₉ hq => ?_) (fun n₉ a₉ r₉ hn ha₉ hr iha ih₉ A₉ hA q₉ hq => ?_)
  · have hq : q₉ ∈ (if c = 46 then [] else [(A₉.1 (c - 97), A₉.2 (c - 97))]) ++ fRec v₉ r₉ (aLook v₉ c A₉) := hq
    rcases List.mem_append.mp hq with h | h
    · by_cases e : c = 46
      · rw [if_pos e] at h; exact absurd h List.not_mem_nil
      · rw [if_neg e] at h
        rw [List.mem_singleton.mp h]
        exact hA (c - 97) (by unfold okc at hc₉; omega) (by unfold okc at hc₉; omega)
    · exact ih₉ _ (rgV_look hA hv hc₉) q₉ h
  · have hq : q₉ ∈ fRec v₉ a₉ A₉ ++ fRec v₉ b₉ A₉ ++ fRec v₉ r₉ (aJoin (fa v₉ a₉ A₉) (fa v₉ b₉ A₉)) := hq
    rcases List.mem_append.mp hq with h | h
    · rcases List.mem_append.mp h with h | h
      · exact iha A₉ hA q₉ h
      · exact ihb A₉ hA q₉ h
    · exact ih₉ _ (rgV_join (rgV_fa hv a₉ ha₉ A₉ hA) (rgV_fa hv b₉ hb₉ A₉ hA)) q₉ h
  · have hf := rgV_fix (fun A₉ hA => rgV_fa hv a₉ ha₉ A₉ hA) 37 A₉ hA
    have hq : q₉ ∈ fRec v₉ a₉ (aFix (fa v₉ a₉) 37 A₉) ++ fRec v₉ r₉ (aFix (fa v₉ a₉) 37 A₉) := hq
    rcases List.mem_append.mp hq with h | h
    · exact iha _ hf q₉ h
    · exact ih₉ _ hf q₉ h
theorem foR_of {sn eo bo ma my : Int → Int} {t₉ : Tr} {u₉ : Int} (hw : wf t₉) (hM₉ : MA₉ sn eo bo t₉ 0) (hu : 1 ≤ u₉) (h : (lpos t₉ 0).map (fun p => (ma p, my p)) = fRec u₉ t₉ (A0 u₉)) : foR sn t₉ u₉ ma my := by
  intro j₉ hj hl
  have hp := lpos_at hw hM₉ hj hl
  have e : (fRec u₉ t₉ (A0 u₉))[(kN₉ sn j₉).toNat]? = some (ma j₉, my j₉) := by rw [← h, List.getElem?_map, hp]; rfl
  have hm₉ := fRec_rgV hu t₉ hw (A0 u₉) (rgV_A0 hu) _ (List.mem_of_getElem? e)
  refine ⟨⟨?_, ?_⟩, hm₉⟩
  · unfold R1 rec1
    rw [List.getD_eq_getElem?_getD, List.getElem?_map, e]; rfl
  · unfold R2 rec2
    rw [List.getD_eq_getElem?_getD, List.getElem?_map, e]; rfl
def soM (v₉ a₉ b₉ : Int) : Int := if a₉ < v₉ then 1 else if b₉ = v₉ then 2 else 0
theorem soM_at {sn ma my : Int → Int} {t₉ : Tr} {u₉ : Int} (h : foR sn t₉ u₉ ma my) {j₉ : Nat} (hj : j₉ < tLen t₉) (hl : 97 ≤ sn j₉ ∧ sn j₉ ≤ 102) : soM u₉ (ma j₉) (my j₉) = soT t₉ u₉ (kN₉ sn j₉) := by
  have q₉ := h j₉ hj hl
  unfold soM soT
  rw [← q₉.1.1, ← q₉.1.2]
  split
  · rfl
  · by_cases e : my j₉ = u₉
    · rw [if_pos e, if_pos (by omega)]
    · rw [if_neg e, if_neg (by omega)]
/-- the innermost loop₉ around a₉ place₉ -/
def laS (sn eo : Int → Int) (p o : Int) : Nat → Int → Int
  | 0, b₉ => b₉
  | n₉ + 1, b₉ => if (49 ≤ sn (o + n₉) ∧ sn (o + n₉) ≤ 57) ∧ p < eo (o + n₉) then o + n₉ else laS sn eo p o n₉ b₉
theorem laS_add (sn eo : Int → Int) (p o : Int) (n₉ : Nat) (b₉ : Int) : ∀ m : Nat, laS sn eo p o (n₉ + m) b₉ = laS sn eo p (o + n₉) m (laS sn eo p o n₉ b₉)
  | 0 => rfl
  | m + 1 => by
    show (if (49 ≤ sn (o + ((n₉ + m : Nat) : Int)) ∧ sn (o + ((n₉ + m : Nat) : Int)) ≤ 57) ∧ p < eo (o + ((n₉ + m : Nat) : Int)) then o + ((n₉ + m : Nat) : Int) else laS sn eo p o (n₉ + m) b₉) = if (49 ≤ sn (o + n₉ + m) ∧ sn (o + n₉ + m) ≤ 57) ∧ p < eo (o + n₉ + m) then o + n₉ + m else laS sn eo p (o + n₉) m (laS sn eo p o n₉ b₉)
    rw [laS_add sn eo p o n₉ b₉ m, show o + ((n₉ + m : Nat) : Int) = o + n₉ + m by omega]
theorem laS_no {sn eo : Int → Int} {p o b₉ : Int} {m : Nat} (h : ¬ ((49 ≤ sn o ∧ sn o ≤ 57) ∧ p < eo o)) : laS sn eo p o (1 + m) b₉ = laS sn eo p (o + 1) m b₉ := by
  rw [laS_add]
  show laS sn eo p (o + ((1 : Nat) : Int)) m (if (49 ≤ sn (o + ((0 : Nat) : Int)) ∧ sn (o + ((0 : Nat) : Int)) ≤ 57) ∧ p < eo (o + ((0 : Nat) : Int)) then o + ((0 : Nat) : Int) else b₉) = _
  rw [show o + ((0 : Nat) : Int) = o by omega, if_neg h]; rfl
theorem laS_yes {sn eo : Int → Int} {p o b₉ : Int} {m : Nat} (h : (49 ≤ sn o ∧ sn o ≤ 57) ∧ p < eo o) : laS sn eo p o (1 + m) b₉ = laS sn eo p (o + 1) m o := by
  rw [laS_add]
  show laS sn eo p (o + ((1 : Nat) : Int)) m (if (49 ≤ sn (o + ((0 : Nat) : Int)) ∧ sn (o + ((0 : Nat) : Int)) ≤ 57) ∧ p < eo (o + ((0 : Nat) : Int)) then o + ((0 : Nat) : Int) else b₉) = _
  rw [show o + ((0 : Nat) : Int) = o by omega, if_pos h]; rfl
theorem laS_rg (sn eo : Int → Int) (p : Int) : ∀ n₉ : Nat, -1 ≤ laS sn eo p 0 n₉ (-1) ∧ laS sn eo p 0 n₉ (-1) < n₉
  | 0 => by show (-1 : Int) ≤ -1 ∧ (-1 : Int) < ((0 : Nat) : Int); omega
  | n₉ + 1 => by
    have h := laS_rg sn eo p n₉
    show -1 ≤ (if (49 ≤ sn (0 + (n₉ : Int)) ∧ sn (0 + (n₉ : Int)) ≤ 57) ∧ p < eo (0 + (n₉ : Int)) then (0 + (n₉ : Int)) else laS sn eo p 0 n₉ (-1)) ∧ (if (49 ≤ sn (0 + (n₉ : Int)) ∧ sn (0 + (n₉ : Int)) ≤ 57) ∧ p < eo (0 + (n₉ : Int)) then (0 + (n₉ : Int)) else laS sn eo p 0 n₉ (-1)) < ((n₉ + 1 : Nat) : Int)
    split <;> omega
theorem la_past {sn eo bo : Int → Int} : ∀ t₉, wf t₉ → ∀ o, MA₉ sn eo bo t₉ o → ∀ p b₉ : Int, o + tLen t₉ ≤ p → laS sn eo p o (tLen t₉) b₉ = b₉ := by
  refine tInd (fun o _ p b₉ _ => rfl) (fun c r₉ hc₉ _ ih₉ o h p b₉ hp => ?_) (fun a₉ b₉ r₉ _ _ _ iha ihb ih₉ o h p b' hp => ?_) (fun n₉ a₉ r₉ hn _ _ iha ih₉ o h p b' hp => ?_)
  · have eL : tLen (.append (.nest c .nil) r₉) = 1 + tLen r₉ := rfl
    rw [eL] at hp ⊢
    have h1 := h.1
    unfold okc at hc₉
    rw [laS_no (by omega)]
    exact ih₉ _ h.2 p b₉ (by omega)
  · have eL : tLen (.append (.append a₉ b₉) r₉) = 3 + tLen a₉ + tLen b₉ + tLen r₉ := rfl
    obtain ⟨⟨k1₉, -, -, k2₉, k3₉, -⟩, hMa, hMb, hMr⟩ := h
    rw [eL] at hp ⊢
    rw [show 3 + tLen a₉ + tLen b₉ + tLen r₉ = 1 + (tLen a₉ + (1 + (tLen b₉ + (1 + tLen r₉)))) by omega, laS_no (by omega), laS_add, iha _ hMa p b' (by omega), laS_no (by omega), laS_add, show o + 1 + (tLen a₉ : Int) + 1 = o + 2 + tLen a₉ by omega, ihb _ hMb p b' (by omega), laS_no (by omega), show o + 2 + (tLen a₉ : Int) + tLen b₉ + 1 = o + 3 + tLen a₉ + tLen b₉ by omega]
    exact ih₉ _ hMr p b' (by omega)
  · have eL : tLen (.append (.tag n₉ a₉) r₉) = 2 + tLen a₉ + tLen r₉ := rfl
    obtain ⟨⟨k1₉, k4₉, k2₉, -⟩, hMa, hMr⟩ := h
    rw [eL] at hp ⊢
    rw [show 2 + tLen a₉ + tLen r₉ = 1 + (tLen a₉ + (1 + tLen r₉)) by omega, laS_no (by omega), laS_add, iha _ hMa p b' (by omega), laS_no (by omega), show o + 1 + (tLen a₉ : Int) + 1 = o + 2 + tLen a₉ by omega]
    exact ih₉ _ hMr p b' (by omega)
def laM (sn eo : Int → Int) (o e y₉ b₉ : Int) (inf x₉ : Int × Int) : Prop := (y₉ = b₉ ∧ inf = x₉) ∨ ((o ≤ y₉ ∧ y₉ < eo y₉ ∧ eo y₉ < e) ∧ sn y₉ = 48 + inf.1 ∧ (1 ≤ inf.1 ∧ inf.1 ≤ 9) ∧ fs mkF₉ sn y₉ (eo y₉ - y₉).toNat 0 = inf.2)
theorem laM.wide {sn eo : Int → Int} {o e o' e' y₉ b₉ : Int} {inf x₉ : Int × Int} (h : laM sn eo o e y₉ b₉ inf x₉) (q₉ : o' ≤ o ∧ e ≤ e') : laM sn eo o' e' y₉ b₉ inf x₉ := h.elim Or.inl (fun z₉ => Or.inr ⟨by omega, z₉.2⟩)
theorem la_inf {sn eo bo : Int → Int} : ∀ t₉, wf t₉ → ∀ o, MA₉ sn eo bo t₉ o → ∀ (b₉ : Int) (x₉ : Int × Int) (i₉ : Nat), i₉ < tLks t₉ → ∃ d₉ : Nat, (lpos t₉ o).getD i₉ 0 = o + d₉ ∧ d₉ < tLen t₉ ∧ laM sn eo o (o + tLen t₉) (laS sn eo (o + d₉) o d₉ b₉) b₉ ((tInf t₉ x₉).getD i₉ (0, 0)) x₉ := by
  refine tInd (fun o _ b₉ x₉ i₉ hi₉ => absurd hi₉ (by show ¬ i₉ < 0; omega)) (fun c r₉ hc₉ hr ih₉ o h b₉ x₉ i₉ hi₉ => ?_) (fun a₉ b₉ r₉ ha₉ hb₉ hr iha ihb ih₉ o h b' x₉ i₉ hi₉ => ?_) (fun n₉ a₉ r₉ hn ha₉ hr iha ih₉ o h b' x₉ i₉ hi₉ => ?_)
  · have eL : tLen (.append (.nest c .nil) r₉) = 1 + tLen r₉ := rfl
    have hi₉ : i₉ < (if c = 46 then 0 else 1) + tLks r₉ := hi₉
    obtain ⟨h1, h4⟩ := h
    unfold okc at hc₉
    show ∃ d₉ : Nat, ((if c = 46 then [] else [o]) ++ lpos r₉ (o + 1)).getD i₉ 0 = o + d₉ ∧ d₉ < 1 + tLen r₉ ∧ laM sn eo o (o + ((1 + tLen r₉ : Nat) : Int)) (laS sn eo (o + d₉) o d₉ b₉) b₉ (((if c = 46 then [] else [x₉]) ++ tInf r₉ x₉).getD i₉ (0, 0)) x₉
    by_cases e : c = 46
    · rw [if_pos e] at hi₉
      rw [if_pos e, if_pos e, List.nil_append, List.nil_append]
      obtain ⟨d₉, e1₉, e2₉, e3₉⟩ := ih₉ (o + 1) h4 b₉ x₉ i₉ (by omega)
      refine ⟨1 + d₉, by rw [e1₉]; omega, by omega, ?_⟩
      rw [show o + ((1 + d₉ : Nat) : Int) = o + 1 + d₉ by omega, laS_no (by omega)]
      exact e3₉.wide (by omega)
    · rw [if_neg e] at hi₉
      rw [if_neg e, if_neg e]
      cases i₉ with
      | zero => exact ⟨0, by show o = o + ((0 : Nat) : Int); omega, by omega, Or.inl ⟨rfl, rfl⟩⟩
      | succ i₉ =>
        obtain ⟨d₉, e1₉, e2₉, e3₉⟩ := ih₉ (o + 1) h4 b₉ x₉ i₉ (by omega)
        refine ⟨1 + d₉, by show (lpos r₉ (o + 1)).getD i₉ 0 = _; rw [e1₉]; omega, by omega, ?_⟩
        rw [show o + ((1 + d₉ : Nat) : Int) = o + 1 + d₉ by omega, laS_no (by omega)]
        exact e3₉.wide (by omega)
  · have hi₉ : i₉ < tLks a₉ + tLks b₉ + tLks r₉ := hi₉
    obtain ⟨⟨k1₉, -, -, k2₉, k3₉, -⟩, hMa, hMb, hMr⟩ := h
    show ∃ d₉ : Nat, (lpos a₉ (o + 1) ++ lpos b₉ (o + 2 + tLen a₉) ++ lpos r₉ (o + 3 + tLen a₉ + tLen b₉)).getD i₉ 0 = o + d₉ ∧ d₉ < 3 + tLen a₉ + tLen b₉ + tLen r₉ ∧ laM sn eo o (o + ((3 + tLen a₉ + tLen b₉ + tLen r₉ : Nat) : Int)) (laS sn eo (o + d₉) o d₉ b') b' ((tInf a₉ x₉ ++ tInf b₉ x₉ ++ tInf r₉ x₉).getD i₉ (0, 0)) x₉
    rw [getD_app, getD_app, getD_app, getD_app, List.length_append, List.length_append, lpos_len a₉ ha₉, lpos_len b₉ hb₉, tInf_len a₉ ha₉, tInf_len b₉ hb₉]
    by_cases e1₉ : i₉ < tLks a₉
    · rw [if_pos (by omega), if_pos e1₉, if_pos (by omega), if_pos e1₉]
      obtain ⟨d₉, q1₉, q2₉, q3₉⟩ := iha (o + 1) hMa b' x₉ i₉ e1₉
      refine ⟨1 + d₉, by rw [q1₉]; omega, by omega, ?_⟩
      rw [show o + ((1 + d₉ : Nat) : Int) = o + 1 + d₉ by omega, laS_no (by omega)]
      exact q3₉.wide (by omega)
    · by_cases e2₉ : i₉ < tLks a₉ + tLks b₉
      · rw [if_pos e2₉, if_neg e1₉, if_pos e2₉, if_neg e1₉]
        obtain ⟨d₉, q1₉, q2₉, q3₉⟩ := ihb (o + 2 + tLen a₉) hMb b' x₉ (i₉ - tLks a₉) (by omega)
        refine ⟨1 + (tLen a₉ + (1 + d₉)), by rw [q1₉]; omega, by omega, ?_⟩
        rw [show o + ((1 + (tLen a₉ + (1 + d₉)) : Nat) : Int) = o + 2 + tLen a₉ + d₉ by omega, laS_no (by omega), laS_add, la_past a₉ ha₉ _ hMa _ _ (by omega), laS_no (by omega), show o + 1 + (tLen a₉ : Int) + 1 = o + 2 + tLen a₉ by omega]
        exact q3₉.wide (by omega)
      · rw [if_neg e2₉, if_neg e2₉]
        obtain ⟨d₉, q1₉, q2₉, q3₉⟩ := ih₉ (o + 3 + tLen a₉ + tLen b₉) hMr b' x₉ (i₉ - (tLks a₉ + tLks b₉)) (by omega)
        refine ⟨1 + (tLen a₉ + (1 + (tLen b₉ + (1 + d₉)))), by rw [q1₉]; omega, by omega, ?_⟩
        rw [show o + ((1 + (tLen a₉ + (1 + (tLen b₉ + (1 + d₉)))) : Nat) : Int) = o + 3 + tLen a₉ + tLen b₉ + d₉ by omega, laS_no (by omega), laS_add, la_past a₉ ha₉ _ hMa _ _ (by omega), laS_no (by omega), show o + 1 + (tLen a₉ : Int) + 1 = o + 2 + tLen a₉ by omega, laS_add, la_past b₉ hb₉ _ hMb _ _ (by omega), laS_no (by omega), show o + 2 + (tLen a₉ : Int) + tLen b₉ + 1 = o + 3 + tLen a₉ + tLen b₉ by omega]
        exact q3₉.wide (by omega)
  · have hi₉ : i₉ < tLks a₉ + tLks r₉ := hi₉
    obtain ⟨⟨k1₉, k4₉, k2₉, -⟩, hMa, hMr⟩ := h
    show ∃ d₉ : Nat, (lpos a₉ (o + 1) ++ lpos r₉ (o + 2 + tLen a₉)).getD i₉ 0 = o + d₉ ∧ d₉ < 2 + tLen a₉ + tLen r₉ ∧ laM sn eo o (o + ((2 + tLen a₉ + tLen r₉ : Nat) : Int)) (laS sn eo (o + d₉) o d₉ b') b' ((tInf a₉ ((n₉ : Int), tMsk a₉ 0) ++ tInf r₉ x₉).getD i₉ (0, 0)) x₉
    rw [getD_app, getD_app, lpos_len a₉ ha₉, tInf_len a₉ ha₉]
    by_cases e1₉ : i₉ < tLks a₉
    · rw [if_pos e1₉, if_pos e1₉]
      obtain ⟨d₉, q1₉, q2₉, q3₉⟩ := iha (o + 1) hMa o ((n₉ : Int), tMsk a₉ 0) i₉ e1₉
      refine ⟨1 + d₉, by rw [q1₉]; omega, by omega, ?_⟩
      rw [show o + ((1 + d₉ : Nat) : Int) = o + 1 + d₉ by omega, laS_yes (by omega)]
      rcases q3₉ with ⟨q3₉, q4₉⟩ | q3₉
      · rw [q3₉, q4₉]
        refine Or.inr ⟨by omega, by rw [k1₉], by show (1 : Int) ≤ n₉ ∧ (n₉ : Int) ≤ 9; omega, ?_⟩
        rw [k4₉, show (o + 1 + (tLen a₉ : Int) - o).toNat = 1 + tLen a₉ by omega, fs_one, mk_tree a₉ ha₉ _ _ hMa]
        show tMsk a₉ (mkF₉ 0 (sn o)) = tMsk a₉ 0
        unfold mkF₉
        rw [if_neg (by omega)]
      · exact Or.inr ⟨by omega, q3₉.2⟩
    · rw [if_neg e1₉, if_neg e1₉]
      obtain ⟨d₉, q1₉, q2₉, q3₉⟩ := ih₉ (o + 2 + tLen a₉) hMr b' x₉ (i₉ - tLks a₉) (by omega)
      refine ⟨1 + (tLen a₉ + (1 + d₉)), by rw [q1₉]; omega, by omega, ?_⟩
      rw [show o + ((1 + (tLen a₉ + (1 + d₉)) : Nat) : Int) = o + 2 + tLen a₉ + d₉ by omega, laS_no (by omega), laS_add, la_past a₉ ha₉ _ hMa _ _ (by omega), laS_no (by omega), show o + 1 + (tLen a₉ : Int) + 1 = o + 2 + tLen a₉ by omega]
      exact q3₉.wide (by omega)
theorem la_at {sn eo bo : Int → Int} {t₉ : Tr} (hw : wf t₉) (hM₉ : MA₉ sn eo bo t₉ 0) {j₉ : Nat} (hj : j₉ < tLen t₉) (hl : 97 ≤ sn j₉ ∧ sn j₉ ≤ 102) : laM sn eo 0 (tLen t₉) (laS sn eo j₉ 0 j₉ (-1)) (-1) (infT t₉ (kN₉ sn j₉)) (0, 0) := by
  have h := look_k₉ hw hM₉ hj hl
  obtain ⟨d₉, q1₉, q2₉, q3₉⟩ := la_inf t₉ hw 0 hM₉ (-1) (0, 0) (kN₉ sn j₉).toNat (by omega)
  have e : d₉ = j₉ := by omega
  subst e
  rw [Int.zero_add, Int.zero_add] at q3₉
  exact q3₉
theorem MA_fig {sn eo bo : Int → Int} : ∀ t₉, wf t₉ → ∀ o : Int, MA₉ sn eo bo t₉ o → ∀ p : Int, o ≤ p → p < o + tLen t₉ → 49 ≤ sn p ∧ sn p ≤ 57 → p < eo p ∧ eo p < o + tLen t₉ := by
  refine tInd (fun o _ p h1 h2 _ => ?_) (fun c r₉ hc₉ _ ih₉ o h p h1 h2 hp => ?_) (fun a₉ b₉ r₉ _ _ _ iha ihb ih₉ o h p h1 h2 hp => ?_) (fun n₉ a₉ r₉ hn _ _ iha ih₉ o h p h1 h2 hp => ?_)
  · have h2 : p < o + ((0 : Nat) : Int) := h2
    omega
  · have eL : tLen (.append (.nest c .nil) r₉) = 1 + tLen r₉ := rfl
    rw [eL] at h2 ⊢
    by_cases e : p = o
    · rw [e, h.1] at hp; unfold okc at hc₉; omega
    · have := ih₉ _ h.2 p (by omega) (by omega) hp
      omega
  · have eL : tLen (.append (.append a₉ b₉) r₉) = 3 + tLen a₉ + tLen b₉ + tLen r₉ := rfl
    rw [eL] at h2 ⊢
    obtain ⟨⟨k1₉, -, -, k2₉, k3₉, -⟩, ha₉, hb₉, hr⟩ := h
    obtain e | e | e | e | e | e : p = o ∨ p = o + 1 + tLen a₉ ∨ p = o + 2 + tLen a₉ + tLen b₉ ∨ (o + 1 ≤ p ∧ p < o + 1 + tLen a₉) ∨ (o + 2 + tLen a₉ ≤ p ∧ p < o + 2 + tLen a₉ + tLen b₉) ∨ o + 3 + tLen a₉ + tLen b₉ ≤ p := by omega
    · rw [e, k1₉] at hp; omega
    · rw [e, k2₉] at hp; omega
    · rw [e, k3₉] at hp; omega
    · have := iha _ ha₉ p e.1 e.2 hp; omega
    · have := ihb _ hb₉ p e.1 e.2 hp; omega
    · have := ih₉ _ hr p e (by omega) hp; omega
  · have eL : tLen (.append (.tag n₉ a₉) r₉) = 2 + tLen a₉ + tLen r₉ := rfl
    rw [eL] at h2 ⊢
    obtain ⟨⟨k1₉, k4₉, k2₉, -⟩, ha₉, hr⟩ := h
    obtain e | e | e | e : p = o ∨ p = o + 1 + tLen a₉ ∨ (o + 1 ≤ p ∧ p < o + 1 + tLen a₉) ∨ o + 2 + tLen a₉ ≤ p := by omega
    · rw [e, k4₉]; omega
    · rw [e, k2₉] at hp; omega
    · have := iha _ ha₉ p e.1 e.2 hp; omega
    · have := ih₉ _ hr p e (by omega) hp; omega
