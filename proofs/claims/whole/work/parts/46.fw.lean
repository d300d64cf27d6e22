/-! The reference₉: the ages followed along₉ the signs. -/
def foW (E : En) (σ ρ : Nat → va_E) (ag eg fg ma my : Int → Int) : Prop := ρ 105 = ai E 12 ag ∧ ρ 106 = ai E 48 eg ∧ ρ 107 = ai E 48 fg ∧ ρ 108 = ai E 80 ma ∧ ρ 109 = ai E 80 my ∧ ∀ q₉, ¬ (105 ≤ q₉ ∧ q₉ ≤ 109) → ρ q₉ = σ q₉
def outE (oo n₉ : Int) (ma my ma' my' : Int → Int) : Prop := ∀ z₉ : Int, (z₉ < oo ∨ oo + n₉ ≤ z₉) → ma' z₉ = ma z₉ ∧ my' z₉ = my z₉
def lowE (n₉ : Int) (eg fg eg' fg' : Int → Int) : Prop := ∀ z₉ : Int, 0 ≤ z₉ → z₉ < 12 * n₉ → eg' z₉ = eg z₉ ∧ fg' z₉ = fg z₉
theorem outE.tr {o n₉ o' n' xo9 yo9 : Int} {a₉ b₉ a' b' a2 b2 : Int → Int} (h : outE o n₉ a₉ b₉ a' b') (h' : outE o' n' a' b' a2 b2) (q₉ : (xo9 ≤ o ∧ o + n₉ ≤ xo9 + yo9) ∧ xo9 ≤ o' ∧ o' + n' ≤ xo9 + yo9) : outE xo9 yo9 a₉ b₉ a2 b2 := fun z₉ hz => ⟨(h' z₉ (by omega)).1.trans (h z₉ (by omega)).1, (h' z₉ (by omega)).2.trans (h z₉ (by omega)).2⟩
theorem lowE.tr {n₉ n' kk9 : Int} {a₉ b₉ a' b' a2 b2 : Int → Int} (h : lowE n₉ a₉ b₉ a' b') (h' : lowE n' a' b' a2 b2) (q₉ : kk9 ≤ n₉ ∧ kk9 ≤ n') : lowE kk9 a₉ b₉ a2 b2 := fun z₉ z0 z1 => ⟨(h' z₉ z0 (by omega)).1.trans (h z₉ z0 (by omega)).1, (h' z₉ z0 (by omega)).2.trans (h z₉ z0 (by omega)).2⟩
theorem lvOK.lo {eg fg eg' fg' : Int → Int} {dl n₉ : Int} {A₉ : AG₉} (h : lvOK eg dl A₉) (b₉ : lowE n₉ eg fg eg' fg') (q₉ : 0 ≤ dl ∧ dl + 1 ≤ n₉) : lvOK eg' dl A₉ := fun z₉ z0 z1 => by rw [(b₉ _ (by omega) (by omega)).1, (b₉ _ (by omega) (by omega)).1]; exact h z₉ z0 z1
theorem lvOK.lo2 {eg fg eg' fg' : Int → Int} {dl n₉ : Int} {A₉ : AG₉} (h : lvOK fg dl A₉) (b₉ : lowE n₉ eg fg eg' fg') (q₉ : 0 ≤ dl ∧ dl + 1 ≤ n₉) : lvOK fg' dl A₉ := fun z₉ z0 z1 => by rw [(b₉ _ (by omega) (by omega)).2, (b₉ _ (by omega) (by omega)).2]; exact h z₉ z0 z1
set_option maxHeartbeats 4000000 in
theorem fo_walk {E : En} {σ : Nat → va_E} {sn eo bo : Int → Int} {v₉ len₉ : Int} (hv : 1 ≤ v₉ ∧ v₉ ≤ 3) (H₉ : (Nat → va_E) → Int → Int → Prop)
  (hdot : ∀ (oo dl : Int) (ag eg fg ma my : Int → Int) (ρ : Nat → va_E), foW E σ ρ ag eg fg ma my → 0 ≤ oo ∧ oo < len₉ → 0 ≤ dl ∧ dl ≤ 3 → sn oo = 46 → H₉ ρ (oo + 1) dl → H₉ ρ oo dl)
  (hlook : ∀ (oo dl : Int) (A₉ : AG₉) (ag eg fg ma my : Int → Int) (ρ : Nat → va_E), foW E σ ρ ag eg fg ma my → 0 ≤ oo ∧ oo < len₉ → 0 ≤ dl ∧ dl ≤ 3 → 97 ≤ sn oo ∧ sn oo ≤ 102 → rgV v₉ A₉ → agOK ag A₉ → (∀ ag' ρ', foW E σ ρ' ag' eg fg (up ma oo (A₉.1 (sn oo - 97))) (up my oo (A₉.2 (sn oo - 97))) → agOK ag' (aLook v₉ (sn oo) A₉) → H₉ ρ' (oo + 1) dl) → H₉ ρ oo dl)
  (hopen : ∀ (oo dl : Int) (A₉ : AG₉) (ag eg fg ma my : Int → Int) (ρ : Nat → va_E), foW E σ ρ ag eg fg ma my → 0 ≤ oo ∧ oo < len₉ → 0 ≤ dl ∧ dl ≤ 2 → (sn oo = 40 ∨ (49 ≤ sn oo ∧ sn oo ≤ 57)) → agOK ag A₉ → (∀ eg' ρ', foW E σ ρ' ag eg' fg ma my → lvOK eg' dl A₉ → lowE dl eg fg eg' fg → H₉ ρ' (oo + 1) (dl + 1)) → H₉ ρ oo dl)
  (hbar : ∀ (oo dl : Int) (A₉ B₉ : AG₉) (ag eg fg ma my : Int → Int) (ρ : Nat → va_E), foW E σ ρ ag eg fg ma my → 0 ≤ oo ∧ oo < len₉ → 0 ≤ dl ∧ dl ≤ 2 → sn oo = 124 → agOK ag A₉ → lvOK eg dl B₉ → (∀ ag' fg' ρ', foW E σ ρ' ag' eg fg' ma my → lvOK fg' dl A₉ → agOK ag' B₉ → lowE dl eg fg eg fg' → H₉ ρ' (oo + 1) (dl + 1)) → H₉ ρ oo (dl + 1))
  (hclose : ∀ (oo dl : Int) (A₉ B₉ : AG₉) (ag eg fg ma my : Int → Int) (ρ : Nat → va_E), foW E σ ρ ag eg fg ma my → 0 ≤ oo ∧ oo < len₉ → 0 ≤ dl ∧ dl ≤ 2 → sn oo = 41 → rgV v₉ A₉ → rgV v₉ B₉ → agOK ag B₉ → lvOK fg dl A₉ → (∀ ag' ρ', foW E σ ρ' ag' eg fg ma my → agOK ag' (aJoin A₉ B₉) → H₉ ρ' (oo + 1) dl) → H₉ ρ oo (dl + 1))
  (hback : ∀ (oo dl o1 : Int) (A₉ B₉ : AG₉) (ag eg fg ma my : Int → Int) (ρ : Nat → va_E), foW E σ ρ ag eg fg ma my → 0 ≤ oo ∧ oo < len₉ → 0 ≤ dl ∧ dl ≤ 2 → sn oo = 93 → eo oo = o1 → rgV v₉ A₉ → rgV v₉ B₉ → agOK ag B₉ → lvOK eg dl A₉ → (¬ aSame A₉ B₉ → ∀ ag' eg' ρ', foW E σ ρ' ag' eg' fg ma my → agOK ag' (aJoin A₉ B₉) → lvOK eg' dl (aJoin A₉ B₉) → lowE dl eg fg eg' fg → H₉ ρ' (o1 + 1) (dl + 1)) → (aSame A₉ B₉ → ∀ ag' ρ', foW E σ ρ' ag' eg fg ma my → agOK ag' A₉ → H₉ ρ' (oo + 1) dl) → H₉ ρ oo (dl + 1)) :
  ∀ t₉, wf t₉ → ∀ (oo dl : Int) (A₉ : AG₉) (ag eg fg ma my : Int → Int) (ρ : Nat → va_E), (0 ≤ oo ∧ oo + tLen t₉ ≤ len₉) → (0 ≤ dl ∧ dl + tDep t₉ ≤ 3) → MA₉ sn eo bo t₉ oo → rgV v₉ A₉ → foW E σ ρ ag eg fg ma my → agOK ag A₉ → (∀ ag' eg' fg' ma' my' ρ', foW E σ ρ' ag' eg' fg' ma' my' → agOK ag' (fa v₉ t₉ A₉) → (lpos t₉ oo).map (fun p => (ma' p, my' p)) = fRec v₉ t₉ A₉ → outE oo (tLen t₉) ma my ma' my' → lowE dl eg fg eg' fg' → H₉ ρ' (oo + tLen t₉) dl) → H₉ ρ oo dl := by
  refine tInd ?_ ?_ ?_ ?_
  · intro oo dl A₉ ag eg fg ma my ρ _ _ _ _ hW hag hK₉
    have q₉ := hK₉ ag eg fg ma my ρ hW hag rfl (fun z₉ _ => ⟨rfl, rfl⟩) (fun z₉ _ _ => ⟨rfl, rfl⟩)
    rw [show oo + ((tLen .nil : Nat) : Int) = oo from Int.add_zero oo] at q₉
    exact q₉
  · intro c r₉ hc₉ hr ih₉ oo dl A₉ ag eg fg ma my ρ ho hd₉ hM₉ hA hW hag hK₉
    have eL : tLen (.append (.nest c .nil) r₉) = 1 + tLen r₉ := rfl
    have eD : tDep (.append (.nest c .nil) r₉) = tDep r₉ := rfl
    rw [eL] at ho
    rw [eD] at hd₉
    obtain ⟨k1₉, hMr⟩ := hM₉
    by_cases e : c = 46
    · refine hdot oo dl ag eg fg ma my ρ hW (by omega) (by omega) (k1₉.trans e) ?_
      refine ih₉ (oo + 1) dl A₉ ag eg fg ma my ρ (by omega) (by omega) hMr hA hW hag (fun ag' eg' fg' ma' my' ρ' W' g' r' o' b' => ?_)
      have q₉ := hK₉ ag' eg' fg' ma' my' ρ' W' (by show agOK ag' (fa v₉ r₉ (aLook v₉ c A₉)); unfold aLook; rw [if_pos e]; exact g') (by
        show ((if c = 46 then [] else [oo]) ++ lpos r₉ (oo + 1)).map _ = (if c = 46 then [] else [(A₉.1 (c - 97), A₉.2 (c - 97))]) ++ fRec v₉ r₉ (aLook v₉ c A₉)
        rw [if_pos e, if_pos e, List.nil_append, List.nil_append, r']; unfold aLook; rw [if_pos e]) (fun z₉ hz => o' z₉ (by rw [eL] at hz; omega)) b'
      rw [eL, show oo + ((1 + tLen r₉ : Nat) : Int) = oo + 1 + tLen r₉ by omega] at q₉
      exact q₉
    · have hcc : 97 ≤ c ∧ c ≤ 102 := by unfold okc at hc₉; omega
      refine hlook oo dl A₉ ag eg fg ma my ρ hW (by omega) (by omega) (by omega) hA hag (fun ag1 ρ1 W1₉ g1 => ?_)
      rw [k1₉] at W1₉ g1
      refine ih₉ (oo + 1) dl (aLook v₉ c A₉) ag1 eg fg _ _ ρ1 (by omega) (by omega) hMr (rgV_look hA hv.1 hc₉) W1₉ g1 (fun ag' eg' fg' ma' my' ρ' W' g' r' o' b' => ?_)
      have q₉ := hK₉ ag' eg' fg' ma' my' ρ' W' g' (by
        show ((if c = 46 then [] else [oo]) ++ lpos r₉ (oo + 1)).map _ = (if c = 46 then [] else [(A₉.1 (c - 97), A₉.2 (c - 97))]) ++ fRec v₉ r₉ (aLook v₉ c A₉)
        rw [if_neg e, if_neg e, List.map_append, r']
        have o2 := o' oo (by omega)
        rw [up_self, up_self] at o2
        show [(ma' oo, my' oo)] ++ _ = _
        rw [o2.1, o2.2]) (fun z₉ hz => by
          rw [eL] at hz
          have o2 := o' z₉ (by omega)
          rw [up_ne _ _ (by omega), up_ne _ _ (by omega)] at o2
          exact o2) b'
      rw [eL, show oo + ((1 + tLen r₉ : Nat) : Int) = oo + 1 + tLen r₉ by omega] at q₉
      exact q₉
  · intro a₉ b₉ r₉ ha₉ hb₉ hr iha ihb ih₉ oo dl A₉ ag eg fg ma my ρ ho hd₉ hM₉ hA hW hag hK₉
    have eL : tLen (.append (.append a₉ b₉) r₉) = 3 + tLen a₉ + tLen b₉ + tLen r₉ := rfl
    have eD : tDep (.append (.append a₉ b₉) r₉) = max (1 + max (tDep a₉) (tDep b₉)) (tDep r₉) := rfl
    rw [eL] at ho
    rw [eD] at hd₉
    obtain ⟨⟨k1₉, -, -, k2₉, k3₉, -⟩, hMa, hMb, hMr⟩ := hM₉
    refine hopen oo dl A₉ ag eg fg ma my ρ hW (by omega) (by omega) (Or.inl k1₉) hag (fun eg1 ρ1 W1₉ l1 b1 => ?_)
    refine iha (oo + 1) (dl + 1) A₉ ag eg1 fg ma my ρ1 (by omega) (by omega) hMa hA W1₉ hag (fun ag2 eg2 fg2 ma2 my2 ρ2 W2₉ g2 r2 o2 b2 => ?_)
    refine hbar (oo + 1 + tLen a₉) dl (fa v₉ a₉ A₉) A₉ ag2 eg2 fg2 ma2 my2 ρ2 W2₉ (by omega) (by omega) k2₉ g2 (l1.lo b2 (by omega)) (fun ag3 fg3 ρ3 W3 l3 g3₉ b3 => ?_)
    rw [show oo + 1 + (tLen a₉ : Int) + 1 = oo + 2 + tLen a₉ by omega]
    refine ihb (oo + 2 + tLen a₉) (dl + 1) A₉ ag3 eg2 fg3 ma2 my2 ρ3 (by omega) (by omega) hMb hA W3 g3₉ (fun ag4 eg4 fg4 ma4 my4 ρ4 W4 g4 r4 o4₉ b4 => ?_)
    have ra := rgV_fa hv.1 a₉ ha₉ A₉ hA
    have rb := rgV_fa hv.1 b₉ hb₉ A₉ hA
    refine hclose (oo + 2 + tLen a₉ + tLen b₉) dl (fa v₉ a₉ A₉) (fa v₉ b₉ A₉) ag4 eg4 fg4 ma4 my4 ρ4 W4 (by omega) (by omega) k3₉ ra rb g4 (l3.lo2 b4 (by omega)) (fun ag5 ρ5 W5 g5₉ => ?_)
    rw [show oo + 2 + (tLen a₉ : Int) + tLen b₉ + 1 = oo + 3 + tLen a₉ + tLen b₉ by omega]
    refine ih₉ (oo + 3 + tLen a₉ + tLen b₉) dl _ ag5 eg4 fg4 ma4 my4 ρ5 (by omega) (by omega) hMr (rgV_join ra rb) W5 g5₉ (fun ag6 eg6 fg6 ma6 my6 ρ6 W6 g6 r6 o6 b6 => ?_)
    have q₉ := hK₉ ag6 eg6 fg6 ma6 my6 ρ6 W6 g6 (by
      show (lpos a₉ (oo + 1) ++ lpos b₉ (oo + 2 + tLen a₉) ++ lpos r₉ (oo + 3 + tLen a₉ + tLen b₉)).map _ = fRec v₉ a₉ A₉ ++ fRec v₉ b₉ A₉ ++ fRec v₉ r₉ (aJoin (fa v₉ a₉ A₉) (fa v₉ b₉ A₉))
      have e4₉ := lpos_map (o := oo + 2 + tLen a₉) hb₉ (fun z₉ z0 z1 => o6 z₉ (Or.inl (by omega)))
      have e2₉ := lpos_map (o := oo + 1) ha₉ (fun z₉ z0 z1 => (o4₉.tr o6 (xo9 := oo + 2 + tLen a₉) (yo9 := tLen b₉ + 1 + tLen r₉) (by omega)) z₉ (Or.inl (by omega)))
      rw [List.map_append, List.map_append, r6, e4₉, r4, e2₉, r2]) (by rw [eL]; exact (o2.tr (o4₉.tr o6 (xo9 := oo + 2 + tLen a₉) (yo9 := tLen b₉ + 1 + tLen r₉) (by omega)) (by omega))) ((b1.tr (b2.tr (b3.tr (b4.tr b6 (kk9 := dl) (by omega)) (kk9 := dl) (by omega)) (kk9 := dl) (by omega)) (by omega)))
    rw [eL, show oo + ((3 + tLen a₉ + tLen b₉ + tLen r₉ : Nat) : Int) = oo + 3 + tLen a₉ + tLen b₉ + tLen r₉ by omega] at q₉
    exact q₉
  · intro n₉ a₉ r₉ hn ha₉ hr iha ih₉ oo dl A₉ ag eg fg ma my ρ ho hd₉ hM₉ hA hW hag hK₉
    have eL : tLen (.append (.tag n₉ a₉) r₉) = 2 + tLen a₉ + tLen r₉ := rfl
    have eD : tDep (.append (.tag n₉ a₉) r₉) = max (1 + tDep a₉) (tDep r₉) := rfl
    rw [eL] at ho
    rw [eD] at hd₉
    obtain ⟨⟨k1₉, -, k2₉, k3₉⟩, hMa, hMr⟩ := hM₉
    have lp : ∀ (m : Nat) (X₉ : AG₉) (ag1 eg1 fg1 ma1 my1 : Int → Int) (ρ1 : Nat → va_E), 37 ≤ phi X₉ + m → rgV v₉ X₉ → foW E σ ρ1 ag1 eg1 fg1 ma1 my1 → agOK ag1 X₉ → lvOK eg1 dl X₉ → outE (oo + 1) (tLen a₉) ma my ma1 my1 → lowE dl eg fg eg1 fg1 → (∀ ag' eg' fg' ma' my' ρ', foW E σ ρ' ag' eg' fg' ma' my' → agOK ag' (aFix (fa v₉ a₉) m X₉) → (lpos a₉ (oo + 1)).map (fun p => (ma' p, my' p)) = fRec v₉ a₉ (aFix (fa v₉ a₉) m X₉) → outE (oo + 1) (tLen a₉) ma my ma' my' → lowE dl eg fg eg' fg' → H₉ ρ' (oo + 2 + tLen a₉) dl) → H₉ ρ1 (oo + 1) (dl + 1) := by
      intro m
      induction m with
      | zero =>
        intro X₉ ag1 eg1 fg1 ma1 my1 ρ1 hp hX
        have := phi_rg (hX.toA hv.2)
        exfalso; omega
      | succ m im =>
        intro X₉ ag1 eg1 fg1 ma1 my1 ρ1 hp hX W1₉ g1 l1 o1 b1 hK1
        refine iha (oo + 1) (dl + 1) X₉ ag1 eg1 fg1 ma1 my1 ρ1 (by omega) (by omega) hMa hX W1₉ g1 (fun ag2 eg2 fg2 ma2 my2 ρ2 W2₉ g2 r2 o2 b2 => ?_)
        have rx₉ := rgV_fa hv.1 a₉ ha₉ X₉ hX
        refine hback (oo + 1 + tLen a₉) dl oo X₉ (fa v₉ a₉ X₉) ag2 eg2 fg2 ma2 my2 ρ2 W2₉ (by omega) (by omega) k2₉ k3₉ hX rx₉ g2 (l1.lo b2 (by omega)) (fun hns ag3 eg3 ρ3 W3 g3₉ l3 b3 => ?_) (fun hsm ag3 ρ3 W3 g3₉ => ?_)
        · have hg := phi_grow hns
          refine im (aJoin X₉ (fa v₉ a₉ X₉)) ag3 eg3 fg2 ma2 my2 ρ3 (by omega) (rgV_join hX rx₉) W3 g3₉ l3 (o1.tr o2 (by omega)) (b1.tr (b2.tr b3 (kk9 := dl) (by omega)) (by omega)) ?_
          have ef : aFix (fa v₉ a₉) (m + 1) X₉ = aFix (fa v₉ a₉) m (aJoin X₉ (fa v₉ a₉ X₉)) := by
            show @ite AG₉ (aSame X₉ (fa v₉ a₉ X₉)) (Classical.propDecidable _) X₉ (aFix (fa v₉ a₉) m (aJoin X₉ (fa v₉ a₉ X₉))) = _
            rw [if_neg hns]
          rw [ef] at hK1
          exact hK1
        · have ef : aFix (fa v₉ a₉) (m + 1) X₉ = X₉ := by
            show @ite AG₉ (aSame X₉ (fa v₉ a₉ X₉)) (Classical.propDecidable _) X₉ (aFix (fa v₉ a₉) m (aJoin X₉ (fa v₉ a₉ X₉))) = _
            rw [if_pos hsm]
          rw [ef] at hK1
          rw [show oo + 1 + (tLen a₉ : Int) + 1 = oo + 2 + tLen a₉ by omega]
          exact hK1 ag3 eg2 fg2 ma2 my2 ρ3 W3 g3₉ r2 (o1.tr o2 (by omega)) (b1.tr b2 (by omega))
    refine hopen oo dl A₉ ag eg fg ma my ρ hW (by omega) (by omega) (Or.inr (by omega)) hag (fun eg1 ρ1 W1₉ l1 b1 => ?_)
    have hph := phi_rg (hA.toA hv.2)
    refine lp 37 A₉ ag eg1 fg ma my ρ1 (by omega) hA W1₉ hag l1 (fun z₉ _ => ⟨rfl, rfl⟩) b1 (fun ag5 eg5 fg5 ma5 my5 ρ5 W5 g5₉ r5₉ o5₉ b5 => ?_)
    refine ih₉ (oo + 2 + tLen a₉) dl _ ag5 eg5 fg5 ma5 my5 ρ5 (by omega) (by omega) hMr (rgV_fix (fun X₉ hX => rgV_fa hv.1 a₉ ha₉ X₉ hX) 37 A₉ hA) W5 g5₉ (fun ag6 eg6 fg6 ma6 my6 ρ6 W6 g6 r6 o6 b6 => ?_)
    have q₉ := hK₉ ag6 eg6 fg6 ma6 my6 ρ6 W6 g6 (by
      show (lpos a₉ (oo + 1) ++ lpos r₉ (oo + 2 + tLen a₉)).map _ = fRec v₉ a₉ (aFix (fa v₉ a₉) 37 A₉) ++ fRec v₉ r₉ (aFix (fa v₉ a₉) 37 A₉)
      have e2₉ := lpos_map (o := oo + 1) ha₉ (fun z₉ z0 z1 => o6 z₉ (Or.inl (by omega)))
      rw [List.map_append, r6, e2₉, r5₉]) (by rw [eL]; exact o5₉.tr o6 (by omega)) (b5.tr b6 (by omega))
    rw [eL, show oo + ((2 + tLen a₉ + tLen r₉ : Nat) : Int) = oo + 2 + tLen a₉ + tLen r₉ by omega] at q₉
    exact q₉
