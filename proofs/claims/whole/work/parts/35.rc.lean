/-! What the reader's draft tells₉ of₉ a₉ text₉ that is₉ being read₉. -/
theorem tChs_le : ∀ t₉, wf t₉ → tChs t₉ ≤ tLen t₉ ∧ tLps t₉ ≤ tLen t₉ := by
  refine tInd ⟨Nat.le_refl _, Nat.le_refl _⟩ (fun c r₉ _ _ ih₉ => ?_) (fun a₉ b₉ r₉ _ _ _ iha ihb ih₉ => ?_) (fun n₉ a₉ r₉ _ _ _ iha ih₉ => ?_)
  · show tChs r₉ ≤ 1 + tLen r₉ ∧ tLps r₉ ≤ 1 + tLen r₉; omega
  · show 1 + tChs a₉ + tChs b₉ + tChs r₉ ≤ 3 + tLen a₉ + tLen b₉ + tLen r₉ ∧ tLps a₉ + tLps b₉ + tLps r₉ ≤ 3 + tLen a₉ + tLen b₉ + tLen r₉; omega
  · show tChs a₉ + tChs r₉ ≤ 2 + tLen a₉ + tLen r₉ ∧ 1 + tLps a₉ + tLps r₉ ≤ 2 + tLen a₉ + tLen r₉; omega
theorem zCh_le : ∀ s : Zs, zW s → (0 ≤ zCh s ∧ zCh s ≤ zO s) ∧ 0 ≤ zLp s ∧ zLp s ≤ zO s
  | [], _ => by show ((0 : Int) ≤ 0 ∧ (0 : Int) ≤ 0) ∧ (0 : Int) ≤ 0 ∧ (0 : Int) ≤ 0; omega
  | f₉ :: s, h => by
    have ih₉ := zCh_le s h.2.2.2
    have e1₉ := tChs_le _ h.1
    have e2₉ := tChs_le _ h.2.1
    show (0 ≤ zCh s + tChs f₉.1 + (if f₉.2.1 = -1 then 1 + (tChs f₉.2.2 : Int) else if f₉.2.1 = 0 then 1 else 0) ∧ zCh s + tChs f₉.1 + (if f₉.2.1 = -1 then 1 + (tChs f₉.2.2 : Int) else if f₉.2.1 = 0 then 1 else 0) ≤ zO s + tLen f₉.1 + 1 + (if f₉.2.1 = -1 then 1 + (tLen f₉.2.2 : Int) else 0)) ∧ 0 ≤ zLp s + tLps f₉.1 + (if f₉.2.1 = -1 then (tLps f₉.2.2 : Int) else if f₉.2.1 = 0 then 0 else 1) ∧ zLp s + tLps f₉.1 + (if f₉.2.1 = -1 then (tLps f₉.2.2 : Int) else if f₉.2.1 = 0 then 0 else 1) ≤ zO s + tLen f₉.1 + 1 + (if f₉.2.1 = -1 then 1 + (tLen f₉.2.2 : Int) else 0)
    repeat' split
    all_goals omega
theorem zB_ext {lw lw' ll ll' : Int → Int} {lk₉ : Int} : ∀ s : Zs, zK s ≤ lk₉ → (∀ z₉ : Int, z₉ < zO s → lw' z₉ = lw z₉) → (∀ z₉ : Int, z₉ < lk₉ → ll' z₉ = ll z₉) → zB₉ lw ll lk₉ s → zB₉ lw' ll' lk₉ s
  | [], _, _, _, _ => trivial
  | f₉ :: s, hk, h1, h2, h => by
    have hm₉ : zO (f₉ :: s) = zO s + tLen f₉.1 + 1 + (if f₉.2.1 = -1 then 1 + (tLen f₉.2.2 : Int) else 0) := rfl
    have hkk : zK (f₉ :: s) = zK s + tLks f₉.1 + (if f₉.2.1 = -1 then (tLks f₉.2.2 : Int) else 0) := rfl
    have hms : zO s + tLen f₉.1 + 1 ≤ zO (f₉ :: s) := by rw [hm₉]; split <;> omega
    have hks : zK s + tLks f₉.1 ≤ zK (f₉ :: s) := by rw [hkk]; split <;> omega
    refine ⟨fun e => ?_, zB_ext s (by omega) (fun z₉ hz => h1 z₉ (by omega)) h2 h.2⟩
    rw [h1 _ (by omega), h.1 e]
    exact (lf_ext _ (fun z₉ a1₉ a2 => h2 z₉ (by omega))).symm
theorem zB_look {op₉ lw lw' ll : Int → Int} {lk₉ x₉ : Int} : ∀ s : Zs, zW s → zOp op₉ s → zK s ≤ lk₉ → (∀ i₉ : Nat, i₉ < s.length → lw' (op₉ i₉) = orb (lw (op₉ i₉)) x₉) → zB₉ lw ll lk₉ s → zB₉ lw' (up ll lk₉ x₉) (lk₉ + 1) s
  | [], _, _, _, _, _ => trivial
  | f₉ :: s, hW, hop, hk, h1, h => by
    have hm₉ : zO (f₉ :: s) = zO s + tLen f₉.1 + 1 + (if f₉.2.1 = -1 then 1 + (tLen f₉.2.2 : Int) else 0) := rfl
    have hkk : zK (f₉ :: s) = zK s + tLks f₉.1 + (if f₉.2.1 = -1 then (tLks f₉.2.2 : Int) else 0) := rfl
    have hks : zK s + tLks f₉.1 ≤ zK (f₉ :: s) := by rw [hkk]; split <;> omega
    refine ⟨fun e => ?_, zB_look s hW.2.2.2 hop.2 (by omega) (fun i₉ hi₉ => h1 i₉ (by show i₉ < s.length + 1; omega)) h.2⟩
    have e1₉ := hop.1
    have e2₉ := h1 s.length (by show s.length < s.length + 1; omega)
    rw [hm₉, if_neg (by omega)] at e1₉
    rw [show op₉ s.length = zO s + tLen f₉.1 by omega, h.1 e] at e2₉
    rw [e2₉, show (lk₉ + 1 - (zK s + tLks f₉.1)).toNat = (lk₉ - (zK s + tLks f₉.1)).toNat + 1 by omega]
    show _ = orb (lf₉ (up ll lk₉ x₉) (zK s + tLks f₉.1) (lk₉ - (zK s + tLks f₉.1)).toNat) (up ll lk₉ x₉ (zK s + tLks f₉.1 + ((lk₉ - (zK s + tLks f₉.1)).toNat : Nat)))
    rw [lf_ext _ (fun z₉ a1₉ a2 => up_ne _ _ (by omega)), show zK s + tLks f₉.1 + ((lk₉ - (zK s + tLks f₉.1)).toNat : Nat) = lk₉ by omega, up_self]
/-- the draft tells₉ what was read₉ so far₉ -/
def RC (op₉ : Int → Int) (d₉ : Int) (sg vl mt₉ lw ll la : Int → Int) (sz₉ lk₉ ch₉ lp dp ln : Int) (s : Zs) (u₉ : Tr) : Prop := okP sg vl mt₉ lw ll la sz₉ lk₉ ch₉ lp dp ln ∧ d₉ = s.length ∧ zW s ∧ zOp op₉ s ∧ zC sg vl mt₉ lw ll la s ∧ zB₉ lw ll lk₉ s ∧ wf u₉ ∧ PA₉ sg vl mt₉ lw ll la u₉ (zO s) (zK s) (zL s) ∧ sz₉ = zO s + tLen u₉ ∧ lk₉ = zK s + tLks u₉ ∧ ch₉ = zCh s + tChs u₉ ∧ lp = zLp s + tLps u₉ ∧ dp = max (zDp s) (s.length + tDep u₉) ∧ ln = lf₉ ll 0 lk₉.toNat ∧ s.length ≤ 3
theorem RC.work {op₉ sg vl mt₉ lw ll la : Int → Int} {d₉ sz₉ lk₉ ch₉ lp dp ln : Int} {s : Zs} {u₉ : Tr} (h : RC op₉ d₉ sg vl mt₉ lw ll la sz₉ lk₉ ch₉ lp dp ln s u₉) (hs : sz₉ < 80) : RC op₉ d₉ (up sg sz₉ 1) (up vl sz₉ 0) (up mt₉ sz₉ sz₉) (up lw sz₉ 0) ll la (sz₉ + 1) lk₉ ch₉ lp dp ln s (tSn u₉ (.nest 46 .nil)) := by
  obtain ⟨ho, hd₉, hW, hop, hC, hB₉, hu, hpa, hsz, hlk, hch, hlp, hdp, hln, h3⟩ := h
  have g0 := zO_rg s
  have k0₉ := zK_rg s
  have b1 := ho.1
  have b2 := ho.2.1
  have e1₉ := tLen_sn u₉ hu (.nest 46 .nil)
  have e2₉ := tLks_sn u₉ hu (.nest 46 .nil)
  have e3₉ := tChs_sn u₉ hu (.nest 46 .nil)
  have e4₉ := tLps_sn u₉ hu (.nest 46 .nil)
  have e5₉ := tDep_sn u₉ hu (.nest 46 .nil)
  have f1₉ : tLen (.append (.nest 46 .nil) .nil) = 1 := rfl
  have f2₉ : tLks (.append (.nest 46 .nil) .nil) = 0 := rfl
  have f3₉ : tChs (.append (.nest 46 .nil) .nil) = 0 := rfl
  have f4₉ : tLps (.append (.nest 46 .nil) .nil) = 0 := rfl
  have f5₉ : tDep (.append (.nest 46 .nil) .nil) = 0 := rfl
  refine ⟨ho.add (by omega) (by omega) (by omega), hd₉, hW, hop, zC_ext s hW hop (fun z₉ hz => ⟨up_ne _ _ (by omega), up_ne _ _ (by omega), up_ne _ _ (by omega), fun _ => up_ne _ _ (by omega)⟩) (fun z₉ hz => ⟨rfl, rfl⟩) hC, zB_ext s (by omega) (fun z₉ hz => up_ne _ _ (by omega)) (fun z₉ hz => rfl) hB₉, wf_sn u₉ hu _ ⟨Or.inr rfl, trivial⟩, PA_sn u₉ hu _ _ _ _ (PA_ext u₉ hu _ _ _ (fun z₉ a1₉ a2 => ⟨up_ne _ _ (by omega), up_ne _ _ (by omega), up_ne _ _ (by omega), up_ne _ _ (by omega)⟩) (fun z₉ a1₉ a2 => ⟨rfl, rfl⟩) hpa) ⟨?_, trivial⟩, by omega, by omega, by omega, by omega, by omega, hln, h3⟩
  rw [if_pos rfl, ← hsz, up_self]
theorem RC.look {op₉ sg vl mt₉ lw ll la : Int → Int} {d₉ sz₉ lk₉ ch₉ lp dp ln : Int} {s : Zs} {u₉ : Tr} {c : Int} (h : RC op₉ d₉ sg vl mt₉ lw ll la sz₉ lk₉ ch₉ lp dp ln s u₉) (hs : sz₉ < 80) (hk : lk₉ < 24) (hc₉ : 97 ≤ c ∧ c ≤ 102) : RC op₉ d₉ (up sg sz₉ 0) (up vl sz₉ lk₉) (up mt₉ sz₉ sz₉) (lwU op₉ (c - 97) (up lw sz₉ 0) d₉.toNat) (up ll lk₉ (c - 97)) (up la lk₉ (zL s)) (sz₉ + 1) (lk₉ + 1) ch₉ lp dp (orb ln (c - 97)) s (tSn u₉ (.nest c .nil)) := by
  obtain ⟨ho, hd₉, hW, hop, hC, hB₉, hu, hpa, hsz, hlk, hch, hlp, hdp, hln, h3⟩ := h
  have g0 := zO_rg s
  have k0₉ := zK_rg s
  have b1 := ho.1
  have b2 := ho.2.1
  have e1₉ := tLen_sn u₉ hu (.nest c .nil)
  have e2₉ := tLks_sn u₉ hu (.nest c .nil)
  have e3₉ := tChs_sn u₉ hu (.nest c .nil)
  have e4₉ := tLps_sn u₉ hu (.nest c .nil)
  have e5₉ := tDep_sn u₉ hu (.nest c .nil)
  have f1₉ : tLen (.append (.nest c .nil) .nil) = 1 := rfl
  have f2₉ : tLks (.append (.nest c .nil) .nil) = 1 := by show (if c = 46 then 0 else 1) + 0 = 1; rw [if_neg (by omega)]
  have f3₉ : tChs (.append (.nest c .nil) .nil) = 0 := rfl
  have f4₉ : tLps (.append (.nest c .nil) .nil) = 0 := rfl
  have f5₉ : tDep (.append (.nest c .nil) .nil) = 0 := rfl
  have hlr := zL_rg s
  have hlt := zOp_lt s hop
  have hdn : d₉.toNat = s.length := by omega
  rw [hdn]
  have ok1 := (ho.add (x₉ := 0) (v₉ := lk₉) (by omega) (by omega) (by omega)).look (x₉ := c - 97) (v₉ := zL s) (by omega) (by omega) (by omega)
  refine ⟨ok1.lw (lwU_rg (by omega) (fun z₉ h1 h2 => (ok1.2.2.2.2.2.2.1 z₉ h1 h2).2.2.2) s.length (fun i₉ hi₉ => by have := hlt i₉ hi₉; omega)), hd₉, hW, hop, zC_ext s hW hop (fun z₉ hz => ⟨up_ne _ _ (by omega), up_ne _ _ (by omega), up_ne _ _ (by omega), fun q₉ => (lwU_ne _ z₉ q₉).trans (up_ne _ _ (by omega))⟩) (fun z₉ hz => ⟨up_ne _ _ (by omega), up_ne _ _ (by omega)⟩) hC, zB_look s hW hop (by omega) (fun i₉ hi₉ => ?_) hB₉, wf_sn u₉ hu _ ⟨Or.inl hc₉, trivial⟩, PA_sn u₉ hu _ _ _ _ (PA_ext u₉ hu _ _ _ (fun z₉ a1₉ a2 => ⟨up_ne _ _ (by omega), up_ne _ _ (by omega), up_ne _ _ (by omega), (lwU_ne _ z₉ (fun i₉ hi₉ => by have := hlt i₉ hi₉; omega)).trans (up_ne _ _ (by omega))⟩) (fun z₉ a1₉ a2 => ⟨up_ne _ _ (by omega), up_ne _ _ (by omega)⟩) hpa) ⟨?_, trivial⟩, by omega, by omega, by omega, by omega, by omega, ?_, h3⟩
  · rw [lwU_at _ i₉ hi₉ (zOp_ne s hop), up_ne _ _ (by have := hlt i₉ hi₉; omega)]
  · rw [if_neg (show ¬ c = 46 by omega), ← hsz, ← hlk, up_self, up_self, up_self, up_self]
    exact ⟨rfl, rfl, rfl, rfl⟩
  · rw [show (lk₉ + 1).toNat = lk₉.toNat + 1 by omega]
    show _ = orb (lf₉ (up ll lk₉ (c - 97)) 0 lk₉.toNat) (up ll lk₉ (c - 97) (0 + (lk₉.toNat : Nat)))
    rw [lf_ext _ (fun z₉ a1₉ a2 => up_ne _ _ (by omega)), show (0 : Int) + (lk₉.toNat : Nat) = lk₉ by omega, up_self, ← hln]
theorem RC.choice {op₉ sg vl mt₉ lw ll la : Int → Int} {d₉ sz₉ lk₉ ch₉ lp dp ln : Int} {s : Zs} {u₉ : Tr} (h : RC op₉ d₉ sg vl mt₉ lw ll la sz₉ lk₉ ch₉ lp dp ln s u₉) (hs : sz₉ < 80) (h2 : d₉ < 3) : RC (up op₉ d₉ sz₉) (d₉ + 1) (up sg sz₉ 2) (up vl sz₉ 0) (up mt₉ sz₉ sz₉) (up lw sz₉ 0) ll la (sz₉ + 1) lk₉ (ch₉ + 1) lp (max dp (d₉ + 1)) ln ((u₉, 0, .nil) :: s) .nil := by
  obtain ⟨ho, hd₉, hW, hop, hC, hB₉, hu, hpa, hsz, hlk, hch, hlp, hdp, hln, h3⟩ := h
  have g0 := zO_rg s
  have k0₉ := zK_rg s
  have b1 := ho.1
  have b2 := ho.2.1
  have eO : zO ((u₉, 0, .nil) :: s) = zO s + tLen u₉ + 1 + 0 := rfl
  have eK : zK ((u₉, 0, .nil) :: s) = zK s + tLks u₉ + 0 := rfl
  have eC₉ : zCh ((u₉, 0, .nil) :: s) = zCh s + tChs u₉ + 1 := rfl
  have eP : zLp ((u₉, 0, .nil) :: s) = zLp s + tLps u₉ + 0 := rfl
  have eD : zDp ((u₉, 0, .nil) :: s) = max (max (zDp s) (s.length + tDep u₉)) (s.length + 1 + 0) := rfl
  have n1₉ : tLen Std.Format.nil = 0 := rfl
  have n2₉ : tLks Std.Format.nil = 0 := rfl
  have n3₉ : tChs Std.Format.nil = 0 := rfl
  have n4₉ : tLps Std.Format.nil = 0 := rfl
  have n5₉ : tDep Std.Format.nil = 0 := rfl
  have hl : ((u₉, (0 : Int), Std.Format.nil) :: s).length = s.length + 1 := rfl
  have bb := zCh_le s hW
  have bu := tChs_le u₉ hu
  refine ⟨(ho.add (by omega) (by omega) (by omega)).num (by omega) ho.2.2.2.1 (by have := ho.2.2.2.2.1; omega), by omega, ⟨hu, trivial, by show (-1 : Int) ≤ 0 ∧ (0 : Int) ≤ 9; omega, hW⟩, ⟨?_, zOp_ext s (fun i₉ hi₉ => up_ne _ _ (by omega)) hop⟩, ⟨PA_ext u₉ hu _ _ _ (fun z₉ a1₉ a2 => ⟨up_ne _ _ (by omega), up_ne _ _ (by omega), up_ne _ _ (by omega), up_ne _ _ (by omega)⟩) (fun z₉ a1₉ a2 => ⟨rfl, rfl⟩) hpa, fun _ => ?_, fun (q₉ : (0 : Int) = -1) => absurd q₉ (by decide), fun (q₉ : (1 : Int) ≤ 0) => absurd q₉ (by decide), zC_ext s hW hop (fun z₉ hz => ⟨up_ne _ _ (by omega), up_ne _ _ (by omega), up_ne _ _ (by omega), fun _ => up_ne _ _ (by omega)⟩) (fun z₉ hz => ⟨rfl, rfl⟩) hC⟩, ⟨fun (q₉ : (1 : Int) ≤ 0) => absurd q₉ (by decide), zB_ext s (by omega) (fun z₉ hz => up_ne _ _ (by omega)) (fun z₉ hz => rfl) hB₉⟩, trivial, trivial, by omega, by omega, by omega, by omega, by omega, hln, by omega⟩
  · rw [eO, hd₉, up_self]; omega
  · show up sg sz₉ 2 (zO s + tLen u₉) = 2
    rw [← hsz, up_self]
theorem RC.loop {op₉ sg vl mt₉ lw ll la : Int → Int} {d₉ sz₉ lk₉ ch₉ lp dp ln : Int} {s : Zs} {u₉ : Tr} {fg : Int} (h : RC op₉ d₉ sg vl mt₉ lw ll la sz₉ lk₉ ch₉ lp dp ln s u₉) (hs : sz₉ < 80) (h2 : d₉ < 3) (hf : 1 ≤ fg ∧ fg ≤ 9) : RC (up op₉ d₉ sz₉) (d₉ + 1) (up sg sz₉ 5) (up vl sz₉ fg) (up mt₉ sz₉ sz₉) (up lw sz₉ 0) ll la (sz₉ + 1) lk₉ ch₉ (lp + 1) (max dp (d₉ + 1)) ln ((u₉, fg, .nil) :: s) .nil := by
  obtain ⟨ho, hd₉, hW, hop, hC, hB₉, hu, hpa, hsz, hlk, hch, hlp, hdp, hln, h3⟩ := h
  have g0 := zO_rg s
  have k0₉ := zK_rg s
  have b1 := ho.1
  have b2 := ho.2.1
  have eO : zO ((u₉, fg, .nil) :: s) = zO s + tLen u₉ + 1 + (if fg = -1 then 1 + ((tLen Std.Format.nil : Nat) : Int) else 0) := rfl
  have eK : zK ((u₉, fg, .nil) :: s) = zK s + tLks u₉ + (if fg = -1 then ((tLks Std.Format.nil : Nat) : Int) else 0) := rfl
  have eC₉ : zCh ((u₉, fg, .nil) :: s) = zCh s + tChs u₉ + (if fg = -1 then 1 + ((tChs Std.Format.nil : Nat) : Int) else if fg = 0 then 1 else 0) := rfl
  have eP : zLp ((u₉, fg, .nil) :: s) = zLp s + tLps u₉ + (if fg = -1 then ((tLps Std.Format.nil : Nat) : Int) else if fg = 0 then 0 else 1) := rfl
  have eD : zDp ((u₉, fg, .nil) :: s) = max (max (zDp s) (s.length + tDep u₉)) (s.length + 1 + (if fg = -1 then ((tDep Std.Format.nil : Nat) : Int) else 0)) := rfl
  rw [if_neg (by omega)] at eO eK eD
  rw [if_neg (by omega), if_neg (by omega)] at eC₉ eP
  have n1₉ : tLen Std.Format.nil = 0 := rfl
  have n2₉ : tLks Std.Format.nil = 0 := rfl
  have n3₉ : tChs Std.Format.nil = 0 := rfl
  have n4₉ : tLps Std.Format.nil = 0 := rfl
  have n5₉ : tDep Std.Format.nil = 0 := rfl
  have hl : ((u₉, fg, Std.Format.nil) :: s).length = s.length + 1 := rfl
  have bb := zCh_le s hW
  have bu := tChs_le u₉ hu
  refine ⟨(ho.add (by omega) (by omega) (by omega)).num ho.2.2.1 (by omega) (by have := ho.2.2.2.2.1; omega), by omega, ⟨hu, trivial, by show (-1 : Int) ≤ fg ∧ fg ≤ 9; omega, hW⟩, ⟨?_, zOp_ext s (fun i₉ hi₉ => up_ne _ _ (by omega)) hop⟩, ⟨PA_ext u₉ hu _ _ _ (fun z₉ a1₉ a2 => ⟨up_ne _ _ (by omega), up_ne _ _ (by omega), up_ne _ _ (by omega), up_ne _ _ (by omega)⟩) (fun z₉ a1₉ a2 => ⟨rfl, rfl⟩) hpa, fun (q₉ : fg = 0) => absurd q₉ (by omega), fun (q₉ : fg = -1) => absurd q₉ (by omega), fun _ => ?_, zC_ext s hW hop (fun z₉ hz => ⟨up_ne _ _ (by omega), up_ne _ _ (by omega), up_ne _ _ (by omega), fun _ => up_ne _ _ (by omega)⟩) (fun z₉ hz => ⟨rfl, rfl⟩) hC⟩, ⟨fun q₉ => ?_, zB_ext s (by omega) (fun z₉ hz => up_ne _ _ (by omega)) (fun z₉ hz => rfl) hB₉⟩, trivial, trivial, by omega, by omega, by omega, by omega, by omega, hln, by omega⟩
  · rw [eO, hd₉, up_self]; omega
  · show up sg sz₉ 5 (zO s + tLen u₉) = 5 ∧ up vl sz₉ fg (zO s + tLen u₉) = fg
    rw [← hsz, up_self, up_self]; exact ⟨rfl, rfl⟩
  · show up lw sz₉ 0 (zO s + tLen u₉) = lf₉ ll (zK s + tLks u₉) (lk₉ - (zK s + tLks u₉)).toNat
    rw [← hsz, up_self, ← hlk, Int.sub_self]; rfl

theorem RC.turn {op₉ sg vl mt₉ lw ll la : Int → Int} {d₉ sz₉ lk₉ ch₉ lp dp ln : Int} {f₉ : Zf} {r₉ : Zs} {u₉ : Tr} (h : RC op₉ d₉ sg vl mt₉ lw ll la sz₉ lk₉ ch₉ lp dp ln (f₉ :: r₉) u₉) (hf : f₉.2.1 = 0) (hs : sz₉ < 80) : RC (up op₉ (d₉ - 1) sz₉) d₉ (up sg sz₉ 3) (up vl sz₉ 0) (up (up mt₉ sz₉ sz₉) (op₉ (d₉ - 1)) sz₉) (up lw sz₉ 0) ll la (sz₉ + 1) lk₉ ch₉ lp dp ln ((f₉.1, -1, u₉) :: r₉) .nil := by
  obtain ⟨ho, hd₉, hW, hop, hC, hB₉, hu, hpa, hsz, hlk, hch, hlp, hdp, hln, h3⟩ := h
  have g0 := zO_rg r₉
  have k0₉ := zK_rg r₉
  have b1 := ho.1
  have b2 := ho.2.1
  have hl : (f₉ :: r₉).length = r₉.length + 1 := rfl
  rw [hl] at hd₉ hdp h3
  have eO : zO (f₉ :: r₉) = zO r₉ + tLen f₉.1 + 1 + (if f₉.2.1 = -1 then 1 + (tLen f₉.2.2 : Int) else 0) := rfl
  have eK : zK (f₉ :: r₉) = zK r₉ + tLks f₉.1 + (if f₉.2.1 = -1 then (tLks f₉.2.2 : Int) else 0) := rfl
  have eC₉ : zCh (f₉ :: r₉) = zCh r₉ + tChs f₉.1 + (if f₉.2.1 = -1 then 1 + (tChs f₉.2.2 : Int) else if f₉.2.1 = 0 then 1 else 0) := rfl
  have eP : zLp (f₉ :: r₉) = zLp r₉ + tLps f₉.1 + (if f₉.2.1 = -1 then (tLps f₉.2.2 : Int) else if f₉.2.1 = 0 then 0 else 1) := rfl
  have eD : zDp (f₉ :: r₉) = max (max (zDp r₉) (r₉.length + tDep f₉.1)) (r₉.length + 1 + (if f₉.2.1 = -1 then (tDep f₉.2.2 : Int) else 0)) := rfl
  have eL : zL (f₉ :: r₉) = if 1 ≤ f₉.2.1 then zO r₉ + tLen f₉.1 else zL r₉ := rfl
  rw [if_neg (by omega)] at eO eK eD eL
  rw [if_neg (by omega), if_pos hf] at eC₉ eP
  have ePos : op₉ (d₉ - 1) = zO r₉ + tLen f₉.1 := by rw [show d₉ - 1 = (r₉.length : Int) by omega, hop.1, eO]; omega
  rw [ePos]
  have xO : zO ((f₉.1, -1, u₉) :: r₉) = zO r₉ + tLen f₉.1 + 1 + (1 + (tLen u₉ : Int)) := rfl
  have xK : zK ((f₉.1, -1, u₉) :: r₉) = zK r₉ + tLks f₉.1 + tLks u₉ := rfl
  have xC : zCh ((f₉.1, -1, u₉) :: r₉) = zCh r₉ + tChs f₉.1 + (1 + (tChs u₉ : Int)) := rfl
  have xP : zLp ((f₉.1, -1, u₉) :: r₉) = zLp r₉ + tLps f₉.1 + tLps u₉ := rfl
  have xD : zDp ((f₉.1, -1, u₉) :: r₉) = max (max (zDp r₉) (r₉.length + tDep f₉.1)) (r₉.length + 1 + tDep u₉) := rfl
  have n1₉ : tLen Std.Format.nil = 0 := rfl
  have n2₉ : tLks Std.Format.nil = 0 := rfl
  have n3₉ : tChs Std.Format.nil = 0 := rfl
  have n4₉ : tLps Std.Format.nil = 0 := rfl
  have n5₉ : tDep Std.Format.nil = 0 := rfl
  have xl : ((f₉.1, (-1 : Int), u₉) :: r₉).length = r₉.length + 1 := rfl
  refine ⟨(ho.add (by omega) (by omega) (by omega)).mate (by omega), by omega, ⟨hW.1, hu, by show (-1 : Int) ≤ -1 ∧ (-1 : Int) ≤ 9; omega, hW.2.2.2⟩, ⟨?_, zOp_ext r₉ (fun i₉ hi₉ => up_ne _ _ (by omega)) hop.2⟩, ⟨PA_ext _ hW.1 _ _ _ (fun z₉ a1₉ a2 => ⟨up_ne _ _ (by omega), up_ne _ _ (by omega), (up_ne _ _ (by omega)).trans (up_ne _ _ (by omega)), up_ne _ _ (by omega)⟩) (fun z₉ a1₉ a2 => ⟨rfl, rfl⟩) hC.1, fun (q₉ : (-1 : Int) = 0) => absurd q₉ (by decide), fun _ => ⟨?_, ?_, ?_, ?_⟩, fun (q₉ : (1 : Int) ≤ -1) => absurd q₉ (by decide), zC_ext r₉ hW.2.2.2 hop.2 (fun z₉ hz => ⟨up_ne _ _ (by omega), up_ne _ _ (by omega), (up_ne _ _ (by omega)).trans (up_ne _ _ (by omega)), fun _ => up_ne _ _ (by omega)⟩) (fun z₉ hz => ⟨rfl, rfl⟩) hC.2.2.2.2⟩, ⟨fun (q₉ : (1 : Int) ≤ -1) => absurd q₉ (by decide), zB_ext r₉ (by omega) (fun z₉ hz => up_ne _ _ (by omega)) (fun z₉ hz => rfl) hB₉.2⟩, trivial, trivial, by omega, by omega, by omega, by omega, by omega, hln, by omega⟩
  · rw [xO, show d₉ - 1 = (r₉.length : Int) by omega, up_self]; omega
  · show up sg sz₉ 3 (zO r₉ + tLen f₉.1) = 2
    rw [up_ne _ _ (by omega)]; exact hC.2.1 hf
  · show up (up mt₉ sz₉ sz₉) (zO r₉ + tLen f₉.1) sz₉ (zO r₉ + tLen f₉.1) = zO r₉ + tLen f₉.1 + 1 + tLen u₉
    rw [up_self]; omega
  · show up sg sz₉ 3 (zO r₉ + tLen f₉.1 + 1 + tLen u₉) = 3
    rw [show zO r₉ + tLen f₉.1 + 1 + tLen u₉ = sz₉ by omega, up_self]
  · show PA₉ (up sg sz₉ 3) (up vl sz₉ 0) (up (up mt₉ sz₉ sz₉) (zO r₉ + tLen f₉.1) sz₉) (up lw sz₉ 0) ll la u₉ (zO r₉ + tLen f₉.1 + 1) (zK r₉ + tLks f₉.1) (zL r₉)
    rw [eL, eO, eK, Int.add_zero, Int.add_zero] at hpa
    exact PA_ext _ hu _ _ _ (fun z₉ a1₉ a2 => ⟨up_ne _ _ (by omega), up_ne _ _ (by omega), (up_ne _ _ (by omega)).trans (up_ne _ _ (by omega)), up_ne _ _ (by omega)⟩) (fun z₉ a1₉ a2 => ⟨rfl, rfl⟩) hpa

theorem RC.endChoice {op₉ sg vl mt₉ lw ll la : Int → Int} {d₉ sz₉ lk₉ ch₉ lp dp ln : Int} {f₉ : Zf} {r₉ : Zs} {u₉ : Tr} (h : RC op₉ d₉ sg vl mt₉ lw ll la sz₉ lk₉ ch₉ lp dp ln (f₉ :: r₉) u₉) (hf : f₉.2.1 = -1) (hs : sz₉ < 80) : RC (up op₉ (d₉ - 1) sz₉) (d₉ - 1) (up sg sz₉ 4) (up vl sz₉ 0) (up (up mt₉ sz₉ sz₉) (op₉ (d₉ - 1)) sz₉) (up lw sz₉ 0) ll la (sz₉ + 1) lk₉ ch₉ lp dp ln r₉ (tSn f₉.1 (.append f₉.2.2 u₉)) := by
  obtain ⟨ho, hd₉, hW, hop, hC, hB₉, hu, hpa, hsz, hlk, hch, hlp, hdp, hln, h3⟩ := h
  have g0 := zO_rg r₉
  have k0₉ := zK_rg r₉
  have b1 := ho.1
  have b2 := ho.2.1
  have hl : (f₉ :: r₉).length = r₉.length + 1 := rfl
  rw [hl] at hd₉ hdp h3
  have eO : zO (f₉ :: r₉) = zO r₉ + tLen f₉.1 + 1 + (if f₉.2.1 = -1 then 1 + (tLen f₉.2.2 : Int) else 0) := rfl
  have eK : zK (f₉ :: r₉) = zK r₉ + tLks f₉.1 + (if f₉.2.1 = -1 then (tLks f₉.2.2 : Int) else 0) := rfl
  have eC₉ : zCh (f₉ :: r₉) = zCh r₉ + tChs f₉.1 + (if f₉.2.1 = -1 then 1 + (tChs f₉.2.2 : Int) else if f₉.2.1 = 0 then 1 else 0) := rfl
  have eP : zLp (f₉ :: r₉) = zLp r₉ + tLps f₉.1 + (if f₉.2.1 = -1 then (tLps f₉.2.2 : Int) else if f₉.2.1 = 0 then 0 else 1) := rfl
  have eD : zDp (f₉ :: r₉) = max (max (zDp r₉) (r₉.length + tDep f₉.1)) (r₉.length + 1 + (if f₉.2.1 = -1 then (tDep f₉.2.2 : Int) else 0)) := rfl
  have eL : zL (f₉ :: r₉) = if 1 ≤ f₉.2.1 then zO r₉ + tLen f₉.1 else zL r₉ := rfl
  rw [if_pos hf] at eO eK eC₉ eP eD
  rw [if_neg (by omega)] at eL
  have ePos : op₉ (d₉ - 1) = zO r₉ + tLen f₉.1 + 1 + tLen f₉.2.2 := by rw [show d₉ - 1 = (r₉.length : Int) by omega, hop.1, eO]; omega
  rw [ePos]
  have e0₉ := tLen_sn f₉.1 hW.1 (.append f₉.2.2 u₉)
  have f0₉ : tLen (.append (.append f₉.2.2 u₉) .nil) = 3 + tLen f₉.2.2 + tLen u₉ + 0 := rfl
  have e1₉ := tLks_sn f₉.1 hW.1 (.append f₉.2.2 u₉)
  have f1₉ : tLks (.append (.append f₉.2.2 u₉) .nil) = tLks f₉.2.2 + tLks u₉ + 0 := rfl
  have e2₉ := tChs_sn f₉.1 hW.1 (.append f₉.2.2 u₉)
  have f2₉ : tChs (.append (.append f₉.2.2 u₉) .nil) = 1 + tChs f₉.2.2 + tChs u₉ + 0 := rfl
  have e3₉ := tLps_sn f₉.1 hW.1 (.append f₉.2.2 u₉)
  have f3₉ : tLps (.append (.append f₉.2.2 u₉) .nil) = tLps f₉.2.2 + tLps u₉ + 0 := rfl
  have e4₉ := tDep_sn f₉.1 hW.1 (.append f₉.2.2 u₉)
  have f4₉ : tDep (.append (.append f₉.2.2 u₉) .nil) = max (1 + max (tDep f₉.2.2) (tDep u₉)) 0 := rfl
  refine ⟨(ho.add (by omega) (by omega) (by omega)).mate (by omega), by omega, hW.2.2.2, zOp_ext r₉ (fun i₉ hi₉ => up_ne _ _ (by omega)) hop.2, zC_ext r₉ hW.2.2.2 hop.2 (fun z₉ hz => ⟨up_ne _ _ (by omega), up_ne _ _ (by omega), (up_ne _ _ (by omega)).trans (up_ne _ _ (by omega)), fun _ => up_ne _ _ (by omega)⟩) (fun z₉ hz => ⟨rfl, rfl⟩) hC.2.2.2.2, zB_ext r₉ (by omega) (fun z₉ hz => up_ne _ _ (by omega)) (fun z₉ hz => rfl) hB₉.2, wf_sn _ hW.1 _ ⟨hW.2.1, hu, trivial⟩, PA_sn _ hW.1 _ _ _ _ (PA_ext _ hW.1 _ _ _ (fun z₉ a1₉ a2 => ⟨up_ne _ _ (by omega), up_ne _ _ (by omega), (up_ne _ _ (by omega)).trans (up_ne _ _ (by omega)), up_ne _ _ (by omega)⟩) (fun z₉ a1₉ a2 => ⟨rfl, rfl⟩) hC.1) ?_, by omega, by omega, by omega, by omega, by omega, hln, by omega⟩
  obtain ⟨k1₉, k2₉, k3₉, k4₉⟩ := hC.2.2.1 hf
  rw [eL, eO, eK] at hpa
  refine ⟨⟨?_, ?_, ?_⟩, PA_ext _ hW.2.1 _ _ _ (fun z₉ a1₉ a2 => ⟨up_ne _ _ (by omega), up_ne _ _ (by omega), (up_ne _ _ (by omega)).trans (up_ne _ _ (by omega)), up_ne _ _ (by omega)⟩) (fun z₉ a1₉ a2 => ⟨rfl, rfl⟩) k4₉, PA_ext _ hu _ _ _ (fun z₉ a1₉ a2 => ⟨up_ne _ _ (by omega), up_ne _ _ (by omega), (up_ne _ _ (by omega)).trans (up_ne _ _ (by omega)), up_ne _ _ (by omega)⟩) (fun z₉ a1₉ a2 => ⟨rfl, rfl⟩) ?_, trivial⟩
  · rw [up_ne _ _ (by omega)]; exact k1₉
  · rw [up_ne _ _ (by omega), up_ne _ _ (by omega)]; exact k2₉
  · rw [up_self]; omega
  · rw [show zO r₉ + tLen f₉.1 + 2 + tLen f₉.2.2 = zO r₉ + tLen f₉.1 + 1 + (1 + (tLen f₉.2.2 : Int)) by omega]; exact hpa

theorem RC.endLoop {op₉ sg vl mt₉ lw ll la : Int → Int} {d₉ sz₉ lk₉ ch₉ lp dp ln : Int} {f₉ : Zf} {r₉ : Zs} {u₉ : Tr} (h : RC op₉ d₉ sg vl mt₉ lw ll la sz₉ lk₉ ch₉ lp dp ln (f₉ :: r₉) u₉) (hf : 1 ≤ f₉.2.1 ∧ f₉.2.1 ≤ 9) (hs : sz₉ < 80) : RC (up op₉ (d₉ - 1) sz₉) (d₉ - 1) (up sg sz₉ 6) (up vl sz₉ 0) (up (up mt₉ sz₉ sz₉) (op₉ (d₉ - 1)) sz₉) (up lw sz₉ 0) ll la (sz₉ + 1) lk₉ ch₉ lp dp ln r₉ (tSn f₉.1 (.tag f₉.2.1.toNat u₉)) := by
  obtain ⟨ho, hd₉, hW, hop, hC, hB₉, hu, hpa, hsz, hlk, hch, hlp, hdp, hln, h3⟩ := h
  have g0 := zO_rg r₉
  have k0₉ := zK_rg r₉
  have b1 := ho.1
  have b2 := ho.2.1
  have hl : (f₉ :: r₉).length = r₉.length + 1 := rfl
  rw [hl] at hd₉ hdp h3
  have eO : zO (f₉ :: r₉) = zO r₉ + tLen f₉.1 + 1 + (if f₉.2.1 = -1 then 1 + (tLen f₉.2.2 : Int) else 0) := rfl
  have eK : zK (f₉ :: r₉) = zK r₉ + tLks f₉.1 + (if f₉.2.1 = -1 then (tLks f₉.2.2 : Int) else 0) := rfl
  have eC₉ : zCh (f₉ :: r₉) = zCh r₉ + tChs f₉.1 + (if f₉.2.1 = -1 then 1 + (tChs f₉.2.2 : Int) else if f₉.2.1 = 0 then 1 else 0) := rfl
  have eP : zLp (f₉ :: r₉) = zLp r₉ + tLps f₉.1 + (if f₉.2.1 = -1 then (tLps f₉.2.2 : Int) else if f₉.2.1 = 0 then 0 else 1) := rfl
  have eD : zDp (f₉ :: r₉) = max (max (zDp r₉) (r₉.length + tDep f₉.1)) (r₉.length + 1 + (if f₉.2.1 = -1 then (tDep f₉.2.2 : Int) else 0)) := rfl
  have eL : zL (f₉ :: r₉) = if 1 ≤ f₉.2.1 then zO r₉ + tLen f₉.1 else zL r₉ := rfl
  rw [if_neg (by omega)] at eO eK eD
  rw [if_pos hf.1] at eL
  rw [if_neg (by omega), if_neg (by omega)] at eC₉ eP
  have ePos : op₉ (d₉ - 1) = zO r₉ + tLen f₉.1 := by rw [show d₉ - 1 = (r₉.length : Int) by omega, hop.1, eO]; omega
  rw [ePos]
  have e0₉ := tLen_sn f₉.1 hW.1 (.tag f₉.2.1.toNat u₉)
  have f0₉ : tLen (.append (.tag f₉.2.1.toNat u₉) .nil) = 2 + tLen u₉ + 0 := rfl
  have e1₉ := tLks_sn f₉.1 hW.1 (.tag f₉.2.1.toNat u₉)
  have f1₉ : tLks (.append (.tag f₉.2.1.toNat u₉) .nil) = tLks u₉ + 0 := rfl
  have e2₉ := tChs_sn f₉.1 hW.1 (.tag f₉.2.1.toNat u₉)
  have f2₉ : tChs (.append (.tag f₉.2.1.toNat u₉) .nil) = tChs u₉ + 0 := rfl
  have e3₉ := tLps_sn f₉.1 hW.1 (.tag f₉.2.1.toNat u₉)
  have f3₉ : tLps (.append (.tag f₉.2.1.toNat u₉) .nil) = 1 + tLps u₉ + 0 := rfl
  have e4₉ := tDep_sn f₉.1 hW.1 (.tag f₉.2.1.toNat u₉)
  have f4₉ : tDep (.append (.tag f₉.2.1.toNat u₉) .nil) = max (1 + tDep u₉) 0 := rfl
  refine ⟨(ho.add (by omega) (by omega) (by omega)).mate (by omega), by omega, hW.2.2.2, zOp_ext r₉ (fun i₉ hi₉ => up_ne _ _ (by omega)) hop.2, zC_ext r₉ hW.2.2.2 hop.2 (fun z₉ hz => ⟨up_ne _ _ (by omega), up_ne _ _ (by omega), (up_ne _ _ (by omega)).trans (up_ne _ _ (by omega)), fun _ => up_ne _ _ (by omega)⟩) (fun z₉ hz => ⟨rfl, rfl⟩) hC.2.2.2.2, zB_ext r₉ (by omega) (fun z₉ hz => up_ne _ _ (by omega)) (fun z₉ hz => rfl) hB₉.2, wf_sn _ hW.1 _ ⟨by omega, hu, trivial⟩, PA_sn _ hW.1 _ _ _ _ (PA_ext _ hW.1 _ _ _ (fun z₉ a1₉ a2 => ⟨up_ne _ _ (by omega), up_ne _ _ (by omega), (up_ne _ _ (by omega)).trans (up_ne _ _ (by omega)), up_ne _ _ (by omega)⟩) (fun z₉ a1₉ a2 => ⟨rfl, rfl⟩) hC.1) ?_, by omega, by omega, by omega, by omega, by omega, hln, by omega⟩
  obtain ⟨k1₉, k2₉⟩ := hC.2.2.2.1 hf.1
  rw [eL, eO, eK, Int.add_zero, Int.add_zero] at hpa
  have hb₉ := hB₉.1 hf.1
  refine ⟨⟨?_, ?_, ?_, ?_⟩, PA_ext _ hu _ _ _ (fun z₉ a1₉ a2 => ⟨up_ne _ _ (by omega), up_ne _ _ (by omega), (up_ne _ _ (by omega)).trans (up_ne _ _ (by omega)), up_ne _ _ (by omega)⟩) (fun z₉ a1₉ a2 => ⟨rfl, rfl⟩) hpa, trivial⟩
  · rw [up_ne _ _ (by omega)]; exact k1₉
  · rw [up_ne _ _ (by omega), k2₉]; omega
  · rw [up_self]; omega
  · rw [up_ne _ _ (by omega), hb₉]
    have := PA_msk (k0₉ := zK r₉ + tLks f₉.1) u₉ hu 0 (zO r₉ + tLen f₉.1 + 1) (zO r₉ + tLen f₉.1) (by rw [show zK r₉ + (tLks f₉.1 : Int) + ((0 : Nat) : Int) = zK r₉ + tLks f₉.1 by omega]; exact hpa)
    rw [show (lk₉ - (zK r₉ + tLks f₉.1)).toNat = 0 + tLks u₉ by omega, ← this]; rfl

