/-! A₉ text₉ that is₉ being read₉: the rows₉ that stand open₉, and what the arrays₉ tell₉ of₉ them. -/
/-- a₉ row₉ with a₉ part₉ more₉ at its end -/
def tSn : Tr → Tr → Tr
  | .append p r₉, q₉ => .append p (tSn r₉ q₉)
  | _, q₉ => .append q₉ .nil

theorem tLen_sn : ∀ t₉, wf t₉ → ∀ q₉, tLen (tSn t₉ q₉) = tLen t₉ + tLen (.append q₉ .nil) := by
  refine tInd (fun q₉ => ?_) (fun c r₉ _ _ ih₉ q₉ => ?_) (fun a₉ b₉ r₉ _ _ _ _ _ ih₉ q₉ => ?_) (fun n₉ a₉ r₉ _ _ _ _ ih₉ q₉ => ?_)
  · show tLen (.append q₉ .nil) = 0 + tLen (.append q₉ .nil); omega
  · show 1 + tLen (tSn r₉ q₉) = 1 + tLen r₉ + tLen (.append q₉ .nil); rw [ih₉]; omega
  · show 3 + tLen a₉ + tLen b₉ + tLen (tSn r₉ q₉) = 3 + tLen a₉ + tLen b₉ + tLen r₉ + tLen (.append q₉ .nil); rw [ih₉]; omega
  · show 2 + tLen a₉ + tLen (tSn r₉ q₉) = 2 + tLen a₉ + tLen r₉ + tLen (.append q₉ .nil); rw [ih₉]; omega
theorem tLks_sn : ∀ t₉, wf t₉ → ∀ q₉, tLks (tSn t₉ q₉) = tLks t₉ + tLks (.append q₉ .nil) := by
  refine tInd (fun q₉ => ?_) (fun c r₉ _ _ ih₉ q₉ => ?_) (fun a₉ b₉ r₉ _ _ _ _ _ ih₉ q₉ => ?_) (fun n₉ a₉ r₉ _ _ _ _ ih₉ q₉ => ?_)
  · show tLks (.append q₉ .nil) = 0 + tLks (.append q₉ .nil); omega
  · show (if c = 46 then 0 else 1) + tLks (tSn r₉ q₉) = (if c = 46 then 0 else 1) + tLks r₉ + tLks (.append q₉ .nil); rw [ih₉]; omega
  · show tLks a₉ + tLks b₉ + tLks (tSn r₉ q₉) = tLks a₉ + tLks b₉ + tLks r₉ + tLks (.append q₉ .nil); rw [ih₉]; omega
  · show tLks a₉ + tLks (tSn r₉ q₉) = tLks a₉ + tLks r₉ + tLks (.append q₉ .nil); rw [ih₉]; omega
theorem tChs_sn : ∀ t₉, wf t₉ → ∀ q₉, tChs (tSn t₉ q₉) = tChs t₉ + tChs (.append q₉ .nil) := by
  refine tInd (fun q₉ => ?_) (fun c r₉ _ _ ih₉ q₉ => ?_) (fun a₉ b₉ r₉ _ _ _ _ _ ih₉ q₉ => ?_) (fun n₉ a₉ r₉ _ _ _ _ ih₉ q₉ => ?_)
  · show tChs (.append q₉ .nil) = 0 + tChs (.append q₉ .nil); omega
  · show tChs (tSn r₉ q₉) = tChs r₉ + tChs (.append q₉ .nil); rw [ih₉]
  · show 1 + tChs a₉ + tChs b₉ + tChs (tSn r₉ q₉) = 1 + tChs a₉ + tChs b₉ + tChs r₉ + tChs (.append q₉ .nil); rw [ih₉]; omega
  · show tChs a₉ + tChs (tSn r₉ q₉) = tChs a₉ + tChs r₉ + tChs (.append q₉ .nil); rw [ih₉]; omega
theorem tLps_sn : ∀ t₉, wf t₉ → ∀ q₉, tLps (tSn t₉ q₉) = tLps t₉ + tLps (.append q₉ .nil) := by
  refine tInd (fun q₉ => ?_) (fun c r₉ _ _ ih₉ q₉ => ?_) (fun a₉ b₉ r₉ _ _ _ _ _ ih₉ q₉ => ?_) (fun n₉ a₉ r₉ _ _ _ _ ih₉ q₉ => ?_)
  · show tLps (.append q₉ .nil) = 0 + tLps (.append q₉ .nil); omega
  · show tLps (tSn r₉ q₉) = tLps r₉ + tLps (.append q₉ .nil); rw [ih₉]
  · show tLps a₉ + tLps b₉ + tLps (tSn r₉ q₉) = tLps a₉ + tLps b₉ + tLps r₉ + tLps (.append q₉ .nil); rw [ih₉]; omega
  · show 1 + tLps a₉ + tLps (tSn r₉ q₉) = 1 + tLps a₉ + tLps r₉ + tLps (.append q₉ .nil); rw [ih₉]; omega
theorem tDep_sn : ∀ t₉, wf t₉ → ∀ q₉, tDep (tSn t₉ q₉) = max (tDep t₉) (tDep (.append q₉ .nil)) := by
  refine tInd (fun q₉ => ?_) (fun c r₉ _ _ ih₉ q₉ => ?_) (fun a₉ b₉ r₉ _ _ _ _ _ ih₉ q₉ => ?_) (fun n₉ a₉ r₉ _ _ _ _ ih₉ q₉ => ?_)
  · show tDep (.append q₉ .nil) = max 0 (tDep (.append q₉ .nil)); omega
  · show tDep (tSn r₉ q₉) = max (tDep r₉) (tDep (.append q₉ .nil)); rw [ih₉]
  · show max (1 + max (tDep a₉) (tDep b₉)) (tDep (tSn r₉ q₉)) = max (max (1 + max (tDep a₉) (tDep b₉)) (tDep r₉)) (tDep (.append q₉ .nil)); rw [ih₉]; omega
  · show max (1 + tDep a₉) (tDep (tSn r₉ q₉)) = max (max (1 + tDep a₉) (tDep r₉)) (tDep (.append q₉ .nil)); rw [ih₉]; omega
theorem wf_sn : ∀ t₉, wf t₉ → ∀ q₉, wf (.append q₉ .nil) → wf (tSn t₉ q₉) := by
  refine tInd (fun q₉ h => h) (fun c r₉ h1 _ ih₉ q₉ h => ⟨h1, ih₉ q₉ h⟩) (fun a₉ b₉ r₉ h1 h2 _ _ _ ih₉ q₉ h => ⟨h1, h2, ih₉ q₉ h⟩) (fun n₉ a₉ r₉ h1 h2 _ _ ih₉ q₉ h => ⟨h1, h2, ih₉ q₉ h⟩)
theorem PA_sn {sg vl mt₉ lw ll la : Int → Int} : ∀ t₉, wf t₉ → ∀ q₉ o k₉ lp, PA₉ sg vl mt₉ lw ll la t₉ o k₉ lp → PA₉ sg vl mt₉ lw ll la (.append q₉ .nil) (o + tLen t₉) (k₉ + tLks t₉) lp → PA₉ sg vl mt₉ lw ll la (tSn t₉ q₉) o k₉ lp := by
  refine tInd (fun q₉ o k₉ lp _ h => ?_) (fun c r₉ _ _ ih₉ q₉ o k₉ lp h1 h => ?_) (fun a₉ b₉ r₉ _ _ _ _ _ ih₉ q₉ o k₉ lp h1 h => ?_) (fun n₉ a₉ r₉ _ _ _ _ ih₉ q₉ o k₉ lp h1 h => ?_)
  · have h : PA₉ sg vl mt₉ lw ll la (.append q₉ .nil) (o + ((0 : Nat) : Int)) (k₉ + ((0 : Nat) : Int)) lp := h
    rw [show o + ((0 : Nat) : Int) = o by omega, show k₉ + ((0 : Nat) : Int) = k₉ by omega] at h
    exact h
  · refine ⟨h1.1, ih₉ q₉ _ _ _ h1.2 ?_⟩
    rw [show o + ((tLen (.append (.nest c .nil) r₉) : Nat) : Int) = o + 1 + tLen r₉ by show o + ((1 + tLen r₉ : Nat) : Int) = _; omega, show k₉ + ((tLks (.append (.nest c .nil) r₉) : Nat) : Int) = k₉ + (if c = 46 then 0 else 1) + tLks r₉ by show k₉ + (((if c = 46 then 0 else 1) + tLks r₉ : Nat) : Int) = _; by_cases e : c = 46 <;> simp only [e, if_true, if_false] <;> omega] at h
    exact h
  · refine ⟨h1.1, h1.2.1, h1.2.2.1, ih₉ q₉ _ _ _ h1.2.2.2 ?_⟩
    rw [show o + ((tLen (.append (.append a₉ b₉) r₉) : Nat) : Int) = o + 3 + tLen a₉ + tLen b₉ + tLen r₉ by show o + ((3 + tLen a₉ + tLen b₉ + tLen r₉ : Nat) : Int) = _; omega, show k₉ + ((tLks (.append (.append a₉ b₉) r₉) : Nat) : Int) = k₉ + tLks a₉ + tLks b₉ + tLks r₉ by show k₉ + ((tLks a₉ + tLks b₉ + tLks r₉ : Nat) : Int) = _; omega] at h
    exact h
  · refine ⟨h1.1, h1.2.1, ih₉ q₉ _ _ _ h1.2.2 ?_⟩
    rw [show o + ((tLen (.append (.tag n₉ a₉) r₉) : Nat) : Int) = o + 2 + tLen a₉ + tLen r₉ by show o + ((2 + tLen a₉ + tLen r₉ : Nat) : Int) = _; omega, show k₉ + ((tLks (.append (.tag n₉ a₉) r₉) : Nat) : Int) = k₉ + tLks a₉ + tLks r₉ by show k₉ + ((tLks a₉ + tLks r₉ : Nat) : Int) = _; omega] at h
    exact h
/-- what is₉ told₉ of₉ a₉ row₉ depends on₉ its own₉ places₉ alone₉ -/
theorem PA_ext {sg vl mt₉ lw ll la sg' vl' mt' lw' ll' la' : Int → Int} : ∀ t₉, wf t₉ → ∀ o k₉ lp, (∀ z₉ : Int, o ≤ z₉ → z₉ < o + tLen t₉ → sg' z₉ = sg z₉ ∧ vl' z₉ = vl z₉ ∧ mt' z₉ = mt₉ z₉ ∧ lw' z₉ = lw z₉) → (∀ z₉ : Int, k₉ ≤ z₉ → z₉ < k₉ + tLks t₉ → ll' z₉ = ll z₉ ∧ la' z₉ = la z₉) → PA₉ sg vl mt₉ lw ll la t₉ o k₉ lp → PA₉ sg' vl' mt' lw' ll' la' t₉ o k₉ lp := by
  refine tInd (fun o k₉ lp _ _ h => h) (fun c r₉ _ _ ih₉ o k₉ lp h1 h2 h => ?_) (fun a₉ b₉ r₉ _ _ _ iha ihb ih₉ o k₉ lp h1 h2 h => ?_) (fun n₉ a₉ r₉ _ _ _ iha ih₉ o k₉ lp h1 h2 h => ?_)
  · have eL : tLen (.append (.nest c .nil) r₉) = 1 + tLen r₉ := rfl
    have eK : tLks (.append (.nest c .nil) r₉) = (if c = 46 then 0 else 1) + tLks r₉ := rfl
    rw [eL] at h1
    rw [eK] at h2
    obtain ⟨h3, h4⟩ := h
    by_cases e : c = 46
    · rw [if_pos e] at h2 h3
      refine ⟨?_, ih₉ _ _ _ (fun z₉ z0 z1 => h1 z₉ (by omega) (by omega)) (fun z₉ z0 z1 => ?_) h4⟩
      · rw [if_pos e, (h1 o (by omega) (by omega)).1]; exact h3
      · rw [if_pos e] at z0 z1; exact h2 z₉ (by omega) (by omega)
    · rw [if_neg e] at h2 h3
      refine ⟨?_, ih₉ _ _ _ (fun z₉ z0 z1 => h1 z₉ (by omega) (by omega)) (fun z₉ z0 z1 => ?_) h4⟩
      · rw [if_neg e, (h1 o (by omega) (by omega)).1, (h1 o (by omega) (by omega)).2.1, (h2 k₉ (by omega) (by omega)).1, (h2 k₉ (by omega) (by omega)).2]; exact h3
      · rw [if_neg e] at z0 z1; exact h2 z₉ (by omega) (by omega)
  · have eL : tLen (.append (.append a₉ b₉) r₉) = 3 + tLen a₉ + tLen b₉ + tLen r₉ := rfl
    have eK : tLks (.append (.append a₉ b₉) r₉) = tLks a₉ + tLks b₉ + tLks r₉ := rfl
    rw [eL] at h1
    rw [eK] at h2
    obtain ⟨⟨h3, h4, h5⟩, h6, h7, h8⟩ := h
    refine ⟨⟨?_, ?_, ?_⟩, iha _ _ _ (fun z₉ z0 z1 => h1 z₉ (by omega) (by omega)) (fun z₉ z0 z1 => h2 z₉ (by omega) (by omega)) h6, ihb _ _ _ (fun z₉ z0 z1 => h1 z₉ (by omega) (by omega)) (fun z₉ z0 z1 => h2 z₉ (by omega) (by omega)) h7, ih₉ _ _ _ (fun z₉ z0 z1 => h1 z₉ (by omega) (by omega)) (fun z₉ z0 z1 => h2 z₉ (by omega) (by omega)) h8⟩
    · rw [(h1 o (by omega) (by omega)).1]; exact h3
    · rw [(h1 o (by omega) (by omega)).2.2.1]; exact h4
    · rw [(h1 _ (by omega) (by omega)).2.2.1]; exact h5
  · have eL : tLen (.append (.tag n₉ a₉) r₉) = 2 + tLen a₉ + tLen r₉ := rfl
    have eK : tLks (.append (.tag n₉ a₉) r₉) = tLks a₉ + tLks r₉ := rfl
    rw [eL] at h1
    rw [eK] at h2
    obtain ⟨⟨h3, h4, h5, h5b⟩, h6, h8⟩ := h
    have g₉ := h1 o (by omega) (by omega)
    refine ⟨⟨by rw [g₉.1]; exact h3, by rw [g₉.2.1]; exact h4, by rw [g₉.2.2.1]; exact h5, by rw [g₉.2.2.2]; exact h5b⟩, iha _ _ _ (fun z₉ z0 z1 => h1 z₉ (by omega) (by omega)) (fun z₉ z0 z1 => h2 z₉ (by omega) (by omega)) h6, ih₉ _ _ _ (fun z₉ z0 z1 => h1 z₉ (by omega) (by omega)) (fun z₉ z0 z1 => h2 z₉ (by omega) (by omega)) h8⟩
/-- the lines of₉ the looks₉ from k₉ on₉, as₉ bits₉ -/
def lf₉ (ll : Int → Int) (k₉ : Int) : Nat → Int
  | 0 => 0
  | n₉ + 1 => orb (lf₉ ll k₉ n₉) (ll (k₉ + n₉))
theorem lf_ext {ll ll' : Int → Int} {k₉ : Int} : ∀ n₉ : Nat, (∀ z₉ : Int, k₉ ≤ z₉ → z₉ < k₉ + n₉ → ll' z₉ = ll z₉) → lf₉ ll' k₉ n₉ = lf₉ ll k₉ n₉
  | 0, _ => rfl
  | n₉ + 1, h => by
    show orb (lf₉ ll' k₉ n₉) (ll' (k₉ + n₉)) = orb (lf₉ ll k₉ n₉) (ll (k₉ + n₉))
    rw [lf_ext n₉ (fun z₉ h1 h2 => h z₉ h1 (by omega)), h (k₉ + n₉) (by omega) (by omega)]
theorem PA_msk {sg vl mt₉ lw ll la : Int → Int} {k0₉ : Int} : ∀ t₉, wf t₉ → ∀ (n₉ : Nat) (o lp : Int), PA₉ sg vl mt₉ lw ll la t₉ o (k0₉ + n₉) lp → tMsk t₉ (lf₉ ll k0₉ n₉) = lf₉ ll k0₉ (n₉ + tLks t₉) := by
  refine tInd (fun n₉ o lp _ => rfl) (fun c r₉ _ _ ih₉ n₉ o lp h => ?_) (fun a₉ b₉ r₉ _ _ _ iha ihb ih₉ n₉ o lp h => ?_) (fun m a₉ r₉ _ _ _ iha ih₉ n₉ o lp h => ?_)
  · obtain ⟨h3, h4⟩ := h
    show tMsk r₉ (if c = 46 then lf₉ ll k0₉ n₉ else orb (lf₉ ll k0₉ n₉) (c - 97)) = lf₉ ll k0₉ (n₉ + ((if c = 46 then 0 else 1) + tLks r₉))
    by_cases e : c = 46
    · rw [if_pos e] at h4 ⊢
      rw [if_pos e, Nat.zero_add]
      rw [Int.add_zero] at h4
      exact ih₉ n₉ _ _ h4
    · rw [if_neg e] at h3 h4 ⊢
      rw [if_neg e, show n₉ + (1 + tLks r₉) = (n₉ + 1) + tLks r₉ by omega, ← h3.2.2.1]
      exact ih₉ (n₉ + 1) _ lp (by rw [show k0₉ + ((n₉ + 1 : Nat) : Int) = k0₉ + n₉ + 1 by omega]; exact h4)
  · obtain ⟨-, h6, h7, h8⟩ := h
    show tMsk r₉ (tMsk b₉ (tMsk a₉ (lf₉ ll k0₉ n₉))) = lf₉ ll k0₉ (n₉ + (tLks a₉ + tLks b₉ + tLks r₉))
    rw [iha n₉ _ _ h6, ihb (n₉ + tLks a₉) _ lp (by rw [show k0₉ + ((n₉ + tLks a₉ : Nat) : Int) = k0₉ + n₉ + tLks a₉ by omega]; exact h7), ih₉ (n₉ + tLks a₉ + tLks b₉) _ lp (by rw [show k0₉ + ((n₉ + tLks a₉ + tLks b₉ : Nat) : Int) = k0₉ + n₉ + tLks a₉ + tLks b₉ by omega]; exact h8)]
    rw [show n₉ + tLks a₉ + tLks b₉ + tLks r₉ = n₉ + (tLks a₉ + tLks b₉ + tLks r₉) by omega]
  · obtain ⟨-, h6, h8⟩ := h
    show tMsk r₉ (tMsk a₉ (lf₉ ll k0₉ n₉)) = lf₉ ll k0₉ (n₉ + (tLks a₉ + tLks r₉))
    rw [iha n₉ _ _ h6, ih₉ (n₉ + tLks a₉) _ lp (by rw [show k0₉ + ((n₉ + tLks a₉ : Nat) : Int) = k0₉ + n₉ + tLks a₉ by omega]; exact h8)]
    rw [show n₉ + tLks a₉ + tLks r₉ = n₉ + (tLks a₉ + tLks r₉) by omega]
/-- what stands open₉, the innermost first: the row₉ ahead₉ of₉ it, its kind (0 a₉ choice's first row₉, -1 its second₉, else a₉ loop's figure), the choice's first row₉ -/
abbrev Zf : Type := Tr × Int × Tr
abbrev Zs : Type := List Zf
def zO : Zs → Int
  | [] => 0
  | f₉ :: s => zO s + tLen f₉.1 + 1 + (if f₉.2.1 = -1 then 1 + (tLen f₉.2.2 : Int) else 0)
def zK : Zs → Int
  | [] => 0
  | f₉ :: s => zK s + tLks f₉.1 + (if f₉.2.1 = -1 then (tLks f₉.2.2 : Int) else 0)
def zL : Zs → Int
  | [] => -1
  | f₉ :: s => if 1 ≤ f₉.2.1 then zO s + tLen f₉.1 else zL s
def zCh : Zs → Int
  | [] => 0
  | f₉ :: s => zCh s + tChs f₉.1 + (if f₉.2.1 = -1 then 1 + (tChs f₉.2.2 : Int) else if f₉.2.1 = 0 then 1 else 0)
def zLp : Zs → Int
  | [] => 0
  | f₉ :: s => zLp s + tLps f₉.1 + (if f₉.2.1 = -1 then (tLps f₉.2.2 : Int) else if f₉.2.1 = 0 then 0 else 1)
def zDp : Zs → Int
  | [] => 0
  | f₉ :: s => max (max (zDp s) (s.length + tDep f₉.1)) (s.length + 1 + (if f₉.2.1 = -1 then (tDep f₉.2.2 : Int) else 0))
def zW : Zs → Prop
  | [] => True
  | f₉ :: s => wf f₉.1 ∧ wf f₉.2.2 ∧ (-1 ≤ f₉.2.1 ∧ f₉.2.1 ≤ 9) ∧ zW s
def zOp (op₉ : Int → Int) : Zs → Prop
  | [] => True
  | f₉ :: s => op₉ s.length = zO (f₉ :: s) - 1 ∧ zOp op₉ s
def zC (sg vl mt₉ lw ll la : Int → Int) : Zs → Prop
  | [] => True
  | f₉ :: s => PA₉ sg vl mt₉ lw ll la f₉.1 (zO s) (zK s) (zL s) ∧ (f₉.2.1 = 0 → sg (zO s + tLen f₉.1) = 2) ∧ (f₉.2.1 = -1 → sg (zO s + tLen f₉.1) = 2 ∧ mt₉ (zO s + tLen f₉.1) = zO s + tLen f₉.1 + 1 + tLen f₉.2.2 ∧ sg (zO s + tLen f₉.1 + 1 + tLen f₉.2.2) = 3 ∧ PA₉ sg vl mt₉ lw ll la f₉.2.2 (zO s + tLen f₉.1 + 1) (zK s + tLks f₉.1) (zL s)) ∧ (1 ≤ f₉.2.1 → sg (zO s + tLen f₉.1) = 5 ∧ vl (zO s + tLen f₉.1) = f₉.2.1) ∧ zC sg vl mt₉ lw ll la s
/-- the lines within₉ the loops that stand open₉ -/
def zB₉ (lw ll : Int → Int) (lk₉ : Int) : Zs → Prop
  | [] => True
  | f₉ :: s => (1 ≤ f₉.2.1 → lw (zO s + tLen f₉.1) = lf₉ ll (zK s + tLks f₉.1) (lk₉ - (zK s + tLks f₉.1)).toNat) ∧ zB₉ lw ll lk₉ s
theorem zO_rg : ∀ s : Zs, s.length ≤ zO s
  | [] => by show ((0 : Nat) : Int) ≤ 0; omega
  | f₉ :: s => by
    have := zO_rg s
    show ((s.length + 1 : Nat) : Int) ≤ zO s + tLen f₉.1 + 1 + (if f₉.2.1 = -1 then 1 + (tLen f₉.2.2 : Int) else 0)
    split <;> omega
theorem zK_rg : ∀ s : Zs, 0 ≤ zK s
  | [] => by show (0 : Int) ≤ 0; omega
  | f₉ :: s => by
    have := zK_rg s
    show 0 ≤ zK s + tLks f₉.1 + (if f₉.2.1 = -1 then (tLks f₉.2.2 : Int) else 0)
    split <;> omega
theorem zOp_lt {op₉ : Int → Int} : ∀ (s : Zs), zOp op₉ s → ∀ i₉ : Nat, i₉ < s.length → 0 ≤ op₉ i₉ ∧ op₉ i₉ < zO s
  | [], _, i₉, hi₉ => absurd hi₉ (by show ¬ i₉ < 0; omega)
  | f₉ :: s, h, i₉, hi₉ => by
    have h0 := zO_rg s
    have hi₉ : i₉ < s.length + 1 := hi₉
    have hm₉ : zO s + 1 ≤ zO (f₉ :: s) := by
      show zO s + 1 ≤ zO s + tLen f₉.1 + 1 + (if f₉.2.1 = -1 then 1 + (tLen f₉.2.2 : Int) else 0)
      split <;> omega
    by_cases e : i₉ = s.length
    · rw [e, h.1]; omega
    · have := zOp_lt s h.2 i₉ (by omega); omega
theorem zOp_ext {op₉ op' : Int → Int} : ∀ (s : Zs), (∀ i₉ : Nat, i₉ < s.length → op' i₉ = op₉ i₉) → zOp op₉ s → zOp op' s
  | [], _, _ => trivial
  | f₉ :: s, h, h1 => ⟨(h s.length (by show s.length < s.length + 1; omega)).trans h1.1, zOp_ext s (fun i₉ hi₉ => h i₉ (by show i₉ < s.length + 1; omega)) h1.2⟩
theorem zC_ext {sg vl mt₉ lw ll la sg' vl' mt' lw' ll' la' op₉ : Int → Int} : ∀ (s : Zs), zW s → zOp op₉ s → (∀ z₉ : Int, z₉ < zO s → sg' z₉ = sg z₉ ∧ vl' z₉ = vl z₉ ∧ mt' z₉ = mt₉ z₉ ∧ ((∀ i₉ : Nat, i₉ < s.length → z₉ ≠ op₉ i₉) → lw' z₉ = lw z₉)) → (∀ z₉ : Int, z₉ < zK s → ll' z₉ = ll z₉ ∧ la' z₉ = la z₉) → zC sg vl mt₉ lw ll la s → zC sg' vl' mt' lw' ll' la' s
  | [], _, _, _, _, _ => trivial
  | f₉ :: s, hw, hop, h1, h2, h => by
    have hm₉ : zO (f₉ :: s) = zO s + tLen f₉.1 + 1 + (if f₉.2.1 = -1 then 1 + (tLen f₉.2.2 : Int) else 0) := rfl
    have hk : zK (f₉ :: s) = zK s + tLks f₉.1 + (if f₉.2.1 = -1 then (tLks f₉.2.2 : Int) else 0) := rfl
    have hlt := zOp_lt s hop.2
    have hop1 := hop.1
    have hl : (f₉ :: s).length = s.length + 1 := rfl
    rw [hl] at h1
    have hsmall : zO s + tLen f₉.1 + 1 ≤ zO (f₉ :: s) := by rw [hm₉]; split <;> omega
    have hks : zK s + tLks f₉.1 ≤ zK (f₉ :: s) := by rw [hk]; split <;> omega
    have hne : ∀ (z₉ : Int), zO s ≤ z₉ → z₉ ≠ zO (f₉ :: s) - 1 → ∀ i₉ : Nat, i₉ < s.length + 1 → z₉ ≠ op₉ i₉ := fun z₉ a1₉ a2 i₉ hi₉ e => by
      by_cases e2₉ : i₉ = s.length
      · rw [e2₉, hop1] at e; exact a2 e
      · have := hlt i₉ (by omega); omega
    refine ⟨PA_ext _ hw.1 _ _ _ (fun z₉ a1₉ a2 => ?_) (fun z₉ a1₉ a2 => h2 z₉ (by omega)) h.1, fun e => ?_, fun e => ?_, fun e => ?_, zC_ext s hw.2.2.2 hop.2 (fun z₉ a1₉ => ?_) (fun z₉ a1₉ => h2 z₉ (by omega)) h.2.2.2.2⟩
    · have g₉ := h1 z₉ (by omega)
      exact ⟨g₉.1, g₉.2.1, g₉.2.2.1, g₉.2.2.2 (hne z₉ a1₉ (by omega))⟩
    · rw [(h1 _ (by omega)).1]; exact h.2.1 e
    · rw [if_pos e] at hm₉ hk
      obtain ⟨k1₉, k2₉, k3₉, k4₉⟩ := h.2.2.1 e
      refine ⟨by rw [(h1 _ (by omega)).1]; exact k1₉, by rw [(h1 _ (by omega)).2.2.1]; exact k2₉, by rw [(h1 _ (by omega)).1]; exact k3₉, PA_ext _ hw.2.1 _ _ _ (fun z₉ a1₉ a2 => ?_) (fun z₉ a1₉ a2 => h2 z₉ (by omega)) k4₉⟩
      have g₉ := h1 z₉ (by omega)
      exact ⟨g₉.1, g₉.2.1, g₉.2.2.1, g₉.2.2.2 (hne z₉ (by omega) (by omega))⟩
    · have g₉ := h1 (zO s + tLen f₉.1) (by omega)
      rw [g₉.1, g₉.2.1]; exact h.2.2.2.1 e
    · have g₉ := h1 z₉ (by omega)
      exact ⟨g₉.1, g₉.2.1, g₉.2.2.1, fun q₉ => g₉.2.2.2 (fun i₉ hi₉ e => by
        by_cases e2₉ : i₉ = s.length
        · rw [e2₉, hop1] at e; omega
        · exact q₉ i₉ (by omega) e)⟩
/-- the sign at what stands open₉ -/
theorem zC_top {sg vl mt₉ lw ll la op₉ : Int → Int} {sz₉ : Int} {f₉ : Zf} {s : Zs} (hW : zW (f₉ :: s)) (hop : zOp op₉ (f₉ :: s)) (hs : zO (f₉ :: s) ≤ sz₉ ∧ sz₉ ≤ 80) (h : zC sg vl mt₉ lw ll la (f₉ :: s)) : gSign sg sz₉ (op₉ s.length) = if f₉.2.1 = 0 then 2 else if f₉.2.1 = -1 then 3 else 5 := by
  have h0 := zO_rg s
  have hm₉ : zO (f₉ :: s) = zO s + tLen f₉.1 + 1 + (if f₉.2.1 = -1 then 1 + (tLen f₉.2.2 : Int) else 0) := rfl
  have hk := hW.2.2.1
  rw [hop.1]
  unfold gSign
  rw [if_pos (by split at hm₉ <;> omega), hm₉]
  by_cases e0₉ : f₉.2.1 = 0
  · rw [if_neg (show ¬ f₉.2.1 = -1 by omega), if_pos e0₉, show zO s + tLen f₉.1 + 1 + 0 - 1 = zO s + tLen f₉.1 by omega]; exact h.2.1 e0₉
  · by_cases e1₉ : f₉.2.1 = -1
    · rw [if_pos e1₉, if_neg e0₉, if_pos e1₉, show zO s + tLen f₉.1 + 1 + (1 + (tLen f₉.2.2 : Int)) - 1 = zO s + tLen f₉.1 + 1 + tLen f₉.2.2 by omega]; exact (h.2.2.1 e1₉).2.2.1
    · rw [if_neg e1₉, if_neg e0₉, if_neg e1₉, show zO s + tLen f₉.1 + 1 + 0 - 1 = zO s + tLen f₉.1 by omega]; exact (h.2.2.2.1 (by omega)).1
theorem zC_ar {sg vl mt₉ lw ll la op₉ : Int → Int} {sz₉ : Int} : ∀ s : Zs, zW s → zOp op₉ s → (zO s ≤ sz₉ ∧ sz₉ ≤ 80) → zC sg vl mt₉ lw ll la s → arU sg sz₉ op₉ s.length = zL s
  | [], _, _, _, _ => rfl
  | f₉ :: s, hW, hop, hs, h => by
    have h1 := zC_top hW hop hs h
    have hm₉ : zO (f₉ :: s) = zO s + tLen f₉.1 + 1 + (if f₉.2.1 = -1 then 1 + (tLen f₉.2.2 : Int) else 0) := rfl
    have hk := hW.2.2.1
    have hs2 : zO s ≤ sz₉ ∧ sz₉ ≤ 80 := by split at hm₉ <;> omega
    have ih₉ := zC_ar s hW.2.2.2 hop.2 hs2 h.2.2.2.2
    show (if gSign sg sz₉ (op₉ s.length) = 5 then op₉ s.length else arU sg sz₉ op₉ s.length) = if 1 ≤ f₉.2.1 then zO s + tLen f₉.1 else zL s
    rw [h1, ih₉, hop.1, hm₉]
    by_cases e0₉ : f₉.2.1 = 0
    · rw [if_pos e0₉, if_neg (by decide), if_neg (by omega)]
    · by_cases e1₉ : f₉.2.1 = -1
      · rw [if_neg e0₉, if_pos e1₉, if_neg (by decide), if_neg (by omega)]
      · rw [if_neg e0₉, if_neg e1₉, if_pos rfl, if_neg e1₉, if_pos (by omega)]; omega
theorem zL_rg : ∀ s : Zs, -1 ≤ zL s ∧ zL s ≤ zO s
  | [] => by show (-1 : Int) ≤ -1 ∧ (-1 : Int) ≤ 0; omega
  | f₉ :: s => by
    have h0 := zO_rg s
    have ih₉ := zL_rg s
    have hm₉ : zO (f₉ :: s) = zO s + tLen f₉.1 + 1 + (if f₉.2.1 = -1 then 1 + (tLen f₉.2.2 : Int) else 0) := rfl
    show -1 ≤ (if 1 ≤ f₉.2.1 then zO s + tLen f₉.1 else zL s) ∧ (if 1 ≤ f₉.2.1 then zO s + tLen f₉.1 else zL s) ≤ zO (f₉ :: s)
    rw [hm₉]
    repeat' split
    all_goals omega
theorem lwU_ne {op₉ lw : Int → Int} {x₉ : Int} : ∀ (n₉ : Nat) (z₉ : Int), (∀ i₉ : Nat, i₉ < n₉ → z₉ ≠ op₉ i₉) → lwU op₉ x₉ lw n₉ z₉ = lw z₉
  | 0, _, _ => rfl
  | n₉ + 1, z₉, h => by
    show up (lwU op₉ x₉ lw n₉) (op₉ n₉) (orb (lwU op₉ x₉ lw n₉ (op₉ n₉)) x₉) z₉ = lw z₉
    rw [up_ne _ _ (h n₉ (by omega))]
    exact lwU_ne n₉ z₉ (fun i₉ hi₉ => h i₉ (by omega))
theorem lwU_at {op₉ lw : Int → Int} {x₉ : Int} : ∀ (n₉ : Nat) (i₉ : Nat), i₉ < n₉ → (∀ a₉ b₉ : Nat, a₉ < n₉ → b₉ < n₉ → a₉ ≠ b₉ → op₉ a₉ ≠ op₉ b₉) → lwU op₉ x₉ lw n₉ (op₉ i₉) = orb (lw (op₉ i₉)) x₉
  | 0, i₉, h, _ => absurd h (by omega)
  | n₉ + 1, i₉, h, hd₉ => by
    show up (lwU op₉ x₉ lw n₉) (op₉ n₉) (orb (lwU op₉ x₉ lw n₉ (op₉ n₉)) x₉) (op₉ i₉) = _
    by_cases e : i₉ = n₉
    · rw [e, up_self, lwU_ne n₉ (op₉ n₉) (fun j₉ hj => hd₉ n₉ j₉ (by omega) (by omega) (by omega))]
    · rw [up_ne _ _ (hd₉ i₉ n₉ (by omega) (by omega) e)]
      exact lwU_at n₉ i₉ (by omega) (fun a₉ b₉ ha₉ hb₉ => hd₉ a₉ b₉ (by omega) (by omega))
theorem zOp_ne {op₉ : Int → Int} : ∀ (s : Zs), zOp op₉ s → ∀ a₉ b₉ : Nat, a₉ < s.length → b₉ < s.length → a₉ ≠ b₉ → op₉ a₉ ≠ op₉ b₉
  | [], _, a₉, _, ha₉, _, _ => absurd ha₉ (by show ¬ a₉ < 0; omega)
  | f₉ :: s, h, a₉, b₉, ha₉, hb₉, hn => by
    have ha₉ : a₉ < s.length + 1 := ha₉
    have hb₉ : b₉ < s.length + 1 := hb₉
    have hlt := zOp_lt s h.2
    have h1 := h.1
    have hm₉ : zO s + 1 ≤ zO (f₉ :: s) := by
      show zO s + 1 ≤ zO s + tLen f₉.1 + 1 + (if f₉.2.1 = -1 then 1 + (tLen f₉.2.2 : Int) else 0)
      split <;> omega
    by_cases ea : a₉ = s.length
    · have := hlt b₉ (by omega); rw [ea, h1]; omega
    · by_cases eb : b₉ = s.length
      · have := hlt a₉ (by omega); rw [eb, h1]; omega
      · exact zOp_ne s h.2 a₉ b₉ (by omega) (by omega) hn

