/-! Programs as₉ trees (rows₉: nil₉, or a₉ part₉ and a₉ row₉; a₉ part₉: a₉ sign, a₉ choice₉ of₉ two₉ rows₉, a₉ loop₉ of₉ a₉ figure and a₉ row₉), and what they mean. -/
abbrev Tr : Type := Std.Format
def okc (c : Int) : Prop := (97 ≤ c ∧ c ≤ 102) ∨ c = 46
def wf : Tr → Prop
  | .nil => True
  | .append (.nest c .nil) r₉ => okc c ∧ wf r₉
  | .append (.append a₉ b₉) r₉ => wf a₉ ∧ wf b₉ ∧ wf r₉
  | .append (.tag n₉ a₉) r₉ => (1 ≤ n₉ ∧ n₉ ≤ 9) ∧ wf a₉ ∧ wf r₉
  | _ => False
theorem tInd {P₉ : Tr → Prop} (h0 : P₉ .nil) (h1 : ∀ c r₉, okc c → wf r₉ → P₉ r₉ → P₉ (.append (.nest c .nil) r₉)) (h2 : ∀ a₉ b₉ r₉, wf a₉ → wf b₉ → wf r₉ → P₉ a₉ → P₉ b₉ → P₉ r₉ → P₉ (.append (.append a₉ b₉) r₉)) (h3 : ∀ n₉ a₉ r₉, (1 ≤ n₉ ∧ n₉ ≤ 9) → wf a₉ → wf r₉ → P₉ a₉ → P₉ r₉ → P₉ (.append (.tag n₉ a₉) r₉)) : ∀ t₉, wf t₉ → P₉ t₉
  | .nil, _ => h0
  | .append (.nest c .nil) r₉, h => h1 c r₉ h.1 h.2 (tInd h0 h1 h2 h3 r₉ h.2)
  | .append (.append a₉ b₉) r₉, h => h2 a₉ b₉ r₉ h.1 h.2.1 h.2.2 (tInd h0 h1 h2 h3 a₉ h.1) (tInd h0 h1 h2 h3 b₉ h.2.1) (tInd h0 h1 h2 h3 r₉ h.2.2)
  | .append (.tag n₉ a₉) r₉, h => h3 n₉ a₉ r₉ h.1 h.2.1 h.2.2 (tInd h0 h1 h2 h3 a₉ h.2.1) (tInd h0 h1 h2 h3 r₉ h.2.2)
  | .line, h => h.elim
  | .align _, h => h.elim
  | .text _, h => h.elim
  | .nest _ _, h => h.elim
  | .group _ _, h => h.elim
  | .tag _ _, h => h.elim
  | .append .nil _, h => h.elim
  | .append .line _, h => h.elim
  | .append (.align _) _, h => h.elim
  | .append (.text _) _, h => h.elim
  | .append (.group _ _) _, h => h.elim
  | .append (.nest _ .line) _, h => h.elim
  | .append (.nest _ (.align _)) _, h => h.elim
  | .append (.nest _ (.text _)) _, h => h.elim
  | .append (.nest _ (.nest _ _)) _, h => h.elim
  | .append (.nest _ (.append _ _)) _, h => h.elim
  | .append (.nest _ (.group _ _)) _, h => h.elim
  | .append (.nest _ (.tag _ _)) _, h => h.elim
/-- how many₉ signs, how deep₉, how many₉ looks₉ -/
def tLen : Tr → Nat
  | .append (.nest _ .nil) r₉ => 1 + tLen r₉
  | .append (.append a₉ b₉) r₉ => 3 + tLen a₉ + tLen b₉ + tLen r₉
  | .append (.tag _ a₉) r₉ => 2 + tLen a₉ + tLen r₉
  | _ => 0
def tDep : Tr → Nat
  | .append (.nest _ .nil) r₉ => tDep r₉
  | .append (.append a₉ b₉) r₉ => max (1 + max (tDep a₉) (tDep b₉)) (tDep r₉)
  | .append (.tag _ a₉) r₉ => max (1 + tDep a₉) (tDep r₉)
  | _ => 0
def tLks : Tr → Nat
  | .append (.nest c .nil) r₉ => (if c = 46 then 0 else 1) + tLks r₉
  | .append (.append a₉ b₉) r₉ => tLks a₉ + tLks b₉ + tLks r₉
  | .append (.tag _ a₉) r₉ => tLks a₉ + tLks r₉
  | _ => 0
def tChs : Tr → Nat
  | .append (.nest _ .nil) r₉ => tChs r₉
  | .append (.append a₉ b₉) r₉ => 1 + tChs a₉ + tChs b₉ + tChs r₉
  | .append (.tag _ a₉) r₉ => tChs a₉ + tChs r₉
  | _ => 0
def tLps : Tr → Nat
  | .append (.nest _ .nil) r₉ => tLps r₉
  | .append (.append a₉ b₉) r₉ => tLps a₉ + tLps b₉ + tLps r₉
  | .append (.tag _ a₉) r₉ => 1 + tLps a₉ + tLps r₉
  | _ => 0
/-- the lines looked at, as₉ bits₉, added₉ to₉ a₉ mask -/
def tMsk : Tr → Int → Int
  | .append (.nest c .nil) r₉, m => tMsk r₉ (if c = 46 then m else orb m (c - 97))
  | .append (.append a₉ b₉) r₉, m => tMsk r₉ (tMsk b₉ (tMsk a₉ m))
  | .append (.tag _ a₉) r₉, m => tMsk r₉ (tMsk a₉ m)
  | _, m => m
/-- a₉ run₉: the row₉, what it took, hits, misses, bits₉ asked₉ -/
abbrev RS : Type := Int × Int × Int × Int × Int
def bitOf (chosen asked₉ : Int) : Int := if asked₉ < 20 then chosen / 2 ^ asked₉.toNat % 2 else 0
def rLook (w₉ kd pr c : Int) (s : RS) : RS := if c = 46 then (s.1, s.2.1 + 1, s.2.2.1, s.2.2.2.1, s.2.2.2.2) else if mPlace s.1 (c - 97) = -1 then (mAfter s.1 (c - 97) w₉ kd, s.2.1 + pr, s.2.2.1, s.2.2.2.1 + 1, s.2.2.2.2) else (mAfter s.1 (c - 97) w₉ kd, s.2.1 + 1, s.2.2.1 + 1, s.2.2.2.1, s.2.2.2.2)
def rAsk (s : RS) : RS := (s.1, s.2.1, s.2.2.1, s.2.2.2.1, s.2.2.2.2 + 1)
def rLoop (ch₉ : Int) (f₉ : RS → RS) : Nat → RS → RS
  | 0, s => s
  | n₉ + 1, s => if bitOf ch₉ s.2.2.2.2 = 1 then rLoop ch₉ f₉ n₉ (f₉ (rAsk s)) else rAsk s
def rn (w₉ kd pr ch₉ : Int) : Tr → RS → RS
  | .append (.nest c .nil) r₉, s => rn w₉ kd pr ch₉ r₉ (rLook w₉ kd pr c s)
  | .append (.append a₉ b₉) r₉, s => rn w₉ kd pr ch₉ r₉ (if bitOf ch₉ s.2.2.2.2 = 1 then rn w₉ kd pr ch₉ b₉ (rAsk s) else rn w₉ kd pr ch₉ a₉ (rAsk s))
  | .append (.tag n₉ a₉) r₉, s => rn w₉ kd pr ch₉ r₉ (rLoop ch₉ (rn w₉ kd pr ch₉ a₉) n₉ s)
  | _, s => s
/-- all₉ ways: which rows₉, at which cost₉ -/
abbrev XS : Type := Int → Int → Prop
def xLook (w₉ kd pr c : Int) (S₉ : XS) : XS := if c = 46 then fun r₉ k₉ => S₉ r₉ (k₉ - 1) else fun r₉ k₉ => ∃ a₉ b₉, S₉ a₉ b₉ ∧ r₉ = mAfter a₉ (c - 97) w₉ kd ∧ k₉ = b₉ + (if mPlace a₉ (c - 97) = -1 then pr else 1)
def xLoop (f₉ : XS → XS) : Nat → XS → XS
  | 0, S₉ => S₉
  | n₉ + 1, S₉ => fun r₉ k₉ => S₉ r₉ k₉ ∨ xLoop f₉ n₉ (f₉ S₉) r₉ k₉
def ex₉ (w₉ kd pr : Int) : Tr → XS → XS
  | .append (.nest c .nil) r₉, S₉ => ex₉ w₉ kd pr r₉ (xLook w₉ kd pr c S₉)
  | .append (.append a₉ b₉) r₉, S₉ => ex₉ w₉ kd pr r₉ (fun x₉ k₉ => ex₉ w₉ kd pr a₉ S₉ x₉ k₉ ∨ ex₉ w₉ kd pr b₉ S₉ x₉ k₉)
  | .append (.tag n₉ a₉) r₉, S₉ => ex₉ w₉ kd pr r₉ (xLoop (ex₉ w₉ kd pr a₉) n₉ S₉)
  | _, S₉ => S₉
/-- the ages: at most (must), at least₉ (may₉) -/
abbrev AG₉ : Type := (Int → Int) × (Int → Int)
def aLook (v₉ c : Int) (A₉ : AG₉) : AG₉ := if c = 46 then A₉ else (lkMu A₉.1 (c - 97), lkMa A₉.2 (c - 97) v₉)
def aJoin (A₉ B₉ : AG₉) : AG₉ := (jnMu A₉.1 B₉.1, jnMa A₉.2 B₉.2)
def aSame (A₉ B₉ : AG₉) : Prop := ∀ z₉ : Int, 0 ≤ z₉ → z₉ < 6 → B₉.1 z₉ ≤ A₉.1 z₉ ∧ A₉.2 z₉ ≤ B₉.2 z₉
noncomputable def aFix (f₉ : AG₉ → AG₉) : Nat → AG₉ → AG₉
  | 0, A₉ => A₉
  | n₉ + 1, A₉ => @ite AG₉ (aSame A₉ (f₉ A₉)) (Classical.propDecidable _) A₉ (aFix f₉ n₉ (aJoin A₉ (f₉ A₉)))
noncomputable def fa (v₉ : Int) : Tr → AG₉ → AG₉
  | .append (.nest c .nil) r₉, A₉ => fa v₉ r₉ (aLook v₉ c A₉)
  | .append (.append a₉ b₉) r₉, A₉ => fa v₉ r₉ (aJoin (fa v₉ a₉ A₉) (fa v₉ b₉ A₉))
  | .append (.tag _ a₉) r₉, A₉ => fa v₉ r₉ (aFix (fa v₉ a₉) 37 A₉)
  | _, A₉ => A₉
/-- the ages at the looks₉, in order₉, at last₉ -/
noncomputable def fRec (v₉ : Int) : Tr → AG₉ → List (Int × Int)
  | .append (.nest c .nil) r₉, A₉ => (if c = 46 then [] else [(A₉.1 (c - 97), A₉.2 (c - 97))]) ++ fRec v₉ r₉ (aLook v₉ c A₉)
  | .append (.append a₉ b₉) r₉, A₉ => fRec v₉ a₉ A₉ ++ fRec v₉ b₉ A₉ ++ fRec v₉ r₉ (aJoin (fa v₉ a₉ A₉) (fa v₉ b₉ A₉))
  | .append (.tag _ a₉) r₉, A₉ => fRec v₉ a₉ (aFix (fa v₉ a₉) 37 A₉) ++ fRec v₉ r₉ (aFix (fa v₉ a₉) 37 A₉)
  | _, _ => []
/-- bounds: 'so' says₉ what look₉ k₉ is₉ (0, 1, 2) -/
def upB₉ (so : Int → Int) (pr : Int) : Tr → Int → Int
  | .append (.nest c .nil) r₉, k₉ => (if c = 46 then 1 else if so k₉ = 1 then 1 else pr) + upB₉ so pr r₉ (k₉ + if c = 46 then 0 else 1)
  | .append (.append a₉ b₉) r₉, k₉ => max (upB₉ so pr a₉ k₉) (upB₉ so pr b₉ (k₉ + tLks a₉)) + upB₉ so pr r₉ (k₉ + tLks a₉ + tLks b₉)
  | .append (.tag n₉ a₉) r₉, k₉ => n₉ * upB₉ so pr a₉ k₉ + upB₉ so pr r₉ (k₉ + tLks a₉)
  | _, _ => 0
def loB₉ (so : Int → Int) (pr : Int) : Tr → Int → Int
  | .append (.nest c .nil) r₉, k₉ => (if c = 46 then 1 else if so k₉ = 2 then pr else 1) + loB₉ so pr r₉ (k₉ + if c = 46 then 0 else 1)
  | .append (.append a₉ b₉) r₉, k₉ => min (loB₉ so pr a₉ k₉) (loB₉ so pr b₉ (k₉ + tLks a₉)) + loB₉ so pr r₉ (k₉ + tLks a₉ + tLks b₉)
  | .append (.tag _ a₉) r₉, k₉ => loB₉ so pr r₉ (k₉ + tLks a₉)
  | _, _ => 0
/-- how many₉ ways, cut₉; from a₉ number₉ on₉ -/
def wyB : Tr → Int → Int
  | .append (.nest _ .nil) r₉, x₉ => wyB r₉ x₉
  | .append (.append a₉ b₉) r₉, x₉ => wyB r₉ (min (x₉ * (wyB a₉ 1 + wyB b₉ 1)) 1000000000)
  | .append (.tag n₉ a₉) r₉, x₉ => wyB r₉ (min (x₉ * (pws (wyB a₉ 1) n₉).1) 1000000000)
  | _, x₉ => x₉
