/-! A₉ contract₉ with a₉ weaker end. -/
theorem CT.mono {E : En} {M₉ : Mth} {d₉ mc₉ ms : Nat} {as₉ : List Value} {N : Nat} {σ : Nat → va_E} {post₉ post' : Option Value → Nat → (Nat → va_E) → Prop} (h : CT E M₉ d₉ mc₉ ms as₉ N σ post₉) (hp : ∀ r₉ N' σ', post₉ r₉ N' σ' → post' r₉ N' σ') : CT E M₉ d₉ mc₉ ms as₉ N σ post' := by
  intro p e ha₉ hc₉ hk s m args below hf happ hP hK₉
  obtain ⟨t₉, o, a1₉, b1, b2, ⟨⟨r₉, N', σ', h1, h2, h3⟩, hF⟩, b4⟩ := h p e ha₉ hc₉ hk s m args below hf happ hP hK₉
  exact ⟨t₉, o, a1₉, b1, b2, ⟨⟨r₉, N', σ', h1, hp _ _ _ h2, h3⟩, hF⟩, b4⟩
theorem CV.mono {E : En} {M₉ : Mth} {d₉ : Nat} {as₉ : List Value} {N : Nat} {σ : Nat → va_E} {post₉ post' : (Nat → va_E) → Prop} (h : CV E M₉ d₉ as₉ N σ post₉) (hp : ∀ σ', post₉ σ' → post' σ') : CV E M₉ d₉ as₉ N σ post' := CT.mono h (fun _ _ _ q₉ => ⟨q₉.1, q₉.2.1, hp _ q₉.2.2⟩)
/-! Explorer: all₉ ways through₉ a₉ tree at once. -/
/-- the class's rows₉ of₉ a₉ set₉ of₉ the model's -/
def img (S₉ : XS) : XS := fun R c => ∃ r₉, S₉ r₉ c ∧ R = en r₉
def vS (u₉ : Int) (S₉ : XS) : Prop := ∀ r₉ c, S₉ r₉ c → vrow u₉ r₉
theorem img_or (S₉ T : XS) (R c : Int) : img (fun r₉ k₉ => S₉ r₉ k₉ ∨ T r₉ k₉) R c ↔ (img S₉ R c ∨ img T R c) := by
  constructor
  · rintro ⟨r₉, h | h, e⟩
    · exact Or.inl ⟨r₉, h, e⟩
    · exact Or.inr ⟨r₉, h, e⟩
  · rintro (⟨r₉, h, e⟩ | ⟨r₉, h, e⟩)
    · exact ⟨r₉, Or.inl h, e⟩
    · exact ⟨r₉, Or.inr h, e⟩
theorem vS_look {u₉ kd pr c : Int} {S₉ : XS} (h : vS u₉ S₉) (hc₉ : okc c) (hu : 1 ≤ u₉ ∧ u₉ ≤ 3) (hk : 0 ≤ kd ∧ kd ≤ 3) : vS u₉ (xLook u₉ kd pr c S₉) := by
  unfold xLook
  split
  · exact fun r₉ k₉ hr => h _ _ hr
  · rintro r₉ k₉ ⟨a₉, b₉, hab, rfl, -⟩
    exact (row_ok (x₉ := c - 97) (h a₉ b₉ hab) (by unfold okc at hc₉; omega) hu hk).2.2
theorem vS_loop {u₉ : Int} {f₉ : XS → XS} (hf : ∀ S₉, vS u₉ S₉ → vS u₉ (f₉ S₉)) : ∀ (n₉ : Nat) (S₉ : XS), vS u₉ S₉ → vS u₉ (xLoop f₉ n₉ S₉)
  | 0, S₉, h => h
  | n₉ + 1, S₉, h => fun r₉ k₉ hr => hr.elim (h r₉ k₉) (vS_loop hf n₉ _ (hf S₉ h) r₉ k₉)
theorem vS_ex {u₉ kd pr : Int} (hu : 1 ≤ u₉ ∧ u₉ ≤ 3) (hk : 0 ≤ kd ∧ kd ≤ 3) : ∀ t₉, wf t₉ → ∀ S₉, vS u₉ S₉ → vS u₉ (ex₉ u₉ kd pr t₉ S₉) := by
  refine tInd (fun S₉ h => h) (fun c r₉ hc₉ _ ih₉ S₉ h => ih₉ _ (vS_look h hc₉ hu hk)) (fun a₉ b₉ r₉ _ _ _ iha ihb ihr S₉ h => ihr _ (fun x₉ k₉ hx => hx.elim (iha S₉ h x₉ k₉) (ihb S₉ h x₉ k₉))) (fun n₉ a₉ r₉ _ _ _ iha ihr S₉ h => ihr _ (vS_loop (fun S₉ h => iha S₉ h) n₉ S₉ h))
/-- a₉ bound₉ of₉ what it takes₉ -/
def cB₉ : Tr → Nat
  | .append (.nest _ .nil) r₉ => 99 + cB₉ r₉
  | .append (.append a₉ b₉) r₉ => cB₉ a₉ + cB₉ b₉ + cB₉ r₉
  | .append (.tag n₉ a₉) r₉ => n₉ * cB₉ a₉ + cB₉ r₉
  | _ => 0
def pool₉ (i₉ : Nat) : Prop := i₉ = 59 ∨ i₉ = 64 ∨ i₉ = 68 ∨ i₉ = 72 ∨ i₉ = 76
def frontNo (i₉ : Nat) : Prop := pool₉ i₉ ∨ i₉ = 80 ∨ i₉ = 84 ∨ i₉ = 88
theorem front_apart {i₉ j₉ : Nat} (hi₉ : frontNo i₉) (hj : frontNo j₉) (h : i₉ ≠ j₉) : i₉ + 3 < j₉ ∨ j₉ + 3 < i₉ := by
  unfold frontNo pool₉ at hi₉ hj
  rcases hi₉ with (h1 | h1 | h1 | h1 | h1) | h1 | h1 | h1 <;> omega
def jF (E : En) (σ : Nat → va_E) (i₉ : Nat) : Prop := ∃ S₉ B₉, frI E σ i₉ S₉ B₉ ∧ B₉ < 1900000000
def allF (E : En) (σ : Nat → va_E) : Prop := ∀ i₉, frontNo i₉ → jF E σ i₉
theorem frI.sb {E : En} {σ : Nat → va_E} {i₉ : Nat} {S₉ : XS} {B₉ : Int} (h : frI E σ i₉ S₉ B₉) : Sb S₉ B₉ := by
  obtain ⟨_, _, _, _, _, _, h⟩ := h
  exact h
theorem frI.tight {E : En} {σ : Nat → va_E} {i₉ : Nat} {S₉ : XS} {B₉ B' : Int} (h : frI E σ i₉ S₉ B₉) (hb₉ : Sb S₉ B') : frI E σ i₉ S₉ B' := by
  obtain ⟨a₉, b₉, c, d₉, h1, h2, -⟩ := h
  exact ⟨a₉, b₉, c, d₉, h1, h2, hb₉⟩
theorem allF.step {E : En} {σ τ : Nat → va_E} {i₉ : Nat} {S₉ : XS} {B₉ : Int} (h : allF E σ) (hi₉ : frontNo i₉) (hf : frI E τ i₉ S₉ B₉) (hB₉ : B₉ < 1900000000) (hk : ∀ q₉, (q₉ < i₉ ∨ i₉ + 3 < q₉) → τ q₉ = σ q₉) : allF E τ := by
  intro j₉ hj
  by_cases e : j₉ = i₉
  · subst e; exact ⟨S₉, B₉, hf, hB₉⟩
  · obtain ⟨T, C₉, h1, h2⟩ := h j₉ hj
    have ap := front_apart hj hi₉ e
    exact ⟨T, C₉, h1.keep (fun q₉ k1₉ k2₉ => hk q₉ (by omega)), h2⟩
theorem allF.keep {E : En} {σ τ : Nat → va_E} (h : allF E σ) (hk : ∀ q₉, 59 ≤ q₉ → q₉ ≤ 91 → q₉ ≠ 63 → τ q₉ = σ q₉) : allF E τ := by
  intro j₉ hj
  obtain ⟨T, C₉, h1, h2⟩ := h j₉ hj
  refine ⟨T, C₉, h1.keep (fun q₉ k1₉ k2₉ => hk q₉ ?_ ?_ ?_), h2⟩ <;> (unfold frontNo pool₉ at hj; omega)
/-- which front is₉ now[d₉], which is₉ unused -/
def okN (nw : Int → Nat) (un : Nat) : Prop := (∀ d₉ : Int, 0 ≤ d₉ → d₉ ≤ 3 → pool₉ (nw d₉) ∧ nw d₉ ≠ un) ∧ pool₉ un ∧ ∀ d₉ d' : Int, 0 ≤ d₉ → d₉ ≤ 3 → 0 ≤ d' → d' ≤ 3 → nw d₉ = nw d' → d₉ = d'
def isEx (E : En) (σ : Nat → va_E) (nw : Int → Nat) (un : Nat) (kn₉ : Int) : Prop := σ 56 = ob 2 [vr E 57, vr E 58, vr E un, vr E 63, vi kn₉] ∧ σ 57 = ar E 5 4 (fun z₉ => (nw z₉ : Int)) ∧ σ 58 = ar E 5 3 (fun z₉ => 80 + 4 * z₉)
theorem isEx.keep {E : En} {σ τ : Nat → va_E} {nw : Int → Nat} {un : Nat} {kn₉ : Int} (h : isEx E σ nw un kn₉) (hk : ∀ j₉, 56 ≤ j₉ → j₉ ≤ 58 → τ j₉ = σ j₉) : isEx E τ nw un kn₉ := ⟨(hk _ (by omega) (by omega)).trans h.1, (hk _ (by omega) (by omega)).trans h.2.1, (hk _ (by omega) (by omega)).trans h.2.2⟩
/-- what holds₉ behind₉ a₉ row₉ at depth dl -/
def xPost (E : En) (σ σ' : Nat → va_E) (nw : Int → Nat) (kn₉ : Int) (dl : Nat) (S₉ : XS) (B₉ : Int) : Prop := ∃ (nw' : Int → Nat) (un' : Nat), okN nw' un' ∧ (∀ d₉ : Int, d₉ < dl → nw' d₉ = nw d₉) ∧ isEx E σ' nw' un' kn₉ ∧ frI E σ' (nw' dl) (img S₉) B₉ ∧ allF E σ' ∧ (∀ q₉, (q₉ < 56 ∨ 91 < q₉ ∨ q₉ = 63) → σ' q₉ = σ q₉) ∧ (∀ d₉ : Int, 0 ≤ d₉ → d₉ < dl → ∀ q₉, nw d₉ ≤ q₉ → q₉ ≤ nw d₉ + 3 → σ' q₉ = σ q₉) ∧ ∀ d₉ : Nat, d₉ < dl → ∀ q₉, 80 + 4 * d₉ ≤ q₉ → q₉ ≤ 83 + 4 * d₉ → σ' q₉ = σ q₉
def ExpRow (E : En) (N D₉ : Nat) : Prop := ∀ (t₉ : Tr) (σ : Nat → va_E) (sg vl mt₉ lw ll la : Int → Int) (sz₉ lk₉ chs lps dp ln o k₉ lp : Int) (dl : Nat) (nw : Int → Nat) (un : Nat) (kn₉ r0 u₉ kd pr B₉ : Int) (S₉ : XS), 101 ≤ N → isP E σ 23 sg vl mt₉ lw ll la sz₉ lk₉ chs lps dp ln → okP sg vl mt₉ lw ll la sz₉ lk₉ chs lps dp ln → wf t₉ → tDep t₉ ≤ D₉ → PA₉ sg vl mt₉ lw ll la t₉ o k₉ lp → (0 ≤ o ∧ o + tLen t₉ ≤ sz₉) → (0 ≤ k₉ ∧ k₉ + tLks t₉ ≤ lk₉) → tDep t₉ + dl ≤ 3 → (1 ≤ u₉ ∧ u₉ ≤ 3) → (0 ≤ kd ∧ kd ≤ 3) → (2 ≤ pr ∧ pr ≤ 99) → (0 ≤ B₉ ∧ B₉ + cB₉ t₉ ≤ 1000000000) → okN nw un → isEx E σ nw un kn₉ → σ 63 = ob 1 [vi r0, vi u₉, vi kd, vi pr] → vS u₉ S₉ → frI E σ (nw dl) (img S₉) B₉ → allF E σ →
  CV E M_X2_exploreRow (7 + 2 * D₉) [vr E 56, vr E 23, vi o, vi (o + tLen t₉), vi dl] N σ (fun σ' => xPost E σ σ' nw kn₉ dl (ex₉ u₉ kd pr t₉ S₉) (B₉ + cB₉ t₉))
theorem frI.setAsP {E : En} {N : Nat} {σ : Nat → va_E} {i₉ j₉ : Nat} {T : XS} {B₉ : Int} (hi₉ : i₉ + 3 < N) (hj : j₉ + 3 < N) (hij : i₉ + 3 < j₉ ∨ j₉ + 3 < i₉) (h1 : jF E σ i₉) (h2 : frI E σ j₉ T B₉) (hB₉ : 0 ≤ B₉ ∧ B₉ < 1900000000) : CV E M_X4_setAs 4 [vr E i₉, vr E j₉] N σ (fun σ' => frI E σ' i₉ T B₉ ∧ ∀ q₉, (q₉ < i₉ ∨ i₉ + 3 < q₉) → σ' q₉ = σ q₉) := by
  obtain ⟨S₉, C₉, k1₉, k2₉⟩ := h1
  have h := c_X4_setAs E N σ i₉ j₉ S₉ T 1900000000 hi₉ hj hij (k1₉.wide (by omega)) (h2.wide (by omega)) (by omega) (by omega)
  exact CV.mono h (fun σ' hp => ⟨hp.1.tight h2.sb, hp.2⟩)

