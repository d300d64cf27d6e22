/-! The reference₉: all₉ ways along₉ the signs. -/
/-- at a₉ row₉ the most, 343 on₉ the least₉; -1 where no₉ way₉ comes -/
def TK₉ (g₉ : Int → Int) (S₉ : XS) (B₉ : Int) : Prop := ∀ r₉ : Int, 0 ≤ r₉ → r₉ < 343 → (g₉ r₉ = -1 ∧ ∀ c, ¬ S₉ r₉ c) ∨ ((0 ≤ g₉ (343 + r₉) ∧ g₉ r₉ ≤ B₉) ∧ S₉ r₉ (g₉ r₉) ∧ S₉ r₉ (g₉ (343 + r₉)) ∧ ∀ c, S₉ r₉ c → g₉ (343 + r₉) ≤ c ∧ c ≤ g₉ r₉)
theorem TK₉.iff {g₉ : Int → Int} {S₉ T : XS} {B₉ : Int} (h : TK₉ g₉ S₉ B₉) (e : ∀ r₉ c, S₉ r₉ c ↔ T r₉ c) : TK₉ g₉ T B₉ := fun r₉ r0 r1₉ => by
  rcases h r₉ r0 r1₉ with q₉ | q₉
  · exact Or.inl ⟨q₉.1, fun c z₉ => q₉.2 c ((e r₉ c).mpr z₉)⟩
  · exact Or.inr ⟨q₉.1, (e _ _).mp q₉.2.1, (e _ _).mp q₉.2.2.1, fun c z₉ => q₉.2.2.2 c ((e r₉ c).mpr z₉)⟩
theorem TK₉.ext {g₉ g' : Int → Int} {S₉ : XS} {B₉ : Int} (h : TK₉ g₉ S₉ B₉) (e : ∀ z₉ : Int, 0 ≤ z₉ → z₉ < 686 → g' z₉ = g₉ z₉) : TK₉ g' S₉ B₉ := fun r₉ r0 r1₉ => by
  rw [e r₉ r0 (by omega), e (343 + r₉) (by omega) (by omega)]; exact h r₉ r0 r1₉
theorem TK₉.mono {g₉ : Int → Int} {S₉ : XS} {B₉ B' : Int} (h : TK₉ g₉ S₉ B₉) (e : B₉ ≤ B') : TK₉ g₉ S₉ B' := fun r₉ r0 r1₉ => by
  rcases h r₉ r0 r1₉ with q₉ | q₉
  · exact Or.inl q₉
  · exact Or.inr ⟨by omega, q₉.2⟩
theorem TK₉.val {g₉ : Int → Int} {S₉ : XS} {B₉ : Int} (h : TK₉ g₉ S₉ B₉) {r₉ : Int} (hr : 0 ≤ r₉ ∧ r₉ < 343) : g₉ r₉ = -1 ∨ (0 ≤ g₉ (343 + r₉) ∧ g₉ (343 + r₉) ≤ g₉ r₉ ∧ g₉ r₉ ≤ B₉) := by
  rcases h r₉ hr.1 hr.2 with q₉ | q₉
  · exact Or.inl q₉.1
  · have := (q₉.2.2.2 _ q₉.2.1).1
    exact Or.inr ⟨q₉.1.1, this, q₉.1.2⟩
def cmF (g₉ : Int → Int) (a₉ row₉ mo le₉ : Int) : Int → Int := up (up g₉ (a₉ + row₉) (if 0 ≤ g₉ (a₉ + row₉) ∧ mo < g₉ (a₉ + row₉) then g₉ (a₉ + row₉) else mo)) (a₉ + 343 + row₉) (if 0 ≤ g₉ (a₉ + row₉) ∧ g₉ (a₉ + 343 + row₉) < le₉ then g₉ (a₉ + 343 + row₉) else le₉)
theorem cmF_out {g₉ : Int → Int} {a₉ row₉ mo le₉ z₉ : Int} (hr : 0 ≤ row₉ ∧ row₉ < 343) (hz : z₉ < a₉ ∨ a₉ + 686 ≤ z₉) : cmF g₉ a₉ row₉ mo le₉ z₉ = g₉ z₉ := by
  unfold cmF
  rw [up_ne _ _ (by omega), up_ne _ _ (by omega)]
theorem cm_TK {g₉ : Int → Int} {a₉ row₉ mo le₉ B₉ : Int} {T : XS} {Pq : Int → Prop} (h : TK₉ (fun z₉ => g₉ (a₉ + z₉)) T B₉) (hr : 0 ≤ row₉ ∧ row₉ < 343) (hl : 0 ≤ le₉ ∧ mo ≤ B₉) (h1 : Pq mo) (h2 : Pq le₉) (h3 : ∀ c, Pq c → le₉ ≤ c ∧ c ≤ mo) : TK₉ (fun z₉ => cmF g₉ a₉ row₉ mo le₉ (a₉ + z₉)) (fun r₉ c => T r₉ c ∨ (r₉ = row₉ ∧ Pq c)) B₉ := by
  intro r₉ r0 r1₉
  have q₉ := h r₉ r0 r1₉
  show (cmF g₉ a₉ row₉ mo le₉ (a₉ + r₉) = -1 ∧ _) ∨ ((0 ≤ cmF g₉ a₉ row₉ mo le₉ (a₉ + (343 + r₉)) ∧ cmF g₉ a₉ row₉ mo le₉ (a₉ + r₉) ≤ B₉) ∧ (T r₉ (cmF g₉ a₉ row₉ mo le₉ (a₉ + r₉)) ∨ (r₉ = row₉ ∧ Pq (cmF g₉ a₉ row₉ mo le₉ (a₉ + r₉)))) ∧ (T r₉ (cmF g₉ a₉ row₉ mo le₉ (a₉ + (343 + r₉))) ∨ (r₉ = row₉ ∧ Pq (cmF g₉ a₉ row₉ mo le₉ (a₉ + (343 + r₉))))) ∧ ∀ c, (T r₉ c ∨ (r₉ = row₉ ∧ Pq c)) → cmF g₉ a₉ row₉ mo le₉ (a₉ + (343 + r₉)) ≤ c ∧ c ≤ cmF g₉ a₉ row₉ mo le₉ (a₉ + r₉))
  have q₉ : (g₉ (a₉ + r₉) = -1 ∧ ∀ c, ¬ T r₉ c) ∨ ((0 ≤ g₉ (a₉ + (343 + r₉)) ∧ g₉ (a₉ + r₉) ≤ B₉) ∧ T r₉ (g₉ (a₉ + r₉)) ∧ T r₉ (g₉ (a₉ + (343 + r₉))) ∧ ∀ c, T r₉ c → g₉ (a₉ + (343 + r₉)) ≤ c ∧ c ≤ g₉ (a₉ + r₉)) := q₉
  rw [show a₉ + (343 + r₉) = a₉ + 343 + r₉ by omega] at q₉ ⊢
  by_cases e : r₉ = row₉
  · subst e
    have e1₉ : cmF g₉ a₉ r₉ mo le₉ (a₉ + r₉) = if 0 ≤ g₉ (a₉ + r₉) ∧ mo < g₉ (a₉ + r₉) then g₉ (a₉ + r₉) else mo := by unfold cmF; rw [up_ne _ _ (by omega), up_self]
    have e2₉ : cmF g₉ a₉ r₉ mo le₉ (a₉ + 343 + r₉) = if 0 ≤ g₉ (a₉ + r₉) ∧ g₉ (a₉ + 343 + r₉) < le₉ then g₉ (a₉ + 343 + r₉) else le₉ := by unfold cmF; rw [up_self]
    rw [e1₉, e2₉]
    have hm₉ := h3 mo h1
    rcases q₉ with q₉ | q₉
    · rw [if_neg (by omega), if_neg (by omega)]
      refine Or.inr ⟨hl, Or.inr ⟨rfl, h1⟩, Or.inr ⟨rfl, h2⟩, fun c hc₉ => ?_⟩
      rcases hc₉ with hc₉ | hc₉
      · exact absurd hc₉ (q₉.2 c)
      · exact h3 c hc₉.2
    · have hg := (q₉.2.2.2 _ q₉.2.1).1
      refine Or.inr ⟨?_, ?_, ?_, fun c hc₉ => ?_⟩
      · constructor
        · split <;> omega
        · split <;> omega
      · split
        · exact Or.inl q₉.2.1
        · exact Or.inr ⟨rfl, h1⟩
      · split
        · exact Or.inl q₉.2.2.1
        · exact Or.inr ⟨rfl, h2⟩
      · have hc2 : (g₉ (a₉ + 343 + r₉) ≤ c ∧ c ≤ g₉ (a₉ + r₉)) ∨ (le₉ ≤ c ∧ c ≤ mo) := hc₉.elim (fun z₉ => Or.inl (q₉.2.2.2 c z₉)) (fun z₉ => Or.inr (h3 c z₉.2))
        constructor
        · split <;> omega
        · split <;> omega
  · have e1₉ : cmF g₉ a₉ row₉ mo le₉ (a₉ + r₉) = g₉ (a₉ + r₉) := by unfold cmF; rw [up_ne _ _ (by omega), up_ne _ _ (by omega)]
    have e2₉ : cmF g₉ a₉ row₉ mo le₉ (a₉ + 343 + r₉) = g₉ (a₉ + 343 + r₉) := by unfold cmF; rw [up_ne _ _ (by omega), up_ne _ _ (by omega)]
    rw [e1₉, e2₉]
    rcases q₉ with q₉ | q₉
    · exact Or.inl ⟨q₉.1, fun c hc₉ => hc₉.elim (q₉.2 c) (fun z₉ => e z₉.1)⟩
    · exact Or.inr ⟨q₉.1, Or.inl q₉.2.1, Or.inl q₉.2.2.1, fun c hc₉ => hc₉.elim (q₉.2.2.2 c) (fun z₉ => absurd z₉.1 e)⟩
/-- what comes of₉ the rows₉ ahead₉ of₉ j₉ -/
def xD (aft cst : Int → Int) (S₉ : XS) (j₉ : Int) : XS := fun r₉ c => ∃ a₉, (0 ≤ a₉ ∧ a₉ < j₉) ∧ S₉ a₉ (c - cst a₉) ∧ r₉ = aft a₉
theorem xD_0 (aft cst : Int → Int) (S₉ : XS) (r₉ c : Int) : ¬ xD aft cst S₉ 0 r₉ c := fun ⟨a₉, h, _⟩ => by omega
theorem xD_s (aft cst : Int → Int) (S₉ : XS) (j₉ : Nat) (r₉ c : Int) : (xD aft cst S₉ j₉ r₉ c ∨ (r₉ = aft j₉ ∧ S₉ j₉ (c - cst j₉))) ↔ xD aft cst S₉ ((j₉ + 1 : Nat) : Int) r₉ c := by
  constructor
  · rintro (⟨a₉, h1, h2, h3⟩ | ⟨h1, h2⟩)
    · exact ⟨a₉, by omega, h2, h3⟩
    · exact ⟨j₉, by omega, h2, h1⟩
  · rintro ⟨a₉, h1, h2, h3⟩
    by_cases e : a₉ = j₉
    · subst e; exact Or.inr ⟨h3, h2⟩
    · exact Or.inl ⟨a₉, by omega, h2, h3⟩
theorem xD_n {aft cst : Int → Int} {S₉ : XS} {j₉ : Nat} (hn : ∀ c, ¬ S₉ j₉ c) (r₉ c : Int) : xD aft cst S₉ j₉ r₉ c ↔ xD aft cst S₉ ((j₉ + 1 : Nat) : Int) r₉ c := by
  rw [← xD_s]
  exact ⟨Or.inl, fun h => h.elim id (fun z₉ => absurd z₉.2 (hn _))⟩
theorem xD_dot {u₉ kd pr : Int} {S₉ : XS} (hv : vS u₉ S₉) (r₉ c : Int) : xD (fun a₉ => a₉) (fun _ => 1) S₉ 343 r₉ c ↔ xLook u₉ kd pr 46 S₉ r₉ c := by
  unfold xLook
  rw [if_pos rfl]
  constructor
  · rintro ⟨a₉, h1, h2, h3⟩
    rw [h3]; exact h2
  · intro h
    exact ⟨r₉, (hv _ _ h).1, h, rfl⟩
theorem xD_look {u₉ kd pr x₉ : Int} {S₉ : XS} (hx : 97 ≤ x₉ ∧ x₉ ≤ 102) (hv : vS u₉ S₉) (r₉ c : Int) : xD (fun a₉ => mAfter a₉ (x₉ - 97) u₉ kd) (fun a₉ => if mPlace a₉ (x₉ - 97) = -1 then pr else 1) S₉ 343 r₉ c ↔ xLook u₉ kd pr x₉ S₉ r₉ c := by
  unfold xLook
  rw [if_neg (by omega)]
  constructor
  · rintro ⟨a₉, h1, h2, h3⟩
    exact ⟨a₉, _, h2, h3, by show c = c - (if mPlace a₉ (x₉ - 97) = -1 then pr else 1) + _; omega⟩
  · rintro ⟨a₉, b₉, h1, h2, h3⟩
    refine ⟨a₉, (hv _ _ h1).1, ?_, h2⟩
    show S₉ a₉ (c - (if mPlace a₉ (x₉ - 97) = -1 then pr else 1))
    rw [h3, show b₉ + (if mPlace a₉ (x₉ - 97) = -1 then pr else 1) - (if mPlace a₉ (x₉ - 97) = -1 then pr else 1) = b₉ by omega]
    exact h1
/-- what there₉ is₉ and the rows₉ ahead₉ of₉ j₉ of₉ another one₉ -/
def jD (T S₉ : XS) (j₉ : Int) : XS := fun r₉ c => T r₉ c ∨ (r₉ < j₉ ∧ S₉ r₉ c)
theorem jD_s (T S₉ : XS) (j₉ : Nat) (r₉ c : Int) : (jD T S₉ j₉ r₉ c ∨ (r₉ = j₉ ∧ S₉ j₉ c)) ↔ jD T S₉ ((j₉ + 1 : Nat) : Int) r₉ c := by
  unfold jD
  constructor
  · rintro ((h | h) | h)
    · exact Or.inl h
    · exact Or.inr ⟨by omega, h.2⟩
    · exact Or.inr ⟨by omega, by rw [h.1]; exact h.2⟩
  · rintro (h | h)
    · exact Or.inl (Or.inl h)
    · by_cases e : r₉ = j₉
      · subst e; exact Or.inr ⟨rfl, h.2⟩
      · exact Or.inl (Or.inr ⟨by omega, h.2⟩)
theorem jD_n {T S₉ : XS} {j₉ : Nat} (hn : ∀ c, ¬ S₉ j₉ c) (r₉ c : Int) : jD T S₉ j₉ r₉ c ↔ jD T S₉ ((j₉ + 1 : Nat) : Int) r₉ c := by
  rw [← jD_s]
  exact ⟨Or.inl, fun h => h.elim id (fun z₉ => absurd z₉.2 (hn _))⟩
def gW (E : En) (σ ρ : Nat → va_E) (tk inn fi ro : Int → Int) : Prop := ρ 112 = ai E 686 tk ∧ (∃ nx, ρ 113 = ai E 686 nx) ∧ ρ 114 = ai E 2058 inn ∧ ρ 115 = ai E 2058 fi ∧ ρ 116 = ai E 3 ro ∧ ∀ q₉, ¬ (112 ≤ q₉ ∧ q₉ ≤ 116) → ρ q₉ = σ q₉
def lvG (g₉ : Int → Int) (dl : Int) (S₉ : XS) (B₉ : Int) : Prop := TK₉ (fun z₉ => g₉ (686 * dl + z₉)) S₉ B₉
def lowG (dl : Int) (inn fi ro inn' fi' ro' : Int → Int) : Prop := ∀ z₉ : Int, 0 ≤ z₉ → (z₉ < 686 * dl → inn' z₉ = inn z₉ ∧ fi' z₉ = fi z₉) ∧ (z₉ < dl → ro' z₉ = ro z₉)
theorem lowG.tr {n₉ n' k9 : Int} {a₉ b₉ c a' b' c' a2 b2 c2₉ : Int → Int} (h : lowG n₉ a₉ b₉ c a' b' c') (h' : lowG n' a' b' c' a2 b2 c2₉) (q₉ : k9 ≤ n₉ ∧ k9 ≤ n') : lowG k9 a₉ b₉ c a2 b2 c2₉ := fun z₉ z0 => ⟨fun hz => ⟨((h' z₉ z0).1 (by omega)).1.trans ((h z₉ z0).1 (by omega)).1, ((h' z₉ z0).1 (by omega)).2.trans ((h z₉ z0).1 (by omega)).2⟩, fun hz => ((h' z₉ z0).2 (by omega)).trans ((h z₉ z0).2 (by omega))⟩
theorem lvG.lo {inn fi ro inn' fi' ro' : Int → Int} {dl n₉ B₉ : Int} {S₉ : XS} (h : lvG inn dl S₉ B₉) (b₉ : lowG n₉ inn fi ro inn' fi' ro') (q₉ : 0 ≤ dl ∧ dl + 1 ≤ n₉) : lvG inn' dl S₉ B₉ := TK₉.ext h (fun z₉ z0 z1 => ((b₉ (686 * dl + z₉) (by omega)).1 (by omega)).1)
theorem lvG.lo2 {inn fi ro inn' fi' ro' : Int → Int} {dl n₉ B₉ : Int} {S₉ : XS} (h : lvG fi dl S₉ B₉) (b₉ : lowG n₉ inn fi ro inn' fi' ro') (q₉ : 0 ≤ dl ∧ dl + 1 ≤ n₉) : lvG fi' dl S₉ B₉ := TK₉.ext h (fun z₉ z0 z1 => ((b₉ (686 * dl + z₉) (by omega)).1 (by omega)).2)
set_option maxHeartbeats 4000000 in
theorem ge_walk {E : En} {σ : Nat → va_E} {sn eo bo : Int → Int} {len₉ u₉ kd pr : Int} (hu : 1 ≤ u₉ ∧ u₉ ≤ 3) (hk : 0 ≤ kd ∧ kd ≤ 3) (H₉ : (Nat → va_E) → Int → Int → Prop)
  (hdoes : ∀ (oo dl B₉ : Int) (S₉ : XS) (tk inn fi ro : Int → Int) (ρ : Nat → va_E), gW E σ ρ tk inn fi ro → 0 ≤ oo ∧ oo < len₉ → 0 ≤ dl ∧ dl ≤ 3 → (sn oo = 46 ∨ (97 ≤ sn oo ∧ sn oo ≤ 102)) → vS u₉ S₉ → 0 ≤ B₉ ∧ B₉ ≤ 1000000000 → TK₉ tk S₉ B₉ → (∀ tk' ρ', gW E σ ρ' tk' inn fi ro → TK₉ tk' (xLook u₉ kd pr (sn oo) S₉) (B₉ + 99) → H₉ ρ' (oo + 1) dl) → H₉ ρ oo dl)
  (hopen : ∀ (oo dl B₉ : Int) (S₉ : XS) (tk inn fi ro : Int → Int) (ρ : Nat → va_E), gW E σ ρ tk inn fi ro → 0 ≤ oo ∧ oo < len₉ → 0 ≤ dl ∧ dl ≤ 2 → (sn oo = 40 ∨ (49 ≤ sn oo ∧ sn oo ≤ 57)) → TK₉ tk S₉ B₉ → (∀ inn' ρ', gW E σ ρ' tk inn' fi (up ro dl 0) → lvG inn' dl S₉ B₉ → lowG dl inn fi ro inn' fi (up ro dl 0) → H₉ ρ' (oo + 1) (dl + 1)) → H₉ ρ oo dl)
  (hbar : ∀ (oo dl B0 B1 : Int) (S₉ A₉ : XS) (tk inn fi ro : Int → Int) (ρ : Nat → va_E), gW E σ ρ tk inn fi ro → 0 ≤ oo ∧ oo < len₉ → 0 ≤ dl ∧ dl ≤ 2 → sn oo = 124 → TK₉ tk A₉ B1 → lvG inn dl S₉ B0 → (∀ tk' fi' ρ', gW E σ ρ' tk' inn fi' ro → lvG fi' dl A₉ B1 → TK₉ tk' S₉ B0 → lowG dl inn fi ro inn fi' ro → H₉ ρ' (oo + 1) (dl + 1)) → H₉ ρ oo (dl + 1))
  (hclose : ∀ (oo dl B₉ : Int) (S₉ A₉ : XS) (tk inn fi ro : Int → Int) (ρ : Nat → va_E), gW E σ ρ tk inn fi ro → 0 ≤ oo ∧ oo < len₉ → 0 ≤ dl ∧ dl ≤ 2 → sn oo = 41 → 0 ≤ B₉ ∧ B₉ ≤ 1000000000 → TK₉ tk S₉ B₉ → lvG fi dl A₉ B₉ → (∀ tk' fi' ρ', gW E σ ρ' tk' inn fi' ro → TK₉ tk' (fun r₉ c => A₉ r₉ c ∨ S₉ r₉ c) B₉ → lowG dl inn fi ro inn fi' ro → H₉ ρ' (oo + 1) dl) → H₉ ρ oo (dl + 1))
  (hback : ∀ (oo dl o1 B₉ : Int) (n₉ : Nat) (Z₉ Y : XS) (tk inn fi ro : Int → Int) (ρ : Nat → va_E), gW E σ ρ tk inn fi ro → 0 ≤ oo ∧ oo < len₉ → 0 ≤ dl ∧ dl ≤ 2 → sn oo = 93 → eo oo = o1 → 0 ≤ o1 ∧ o1 < len₉ → sn o1 = 48 + n₉ → 1 ≤ n₉ ∧ n₉ ≤ 9 → 0 ≤ ro dl ∧ ro dl ≤ 9 → 0 ≤ B₉ ∧ B₉ ≤ 1000000000 → TK₉ tk Z₉ B₉ → lvG inn dl Y B₉ → (ro dl + 1 < n₉ → ∀ inn' ρ', gW E σ ρ' tk inn' fi (up ro dl (ro dl + 1)) → lvG inn' dl (fun r₉ c => Y r₉ c ∨ Z₉ r₉ c) B₉ → lowG dl inn fi ro inn' fi (up ro dl (ro dl + 1)) → H₉ ρ' (o1 + 1) (dl + 1)) → (n₉ ≤ ro dl + 1 → ∀ tk' inn' ρ', gW E σ ρ' tk' inn' fi (up ro dl (ro dl + 1)) → TK₉ tk' (fun r₉ c => Y r₉ c ∨ Z₉ r₉ c) B₉ → lowG dl inn fi ro inn' fi (up ro dl (ro dl + 1)) → H₉ ρ' (oo + 1) dl) → H₉ ρ oo (dl + 1)) :
  ∀ t₉, wf t₉ → ∀ (oo dl B₉ : Int) (S₉ : XS) (tk inn fi ro : Int → Int) (ρ : Nat → va_E), (0 ≤ oo ∧ oo + tLen t₉ ≤ len₉) → (0 ≤ dl ∧ dl + tDep t₉ ≤ 3) → MA₉ sn eo bo t₉ oo → vS u₉ S₉ → (0 ≤ B₉ ∧ B₉ + cB₉ t₉ ≤ 1000000000) → gW E σ ρ tk inn fi ro → TK₉ tk S₉ B₉ → (∀ tk' inn' fi' ro' ρ', gW E σ ρ' tk' inn' fi' ro' → TK₉ tk' (ex₉ u₉ kd pr t₉ S₉) (B₉ + cB₉ t₉) → lowG dl inn fi ro inn' fi' ro' → H₉ ρ' (oo + tLen t₉) dl) → H₉ ρ oo dl := by
  refine tInd ?_ ?_ ?_ ?_
  · intro oo dl B₉ S₉ tk inn fi ro ρ _ _ _ _ _ hW hT₉ hK₉
    have q₉ := hK₉ tk inn fi ro ρ hW (by rw [show B₉ + ((cB₉ .nil : Nat) : Int) = B₉ from Int.add_zero B₉]; exact hT₉) (fun z₉ _ => ⟨fun _ => ⟨rfl, rfl⟩, fun _ => rfl⟩)
    rw [show oo + ((tLen .nil : Nat) : Int) = oo from Int.add_zero oo] at q₉
    exact q₉
  · intro c r₉ hc₉ hr ih₉ oo dl B₉ S₉ tk inn fi ro ρ ho hd₉ hM₉ hv hB₉ hW hT₉ hK₉
    have eL : tLen (.append (.nest c .nil) r₉) = 1 + tLen r₉ := rfl
    have eD : tDep (.append (.nest c .nil) r₉) = tDep r₉ := rfl
    have eB : cB₉ (.append (.nest c .nil) r₉) = 99 + cB₉ r₉ := rfl
    rw [eL] at ho
    rw [eD] at hd₉
    rw [eB] at hB₉
    obtain ⟨k1₉, hMr⟩ := hM₉
    refine hdoes oo dl B₉ S₉ tk inn fi ro ρ hW (by omega) (by omega) (by unfold okc at hc₉; omega) hv (by omega) hT₉ (fun tk1 ρ1 W1₉ T1 => ?_)
    rw [k1₉] at T1
    refine ih₉ (oo + 1) dl (B₉ + 99) _ tk1 inn fi ro ρ1 (by omega) (by omega) hMr (vS_look hv hc₉ hu hk) (by omega) W1₉ T1 (fun tk' inn' fi' ro' ρ' W' T' l' => ?_)
    have q₉ := hK₉ tk' inn' fi' ro' ρ' W' (by rw [eB, show B₉ + ((99 + cB₉ r₉ : Nat) : Int) = B₉ + 99 + cB₉ r₉ by omega]; exact T') l'
    rw [eL, show oo + ((1 + tLen r₉ : Nat) : Int) = oo + 1 + tLen r₉ by omega] at q₉
    exact q₉
  · intro a₉ b₉ r₉ ha₉ hb₉ hr iha ihb ih₉ oo dl B₉ S₉ tk inn fi ro ρ ho hd₉ hM₉ hv hB₉ hW hT₉ hK₉
    have eL : tLen (.append (.append a₉ b₉) r₉) = 3 + tLen a₉ + tLen b₉ + tLen r₉ := rfl
    have eD : tDep (.append (.append a₉ b₉) r₉) = max (1 + max (tDep a₉) (tDep b₉)) (tDep r₉) := rfl
    have eB : cB₉ (.append (.append a₉ b₉) r₉) = cB₉ a₉ + cB₉ b₉ + cB₉ r₉ := rfl
    rw [eL] at ho
    rw [eD] at hd₉
    rw [eB] at hB₉
    obtain ⟨⟨k1₉, -, -, k2₉, k3₉, -⟩, hMa, hMb, hMr⟩ := hM₉
    have va := vS_ex (pr := pr) hu hk a₉ ha₉ S₉ hv
    have vb := vS_ex (pr := pr) hu hk b₉ hb₉ S₉ hv
    refine hopen oo dl B₉ S₉ tk inn fi ro ρ hW (by omega) (by omega) (Or.inl k1₉) hT₉ (fun inn1 ρ1 W1₉ g1 l1 => ?_)
    refine iha (oo + 1) (dl + 1) B₉ S₉ tk inn1 fi _ ρ1 (by omega) (by omega) hMa hv (by omega) W1₉ hT₉ (fun tk2 inn2 fi2 ro2 ρ2 W2₉ T2 l2 => ?_)
    refine hbar (oo + 1 + tLen a₉) dl B₉ (B₉ + cB₉ a₉) S₉ _ tk2 inn2 fi2 ro2 ρ2 W2₉ (by omega) (by omega) k2₉ T2 (g1.lo l2 (by omega)) (fun tk3 fi3 ρ3 W3 g3₉ T3 l3 => ?_)
    rw [show oo + 1 + (tLen a₉ : Int) + 1 = oo + 2 + tLen a₉ by omega]
    refine ihb (oo + 2 + tLen a₉) (dl + 1) B₉ S₉ tk3 inn2 fi3 ro2 ρ3 (by omega) (by omega) hMb hv (by omega) W3 T3 (fun tk4 inn4 fi4 ro4 ρ4 W4 T4 l4 => ?_)
    refine hclose (oo + 2 + tLen a₉ + tLen b₉) dl (B₉ + cB₉ a₉ + cB₉ b₉) _ _ tk4 inn4 fi4 ro4 ρ4 W4 (by omega) (by omega) k3₉ (by omega) (T4.mono (by omega)) (TK₉.mono (g3₉.lo2 l4 (by omega)) (by omega)) (fun tk5 fi5 ρ5 W5 T5 l5 => ?_)
    rw [show oo + 2 + (tLen a₉ : Int) + tLen b₉ + 1 = oo + 3 + tLen a₉ + tLen b₉ by omega]
    refine ih₉ (oo + 3 + tLen a₉ + tLen b₉) dl (B₉ + cB₉ a₉ + cB₉ b₉) _ tk5 inn4 fi5 ro4 ρ5 (by omega) (by omega) hMr (fun r₉ c z₉ => z₉.elim (va r₉ c) (vb r₉ c)) (by omega) W5 T5 (fun tk6 inn6 fi6 ro6 ρ6 W6 T6 l6 => ?_)
    have q₉ := hK₉ tk6 inn6 fi6 ro6 ρ6 W6 (by rw [eB, show B₉ + ((cB₉ a₉ + cB₉ b₉ + cB₉ r₉ : Nat) : Int) = B₉ + cB₉ a₉ + cB₉ b₉ + cB₉ r₉ by omega]; exact T6) (l1.tr (l2.tr (l3.tr (l4.tr (l5.tr l6 (k9 := dl) (by omega)) (k9 := dl) (by omega)) (k9 := dl) (by omega)) (k9 := dl) (by omega)) (by omega))
    rw [eL, show oo + ((3 + tLen a₉ + tLen b₉ + tLen r₉ : Nat) : Int) = oo + 3 + tLen a₉ + tLen b₉ + tLen r₉ by omega] at q₉
    exact q₉
  · intro n₉ a₉ r₉ hn ha₉ hr iha ih₉ oo dl B₉ S₉ tk inn fi ro ρ ho hd₉ hM₉ hv hB₉ hW hT₉ hK₉
    have eL : tLen (.append (.tag n₉ a₉) r₉) = 2 + tLen a₉ + tLen r₉ := rfl
    have eD : tDep (.append (.tag n₉ a₉) r₉) = max (1 + tDep a₉) (tDep r₉) := rfl
    have eB : cB₉ (.append (.tag n₉ a₉) r₉) = n₉ * cB₉ a₉ + cB₉ r₉ := rfl
    rw [eL] at ho
    rw [eD] at hd₉
    rw [eB] at hB₉
    obtain ⟨⟨k1₉, k4₉, k2₉, k3₉⟩, hMa, hMr⟩ := hM₉
    obtain ⟨kn₉, hkn⟩ : ∃ kn₉, kn₉ = n₉ * cB₉ a₉ := ⟨_, rfl⟩
    rw [← hkn] at hB₉
    have hvf : ∀ X₉, vS u₉ X₉ → vS u₉ (ex₉ u₉ kd pr a₉ X₉) := fun X₉ hX => vS_ex hu hk a₉ ha₉ X₉ hX
    have lp : ∀ (m kk : Nat) (b1 : Int) (Z₉ Y : XS) (tk1 inn1 fi1 ro1 : Int → Int) (ρ1 : Nat → va_E), kk = m * cB₉ a₉ → (0 ≤ b1 ∧ b1 + kk = B₉ + kn₉) → 0 ≤ ro1 dl ∧ ro1 dl + 1 + m = n₉ → vS u₉ Z₉ → (∀ r₉ c, (Y r₉ c ∨ xLoop (ex₉ u₉ kd pr a₉) m Z₉ r₉ c) ↔ xLoop (ex₉ u₉ kd pr a₉) n₉ S₉ r₉ c) → gW E σ ρ1 tk1 inn1 fi1 ro1 → TK₉ tk1 Z₉ b1 → lvG inn1 dl Y b1 → lowG dl inn fi ro inn1 fi1 ro1 → H₉ ρ1 (oo + 1 + tLen a₉) (dl + 1) := by
      intro m
      induction m with
      | zero =>
        intro kk b1 Z₉ Y tk1 inn1 fi1 ro1 ρ1 hkk hb1 hro hZ hY W1₉ T1 g1 l1
        have hkk0 : kk = 0 := by rw [hkk, Nat.zero_mul]
        refine hback (oo + 1 + tLen a₉) dl oo b1 n₉ Z₉ Y tk1 inn1 fi1 ro1 ρ1 W1₉ (by omega) (by omega) k2₉ k3₉ (by omega) k1₉ hn (by omega) (by omega) T1 g1 (fun h => absurd h (by omega)) (fun _ tk2 inn2 ρ2 W2₉ T2 l2 => ?_)
        rw [show oo + 1 + (tLen a₉ : Int) + 1 = oo + 2 + tLen a₉ by omega]
        refine ih₉ (oo + 2 + tLen a₉) dl (B₉ + kn₉) _ tk2 inn2 fi1 _ ρ2 (by omega) (by omega) hMr (vS_loop hvf n₉ S₉ hv) (by omega) W2₉ ((T2.iff hY).mono (by omega)) (fun tk6 inn6 fi6 ro6 ρ6 W6 T6 l6 => ?_)
        have q₉ := hK₉ tk6 inn6 fi6 ro6 ρ6 W6 (by rw [eB, ← hkn, show B₉ + ((kn₉ + cB₉ r₉ : Nat) : Int) = B₉ + kn₉ + cB₉ r₉ by omega]; exact T6) (l1.tr (l2.tr l6 (k9 := dl) (by omega)) (by omega))
        rw [eL, show oo + ((2 + tLen a₉ + tLen r₉ : Nat) : Int) = oo + 2 + tLen a₉ + tLen r₉ by omega] at q₉
        exact q₉
      | succ m im =>
        intro kk b1 Z₉ Y tk1 inn1 fi1 ro1 ρ1 hkk hb1 hro hZ hY W1₉ T1 g1 l1
        obtain ⟨k9, hk9⟩ : ∃ k9, k9 = m * cB₉ a₉ := ⟨_, rfl⟩
        have hk8 : kk = k9 + cB₉ a₉ := by rw [hkk, hk9, Nat.succ_mul]
        refine hback (oo + 1 + tLen a₉) dl oo b1 n₉ Z₉ Y tk1 inn1 fi1 ro1 ρ1 W1₉ (by omega) (by omega) k2₉ k3₉ (by omega) k1₉ hn (by omega) (by omega) T1 g1 (fun _ inn2 ρ2 W2₉ g2 l2 => ?_) (fun h => absurd h (by omega))
        refine iha (oo + 1) (dl + 1) b1 Z₉ tk1 inn2 fi1 _ ρ2 (by omega) (by omega) hMa hZ (by omega) W2₉ T1 (fun tk3 inn3 fi3 ro3 ρ3 W3 T3 l3 => ?_)
        have q3₉ : ro3 dl = ro1 dl + 1 := by rw [(l3 dl hd₉.1).2 (by omega), up_self]
        refine im k9 (b1 + cB₉ a₉) (ex₉ u₉ kd pr a₉ Z₉) (fun r₉ c => Y r₉ c ∨ Z₉ r₉ c) tk3 inn3 fi3 ro3 ρ3 hk9 (by omega) (by omega) (hvf Z₉ hZ) (fun r₉ c => ?_) W3 T3 (TK₉.mono (g2.lo l3 (by omega)) (by omega)) (l1.tr (l2.tr l3 (k9 := dl) (by omega)) (by omega))
        rw [← hY r₉ c]
        show ((Y r₉ c ∨ Z₉ r₉ c) ∨ _) ↔ (Y r₉ c ∨ (Z₉ r₉ c ∨ xLoop (ex₉ u₉ kd pr a₉) m (ex₉ u₉ kd pr a₉ Z₉) r₉ c))
        exact or_assoc
    refine hopen oo dl B₉ S₉ tk inn fi ro ρ hW (by omega) (by omega) (Or.inr (by omega)) hT₉ (fun inn1 ρ1 W1₉ g1 l1 => ?_)
    obtain ⟨n', rfl⟩ : ∃ n', n₉ = n' + 1 := ⟨n₉ - 1, by omega⟩
    obtain ⟨k9, hk9⟩ : ∃ k9, k9 = n' * cB₉ a₉ := ⟨_, rfl⟩
    have hk8 : kn₉ = k9 + cB₉ a₉ := by rw [hkn, hk9, Nat.succ_mul]
    refine iha (oo + 1) (dl + 1) B₉ S₉ tk inn1 fi _ ρ1 (by omega) (by omega) hMa hv (by omega) W1₉ hT₉ (fun tk3 inn3 fi3 ro3 ρ3 W3 T3 l3 => ?_)
    have q3₉ : ro3 dl = 0 := by rw [(l3 dl hd₉.1).2 (by omega), up_self]
    exact lp n' k9 (B₉ + cB₉ a₉) (ex₉ u₉ kd pr a₉ S₉) S₉ tk3 inn3 fi3 ro3 ρ3 hk9 (by omega) (by omega) (hvf S₉ hv) (fun r₉ c => Iff.rfl) W3 T3 (TK₉.mono (g1.lo l3 (by omega)) (by omega)) (l1.tr l3 (by omega))
