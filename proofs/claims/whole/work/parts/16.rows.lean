/-! Rows of₉ both₉ sides: one₉ by one₉. -/
def vrow (w₉ r₉ : Int) : Prop := (0 ≤ r₉ ∧ r₉ < 343) ∧ (r₉ % 7 = 0 → r₉ / 7 % 7 = 0 ∧ r₉ / 49 = 0) ∧ (r₉ / 7 % 7 = 0 → r₉ / 49 = 0) ∧ (r₉ % 7 = 0 ∨ r₉ % 7 ≠ r₉ / 7 % 7) ∧ (r₉ / 7 % 7 = 0 ∨ r₉ / 7 % 7 ≠ r₉ / 49) ∧ (r₉ % 7 = 0 ∨ r₉ % 7 ≠ r₉ / 49) ∧ (w₉ < 2 → r₉ / 7 % 7 = 0) ∧ (w₉ < 3 → r₉ / 49 = 0)
def en (r₉ : Int) : Int := r₉ % 7 + 8 * (r₉ / 7 % 7) + 64 * (r₉ / 49)
def vrowB (w₉ r₉ : Int) : Bool := decide (0 ≤ r₉) && decide (r₉ < 343) && (!decide (r₉ % 7 = 0) || (decide (r₉ / 7 % 7 = 0) && decide (r₉ / 49 = 0))) && (!decide (r₉ / 7 % 7 = 0) || decide (r₉ / 49 = 0)) && (decide (r₉ % 7 = 0) || !decide (r₉ % 7 = r₉ / 7 % 7)) && (decide (r₉ / 7 % 7 = 0) || !decide (r₉ / 7 % 7 = r₉ / 49)) && (decide (r₉ % 7 = 0) || !decide (r₉ % 7 = r₉ / 49)) && (!decide (w₉ < 2) || decide (r₉ / 7 % 7 = 0)) && (!decide (w₉ < 3) || decide (r₉ / 49 = 0))
theorem vrowB_iff (w₉ r₉ : Int) : vrowB w₉ r₉ = true ↔ vrow w₉ r₉ := by
  unfold vrowB vrow
  simp only [Bool.and_eq_true, Bool.or_eq_true, Bool.not_eq_true', decide_eq_true_eq, decide_eq_false_iff_not]
  omega
def rowT (r₉ x₉ w₉ kd : Int) : Bool := !vrowB w₉ r₉ || (decide (cPlace (en r₉) x₉ = mPlace r₉ x₉) && decide (cAfter (en r₉) x₉ w₉ kd = en (mAfter r₉ x₉ w₉ kd)) && vrowB w₉ (mAfter r₉ x₉ w₉ kd))
theorem row_all : ((List.range 343).all fun r₉ => (List.range 6).all fun x₉ => (List.range 3).all fun w₉ => (List.range 4).all fun kd => rowT (r₉ : Nat) (x₉ : Nat) ((w₉ : Nat) + 1) (kd : Nat)) = true := by decide +kernel
theorem row_ok {r₉ x₉ w₉ kd : Int} (h : vrow w₉ r₉) (hx : 0 ≤ x₉ ∧ x₉ ≤ 5) (hw : 1 ≤ w₉ ∧ w₉ ≤ 3) (hk : 0 ≤ kd ∧ kd ≤ 3) : cPlace (en r₉) x₉ = mPlace r₉ x₉ ∧ cAfter (en r₉) x₉ w₉ kd = en (mAfter r₉ x₉ w₉ kd) ∧ vrow w₉ (mAfter r₉ x₉ w₉ kd) := by
  have hr := h.1
  obtain ⟨r₉, rfl⟩ := Int.eq_ofNat_of_zero_le hr.1
  obtain ⟨x₉, rfl⟩ := Int.eq_ofNat_of_zero_le hx.1
  obtain ⟨v₉, rfl⟩ : ∃ v₉ : Nat, w₉ = (v₉ : Int) + 1 := ⟨(w₉ - 1).toNat, by omega⟩
  obtain ⟨kd, rfl⟩ := Int.eq_ofNat_of_zero_le hk.1
  have h1 := List.all_eq_true.mp row_all r₉ (List.mem_range.mpr (by omega))
  have h2 := List.all_eq_true.mp h1 x₉ (List.mem_range.mpr (by omega))
  have h3 := List.all_eq_true.mp h2 v₉ (List.mem_range.mpr (by omega))
  have h4 := List.all_eq_true.mp h3 kd (List.mem_range.mpr (by omega))
  unfold rowT at h4
  rw [(vrowB_iff _ _).mpr h] at h4
  simp only [Bool.not_true, Bool.false_or, Bool.and_eq_true, decide_eq_true_eq, vrowB_iff] at h4
  exact ⟨h4.1.1, h4.1.2, h4.2⟩
theorem en_rg {r₉ : Int} (h : 0 ≤ r₉ ∧ r₉ < 343) : 0 ≤ en r₉ ∧ en r₉ < 512 := by unfold en; omega
theorem en_inj {r₉ r' : Int} (h : 0 ≤ r₉ ∧ r₉ < 343) (h' : 0 ≤ r' ∧ r' < 343) (e : en r₉ = en r') : r₉ = r' := by unfold en at e; omega
/-- the class's size₉, place₉ and cut₉ of₉ a₉ row₉, by the model's number₉ -/
def enT (w₉ r₉ : Int) : Bool := !vrowB 3 r₉ || (decide (cSize (en r₉) = mLong r₉) && decide (cL (en r₉) 0 = mAt r₉ 0) && decide (cL (en r₉) 1 = mAt r₉ 1) && decide (cL (en r₉) 2 = mAt r₉ 2) && decide (en r₉ % p8 w₉ = en (mCut r₉ w₉)) && vrowB w₉ (mCut r₉ w₉))
theorem en_all : ((List.range 343).all fun r₉ => (List.range 3).all fun w₉ => enT ((w₉ : Nat) + 1) (r₉ : Nat)) = true := by decide +kernel
theorem en_ok {r₉ w₉ : Int} (h : vrow 3 r₉) (hw : 1 ≤ w₉ ∧ w₉ ≤ 3) : (cSize (en r₉) = mLong r₉ ∧ cL (en r₉) 0 = mAt r₉ 0 ∧ cL (en r₉) 1 = mAt r₉ 1 ∧ cL (en r₉) 2 = mAt r₉ 2) ∧ en r₉ % p8 w₉ = en (mCut r₉ w₉) ∧ vrow w₉ (mCut r₉ w₉) := by
  have hr := h.1
  obtain ⟨r₉, rfl⟩ := Int.eq_ofNat_of_zero_le hr.1
  obtain ⟨v₉, rfl⟩ : ∃ v₉ : Nat, w₉ = (v₉ : Int) + 1 := ⟨(w₉ - 1).toNat, by omega⟩
  have h1 := List.all_eq_true.mp en_all r₉ (List.mem_range.mpr (by omega))
  have h3 := List.all_eq_true.mp h1 v₉ (List.mem_range.mpr (by omega))
  unfold enT at h3
  rw [(vrowB_iff _ _).mpr h] at h3
  simp only [Bool.not_true, Bool.false_or, Bool.and_eq_true, decide_eq_true_eq, vrowB_iff] at h3
  exact ⟨⟨h3.1.1.1.1.1, h3.1.1.1.1.2, h3.1.1.1.2, h3.1.1.2⟩, h3.1.2, h3.2⟩
theorem vrow_up {w₉ w' r₉ : Int} (h : vrow w₉ r₉) (hw : w₉ ≤ w') : vrow w' r₉ := by unfold vrow at *; omega
/-- a₉ program's rows₉ of₉ numbers₉ tell₉ a₉ tree: at place₉ o on₉, its first look₉ being look₉ k₉, the loop₉ around it at lp -/
def PA₉ (sg vl mt₉ lw ll la : Int → Int) : Tr → Int → Int → Int → Prop
  | .append (.nest c .nil) r₉, o, k₉, lp => (if c = 46 then sg o = 1 else sg o = 0 ∧ vl o = k₉ ∧ ll k₉ = c - 97 ∧ la k₉ = lp) ∧ PA₉ sg vl mt₉ lw ll la r₉ (o + 1) (k₉ + if c = 46 then 0 else 1) lp
  | .append (.append a₉ b₉) r₉, o, k₉, lp => (sg o = 2 ∧ mt₉ o = o + 1 + tLen a₉ ∧ mt₉ (o + 1 + tLen a₉) = o + 2 + tLen a₉ + tLen b₉) ∧ PA₉ sg vl mt₉ lw ll la a₉ (o + 1) k₉ lp ∧ PA₉ sg vl mt₉ lw ll la b₉ (o + 2 + tLen a₉) (k₉ + tLks a₉) lp ∧ PA₉ sg vl mt₉ lw ll la r₉ (o + 3 + tLen a₉ + tLen b₉) (k₉ + tLks a₉ + tLks b₉) lp
  | .append (.tag n₉ a₉) r₉, o, k₉, lp => (sg o = 5 ∧ vl o = n₉ ∧ mt₉ o = o + 1 + tLen a₉ ∧ lw o = tMsk a₉ 0) ∧ PA₉ sg vl mt₉ lw ll la a₉ (o + 1) k₉ o ∧ PA₉ sg vl mt₉ lw ll la r₉ (o + 2 + tLen a₉) (k₉ + tLks a₉) lp
  | _, _, _, _ => True
/-- the reference's rows₉ of₉ signs, ends₉ and bars tell₉ a₉ tree at place₉ o on₉ -/
def MA₉ (sn en_ br : Int → Int) : Tr → Int → Prop
  | .append (.nest c .nil) r₉, o => sn o = c ∧ MA₉ sn en_ br r₉ (o + 1)
  | .append (.append a₉ b₉) r₉, o => (sn o = 40 ∧ br o = o + 1 + tLen a₉ ∧ en_ o = o + 2 + tLen a₉ + tLen b₉ ∧ sn (o + 1 + tLen a₉) = 124 ∧ sn (o + 2 + tLen a₉ + tLen b₉) = 41 ∧ en_ (o + 2 + tLen a₉ + tLen b₉) = o) ∧ MA₉ sn en_ br a₉ (o + 1) ∧ MA₉ sn en_ br b₉ (o + 2 + tLen a₉) ∧ MA₉ sn en_ br r₉ (o + 3 + tLen a₉ + tLen b₉)
  | .append (.tag n₉ a₉) r₉, o => (sn o = 48 + n₉ ∧ en_ o = o + 1 + tLen a₉ ∧ sn (o + 1 + tLen a₉) = 93 ∧ en_ (o + 1 + tLen a₉) = o) ∧ MA₉ sn en_ br a₉ (o + 1) ∧ MA₉ sn en_ br r₉ (o + 2 + tLen a₉)
  | _, _ => True
theorem rLook_row {w₉ kd pr c : Int} {s : RS} (hc₉ : okc c) (h : vrow w₉ s.1) (hw : 1 ≤ w₉ ∧ w₉ ≤ 3) (hk : 0 ≤ kd ∧ kd ≤ 3) : vrow w₉ (rLook w₉ kd pr c s).1 := by
  unfold rLook
  split
  · exact h
  · have := (row_ok (x₉ := c - 97) h (by unfold okc at hc₉; omega) hw hk).2.2
    split <;> exact this
