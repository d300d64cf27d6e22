/-! Front: the rows a cache can have, each with the most and the least. -/
def okB (r : Int) : Bool := decide (r % 8 ≤ 6) && decide (r / 8 % 8 ≤ 6) && decide (r / 64 ≤ 6) && (!decide (r % 8 = 0) || (decide (r / 8 % 8 = 0) && decide (r / 64 = 0))) && (!decide (r / 8 % 8 = 0) || decide (r / 64 = 0)) && (decide (r % 8 = 0) || !decide (r % 8 = r / 8 % 8)) && (decide (r / 8 % 8 = 0) || !decide (r / 8 % 8 = r / 64)) && (decide (r % 8 = 0) || !decide (r % 8 = r / 64))
/-- a row that can be: lines one behind another, each once -/
def okR (r : Int) : Prop := okB r = true
theorem okR_iff (r : Int) : okR r ↔ (r % 8 ≤ 6 ∧ r / 8 % 8 ≤ 6 ∧ r / 64 ≤ 6 ∧ (r % 8 = 0 → r / 8 % 8 = 0 ∧ r / 64 = 0) ∧ (r / 8 % 8 = 0 → r / 64 = 0) ∧ (r % 8 = 0 ∨ r % 8 ≠ r / 8 % 8) ∧ (r / 8 % 8 = 0 ∨ r / 8 % 8 ≠ r / 64) ∧ (r % 8 = 0 ∨ r % 8 ≠ r / 64)) := by
  unfold okR okB
  simp only [Bool.and_eq_true, Bool.or_eq_true, Bool.not_eq_true', decide_eq_true_eq, decide_eq_false_iff_not]
  omega
def okT (r x w kd : Int) : Bool := !okB r || okB (cAfter r x w kd)
theorem ok_all : ((List.range 512).all fun r => (List.range 6).all fun x => (List.range 3).all fun w => (List.range 4).all fun kd => okT (r : Nat) (x : Nat) ((w : Nat) + 1) (kd : Nat)) = true := by decide +kernel
theorem okR_after {r x w kd : Int} (h : okR r) (hr : 0 ≤ r ∧ r < 512) (hx : 0 ≤ x ∧ x ≤ 5) (hw : 1 ≤ w ∧ w ≤ 3) (hk : 0 ≤ kd ∧ kd ≤ 3) : okR (cAfter r x w kd) := by
  obtain ⟨r, rfl⟩ := Int.eq_ofNat_of_zero_le hr.1
  obtain ⟨x, rfl⟩ := Int.eq_ofNat_of_zero_le hx.1
  obtain ⟨v, rfl⟩ : ∃ v : Nat, w = (v : Int) + 1 := ⟨(w - 1).toNat, by omega⟩
  obtain ⟨kd, rfl⟩ := Int.eq_ofNat_of_zero_le hk.1
  have h1 := List.all_eq_true.mp ok_all r (List.mem_range.mpr (by omega))
  have h2 := List.all_eq_true.mp h1 x (List.mem_range.mpr (by omega))
  have h3 := List.all_eq_true.mp h2 v (List.mem_range.mpr (by omega))
  have h4 := List.all_eq_true.mp h3 kd (List.mem_range.mpr (by omega))
  unfold okT at h4
  have h5 : okB (r : Int) = true := h
  rw [h5] at h4
  simp only [Bool.not_true, Bool.false_or] at h4
  exact h4
def rwL : List Nat := (List.range 512).filter (fun n => okB (n : Int))
theorem rwL_len : rwL.length = 157 := by decide +kernel
theorem rwL_mem {r : Int} (hr : 0 ≤ r ∧ r < 512) (h : okR r) : r.toNat ∈ rwL := by
  refine List.mem_filter.mpr ⟨List.mem_range.mpr (by omega), ?_⟩
  show okB ((r.toNat : Nat) : Int) = true
  rw [Int.toNat_of_nonneg hr.1]
  exact h
def rwK (r : Int) : Nat := rwL.idxOf r.toNat
theorem rwK_lt {r : Int} (hr : 0 ≤ r ∧ r < 512) (h : okR r) : rwK r < 157 := by
  have := List.idxOf_lt_length_of_mem (rwL_mem hr h)
  rw [rwL_len] at this
  exact this
theorem rwK_inj {r r' : Int} (hr : 0 ≤ r ∧ r < 512) (h : okR r) (hr' : 0 ≤ r' ∧ r' < 512) (h' : okR r') (e : rwK r = rwK r') : r = r' := by
  have a := List.getElem_idxOf (List.idxOf_lt_length_of_mem (rwL_mem hr h))
  have b := List.getElem_idxOf (List.idxOf_lt_length_of_mem (rwL_mem hr' h'))
  have e2 : rwL.idxOf r.toNat = rwL.idxOf r'.toNat := e
  simp only [e2] at a
  have : r.toNat = r'.toNat := a.symm.trans b
  omega
def isFr (E : En) (σ : Nat → va_E) (i : Nat) (ro mo le : Int → Int) (sz : Int) : Prop := σ i = ob 4 [vr E (i + 1), vr E (i + 2), vr E (i + 3), vi sz] ∧ σ (i + 1) = ai E 157 ro ∧ σ (i + 2) = ai E 512 mo ∧ σ (i + 3) = ai E 512 le
theorem isFr.keep {E : En} {σ τ : Nat → va_E} {i : Nat} {ro mo le : Int → Int} {sz : Int} (h : isFr E σ i ro mo le sz) (hk : ∀ j, i ≤ j → j ≤ i + 3 → τ j = σ j) : isFr E τ i ro mo le sz := by
  obtain ⟨h0, h1, h2, h3⟩ := h
  exact ⟨(hk _ (by omega) (by omega)).trans h0, (hk _ (by omega) (by omega)).trans h1, (hk _ (by omega) (by omega)).trans h2, (hk _ (by omega) (by omega)).trans h3⟩
def FI (ro mo : Int → Int) (sz : Int) : Prop := (0 ≤ sz ∧ sz ≤ 157) ∧ (∀ q : Int, 0 ≤ q → q < sz → (0 ≤ ro q ∧ ro q < 512) ∧ mo (ro q) ≠ -1 ∧ okR (ro q)) ∧ (∀ q q' : Int, 0 ≤ q → q < sz → 0 ≤ q' → q' < sz → ro q = ro q' → q = q') ∧ ∀ r : Int, 0 ≤ r → r < 512 → mo r ≠ -1 → ∃ q : Int, 0 ≤ q ∧ q < sz ∧ ro q = r
/-- the front holds the most and the least of S -/
def FR (ro mo le : Int → Int) (sz : Int) (S : Int → Int → Prop) : Prop := FI ro mo sz ∧ ∀ r : Int, 0 ≤ r → r < 512 → (mo r = -1 → ∀ c, ¬ S r c) ∧ (mo r ≠ -1 → S r (mo r) ∧ S r (le r) ∧ ∀ c, S r c → le r ≤ c ∧ c ≤ mo r)
def Sb (S : Int → Int → Prop) (B : Int) : Prop := ∀ r c, S r c → (0 ≤ r ∧ r < 512) ∧ 0 ≤ c ∧ c ≤ B
def frI (E : En) (σ : Nat → va_E) (i : Nat) (S : Int → Int → Prop) (B : Int) : Prop := ∃ (ro mo le : Int → Int) (sz : Int), isFr E σ i ro mo le sz ∧ FR ro mo le sz S ∧ Sb S B
theorem frI.keep {E : En} {σ τ : Nat → va_E} {i : Nat} {S : Int → Int → Prop} {B : Int} (h : frI E σ i S B) (hk : ∀ j, i ≤ j → j ≤ i + 3 → τ j = σ j) : frI E τ i S B := by
  obtain ⟨ro, mo, le, sz, h1, h2⟩ := h
  exact ⟨ro, mo, le, sz, h1.keep hk, h2⟩
theorem php : ∀ (m n : Nat) (f : Nat → Nat), (∀ i, i < n → f i < m) → (∀ i j, i < n → j < n → f i = f j → i = j) → n ≤ m
  | 0, n, f, h, _ => by
    rcases Nat.eq_zero_or_pos n with h0 | h0
    · omega
    · exact absurd (h 0 h0) (by omega)
  | m + 1, n, f, h, hj => by
    by_cases hx : ∃ i, i < n ∧ f i = m
    · obtain ⟨i, hi, hm⟩ := hx
      have := php m (n - 1) (fun j => if j < i then f j else f (j + 1)) (fun j hjn => by
        by_cases hl : j < i
        · simp only [hl, if_true]
          have h1 := h j (by omega)
          have h2 : f j ≠ m := fun e => by have := hj j i (by omega) hi (e.trans hm.symm); omega
          omega
        · simp only [hl, if_false]
          have h1 := h (j + 1) (by omega)
          have h2 : f (j + 1) ≠ m := fun e => by have := hj (j + 1) i (by omega) hi (e.trans hm.symm); omega
          omega) (fun a b ha hb hab => by
        by_cases hla : a < i <;> by_cases hlb : b < i <;> simp only [hla, hlb, if_true, if_false] at hab
        · exact hj a b (by omega) (by omega) hab
        · have := hj a (b + 1) (by omega) (by omega) hab; omega
        · have := hj (a + 1) b (by omega) (by omega) hab; omega
        · have := hj (a + 1) (b + 1) (by omega) (by omega) hab; omega)
      omega
    · have := php m n f (fun i hi => by
        have h1 := h i hi
        have h2 : f i ≠ m := fun e => hx ⟨i, hi, e⟩
        omega) hj
      omega
theorem FI.room {ro mo : Int → Int} {sz : Int} (h : FI ro mo sz) {r : Int} (hr : 0 ≤ r ∧ r < 512) (hm : mo r = -1) (hk : okR r) : sz < 157 := by
  obtain ⟨h0, h1, h2, -⟩ := h
  have := php 157 (sz.toNat + 1) (fun q => if q = sz.toNat then rwK r else rwK (ro q)) (fun i hi => by
    by_cases e : i = sz.toNat
    · simp only [e, if_true]; exact rwK_lt hr hk
    · simp only [e, if_false]
      have h3 := h1 i (by omega) (by omega)
      exact rwK_lt h3.1 h3.2.2) (fun a b ha hb hab => by
    by_cases ea : a = sz.toNat <;> by_cases eb : b = sz.toNat <;> simp only [ea, eb, if_true, if_false] at hab
    · omega
    · have h3 := h1 b (by omega) (by omega)
      have h4 : ro b = r := (rwK_inj hr hk h3.1 h3.2.2 hab).symm
      rw [h4] at h3
      exact absurd hm h3.2.1
    · have h3 := h1 a (by omega) (by omega)
      have h4 : ro a = r := rwK_inj h3.1 h3.2.2 hr hk hab
      rw [h4] at h3
      exact absurd hm h3.2.1
    · have h3 := h1 a (by omega) (by omega)
      have h4 := h1 b (by omega) (by omega)
      have h5 := rwK_inj h3.1 h3.2.2 h4.1 h4.2.2 hab
      have := h2 a b (by omega) (by omega) (by omega) (by omega) h5
      omega)
  omega
def adj (S : Int → Int → Prop) (row m l : Int) : Int → Int → Prop := fun r c => S r c ∨ (r = row ∧ (c = m ∨ c = l))
theorem FR.put1 {ro mo le : Int → Int} {sz row m l : Int} {S : Int → Int → Prop} (h : FR ro mo le sz S) (hr : 0 ≤ row ∧ row < 512) (hl : 0 ≤ l ∧ l ≤ m) (hm : mo row ≠ -1) (h0 : -1 ≤ mo row) : FR ro (up mo row (max (mo row) m)) (up le row (min (le row) l)) sz (adj S row m l) := by
  obtain ⟨⟨f0, f1, f2, f3⟩, g⟩ := h
  refine ⟨⟨f0, fun q h1 h2 => ⟨(f1 q h1 h2).1, ?_, (f1 q h1 h2).2.2⟩, f2, fun r h1 h2 h3 => ?_⟩, fun r h1 h2 => ?_⟩
  · by_cases e : ro q = row
    · rw [e, up_self]; omega
    · rw [up_ne _ _ e]; exact (f1 q h1 h2).2.1
  · by_cases e : r = row
    · subst e; exact f3 r h1 h2 hm
    · rw [up_ne _ _ e] at h3; exact f3 r h1 h2 h3
  · by_cases e : r = row
    · subst e
      rw [up_self, up_self]
      obtain ⟨g1, g2, g3⟩ := (g r h1 h2).2 hm
      refine ⟨fun h => by omega, fun _ => ⟨?_, ?_, fun c hc => ?_⟩⟩
      · rcases Int.le_total (mo r) m with h | h
        · rw [Int.max_eq_right h]; exact Or.inr ⟨rfl, Or.inl rfl⟩
        · rw [Int.max_eq_left h]; exact Or.inl g1
      · rcases Int.le_total (le r) l with h | h
        · rw [Int.min_eq_left h]; exact Or.inl g2
        · rw [Int.min_eq_right h]; exact Or.inr ⟨rfl, Or.inr rfl⟩
      · rcases hc with hc | ⟨-, rfl | rfl⟩
        · have := g3 c hc; omega
        · omega
        · omega
    · rw [up_ne _ _ e, up_ne _ _ e]
      obtain ⟨g1, g2⟩ := g r h1 h2
      refine ⟨fun h c hc => hc.elim (g1 h c) (fun z => e z.1), fun h => ?_⟩
      obtain ⟨k1, k2, k3⟩ := g2 h
      exact ⟨Or.inl k1, Or.inl k2, fun c hc => hc.elim (k3 c) (fun z => absurd z.1 e)⟩
theorem FR.put2 {ro mo le : Int → Int} {sz row m l : Int} {S : Int → Int → Prop} (h : FR ro mo le sz S) (hr : 0 ≤ row ∧ row < 512) (hl : 0 ≤ l ∧ l ≤ m) (hm : mo row = -1) (hk : okR row) : FR (up ro sz row) (up mo row m) (up le row l) (sz + 1) (adj S row m l) := by
  have hs := FI.room h.1 hr hm hk
  obtain ⟨⟨f0, f1, f2, f3⟩, g⟩ := h
  have hn : ∀ q : Int, 0 ≤ q → q < sz → ro q ≠ row := fun q h1 h2 e => (f1 q h1 h2).2.1 (by rw [e]; exact hm)
  refine ⟨⟨by omega, fun q h1 h2 => ?_, fun q q' h1 h2 h3 h4 h5 => ?_, fun r h1 h2 h3 => ?_⟩, fun r h1 h2 => ?_⟩
  · by_cases e : q = sz
    · subst e; rw [up_self, up_self]; exact ⟨hr, by omega, hk⟩
    · rw [up_ne _ _ e]
      have := f1 q h1 (by omega)
      rw [up_ne _ _ (hn q h1 (by omega))]
      exact this
  · by_cases e : q = sz <;> by_cases e' : q' = sz
    · omega
    · subst e; rw [up_self, up_ne _ _ e'] at h5; exact absurd h5.symm (hn q' h3 (by omega))
    · subst e'; rw [up_self, up_ne _ _ e] at h5; exact absurd h5 (hn q h1 (by omega))
    · rw [up_ne _ _ e, up_ne _ _ e'] at h5; exact f2 q q' h1 (by omega) h3 (by omega) h5
  · by_cases e : r = row
    · exact ⟨sz, by omega, by omega, by rw [up_self, e]⟩
    · rw [up_ne _ _ e] at h3
      obtain ⟨q, q1, q2, q3⟩ := f3 r h1 h2 h3
      exact ⟨q, q1, by omega, by rw [up_ne _ _ (by omega)]; exact q3⟩
  · by_cases e : r = row
    · subst e
      rw [up_self, up_self]
      refine ⟨fun h => by omega, fun _ => ⟨Or.inr ⟨rfl, Or.inl rfl⟩, Or.inr ⟨rfl, Or.inr rfl⟩, fun c hc => ?_⟩⟩
      rcases hc with hc | ⟨-, rfl | rfl⟩
      · exact absurd hc ((g r h1 h2).1 hm c)
      · omega
      · omega
    · rw [up_ne _ _ e, up_ne _ _ e]
      obtain ⟨g1, g2⟩ := g r h1 h2
      refine ⟨fun h c hc => hc.elim (g1 h c) (fun z => e z.1), fun h => ?_⟩
      obtain ⟨k1, k2, k3⟩ := g2 h
      exact ⟨Or.inl k1, Or.inl k2, fun c hc => hc.elim (k3 c) (fun z => absurd z.1 e)⟩
/-- the same most and least: the same front -/
theorem FR.same {ro mo le : Int → Int} {sz : Int} {S S' : Int → Int → Prop} (h : FR ro mo le sz S) (h1 : ∀ r c, S r c → S' r c) (h2 : ∀ r c, S' r c → ∃ a b, S r a ∧ S r b ∧ a ≤ c ∧ c ≤ b) : FR ro mo le sz S' := by
  refine ⟨h.1, fun r g1 g2 => ⟨fun hm c hc => ?_, fun hm => ?_⟩⟩
  · obtain ⟨a, b, ha, -⟩ := h2 r c hc
    exact (h.2 r g1 g2).1 hm a ha
  · obtain ⟨k1, k2, k3⟩ := (h.2 r g1 g2).2 hm
    refine ⟨h1 _ _ k1, h1 _ _ k2, fun c hc => ?_⟩
    obtain ⟨a, b, ha, hb, h3, h4⟩ := h2 r c hc
    have := k3 a ha
    have := k3 b hb
    omega
theorem FR.val {ro mo le : Int → Int} {sz B : Int} {S : Int → Int → Prop} (h : FR ro mo le sz S) (hb : Sb S B) {r : Int} (hr : 0 ≤ r ∧ r < 512) : mo r = -1 ∨ (0 ≤ le r ∧ le r ≤ mo r ∧ mo r ≤ B ∧ mo r ≠ -1) := by
  by_cases hm : mo r = -1
  · exact Or.inl hm
  · obtain ⟨k1, k2, k3⟩ := (h.2 r hr.1 hr.2).2 hm
    have h1 := (hb _ _ k1).2
    have h2 := (hb _ _ k2).2
    have h3 := k3 _ k1
    exact Or.inr ⟨h2.1, h3.1, h1.2, hm⟩
theorem FR.okr {ro mo le : Int → Int} {sz : Int} {S : Int → Int → Prop} (h : FR ro mo le sz S) {q : Int} (hq : 0 ≤ q ∧ q < sz) : okR (ro q) := (h.1.2.1 q hq.1 hq.2).2.2
theorem FR.row {ro mo le : Int → Int} {sz B : Int} {S : Int → Int → Prop} (h : FR ro mo le sz S) (hb : Sb S B) {q : Int} (hq : 0 ≤ q ∧ q < sz) : (0 ≤ ro q ∧ ro q < 512) ∧ 0 ≤ le (ro q) ∧ le (ro q) ≤ mo (ro q) ∧ mo (ro q) ≤ B ∧ S (ro q) (mo (ro q)) ∧ S (ro q) (le (ro q)) := by
  have h1 := h.1.2.1 q hq.1 hq.2
  obtain ⟨k1, k2, k3⟩ := (h.2 _ h1.1.1 h1.1.2).2 h1.2.1
  rcases h.val hb h1.1 with h2 | h2
  · exact absurd h2 h1.2.1
  · exact ⟨h1.1, h2.1, h2.2.1, h2.2.2.1, k1, k2⟩
theorem cAfter_rg {row x w kd : Int} (h : 0 ≤ row ∧ row < 512) (hx : 0 ≤ x ∧ x ≤ 5) (hw : 1 ≤ w ∧ w ≤ 3) : 0 ≤ cAfter row x w kd ∧ cAfter row x w kd < 512 := by
  unfold cAfter cMiss cHit mv p8
  repeat' split
  all_goals omega

set_option maxHeartbeats 4000000 in
set_option maxRecDepth 100000 in
theorem c_X4_rowAt (E : En) (N : Nat) (σ : Nat → va_E) (i : Nat) {ro mo le : Int → Int} {sz : Int} (hi : i + 3 < N) (hf : isFr E σ i ro mo le sz) (a : Int) (ha : 0 ≤ a ∧ a < 157) (hr0 : 0 ≤ ro a ∧ ro a < 512) : CP E M_X4_rowAt 1 [vr E i, vi a] N σ (ro a) := by
  refine CT.of2 (own := RX4) (by decide) rfl (Nat.le_of_ble_eq_true rfl) ?_
  intro p e R s m args below meth c Q hF hr hlk hnm hz hR hQ
  obtain ⟨y0, y1, y2, y3⟩ := hf
  refine go_iload_n (pc := 0) hF dX4_rowAt_0 1 rfl ?_
  refine go_if_lt (pc := 1) hF 24 dX4_rowAt_1 (by decide) (by omega) (fun bq1 => ?_) (fun bq1 => ?_)
  · exact absurd bq1 (by omega)
  · refine go_iload_n (pc := 4) hF dX4_rowAt_4 1 rfl ?_
    refine go_sipush (pc := 5) hF dX4_rowAt_5 (by decide) ?_
    refine go_icmp_ge (pc := 8) hF 24 dX4_rowAt_8 (by decide) (by omega) ⟨by decide, by decide⟩ (fun bq8 => ?_) (fun bq8 => ?_)
    · exact absurd bq8 (by omega)
    · refine go_aload_n (pc := 11) hF dX4_rowAt_11 0 rfl ?_
      refine go_get (pc := 12) hF fl_X4_11 dX4_rowAt_12 (by omega) y0 rfl ?_
      refine go_iload_n (pc := 15) hF dX4_rowAt_15 1 rfl ?_
      refine go_iald (pc := 16) hF dX4_rowAt_16 (by omega) y1 (by omega)  ?_
      refine go_sipush (pc := 17) hF dX4_rowAt_17 (by decide) ?_
      refine go_iand (pc := 20) hF ((ro a) % 512) (b_and 511 9 512 (by decide) (by decide) (by omega)) dX4_rowAt_20 ?_
      refine go_goto (pc := 21) hF 25 dX4_rowAt_21 (by decide) ?_
      exact go_iretQ hF hr hlk hQ dX4_rowAt_25 ⟨by omega, rfl⟩
set_option maxHeartbeats 4000000 in
set_option maxRecDepth 100000 in
theorem c_X4_put (E : En) (N : Nat) (σ : Nat → va_E) (i : Nat) (S : Int → Int → Prop) (B x u v : Int) (hi : i + 3 < N) (hfr : frI E σ i S B) (hBB : B < 2000000000) (hx : 0 ≤ x ∧ x < 512) (hxo : okR x) (hv : 0 ≤ v ∧ v ≤ u ∧ u ≤ B) : CV E M_X4_put 2 [vr E i, vi x, vi u, vi v] N σ (fun σ' => frI E σ' i (adj S x u v) B ∧ ∀ q, (q < i ∨ i + 3 < q) → σ' q = σ q) := by
  refine CT.of2 (own := RX4) (by decide) rfl (Nat.le_of_ble_eq_true rfl) ?_
  intro p e R s m args below meth c Q hF hr hlk hnm hz hR hQ
  obtain ⟨ro, mo, le, sz, ⟨y0, y1, y2, y3⟩, hR, hB⟩ := hfr
  have zv := hR.val hB (r := x) (by omega)
  have hsz := hR.1.1
  have hB2 : Sb (adj S x u v) B := fun r c h => h.elim (hB r c) (fun z => by omega)
  refine go_iload_n (pc := 0) hF dX4_put_0 1 rfl ?_
  refine go_if_lt (pc := 1) hF 11 dX4_put_1 (by decide) (by omega) (fun bq1 => ?_) (fun bq1 => ?_)
  · exact absurd bq1 (by omega)
  · refine go_iload_n (pc := 4) hF dX4_put_4 1 rfl ?_
    refine go_sipush (pc := 5) hF dX4_put_5 (by decide) ?_
    refine go_icmp_lt (pc := 8) hF 12 dX4_put_8 (by decide) (by omega) ⟨by decide, by decide⟩ (fun bq8 => ?_) (fun bq8 => ?_)
    · refine go_aload_n (pc := 12) hF dX4_put_12 0 rfl ?_
      refine go_get (pc := 13) hF fl_X4_17 dX4_put_13 (by omega) y0 rfl ?_
      refine go_iload_n (pc := 16) hF dX4_put_16 1 rfl ?_
      refine go_iald (pc := 17) hF dX4_put_17 (by omega) y2 (by omega)  ?_
      refine go_iconst (pc := 18) hF dX4_put_18 ?_
      refine go_icmp_eq (pc := 19) hF 57 dX4_put_19 (by decide) (by omega) ⟨by decide, by decide⟩ (fun bq19 => ?_) (fun bq19 => ?_)
      · refine go_aload_n (pc := 57) hF dX4_put_57 0 rfl ?_
        refine go_get (pc := 58) hF fl_X4_23 dX4_put_58 (by omega) y0 rfl ?_
        refine go_if_lt (pc := 61) hF 108 dX4_put_61 (by decide) (by omega) (fun bq61 => ?_) (fun bq61 => ?_)
        · exact absurd bq61 (by omega)
        · refine go_aload_n (pc := 64) hF dX4_put_64 0 rfl ?_
          refine go_get (pc := 65) hF fl_X4_23 dX4_put_65 (by omega) y0 rfl ?_
          refine go_sipush (pc := 68) hF dX4_put_68 (by decide) ?_
          refine go_icmp_ge (pc := 71) hF 108 dX4_put_71 (by decide) (by omega) ⟨by decide, by decide⟩ (fun bq71 => ?_) (fun bq71 => ?_)
          · exact absurd bq71 (by have := FI.room hR.1 (r := x) (by omega) (by omega) hxo; omega)
          · refine go_aload_n (pc := 74) hF dX4_put_74 0 rfl ?_
            refine go_get (pc := 75) hF fl_X4_11 dX4_put_75 (by omega) y0 rfl ?_
            refine go_aload_n (pc := 78) hF dX4_put_78 0 rfl ?_
            refine go_get (pc := 79) hF fl_X4_23 dX4_put_79 (by omega) y0 rfl ?_
            refine go_iload_n (pc := 82) hF dX4_put_82 1 rfl ?_
            refine go_iast (pc := 83) hF dX4_put_83 (by omega) y1 (by omega) (fun s1 u_s1 f_s1 => ?_)
            have t_s1 := (f_s1 i (show i ≠ i + 1 by omega)).trans y0
            have tm_s1 := (f_s1 (i + 2) (show i + 2 ≠ i + 1 by omega)).trans y2
            have tl_s1 := (f_s1 (i + 3) (show i + 3 ≠ i + 1 by omega)).trans y3
            refine go_aload_n (pc := 84) hF dX4_put_84 0 rfl ?_
            refine go_dup (pc := 85) hF dX4_put_85 rfl ?_
            refine go_get (pc := 86) hF fl_X4_23 dX4_put_86 (by omega) t_s1 rfl ?_
            refine go_iconst (pc := 89) hF dX4_put_89 ?_
            refine go_iadd (pc := 90) hF dX4_put_90 ?_
            refine go_put (pc := 91) hF [vr E (i + 1), vr E (i + 2), vr E (i + 3), vi (sz + 1)] fl_X4_23 dX4_put_91 (by omega) t_s1 rfl rfl rfl (Nat.le_of_ble_eq_true rfl) (fun s2 u_s2 f_s2 => ?_)
            have tr_s2 := (f_s2 (i + 1) (show i + 1 ≠ i by omega)).trans u_s1
            have tm_s2 := (f_s2 (i + 2) (show i + 2 ≠ i by omega)).trans tm_s1
            have tl_s2 := (f_s2 (i + 3) (show i + 3 ≠ i by omega)).trans tl_s1
            refine go_aload_n (pc := 94) hF dX4_put_94 0 rfl ?_
            refine go_get (pc := 95) hF fl_X4_17 dX4_put_95 (by omega) u_s2 rfl ?_
            refine go_iload_n (pc := 98) hF dX4_put_98 1 rfl ?_
            refine go_iload_n (pc := 99) hF dX4_put_99 2 rfl ?_
            refine go_iast (pc := 100) hF dX4_put_100 (by omega) tm_s2 (by omega) (fun s3 u_s3 f_s3 => ?_)
            have t_s3 := (f_s3 i (show i ≠ i + 2 by omega)).trans u_s2
            have tr_s3 := (f_s3 (i + 1) (show i + 1 ≠ i + 2 by omega)).trans tr_s2
            have tl_s3 := (f_s3 (i + 3) (show i + 3 ≠ i + 2 by omega)).trans tl_s2
            refine go_aload_n (pc := 101) hF dX4_put_101 0 rfl ?_
            refine go_get (pc := 102) hF fl_X4_20 dX4_put_102 (by omega) t_s3 rfl ?_
            refine go_iload_n (pc := 105) hF dX4_put_105 1 rfl ?_
            refine go_iload_n (pc := 106) hF dX4_put_106 3 rfl ?_
            refine go_iast (pc := 107) hF dX4_put_107 (by omega) tl_s3 (by omega) (fun s4 u_s4 f_s4 => ?_)
            have t_s4 := (f_s4 i (show i ≠ i + 3 by omega)).trans t_s3
            have tr_s4 := (f_s4 (i + 1) (show i + 1 ≠ i + 3 by omega)).trans tr_s3
            have tm_s4 := (f_s4 (i + 2) (show i + 2 ≠ i + 3 by omega)).trans u_s3
            exact go_vretQ hF hr hlk hQ dX4_put_108 ⟨⟨_, _, _, _, ⟨t_s4, tr_s4, tm_s4, u_s4⟩, hR.put2 (by omega) (by omega) (by omega) hxo, hB2⟩, (fun jj hjj => by rw [f_s4 jj (by omega), f_s3 jj (by omega), f_s2 jj (by omega), f_s1 jj (by omega)])⟩
      · refine go_aload_n (pc := 22) hF dX4_put_22 0 rfl ?_
        refine go_get (pc := 23) hF fl_X4_17 dX4_put_23 (by omega) y0 rfl ?_
        refine go_iload_n (pc := 26) hF dX4_put_26 1 rfl ?_
        refine go_aload_n (pc := 27) hF dX4_put_27 0 rfl ?_
        refine go_get (pc := 28) hF fl_X4_17 dX4_put_28 (by omega) y0 rfl ?_
        refine go_iload_n (pc := 31) hF dX4_put_31 1 rfl ?_
        refine go_iald (pc := 32) hF dX4_put_32 (by omega) y2 (by omega)  ?_
        refine go_iload_n (pc := 33) hF dX4_put_33 2 rfl ?_
        refine go_mmax (pc := 34) hF ms_X4_37 dX4_put_34 (by omega) (by omega) (Nat.le_of_ble_eq_true rfl) (by decide) ⟨Nat.zero_le _, Nat.zero_le _⟩ ?_
        refine go_iast (pc := 37) hF dX4_put_37 (by omega) y2 (by omega) (fun s5 u_s5 f_s5 => ?_)
        have t_s5 := (f_s5 i (show i ≠ i + 2 by omega)).trans y0
        have tr_s5 := (f_s5 (i + 1) (show i + 1 ≠ i + 2 by omega)).trans y1
        have tl_s5 := (f_s5 (i + 3) (show i + 3 ≠ i + 2 by omega)).trans y3
        refine go_aload_n (pc := 38) hF dX4_put_38 0 rfl ?_
        refine go_get (pc := 39) hF fl_X4_20 dX4_put_39 (by omega) t_s5 rfl ?_
        refine go_iload_n (pc := 42) hF dX4_put_42 1 rfl ?_
        refine go_aload_n (pc := 43) hF dX4_put_43 0 rfl ?_
        refine go_get (pc := 44) hF fl_X4_20 dX4_put_44 (by omega) t_s5 rfl ?_
        refine go_iload_n (pc := 47) hF dX4_put_47 1 rfl ?_
        refine go_iald (pc := 48) hF dX4_put_48 (by omega) tl_s5 (by omega)  ?_
        refine go_iload_n (pc := 49) hF dX4_put_49 3 rfl ?_
        refine go_mmin (pc := 50) hF ms_X4_43 dX4_put_50 (by omega) (by omega) (Nat.le_of_ble_eq_true rfl) (by decide) ⟨Nat.zero_le _, Nat.zero_le _⟩ ?_
        refine go_iast (pc := 53) hF dX4_put_53 (by omega) tl_s5 (by omega) (fun s6 u_s6 f_s6 => ?_)
        have t_s6 := (f_s6 i (show i ≠ i + 3 by omega)).trans t_s5
        have tr_s6 := (f_s6 (i + 1) (show i + 1 ≠ i + 3 by omega)).trans tr_s5
        have tm_s6 := (f_s6 (i + 2) (show i + 2 ≠ i + 3 by omega)).trans u_s5
        refine go_goto (pc := 54) hF 108 dX4_put_54 (by decide) ?_
        exact go_vretQ hF hr hlk hQ dX4_put_108 ⟨⟨_, _, _, _, ⟨t_s6, tr_s6, tm_s6, u_s6⟩, hR.put1 (by omega) (by omega) (by omega) (by omega), hB2⟩, (fun jj hjj => by rw [f_s6 jj (by omega), f_s5 jj (by omega)])⟩
    · exact absurd bq8 (by omega)
