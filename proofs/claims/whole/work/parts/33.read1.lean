/-! Reader₉. -/
theorem okP.add {sg vl mt₉ lw ll la : Int → Int} {sz₉ lk₉ ch₉ lp dp ln : Int} (h : okP sg vl mt₉ lw ll la sz₉ lk₉ ch₉ lp dp ln) {x₉ v₉ : Int} (hs : sz₉ < 80) (hx : 0 ≤ x₉ ∧ x₉ ≤ 6) (hv : 0 ≤ v₉ ∧ v₉ ≤ 24) : okP (up sg sz₉ x₉) (up vl sz₉ v₉) (up mt₉ sz₉ sz₉) (up lw sz₉ 0) ll la (sz₉ + 1) lk₉ ch₉ lp dp ln := by
  obtain ⟨h1, h2, h3, h4, h5, h6, h7, h8⟩ := h
  refine ⟨by omega, h2, h3, h4, h5, h6, fun z₉ z0 z1 => ?_, h8⟩
  by_cases e : z₉ = sz₉
  · subst e; rw [up_self, up_self, up_self, up_self]; exact ⟨hx, hv, by omega, by omega⟩
  · rw [up_ne _ _ e, up_ne _ _ e, up_ne _ _ e, up_ne _ _ e]; exact h7 z₉ z0 z1
theorem okP.mate {sg vl mt₉ lw ll la : Int → Int} {sz₉ lk₉ ch₉ lp dp ln : Int} (h : okP sg vl mt₉ lw ll la sz₉ lk₉ ch₉ lp dp ln) {p v₉ : Int} (hv : 0 ≤ v₉ ∧ v₉ ≤ 80) : okP sg vl (up mt₉ p v₉) lw ll la sz₉ lk₉ ch₉ lp dp ln := by
  obtain ⟨h1, h2, h3, h4, h5, h6, h7, h8⟩ := h
  refine ⟨h1, h2, h3, h4, h5, h6, fun z₉ z0 z1 => ?_, h8⟩
  by_cases e : z₉ = p
  · subst e; rw [up_self]; exact ⟨(h7 z₉ z0 z1).1, (h7 z₉ z0 z1).2.1, hv, (h7 z₉ z0 z1).2.2.2⟩
  · rw [up_ne _ _ e]; exact h7 z₉ z0 z1
theorem okP.look {sg vl mt₉ lw ll la : Int → Int} {sz₉ lk₉ ch₉ lp dp ln : Int} (h : okP sg vl mt₉ lw ll la sz₉ lk₉ ch₉ lp dp ln) {x₉ v₉ : Int} (hk : lk₉ < 24) (hx : 0 ≤ x₉ ∧ x₉ ≤ 5) (hv : -1 ≤ v₉ ∧ v₉ ≤ 80) : okP sg vl mt₉ lw (up ll lk₉ x₉) (up la lk₉ v₉) sz₉ (lk₉ + 1) ch₉ lp dp (orb ln x₉) := by
  obtain ⟨h1, h2, h3, h4, h5, h6, h7, h8⟩ := h
  refine ⟨h1, by omega, h3, h4, h5, orb_rg h6 hx, h7, fun z₉ z0 z1 => ?_⟩
  by_cases e : z₉ = lk₉
  · subst e; rw [up_self, up_self]; exact ⟨hx, hv⟩
  · rw [up_ne _ _ e, up_ne _ _ e]; exact h8 z₉ z0 z1
theorem okP.lw {sg vl mt₉ lw ll la : Int → Int} {sz₉ lk₉ ch₉ lp dp ln : Int} (h : okP sg vl mt₉ lw ll la sz₉ lk₉ ch₉ lp dp ln) {lw' : Int → Int} (hw : ∀ z₉ : Int, 0 ≤ z₉ → z₉ < 80 → 0 ≤ lw' z₉ ∧ lw' z₉ < 64) : okP sg vl mt₉ lw' ll la sz₉ lk₉ ch₉ lp dp ln := by
  obtain ⟨h1, h2, h3, h4, h5, h6, h7, h8⟩ := h
  exact ⟨h1, h2, h3, h4, h5, h6, fun z₉ z0 z1 => ⟨(h7 z₉ z0 z1).1, (h7 z₉ z0 z1).2.1, (h7 z₉ z0 z1).2.2.1, hw z₉ z0 z1⟩, h8⟩
theorem okP.num {sg vl mt₉ lw ll la : Int → Int} {sz₉ lk₉ ch₉ lp dp ln : Int} (h : okP sg vl mt₉ lw ll la sz₉ lk₉ ch₉ lp dp ln) {ch' lp' dp' : Int} (h1 : 0 ≤ ch' ∧ ch' ≤ 80) (h2 : 0 ≤ lp' ∧ lp' ≤ 81) (h3 : 0 ≤ dp' ∧ dp' ≤ 3) : okP sg vl mt₉ lw ll la sz₉ lk₉ ch' lp' dp' ln := ⟨h.1, h.2.1, h1, h2, h3, h.2.2.2.2.2.1, h.2.2.2.2.2.2⟩
/-- the reader at cell₉ 14: its row₉ of₉ what is₉ open₉ at 15, its draft at 16 -/
def isR (E : En) (σ : Nat → va_E) (op₉ : Int → Int) (d₉ fg : Int) (sg vl mt₉ lw ll la : Int → Int) (sz₉ lk₉ ch₉ lp dp ln : Int) : Prop := σ 14 = ob 7 [vr E 15, vi d₉, vi fg, vr E 16] ∧ σ 15 = ai E 3 op₉ ∧ isP E σ 16 sg vl mt₉ lw ll la sz₉ lk₉ ch₉ lp dp ln
theorem isR.keep {E : En} {σ τ : Nat → va_E} {op₉ : Int → Int} {d₉ fg : Int} {sg vl mt₉ lw ll la : Int → Int} {sz₉ lk₉ ch₉ lp dp ln : Int} (h : isR E σ op₉ d₉ fg sg vl mt₉ lw ll la sz₉ lk₉ ch₉ lp dp ln) (hk : ∀ j₉, 14 ≤ j₉ → j₉ ≤ 22 → τ j₉ = σ j₉) : isR E τ op₉ d₉ fg sg vl mt₉ lw ll la sz₉ lk₉ ch₉ lp dp ln := ⟨(hk 14 (by omega) (by omega)).trans h.1, (hk 15 (by omega) (by omega)).trans h.2.1, h.2.2.keep (fun j₉ h1 h2 => hk j₉ (by omega) (by omega))⟩
/-- the loop₉ around, by what is₉ open₉ -/
def arU (sg : Int → Int) (sz₉ : Int) (op₉ : Int → Int) : Nat → Int
  | 0 => -1
  | n₉ + 1 => if gSign sg sz₉ (op₉ n₉) = 5 then op₉ n₉ else arU sg sz₉ op₉ n₉
/-- the lines within₉ what is₉ open₉, with a₉ line more₉ -/
def lwU (op₉ : Int → Int) (x₉ : Int) (lw : Int → Int) : Nat → Int → Int
  | 0 => lw
  | n₉ + 1 => up (lwU op₉ x₉ lw n₉) (op₉ n₉) (orb (lwU op₉ x₉ lw n₉ (op₉ n₉)) x₉)
theorem lwU_rg {op₉ lw : Int → Int} {x₉ : Int} (hx : 0 ≤ x₉ ∧ x₉ ≤ 5) (h0 : ∀ z₉ : Int, 0 ≤ z₉ → z₉ < 80 → 0 ≤ lw z₉ ∧ lw z₉ < 64) : ∀ (n₉ : Nat), (∀ i₉ : Nat, i₉ < n₉ → 0 ≤ op₉ i₉ ∧ op₉ i₉ < 80) → ∀ z₉ : Int, 0 ≤ z₉ → z₉ < 80 → 0 ≤ lwU op₉ x₉ lw n₉ z₉ ∧ lwU op₉ x₉ lw n₉ z₉ < 64
  | 0, _, z₉, z0, z1 => h0 z₉ z0 z1
  | n₉ + 1, ho, z₉, z0, z1 => by
    have ih₉ := lwU_rg hx h0 n₉ (fun i₉ hi₉ => ho i₉ (by omega))
    have hn := ho n₉ (by omega)
    show 0 ≤ up (lwU op₉ x₉ lw n₉) (op₉ n₉) (orb (lwU op₉ x₉ lw n₉ (op₉ n₉)) x₉) z₉ ∧ up (lwU op₉ x₉ lw n₉) (op₉ n₉) (orb (lwU op₉ x₉ lw n₉ (op₉ n₉)) x₉) z₉ < 64
    by_cases e : z₉ = op₉ n₉
    · rw [e, up_self]; exact orb_rg (ih₉ _ hn.1 hn.2) hx
    · rw [up_ne _ _ e]; exact ih₉ z₉ z0 z1
theorem gSign_rg {sg : Int → Int} {sz₉ : Int} (h : ∀ z₉ : Int, 0 ≤ z₉ → z₉ < 80 → 0 ≤ sg z₉ ∧ sg z₉ ≤ 6) (a₉ : Int) : -1 ≤ gSign sg sz₉ a₉ ∧ gSign sg sz₉ a₉ ≤ 6 := by
  unfold gSign
  split
  · have := h a₉ (by omega) (by omega); omega
  · omega

set_option maxHeartbeats 4000000 in
set_option maxRecDepth 100000 in
theorem c_X7_isOpen (E : En) (N : Nat) (σ : Nat → va_E) (op₉ : Int → Int) (d₉ fg : Int) {sg vl mt₉ lw ll la : Int → Int} {sz₉ lk₉ ch₉ lp dp ln : Int} (hN₉ : 101 ≤ N) (hR0 : isR E σ op₉ d₉ fg sg vl mt₉ lw ll la sz₉ lk₉ ch₉ lp dp ln) (ho : okP sg vl mt₉ lw ll la sz₉ lk₉ ch₉ lp dp ln) (hd₉ : 0 ≤ d₉ ∧ d₉ ≤ 3) (hop : ∀ i₉ : Int, 0 ≤ i₉ → i₉ < d₉ → 0 ≤ op₉ i₉ ∧ op₉ i₉ < sz₉) (x₉ : Int) (hx : rg x₉) : CP E M_X7_isOpen 3 [vr E 14, vi x₉] N σ (bI (0 < d₉ ∧ gSign sg sz₉ (op₉ (d₉ - 1)) = x₉)) := by
  refine CT.of2 (own := RX7) (by decide) rfl (Nat.le_of_ble_eq_true rfl) ?_
  intro p e R s m args below meth c Q hF hr hlk hnm hz hR hQ
  obtain ⟨r14, r15, p0₉, p1₉, p2₉, p3₉, p4₉, p5₉, p6₉⟩ := hR0
  have pb0 : 16 < N := by omega
  have pb1 : 17 < N := by omega
  have pb2 : 18 < N := by omega
  have pb3 : 19 < N := by omega
  have pb4 : 20 < N := by omega
  have pb5 : 21 < N := by omega
  have pb6 : 22 < N := by omega
  have hsz := ho.1
  have hlk0 := ho.2.1
  have sgr : ∀ z₉ : Int, 0 ≤ z₉ → z₉ < 80 → 0 ≤ sg z₉ ∧ sg z₉ ≤ 6 := fun z₉ h1 h2 => (ho.2.2.2.2.2.2.1 z₉ h1 h2).1
  have zg := gSign_rg (sz₉ := sz₉) sgr (op₉ (d₉ - 1))
  refine go_aload_n (pc := 0) hF dX7_isOpen_0 0 rfl ?_
  refine go_get (pc := 1) hF fl_X7_15 dX7_isOpen_1 (by omega) r14 rfl ?_
  refine go_if_le (pc := 4) hF 41 dX7_isOpen_4 (by decide) (by omega) (fun bq4 => ?_) (fun bq4 => ?_)
  · refine go_iconst (pc := 41) hF dX7_isOpen_41 ?_
    exact go_zretQ hF hr hlk hQ dX7_isOpen_42 (by decide) ⟨by first | (rw [bI_t (by omega)]; done) | (rw [bI_f (by omega)]; done), rfl⟩
  · have hop1 := hop (d₉ - 1) (by omega) (by omega)
    refine go_aload_n (pc := 7) hF dX7_isOpen_7 0 rfl ?_
    refine go_get (pc := 8) hF fl_X7_15 dX7_isOpen_8 (by omega) r14 rfl ?_
    refine go_iconst (pc := 11) hF dX7_isOpen_11 ?_
    refine go_icmp_gt (pc := 12) hF 41 dX7_isOpen_12 (by decide) (by omega) ⟨by decide, by decide⟩ (fun bq12 => ?_) (fun bq12 => ?_)
    · exact absurd bq12 (by omega)
    · refine go_aload_n (pc := 15) hF dX7_isOpen_15 0 rfl ?_
      refine go_get (pc := 16) hF fl_X7_25 dX7_isOpen_16 (by omega) r14 rfl ?_
      refine go_aload_n (pc := 19) hF dX7_isOpen_19 0 rfl ?_
      refine go_get (pc := 20) hF fl_X7_9 dX7_isOpen_20 (by omega) r14 rfl ?_
      refine go_aload_n (pc := 23) hF dX7_isOpen_23 0 rfl ?_
      refine go_get (pc := 24) hF fl_X7_15 dX7_isOpen_24 (by omega) r14 rfl ?_
      refine go_iconst (pc := 27) hF dX7_isOpen_27 ?_
      refine go_isub (pc := 28) hF dX7_isOpen_28 ?_
      refine go_iald (pc := 29) hF dX7_isOpen_29 (by omega) r15 (by omega) ?_
      refine go_callVP (pc := 30) hF [vi (op₉ (d₉ - 1))] [] mv_X7_59 dX7_isOpen_30 pb0 p0₉ (c_X6_signAt E N σ 16 (op₉ (d₉ - 1)) (by omega) (by omega) ⟨p0₉, p1₉, p2₉, p3₉, p4₉, p5₉, p6₉⟩ ho) rfl rfl (Nat.le_of_ble_eq_true rfl) (by decide) ⟨Nat.zero_le _, Nat.zero_le _⟩ ?_
      refine go_iload_n (pc := 33) hF dX7_isOpen_33 1 rfl ?_
      refine go_icmp_ne (pc := 34) hF 41 dX7_isOpen_34 (by decide) (by omega) (by omega) (fun bq34 => ?_) (fun bq34 => ?_)
      · refine go_iconst (pc := 41) hF dX7_isOpen_41 ?_
        exact go_zretQ hF hr hlk hQ dX7_isOpen_42 (by decide) ⟨by first | (rw [bI_t (by omega)]; done) | (rw [bI_f (by omega)]; done), rfl⟩
      · refine go_iconst (pc := 37) hF dX7_isOpen_37 ?_
        refine go_goto (pc := 38) hF 42 dX7_isOpen_38 (by decide) ?_
        exact go_zretQ hF hr hlk hQ dX7_isOpen_42 (by decide) ⟨by first | (rw [bI_t (by omega)]; done) | (rw [bI_f (by omega)]; done), rfl⟩
set_option maxHeartbeats 4000000 in
set_option maxRecDepth 100000 in
theorem c_X7_turns_no (E : En) (N : Nat) (σ : Nat → va_E) (op₉ : Int → Int) (d₉ fg : Int) {sg vl mt₉ lw ll la : Int → Int} {sz₉ lk₉ ch₉ lp dp ln : Int} (hN₉ : 101 ≤ N) (hR0 : isR E σ op₉ d₉ fg sg vl mt₉ lw ll la sz₉ lk₉ ch₉ lp dp ln) (ho : okP sg vl mt₉ lw ll la sz₉ lk₉ ch₉ lp dp ln) (hd₉ : 0 ≤ d₉ ∧ d₉ ≤ 3) (hop : ∀ i₉ : Int, 0 ≤ i₉ → i₉ < d₉ → 0 ≤ op₉ i₉ ∧ op₉ i₉ < sz₉) (x₉ v₉ : Int) (hx : rg x₉) (hno : ¬ (0 < d₉ ∧ gSign sg sz₉ (op₉ (d₉ - 1)) = x₉)) : CP E M_X7_turns 4 [vr E 14, vi x₉, vi v₉] N σ 0 := by
  refine CT.of2 (own := RX7) (by decide) rfl (Nat.le_of_ble_eq_true rfl) ?_
  intro p e R s m args below meth c Q hF hr hlk hnm hz hR hQ
  obtain ⟨r14, r15, p0₉, p1₉, p2₉, p3₉, p4₉, p5₉, p6₉⟩ := hR0
  have pb0 : 16 < N := by omega
  have pb1 : 17 < N := by omega
  have pb2 : 18 < N := by omega
  have pb3 : 19 < N := by omega
  have pb4 : 20 < N := by omega
  have pb5 : 21 < N := by omega
  have pb6 : 22 < N := by omega
  have hsz := ho.1
  have hlk0 := ho.2.1
  have sgr : ∀ z₉ : Int, 0 ≤ z₉ → z₉ < 80 → 0 ≤ sg z₉ ∧ sg z₉ ≤ 6 := fun z₉ h1 h2 => (ho.2.2.2.2.2.2.1 z₉ h1 h2).1
  refine go_aload_n (pc := 0) hF dX7_turns_0 0 rfl ?_
  refine go_iload_n (pc := 1) hF dX7_turns_1 1 rfl ?_
  refine go_callVP (pc := 2) hF [vi x₉] [] mv_X7_89 dX7_turns_2 (by omega) r14 (c_X7_isOpen E N σ op₉ d₉ fg hN₉ ⟨r14, r15, ⟨p0₉, p1₉, p2₉, p3₉, p4₉, p5₉, p6₉⟩⟩ ho hd₉ hop x₉ (by omega)) rfl rfl (Nat.le_of_ble_eq_true rfl) (by decide) ⟨Nat.zero_le _, Nat.zero_le _⟩ ?_
  refine go_if_eq (pc := 5) hF 20 dX7_turns_5 (by decide) (bI_rg _) (fun bq5 => ?_) (fun bq5 => ?_)
  · refine go_iconst (pc := 20) hF dX7_turns_20 ?_
    exact go_zretQ hF hr hlk hQ dX7_turns_21 (by decide) ⟨rfl, rfl⟩
  · exact absurd ((bI_0 _).mpr hno) bq5
set_option maxHeartbeats 4000000 in
set_option maxRecDepth 100000 in
theorem c_X7_turns_yes (E : En) (N : Nat) (σ : Nat → va_E) (op₉ : Int → Int) (d₉ fg : Int) {sg vl mt₉ lw ll la : Int → Int} {sz₉ lk₉ ch₉ lp dp ln : Int} (hN₉ : 101 ≤ N) (hR0 : isR E σ op₉ d₉ fg sg vl mt₉ lw ll la sz₉ lk₉ ch₉ lp dp ln) (ho : okP sg vl mt₉ lw ll la sz₉ lk₉ ch₉ lp dp ln) (hd₉ : 0 ≤ d₉ ∧ d₉ ≤ 3) (hop : ∀ i₉ : Int, 0 ≤ i₉ → i₉ < d₉ → 0 ≤ op₉ i₉ ∧ op₉ i₉ < sz₉) (x₉ v₉ : Int) (hx : rg x₉) (hv : 0 ≤ v₉ ∧ v₉ ≤ 6) (hs : sz₉ < 80) (hyes : 0 < d₉ ∧ gSign sg sz₉ (op₉ (d₉ - 1)) = x₉) : CI E M_X7_turns 4 [vr E 14, vi x₉, vi v₉] N σ (fun y₉ σ' => y₉ = 1 ∧ isR E σ' (up op₉ (d₉ - 1) sz₉) d₉ fg (up sg sz₉ v₉) (up vl sz₉ 0) (up (up mt₉ sz₉ sz₉) (op₉ (d₉ - 1)) sz₉) (up lw sz₉ 0) ll la (sz₉ + 1) lk₉ ch₉ lp dp ln ∧ ∀ q₉, (q₉ < 14 ∨ 22 < q₉) → σ' q₉ = σ q₉) := by
  refine CT.of2 (own := RX7) (by decide) rfl (Nat.le_of_ble_eq_true rfl) ?_
  intro p e R s m args below meth c Q hF hr hlk hnm hz hR hQ
  obtain ⟨r14, r15, p0₉, p1₉, p2₉, p3₉, p4₉, p5₉, p6₉⟩ := hR0
  have pb0 : 16 < N := by omega
  have pb1 : 17 < N := by omega
  have pb2 : 18 < N := by omega
  have pb3 : 19 < N := by omega
  have pb4 : 20 < N := by omega
  have pb5 : 21 < N := by omega
  have pb6 : 22 < N := by omega
  have hsz := ho.1
  have hlk0 := ho.2.1
  have sgr : ∀ z₉ : Int, 0 ≤ z₉ → z₉ < 80 → 0 ≤ sg z₉ ∧ sg z₉ ≤ 6 := fun z₉ h1 h2 => (ho.2.2.2.2.2.2.1 z₉ h1 h2).1
  have hop1 := hop (d₉ - 1) (by omega) (by omega)
  refine go_aload_n (pc := 0) hF dX7_turns_0 0 rfl ?_
  refine go_iload_n (pc := 1) hF dX7_turns_1 1 rfl ?_
  refine go_callVP (pc := 2) hF [vi x₉] [] mv_X7_89 dX7_turns_2 (by omega) r14 (c_X7_isOpen E N σ op₉ d₉ fg hN₉ ⟨r14, r15, ⟨p0₉, p1₉, p2₉, p3₉, p4₉, p5₉, p6₉⟩⟩ ho hd₉ hop x₉ (by omega)) rfl rfl (Nat.le_of_ble_eq_true rfl) (by decide) ⟨Nat.zero_le _, Nat.zero_le _⟩ ?_
  refine go_if_eq (pc := 5) hF 20 dX7_turns_5 (by decide) (bI_rg _) (fun bq5 => ?_) (fun bq5 => ?_)
  · exact absurd hyes ((bI_0 _).mp bq5)
  · refine go_aload_n (pc := 8) hF dX7_turns_8 0 rfl ?_
    refine go_get (pc := 9) hF fl_X7_25 dX7_turns_9 (by omega) r14 rfl ?_
    refine go_iload_n (pc := 12) hF dX7_turns_12 2 rfl ?_
    refine go_iconst (pc := 13) hF dX7_turns_13 ?_
    refine go_callVI (pc := 14) hF [vi v₉, vi 0] [] mv_X7_46 dX7_turns_14 pb0 p0₉ (c_X6_add E N σ 16 (by omega) ⟨p0₉, p1₉, p2₉, p3₉, p4₉, p5₉, p6₉⟩ v₉ 0 (by omega)) rfl rfl (Nat.le_of_ble_eq_true rfl) (by decide) ⟨Nat.zero_le _, Nat.zero_le _⟩ (fun r_s1 s1₉ h_s1 => ?_)
    obtain ⟨e_s1, ⟨t0_s1, t1_s1, t2_s1, t3_s1, t4_s1, t5_s1, t6_s1⟩, f_s1⟩ := h_s1
    have rd_s1 := (f_s1 14 (by omega)).trans r14
    have op_s1 := (f_s1 15 (by omega)).trans r15
    subst e_s1
    refine go_if_ne (pc := 17) hF 22 dX7_turns_17 (by decide) ⟨by decide, by decide⟩ (fun bq17 => ?_) (fun bq17 => ?_)
    · refine go_aload_n (pc := 22) hF dX7_turns_22 0 rfl ?_
      refine go_get (pc := 23) hF fl_X7_25 dX7_turns_23 (by omega) rd_s1 rfl ?_
      refine go_get (pc := 26) hF fl_X7_79 dX7_turns_26 pb0 t0_s1 rfl ?_
      refine go_iconst (pc := 29) hF dX7_turns_29 ?_
      refine go_isub (pc := 30) hF dX7_turns_30 ?_
      rw [show sz₉ + 1 - 1 = sz₉ by omega]
      refine go_istore_n (pc := 31) hF [(3, vi sz₉), (0, vr E 14), (1, vi x₉), (2, vi v₉)] dX7_turns_31 rfl (by decide) ?_
      refine go_aload_n (pc := 32) hF dX7_turns_32 1 rfl ?_
      refine go_get (pc := 33) hF fl_X7_25 dX7_turns_33 (by omega) rd_s1 rfl ?_
      refine go_aload_n (pc := 36) hF dX7_turns_36 1 rfl ?_
      refine go_get (pc := 37) hF fl_X7_9 dX7_turns_37 (by omega) rd_s1 rfl ?_
      refine go_aload_n (pc := 40) hF dX7_turns_40 1 rfl ?_
      refine go_get (pc := 41) hF fl_X7_15 dX7_turns_41 (by omega) rd_s1 rfl ?_
      refine go_iconst (pc := 44) hF dX7_turns_44 ?_
      refine go_isub (pc := 45) hF dX7_turns_45 ?_
      refine go_iald (pc := 46) hF dX7_turns_46 (by omega) op_s1 (by omega) ?_
      refine go_iload_n (pc := 47) hF dX7_turns_47 0 rfl ?_
      refine go_callVV (pc := 48) hF [vi (op₉ (d₉ - 1)), vi sz₉] [] mv_X7_92 dX7_turns_48 pb0 t0_s1 (c_X6_setMate E N s1₉ 16 (by omega) ⟨t0_s1, t1_s1, t2_s1, t3_s1, t4_s1, t5_s1, t6_s1⟩ ((ho.add (x₉ := v₉) (v₉ := 0) (by omega) hv (by omega))) (op₉ (d₉ - 1)) sz₉ (by omega)) rfl rfl (Nat.le_of_ble_eq_true rfl) (by decide) ⟨Nat.zero_le _, Nat.zero_le _⟩ (fun s2₉ h_s2 => ?_)
      obtain ⟨⟨t0_s2, t1_s2, t2_s2, t3_s2, t4_s2, t5_s2, t6_s2⟩, f_s2⟩ := h_s2
      have rd_s2 := (f_s2 14 (by omega)).trans rd_s1
      have op_s2 := (f_s2 15 (by omega)).trans op_s1
      refine go_aload_n (pc := 51) hF dX7_turns_51 1 rfl ?_
      refine go_get (pc := 52) hF fl_X7_9 dX7_turns_52 (by omega) rd_s2 rfl ?_
      refine go_aload_n (pc := 55) hF dX7_turns_55 1 rfl ?_
      refine go_get (pc := 56) hF fl_X7_15 dX7_turns_56 (by omega) rd_s2 rfl ?_
      refine go_iconst (pc := 59) hF dX7_turns_59 ?_
      refine go_isub (pc := 60) hF dX7_turns_60 ?_
      refine go_iload_n (pc := 61) hF dX7_turns_61 0 rfl ?_
      refine go_iast (pc := 62) hF dX7_turns_62 (by omega) op_s2 (by omega) (fun s3₉ u_s3 f_s3 => ?_)
      have t_s3 := (f_s3 16 (show 16 ≠ 15 by omega)).trans t0_s2
      have t1_s3 := (f_s3 17 (show 17 ≠ 15 by omega)).trans t1_s2
      have t2_s3 := (f_s3 18 (show 18 ≠ 15 by omega)).trans t2_s2
      have t3_s3 := (f_s3 19 (show 19 ≠ 15 by omega)).trans t3_s2
      have t4_s3 := (f_s3 20 (show 20 ≠ 15 by omega)).trans t4_s2
      have t5_s3 := (f_s3 21 (show 21 ≠ 15 by omega)).trans t5_s2
      have t6_s3 := (f_s3 22 (show 22 ≠ 15 by omega)).trans t6_s2
      have rd_s3 := (f_s3 14 (show 14 ≠ 15 by omega)).trans rd_s2
      refine go_iconst (pc := 63) hF dX7_turns_63 ?_
      exact go_zretQ hF hr hlk hQ dX7_turns_64 (by decide) ⟨rfl, ⟨rd_s3, u_s3, ⟨t_s3, t1_s3, t2_s3, t3_s3, t4_s3, t5_s3, t6_s3⟩⟩, (fun jj hjj => by rw [f_s3 jj (by omega), f_s2 jj (by omega), f_s1 jj (by omega)])⟩
    · exact absurd bq17 (by decide)
set_option maxHeartbeats 4000000 in
set_option maxRecDepth 100000 in
theorem c_X7_closes_no (E : En) (N : Nat) (σ : Nat → va_E) (op₉ : Int → Int) (d₉ fg : Int) {sg vl mt₉ lw ll la : Int → Int} {sz₉ lk₉ ch₉ lp dp ln : Int} (hN₉ : 101 ≤ N) (hR0 : isR E σ op₉ d₉ fg sg vl mt₉ lw ll la sz₉ lk₉ ch₉ lp dp ln) (ho : okP sg vl mt₉ lw ll la sz₉ lk₉ ch₉ lp dp ln) (hd₉ : 0 ≤ d₉ ∧ d₉ ≤ 3) (hop : ∀ i₉ : Int, 0 ≤ i₉ → i₉ < d₉ → 0 ≤ op₉ i₉ ∧ op₉ i₉ < sz₉) (x₉ v₉ : Int) (hx : rg x₉) (hno : ¬ (0 < d₉ ∧ gSign sg sz₉ (op₉ (d₉ - 1)) = x₉)) : CP E M_X7_closes 5 [vr E 14, vi x₉, vi v₉] N σ 0 := by
  refine CT.of2 (own := RX7) (by decide) rfl (Nat.le_of_ble_eq_true rfl) ?_
  intro p e R s m args below meth c Q hF hr hlk hnm hz hR hQ
  obtain ⟨r14, r15, p0₉, p1₉, p2₉, p3₉, p4₉, p5₉, p6₉⟩ := hR0
  have pb0 : 16 < N := by omega
  have pb1 : 17 < N := by omega
  have pb2 : 18 < N := by omega
  have pb3 : 19 < N := by omega
  have pb4 : 20 < N := by omega
  have pb5 : 21 < N := by omega
  have pb6 : 22 < N := by omega
  have hsz := ho.1
  have hlk0 := ho.2.1
  have sgr : ∀ z₉ : Int, 0 ≤ z₉ → z₉ < 80 → 0 ≤ sg z₉ ∧ sg z₉ ≤ 6 := fun z₉ h1 h2 => (ho.2.2.2.2.2.2.1 z₉ h1 h2).1
  refine go_aload_n (pc := 0) hF dX7_closes_0 0 rfl ?_
  refine go_iload_n (pc := 1) hF dX7_closes_1 1 rfl ?_
  refine go_iload_n (pc := 2) hF dX7_closes_2 2 rfl ?_
  refine go_callVP (pc := 3) hF [vi x₉, vi v₉] [] mv_X7_53 dX7_closes_3 (by omega) r14 (c_X7_turns_no E N σ op₉ d₉ fg hN₉ ⟨r14, r15, ⟨p0₉, p1₉, p2₉, p3₉, p4₉, p5₉, p6₉⟩⟩ ho hd₉ hop x₉ v₉ hx hno) rfl rfl (Nat.le_of_ble_eq_true rfl) (by decide) ⟨Nat.zero_le _, Nat.zero_le _⟩ ?_
  refine go_if_ne (pc := 6) hF 11 dX7_closes_6 (by decide) ⟨by decide, by decide⟩ (fun bq6 => ?_) (fun bq6 => ?_)
  · exact absurd bq6 (by decide)
  · refine go_iconst (pc := 9) hF dX7_closes_9 ?_
    exact go_zretQ hF hr hlk hQ dX7_closes_10 (by decide) ⟨rfl, rfl⟩
set_option maxHeartbeats 4000000 in
set_option maxRecDepth 100000 in
theorem c_X7_closes_yes (E : En) (N : Nat) (σ : Nat → va_E) (op₉ : Int → Int) (d₉ fg : Int) {sg vl mt₉ lw ll la : Int → Int} {sz₉ lk₉ ch₉ lp dp ln : Int} (hN₉ : 101 ≤ N) (hR0 : isR E σ op₉ d₉ fg sg vl mt₉ lw ll la sz₉ lk₉ ch₉ lp dp ln) (ho : okP sg vl mt₉ lw ll la sz₉ lk₉ ch₉ lp dp ln) (hd₉ : 0 ≤ d₉ ∧ d₉ ≤ 3) (hop : ∀ i₉ : Int, 0 ≤ i₉ → i₉ < d₉ → 0 ≤ op₉ i₉ ∧ op₉ i₉ < sz₉) (x₉ v₉ : Int) (hx : rg x₉) (hv : 0 ≤ v₉ ∧ v₉ ≤ 6) (hs : sz₉ < 80) (hyes : 0 < d₉ ∧ gSign sg sz₉ (op₉ (d₉ - 1)) = x₉) : CI E M_X7_closes 5 [vr E 14, vi x₉, vi v₉] N σ (fun y₉ σ' => y₉ = 1 ∧ isR E σ' (up op₉ (d₉ - 1) sz₉) (d₉ - 1) fg (up sg sz₉ v₉) (up vl sz₉ 0) (up (up mt₉ sz₉ sz₉) (op₉ (d₉ - 1)) sz₉) (up lw sz₉ 0) ll la (sz₉ + 1) lk₉ ch₉ lp dp ln ∧ ∀ q₉, (q₉ < 14 ∨ 22 < q₉) → σ' q₉ = σ q₉) := by
  refine CT.of2 (own := RX7) (by decide) rfl (Nat.le_of_ble_eq_true rfl) ?_
  intro p e R s m args below meth c Q hF hr hlk hnm hz hR hQ
  obtain ⟨r14, r15, p0₉, p1₉, p2₉, p3₉, p4₉, p5₉, p6₉⟩ := hR0
  have pb0 : 16 < N := by omega
  have pb1 : 17 < N := by omega
  have pb2 : 18 < N := by omega
  have pb3 : 19 < N := by omega
  have pb4 : 20 < N := by omega
  have pb5 : 21 < N := by omega
  have pb6 : 22 < N := by omega
  have hsz := ho.1
  have hlk0 := ho.2.1
  have sgr : ∀ z₉ : Int, 0 ≤ z₉ → z₉ < 80 → 0 ≤ sg z₉ ∧ sg z₉ ≤ 6 := fun z₉ h1 h2 => (ho.2.2.2.2.2.2.1 z₉ h1 h2).1
  refine go_aload_n (pc := 0) hF dX7_closes_0 0 rfl ?_
  refine go_iload_n (pc := 1) hF dX7_closes_1 1 rfl ?_
  refine go_iload_n (pc := 2) hF dX7_closes_2 2 rfl ?_
  refine go_callVI (pc := 3) hF [vi x₉, vi v₉] [] mv_X7_53 dX7_closes_3 (by omega) r14 (c_X7_turns_yes E N σ op₉ d₉ fg hN₉ ⟨r14, r15, ⟨p0₉, p1₉, p2₉, p3₉, p4₉, p5₉, p6₉⟩⟩ ho hd₉ hop x₉ v₉ hx hv hs hyes) rfl rfl (Nat.le_of_ble_eq_true rfl) (by decide) ⟨Nat.zero_le _, Nat.zero_le _⟩ (fun r_s1 s1₉ h_s1 => ?_)
  obtain ⟨e_s1, ⟨x1_s1, x2_s1, t0_s1, t1_s1, t2_s1, t3_s1, t4_s1, t5_s1, t6_s1⟩, f_s1⟩ := h_s1
  subst e_s1
  refine go_if_ne (pc := 6) hF 11 dX7_closes_6 (by decide) ⟨by decide, by decide⟩ (fun bq6 => ?_) (fun bq6 => ?_)
  · refine go_aload_n (pc := 11) hF dX7_closes_11 0 rfl ?_
    refine go_dup (pc := 12) hF dX7_closes_12 rfl ?_
    refine go_get (pc := 13) hF fl_X7_15 dX7_closes_13 (by omega) x1_s1 rfl ?_
    refine go_iconst (pc := 16) hF dX7_closes_16 ?_
    refine go_isub (pc := 17) hF dX7_closes_17 ?_
    refine go_put (pc := 18) hF [vr E 15, vi (d₉ - 1), vi fg, vr E 16] fl_X7_15 dX7_closes_18 (by omega) x1_s1 rfl rfl rfl (Nat.le_of_ble_eq_true rfl) (fun s2₉ u_s2 f_s2 => ?_)
    have t_s2 := (f_s2 16 (show 16 ≠ 14 by omega)).trans t0_s1
    have t1_s2 := (f_s2 17 (show 17 ≠ 14 by omega)).trans t1_s1
    have t2_s2 := (f_s2 18 (show 18 ≠ 14 by omega)).trans t2_s1
    have t3_s2 := (f_s2 19 (show 19 ≠ 14 by omega)).trans t3_s1
    have t4_s2 := (f_s2 20 (show 20 ≠ 14 by omega)).trans t4_s1
    have t5_s2 := (f_s2 21 (show 21 ≠ 14 by omega)).trans t5_s1
    have t6_s2 := (f_s2 22 (show 22 ≠ 14 by omega)).trans t6_s1
    have op_s2 := (f_s2 15 (show 15 ≠ 14 by omega)).trans x2_s1
    refine go_iconst (pc := 21) hF dX7_closes_21 ?_
    exact go_zretQ hF hr hlk hQ dX7_closes_22 (by decide) ⟨rfl, ⟨u_s2, op_s2, ⟨t_s2, t1_s2, t2_s2, t3_s2, t4_s2, t5_s2, t6_s2⟩⟩, (fun jj hjj => by rw [f_s2 jj (by omega), f_s1 jj (by omega)])⟩
  · exact absurd bq6 (by decide)
set_option maxHeartbeats 4000000 in
set_option maxRecDepth 100000 in
theorem c_X7_opens_no (E : En) (N : Nat) (σ : Nat → va_E) (op₉ : Int → Int) (d₉ fg : Int) {sg vl mt₉ lw ll la : Int → Int} {sz₉ lk₉ ch₉ lp dp ln : Int} (hN₉ : 101 ≤ N) (hR0 : isR E σ op₉ d₉ fg sg vl mt₉ lw ll la sz₉ lk₉ ch₉ lp dp ln) (ho : okP sg vl mt₉ lw ll la sz₉ lk₉ ch₉ lp dp ln) (hd₉ : 0 ≤ d₉ ∧ d₉ ≤ 3) (hop : ∀ i₉ : Int, 0 ≤ i₉ → i₉ < d₉ → 0 ≤ op₉ i₉ ∧ op₉ i₉ < sz₉) (x₉ v₉ : Int) (h3 : d₉ = 3) : CP E M_X7_opens 2 [vr E 14, vi x₉, vi v₉] N σ 0 := by
  refine CT.of2 (own := RX7) (by decide) rfl (Nat.le_of_ble_eq_true rfl) ?_
  intro p e R s m args below meth c Q hF hr hlk hnm hz hR hQ
  obtain ⟨r14, r15, p0₉, p1₉, p2₉, p3₉, p4₉, p5₉, p6₉⟩ := hR0
  have pb0 : 16 < N := by omega
  have pb1 : 17 < N := by omega
  have pb2 : 18 < N := by omega
  have pb3 : 19 < N := by omega
  have pb4 : 20 < N := by omega
  have pb5 : 21 < N := by omega
  have pb6 : 22 < N := by omega
  have hsz := ho.1
  have hlk0 := ho.2.1
  have sgr : ∀ z₉ : Int, 0 ≤ z₉ → z₉ < 80 → 0 ≤ sg z₉ ∧ sg z₉ ≤ 6 := fun z₉ h1 h2 => (ho.2.2.2.2.2.2.1 z₉ h1 h2).1
  refine go_aload_n (pc := 0) hF dX7_opens_0 0 rfl ?_
  refine go_get (pc := 1) hF fl_X7_15 dX7_opens_1 (by omega) r14 rfl ?_
  refine go_if_lt (pc := 4) hF 27 dX7_opens_4 (by decide) (by omega) (fun bq4 => ?_) (fun bq4 => ?_)
  · exact absurd bq4 (by omega)
  · refine go_aload_n (pc := 7) hF dX7_opens_7 0 rfl ?_
    refine go_get (pc := 8) hF fl_X7_15 dX7_opens_8 (by omega) r14 rfl ?_
    refine go_iconst (pc := 11) hF dX7_opens_11 ?_
    refine go_icmp_ge (pc := 12) hF 27 dX7_opens_12 (by decide) (by omega) ⟨by decide, by decide⟩ (fun bq12 => ?_) (fun bq12 => ?_)
    · refine go_iconst (pc := 27) hF dX7_opens_27 ?_
      exact go_zretQ hF hr hlk hQ dX7_opens_28 (by decide) ⟨rfl, rfl⟩
    · exact absurd bq12 (by omega)
set_option maxHeartbeats 4000000 in
set_option maxRecDepth 100000 in
theorem c_X7_opens_yes (E : En) (N : Nat) (σ : Nat → va_E) (op₉ : Int → Int) (d₉ fg : Int) {sg vl mt₉ lw ll la : Int → Int} {sz₉ lk₉ ch₉ lp dp ln : Int} (hN₉ : 101 ≤ N) (hR0 : isR E σ op₉ d₉ fg sg vl mt₉ lw ll la sz₉ lk₉ ch₉ lp dp ln) (ho : okP sg vl mt₉ lw ll la sz₉ lk₉ ch₉ lp dp ln) (hd₉ : 0 ≤ d₉ ∧ d₉ ≤ 3) (hop : ∀ i₉ : Int, 0 ≤ i₉ → i₉ < d₉ → 0 ≤ op₉ i₉ ∧ op₉ i₉ < sz₉) (x₉ v₉ : Int) (hx : 0 ≤ x₉ ∧ x₉ ≤ 6) (hv : 0 ≤ v₉ ∧ v₉ ≤ 24) (hs : sz₉ < 80) (h3 : d₉ < 3) : CI E M_X7_opens 2 [vr E 14, vi x₉, vi v₉] N σ (fun y₉ σ' => y₉ = 1 ∧ isR E σ' (up op₉ d₉ sz₉) (d₉ + 1) fg (up sg sz₉ x₉) (up vl sz₉ v₉) (up mt₉ sz₉ sz₉) (up lw sz₉ 0) ll la (sz₉ + 1) lk₉ ch₉ lp (max dp (d₉ + 1)) ln ∧ ∀ q₉, (q₉ < 14 ∨ 22 < q₉) → σ' q₉ = σ q₉) := by
  refine CT.of2 (own := RX7) (by decide) rfl (Nat.le_of_ble_eq_true rfl) ?_
  intro p e R s m args below meth c Q hF hr hlk hnm hz hR hQ
  obtain ⟨r14, r15, p0₉, p1₉, p2₉, p3₉, p4₉, p5₉, p6₉⟩ := hR0
  have pb0 : 16 < N := by omega
  have pb1 : 17 < N := by omega
  have pb2 : 18 < N := by omega
  have pb3 : 19 < N := by omega
  have pb4 : 20 < N := by omega
  have pb5 : 21 < N := by omega
  have pb6 : 22 < N := by omega
  have hsz := ho.1
  have hlk0 := ho.2.1
  have sgr : ∀ z₉ : Int, 0 ≤ z₉ → z₉ < 80 → 0 ≤ sg z₉ ∧ sg z₉ ≤ 6 := fun z₉ h1 h2 => (ho.2.2.2.2.2.2.1 z₉ h1 h2).1
  have hdp := ho.2.2.2.2.1
  refine go_aload_n (pc := 0) hF dX7_opens_0 0 rfl ?_
  refine go_get (pc := 1) hF fl_X7_15 dX7_opens_1 (by omega) r14 rfl ?_
  refine go_if_lt (pc := 4) hF 27 dX7_opens_4 (by decide) (by omega) (fun bq4 => ?_) (fun bq4 => ?_)
  · exact absurd bq4 (by omega)
  · refine go_aload_n (pc := 7) hF dX7_opens_7 0 rfl ?_
    refine go_get (pc := 8) hF fl_X7_15 dX7_opens_8 (by omega) r14 rfl ?_
    refine go_iconst (pc := 11) hF dX7_opens_11 ?_
    refine go_icmp_ge (pc := 12) hF 27 dX7_opens_12 (by decide) (by omega) ⟨by decide, by decide⟩ (fun bq12 => ?_) (fun bq12 => ?_)
    · exact absurd bq12 (by omega)
    · refine go_aload_n (pc := 15) hF dX7_opens_15 0 rfl ?_
      refine go_get (pc := 16) hF fl_X7_25 dX7_opens_16 (by omega) r14 rfl ?_
      refine go_iload_n (pc := 19) hF dX7_opens_19 1 rfl ?_
      refine go_iload_n (pc := 20) hF dX7_opens_20 2 rfl ?_
      refine go_callVI (pc := 21) hF [vi x₉, vi v₉] [] mv_X7_46 dX7_opens_21 pb0 p0₉ (c_X6_add E N σ 16 (by omega) ⟨p0₉, p1₉, p2₉, p3₉, p4₉, p5₉, p6₉⟩ x₉ v₉ (by omega)) rfl rfl (Nat.le_of_ble_eq_true rfl) (by decide) ⟨Nat.zero_le _, Nat.zero_le _⟩ (fun r_s1 s1₉ h_s1 => ?_)
      obtain ⟨e_s1, ⟨t0_s1, t1_s1, t2_s1, t3_s1, t4_s1, t5_s1, t6_s1⟩, f_s1⟩ := h_s1
      have rd_s1 := (f_s1 14 (by omega)).trans r14
      have op_s1 := (f_s1 15 (by omega)).trans r15
      subst e_s1
      refine go_if_ne (pc := 24) hF 29 dX7_opens_24 (by decide) ⟨by decide, by decide⟩ (fun bq24 => ?_) (fun bq24 => ?_)
      · refine go_aload_n (pc := 29) hF dX7_opens_29 0 rfl ?_
        refine go_get (pc := 30) hF fl_X7_9 dX7_opens_30 (by omega) rd_s1 rfl ?_
        refine go_aload_n (pc := 33) hF dX7_opens_33 0 rfl ?_
        refine go_get (pc := 34) hF fl_X7_15 dX7_opens_34 (by omega) rd_s1 rfl ?_
        refine go_aload_n (pc := 37) hF dX7_opens_37 0 rfl ?_
        refine go_get (pc := 38) hF fl_X7_25 dX7_opens_38 (by omega) rd_s1 rfl ?_
        refine go_get (pc := 41) hF fl_X7_79 dX7_opens_41 pb0 t0_s1 rfl ?_
        refine go_iconst (pc := 44) hF dX7_opens_44 ?_
        refine go_isub (pc := 45) hF dX7_opens_45 ?_
        rw [show sz₉ + 1 - 1 = sz₉ by omega]
        refine go_iast (pc := 46) hF dX7_opens_46 (by omega) op_s1 (by omega) (fun s2₉ u_s2 f_s2 => ?_)
        have t_s2 := (f_s2 16 (show 16 ≠ 15 by omega)).trans t0_s1
        have t1_s2 := (f_s2 17 (show 17 ≠ 15 by omega)).trans t1_s1
        have t2_s2 := (f_s2 18 (show 18 ≠ 15 by omega)).trans t2_s1
        have t3_s2 := (f_s2 19 (show 19 ≠ 15 by omega)).trans t3_s1
        have t4_s2 := (f_s2 20 (show 20 ≠ 15 by omega)).trans t4_s1
        have t5_s2 := (f_s2 21 (show 21 ≠ 15 by omega)).trans t5_s1
        have t6_s2 := (f_s2 22 (show 22 ≠ 15 by omega)).trans t6_s1
        have rd_s2 := (f_s2 14 (show 14 ≠ 15 by omega)).trans rd_s1
        refine go_aload_n (pc := 47) hF dX7_opens_47 0 rfl ?_
        refine go_dup (pc := 48) hF dX7_opens_48 rfl ?_
        refine go_get (pc := 49) hF fl_X7_15 dX7_opens_49 (by omega) rd_s2 rfl ?_
        refine go_iconst (pc := 52) hF dX7_opens_52 ?_
        refine go_iadd (pc := 53) hF dX7_opens_53 ?_
        refine go_put (pc := 54) hF [vr E 15, vi (d₉ + 1), vi fg, vr E 16] fl_X7_15 dX7_opens_54 (by omega) rd_s2 rfl rfl rfl (Nat.le_of_ble_eq_true rfl) (fun s3₉ u_s3 f_s3 => ?_)
        have t_s3 := (f_s3 16 (show 16 ≠ 14 by omega)).trans t_s2
        have t1_s3 := (f_s3 17 (show 17 ≠ 14 by omega)).trans t1_s2
        have t2_s3 := (f_s3 18 (show 18 ≠ 14 by omega)).trans t2_s2
        have t3_s3 := (f_s3 19 (show 19 ≠ 14 by omega)).trans t3_s2
        have t4_s3 := (f_s3 20 (show 20 ≠ 14 by omega)).trans t4_s2
        have t5_s3 := (f_s3 21 (show 21 ≠ 14 by omega)).trans t5_s2
        have t6_s3 := (f_s3 22 (show 22 ≠ 14 by omega)).trans t6_s2
        have op_s3 := (f_s3 15 (show 15 ≠ 14 by omega)).trans u_s2
        refine go_aload_n (pc := 57) hF dX7_opens_57 0 rfl ?_
        refine go_get (pc := 58) hF fl_X7_25 dX7_opens_58 (by omega) u_s3 rfl ?_
        refine go_aload_n (pc := 61) hF dX7_opens_61 0 rfl ?_
        refine go_get (pc := 62) hF fl_X7_25 dX7_opens_62 (by omega) u_s3 rfl ?_
        refine go_get (pc := 65) hF fl_X7_82 dX7_opens_65 pb0 t_s3 rfl ?_
        refine go_aload_n (pc := 68) hF dX7_opens_68 0 rfl ?_
        refine go_get (pc := 69) hF fl_X7_15 dX7_opens_69 (by omega) u_s3 rfl ?_
        refine go_mmax (pc := 72) hF ms_X7_83 dX7_opens_72 (by omega) (by omega) (Nat.le_of_ble_eq_true rfl) (by decide) ⟨Nat.zero_le _, Nat.zero_le _⟩ ?_
        refine go_put (pc := 75) hF [vr E 17, vr E 18, vr E 19, vr E 20, vr E 21, vr E 22, vi (sz₉ + 1), vi lk₉, vi ch₉, vi lp, vi (max dp (d₉ + 1)), vi ln] fl_X7_82 dX7_opens_75 pb0 t_s3 rfl rfl rfl (Nat.le_of_ble_eq_true rfl) (fun s4₉ u_s4 f_s4 => ?_)
        have t1_s4 := (f_s4 17 (show 17 ≠ 16 by omega)).trans t1_s3
        have t2_s4 := (f_s4 18 (show 18 ≠ 16 by omega)).trans t2_s3
        have t3_s4 := (f_s4 19 (show 19 ≠ 16 by omega)).trans t3_s3
        have t4_s4 := (f_s4 20 (show 20 ≠ 16 by omega)).trans t4_s3
        have t5_s4 := (f_s4 21 (show 21 ≠ 16 by omega)).trans t5_s3
        have t6_s4 := (f_s4 22 (show 22 ≠ 16 by omega)).trans t6_s3
        have rd_s4 := (f_s4 14 (show 14 ≠ 16 by omega)).trans u_s3
        have op_s4 := (f_s4 15 (show 15 ≠ 16 by omega)).trans op_s3
        refine go_iconst (pc := 78) hF dX7_opens_78 ?_
        exact go_zretQ hF hr hlk hQ dX7_opens_79 (by decide) ⟨rfl, ⟨rd_s4, op_s4, ⟨u_s4, t1_s4, t2_s4, t3_s4, t4_s4, t5_s4, t6_s4⟩⟩, (fun jj hjj => by rw [f_s4 jj (by omega), f_s3 jj (by omega), f_s2 jj (by omega), f_s1 jj (by omega)])⟩
      · exact absurd bq24 (by decide)
set_option maxHeartbeats 4000000 in
set_option maxRecDepth 100000 in
theorem c_X7_opensChoice_no (E : En) (N : Nat) (σ : Nat → va_E) (op₉ : Int → Int) (d₉ fg : Int) {sg vl mt₉ lw ll la : Int → Int} {sz₉ lk₉ ch₉ lp dp ln : Int} (hN₉ : 101 ≤ N) (hR0 : isR E σ op₉ d₉ fg sg vl mt₉ lw ll la sz₉ lk₉ ch₉ lp dp ln) (ho : okP sg vl mt₉ lw ll la sz₉ lk₉ ch₉ lp dp ln) (hd₉ : 0 ≤ d₉ ∧ d₉ ≤ 3) (hop : ∀ i₉ : Int, 0 ≤ i₉ → i₉ < d₉ → 0 ≤ op₉ i₉ ∧ op₉ i₉ < sz₉) (h3 : d₉ = 3) : CP E M_X7_opensChoice 3 [vr E 14] N σ 0 := by
  refine CT.of2 (own := RX7) (by decide) rfl (Nat.le_of_ble_eq_true rfl) ?_
  intro p e R s m args below meth c Q hF hr hlk hnm hz hR hQ
  obtain ⟨r14, r15, p0₉, p1₉, p2₉, p3₉, p4₉, p5₉, p6₉⟩ := hR0
  have pb0 : 16 < N := by omega
  have pb1 : 17 < N := by omega
  have pb2 : 18 < N := by omega
  have pb3 : 19 < N := by omega
  have pb4 : 20 < N := by omega
  have pb5 : 21 < N := by omega
  have pb6 : 22 < N := by omega
  have hsz := ho.1
  have hlk0 := ho.2.1
  have sgr : ∀ z₉ : Int, 0 ≤ z₉ → z₉ < 80 → 0 ≤ sg z₉ ∧ sg z₉ ≤ 6 := fun z₉ h1 h2 => (ho.2.2.2.2.2.2.1 z₉ h1 h2).1
  refine go_aload_n (pc := 0) hF dX7_opensChoice_0 0 rfl ?_
  refine go_iconst (pc := 1) hF dX7_opensChoice_1 ?_
  refine go_iconst (pc := 2) hF dX7_opensChoice_2 ?_
  refine go_callVP (pc := 3) hF [vi 2, vi 0] [] mv_X7_73 dX7_opensChoice_3 (by omega) r14 (c_X7_opens_no E N σ op₉ d₉ fg hN₉ ⟨r14, r15, ⟨p0₉, p1₉, p2₉, p3₉, p4₉, p5₉, p6₉⟩⟩ ho hd₉ hop 2 0 h3) rfl rfl (Nat.le_of_ble_eq_true rfl) (by decide) ⟨Nat.zero_le _, Nat.zero_le _⟩ ?_
  refine go_if_ne (pc := 6) hF 11 dX7_opensChoice_6 (by decide) ⟨by decide, by decide⟩ (fun bq6 => ?_) (fun bq6 => ?_)
  · exact absurd bq6 (by decide)
  · refine go_iconst (pc := 9) hF dX7_opensChoice_9 ?_
    exact go_zretQ hF hr hlk hQ dX7_opensChoice_10 (by decide) ⟨rfl, rfl⟩
set_option maxHeartbeats 4000000 in
set_option maxRecDepth 100000 in
theorem c_X7_opensChoice_yes (E : En) (N : Nat) (σ : Nat → va_E) (op₉ : Int → Int) (d₉ fg : Int) {sg vl mt₉ lw ll la : Int → Int} {sz₉ lk₉ ch₉ lp dp ln : Int} (hN₉ : 101 ≤ N) (hR0 : isR E σ op₉ d₉ fg sg vl mt₉ lw ll la sz₉ lk₉ ch₉ lp dp ln) (ho : okP sg vl mt₉ lw ll la sz₉ lk₉ ch₉ lp dp ln) (hd₉ : 0 ≤ d₉ ∧ d₉ ≤ 3) (hop : ∀ i₉ : Int, 0 ≤ i₉ → i₉ < d₉ → 0 ≤ op₉ i₉ ∧ op₉ i₉ < sz₉) (hs : sz₉ < 80) (h3 : d₉ < 3) : CI E M_X7_opensChoice 3 [vr E 14] N σ (fun y₉ σ' => y₉ = 1 ∧ isR E σ' (up op₉ d₉ sz₉) (d₉ + 1) fg (up sg sz₉ 2) (up vl sz₉ 0) (up mt₉ sz₉ sz₉) (up lw sz₉ 0) ll la (sz₉ + 1) lk₉ (ch₉ + 1) lp (max dp (d₉ + 1)) ln ∧ ∀ q₉, (q₉ < 14 ∨ 22 < q₉) → σ' q₉ = σ q₉) := by
  refine CT.of2 (own := RX7) (by decide) rfl (Nat.le_of_ble_eq_true rfl) ?_
  intro p e R s m args below meth c Q hF hr hlk hnm hz hR hQ
  obtain ⟨r14, r15, p0₉, p1₉, p2₉, p3₉, p4₉, p5₉, p6₉⟩ := hR0
  have pb0 : 16 < N := by omega
  have pb1 : 17 < N := by omega
  have pb2 : 18 < N := by omega
  have pb3 : 19 < N := by omega
  have pb4 : 20 < N := by omega
  have pb5 : 21 < N := by omega
  have pb6 : 22 < N := by omega
  have hsz := ho.1
  have hlk0 := ho.2.1
  have sgr : ∀ z₉ : Int, 0 ≤ z₉ → z₉ < 80 → 0 ≤ sg z₉ ∧ sg z₉ ≤ 6 := fun z₉ h1 h2 => (ho.2.2.2.2.2.2.1 z₉ h1 h2).1
  refine go_aload_n (pc := 0) hF dX7_opensChoice_0 0 rfl ?_
  refine go_iconst (pc := 1) hF dX7_opensChoice_1 ?_
  refine go_iconst (pc := 2) hF dX7_opensChoice_2 ?_
  refine go_callVI (pc := 3) hF [vi 2, vi 0] [] mv_X7_73 dX7_opensChoice_3 (by omega) r14 (c_X7_opens_yes E N σ op₉ d₉ fg hN₉ ⟨r14, r15, ⟨p0₉, p1₉, p2₉, p3₉, p4₉, p5₉, p6₉⟩⟩ ho hd₉ hop 2 0 (by omega) (by omega) hs h3) rfl rfl (Nat.le_of_ble_eq_true rfl) (by decide) ⟨Nat.zero_le _, Nat.zero_le _⟩ (fun r_s1 s1₉ h_s1 => ?_)
  obtain ⟨e_s1, ⟨x1_s1, x2_s1, t0_s1, t1_s1, t2_s1, t3_s1, t4_s1, t5_s1, t6_s1⟩, f_s1⟩ := h_s1
  subst e_s1
  refine go_if_ne (pc := 6) hF 11 dX7_opensChoice_6 (by decide) ⟨by decide, by decide⟩ (fun bq6 => ?_) (fun bq6 => ?_)
  · refine go_aload_n (pc := 11) hF dX7_opensChoice_11 0 rfl ?_
    refine go_get (pc := 12) hF fl_X7_25 dX7_opensChoice_12 (by omega) x1_s1 rfl ?_
    refine go_dup (pc := 15) hF dX7_opensChoice_15 rfl ?_
    refine go_get (pc := 16) hF fl_X7_76 dX7_opensChoice_16 pb0 t0_s1 rfl ?_
    refine go_iconst (pc := 19) hF dX7_opensChoice_19 ?_
    refine go_iadd (pc := 20) hF dX7_opensChoice_20 ?_
    refine go_put (pc := 21) hF [vr E 17, vr E 18, vr E 19, vr E 20, vr E 21, vr E 22, vi (sz₉ + 1), vi lk₉, vi (ch₉ + 1), vi lp, vi (max dp (d₉ + 1)), vi ln] fl_X7_76 dX7_opensChoice_21 pb0 t0_s1 rfl rfl rfl (Nat.le_of_ble_eq_true rfl) (fun s2₉ u_s2 f_s2 => ?_)
    have t1_s2 := (f_s2 17 (show 17 ≠ 16 by omega)).trans t1_s1
    have t2_s2 := (f_s2 18 (show 18 ≠ 16 by omega)).trans t2_s1
    have t3_s2 := (f_s2 19 (show 19 ≠ 16 by omega)).trans t3_s1
    have t4_s2 := (f_s2 20 (show 20 ≠ 16 by omega)).trans t4_s1
    have t5_s2 := (f_s2 21 (show 21 ≠ 16 by omega)).trans t5_s1
    have t6_s2 := (f_s2 22 (show 22 ≠ 16 by omega)).trans t6_s1
    have rd_s2 := (f_s2 14 (show 14 ≠ 16 by omega)).trans x1_s1
    have op_s2 := (f_s2 15 (show 15 ≠ 16 by omega)).trans x2_s1
    refine go_iconst (pc := 24) hF dX7_opensChoice_24 ?_
    exact go_zretQ hF hr hlk hQ dX7_opensChoice_25 (by decide) ⟨rfl, ⟨rd_s2, op_s2, ⟨u_s2, t1_s2, t2_s2, t3_s2, t4_s2, t5_s2, t6_s2⟩⟩, (fun jj hjj => by rw [f_s2 jj (by omega), f_s1 jj (by omega)])⟩
  · exact absurd bq6 (by decide)
set_option maxHeartbeats 4000000 in
set_option maxRecDepth 100000 in
theorem c_X7_opensLoop (E : En) (N : Nat) (σ : Nat → va_E) (op₉ : Int → Int) (d₉ fg : Int) {sg vl mt₉ lw ll la : Int → Int} {sz₉ lk₉ ch₉ lp dp ln : Int} (hN₉ : 101 ≤ N) (hR0 : isR E σ op₉ d₉ fg sg vl mt₉ lw ll la sz₉ lk₉ ch₉ lp dp ln) (ho : okP sg vl mt₉ lw ll la sz₉ lk₉ ch₉ lp dp ln) (hd₉ : 0 ≤ d₉ ∧ d₉ ≤ 3) (hop : ∀ i₉ : Int, 0 ≤ i₉ → i₉ < d₉ → 0 ≤ op₉ i₉ ∧ op₉ i₉ < sz₉) (hfg : 0 ≤ fg ∧ fg ≤ 9) (hlp : lp ≤ 80) (hs : sz₉ < 80) (h3 : d₉ < 3) : CI E M_X7_opensLoop 3 [vr E 14] N σ (fun y₉ σ' => y₉ = 1 ∧ isR E σ' (up op₉ d₉ sz₉) (d₉ + 1) 0 (up sg sz₉ 5) (up vl sz₉ fg) (up mt₉ sz₉ sz₉) (up lw sz₉ 0) ll la (sz₉ + 1) lk₉ ch₉ (lp + 1) (max dp (d₉ + 1)) ln ∧ ∀ q₉, (q₉ < 14 ∨ 22 < q₉) → σ' q₉ = σ q₉) := by
  refine CT.of2 (own := RX7) (by decide) rfl (Nat.le_of_ble_eq_true rfl) ?_
  intro p e R s m args below meth c Q hF hr hlk hnm hz hR hQ
  obtain ⟨r14, r15, p0₉, p1₉, p2₉, p3₉, p4₉, p5₉, p6₉⟩ := hR0
  have pb0 : 16 < N := by omega
  have pb1 : 17 < N := by omega
  have pb2 : 18 < N := by omega
  have pb3 : 19 < N := by omega
  have pb4 : 20 < N := by omega
  have pb5 : 21 < N := by omega
  have pb6 : 22 < N := by omega
  have hsz := ho.1
  have hlk0 := ho.2.1
  have sgr : ∀ z₉ : Int, 0 ≤ z₉ → z₉ < 80 → 0 ≤ sg z₉ ∧ sg z₉ ≤ 6 := fun z₉ h1 h2 => (ho.2.2.2.2.2.2.1 z₉ h1 h2).1
  have hlp0 := ho.2.2.2.1
  refine go_aload_n (pc := 0) hF dX7_opensLoop_0 0 rfl ?_
  refine go_get (pc := 1) hF fl_X7_19 dX7_opensLoop_1 (by omega) r14 rfl ?_
  refine go_istore_n (pc := 4) hF [(1, vi fg), (0, vr E 14)] dX7_opensLoop_4 rfl (by decide) ?_
  refine go_aload_n (pc := 5) hF dX7_opensLoop_5 1 rfl ?_
  refine go_iconst (pc := 6) hF dX7_opensLoop_6 ?_
  refine go_put (pc := 7) hF [vr E 15, vi d₉, vi 0, vr E 16] fl_X7_19 dX7_opensLoop_7 (by omega) r14 rfl rfl rfl (Nat.le_of_ble_eq_true rfl) (fun s1₉ u_s1 f_s1 => ?_)
  have t_s1 := (f_s1 16 (show 16 ≠ 14 by omega)).trans p0₉
  have t1_s1 := (f_s1 17 (show 17 ≠ 14 by omega)).trans p1₉
  have t2_s1 := (f_s1 18 (show 18 ≠ 14 by omega)).trans p2₉
  have t3_s1 := (f_s1 19 (show 19 ≠ 14 by omega)).trans p3₉
  have t4_s1 := (f_s1 20 (show 20 ≠ 14 by omega)).trans p4₉
  have t5_s1 := (f_s1 21 (show 21 ≠ 14 by omega)).trans p5₉
  have t6_s1 := (f_s1 22 (show 22 ≠ 14 by omega)).trans p6₉
  have op_s1 := (f_s1 15 (show 15 ≠ 14 by omega)).trans r15
  refine go_aload_n (pc := 10) hF dX7_opensLoop_10 1 rfl ?_
  refine go_get (pc := 11) hF fl_X7_25 dX7_opensLoop_11 (by omega) u_s1 rfl ?_
  refine go_dup (pc := 14) hF dX7_opensLoop_14 rfl ?_
  refine go_get (pc := 15) hF fl_X7_70 dX7_opensLoop_15 pb0 t_s1 rfl ?_
  refine go_iconst (pc := 18) hF dX7_opensLoop_18 ?_
  refine go_iadd (pc := 19) hF dX7_opensLoop_19 ?_
  refine go_put (pc := 20) hF [vr E 17, vr E 18, vr E 19, vr E 20, vr E 21, vr E 22, vi sz₉, vi lk₉, vi ch₉, vi (lp + 1), vi dp, vi ln] fl_X7_70 dX7_opensLoop_20 pb0 t_s1 rfl rfl rfl (Nat.le_of_ble_eq_true rfl) (fun s2₉ u_s2 f_s2 => ?_)
  have t1_s2 := (f_s2 17 (show 17 ≠ 16 by omega)).trans t1_s1
  have t2_s2 := (f_s2 18 (show 18 ≠ 16 by omega)).trans t2_s1
  have t3_s2 := (f_s2 19 (show 19 ≠ 16 by omega)).trans t3_s1
  have t4_s2 := (f_s2 20 (show 20 ≠ 16 by omega)).trans t4_s1
  have t5_s2 := (f_s2 21 (show 21 ≠ 16 by omega)).trans t5_s1
  have t6_s2 := (f_s2 22 (show 22 ≠ 16 by omega)).trans t6_s1
  have rd_s2 := (f_s2 14 (show 14 ≠ 16 by omega)).trans u_s1
  have op_s2 := (f_s2 15 (show 15 ≠ 16 by omega)).trans op_s1
  refine go_aload_n (pc := 23) hF dX7_opensLoop_23 1 rfl ?_
  refine go_iconst (pc := 24) hF dX7_opensLoop_24 ?_
  refine go_iload_n (pc := 25) hF dX7_opensLoop_25 0 rfl ?_
  refine go_callVI (pc := 26) hF [vi 5, vi fg] [] mv_X7_73 dX7_opensLoop_26 (by omega) rd_s2 (c_X7_opens_yes (lp := lp + 1) E N s2₉ op₉ d₉ 0 hN₉ ⟨rd_s2, op_s2, ⟨u_s2, t1_s2, t2_s2, t3_s2, t4_s2, t5_s2, t6_s2⟩⟩ (ho.num ho.2.2.1 (by omega) ho.2.2.2.2.1) hd₉ hop 5 fg (by omega) (by omega) hs h3) rfl rfl (Nat.le_of_ble_eq_true rfl) (by decide) ⟨Nat.zero_le _, Nat.zero_le _⟩ (fun r_s3 s3₉ h_s3 => ?_)
  obtain ⟨e_s3, ⟨x1_s3, x2_s3, t0_s3, t1_s3, t2_s3, t3_s3, t4_s3, t5_s3, t6_s3⟩, f_s3⟩ := h_s3
  subst e_s3
  exact go_zretQ hF hr hlk hQ dX7_opensLoop_29 (by decide) ⟨rfl, ⟨x1_s3, x2_s3, ⟨t0_s3, t1_s3, t2_s3, t3_s3, t4_s3, t5_s3, t6_s3⟩⟩, (fun jj hjj => by rw [f_s3 jj (by omega), f_s2 jj (by omega), f_s1 jj (by omega)])⟩
set_option maxHeartbeats 4000000 in
set_option maxRecDepth 100000 in
theorem c_X7_takesFigure_no (E : En) (N : Nat) (σ : Nat → va_E) (op₉ : Int → Int) (d₉ fg : Int) {sg vl mt₉ lw ll la : Int → Int} {sz₉ lk₉ ch₉ lp dp ln : Int} (hN₉ : 101 ≤ N) (hR0 : isR E σ op₉ d₉ fg sg vl mt₉ lw ll la sz₉ lk₉ ch₉ lp dp ln) (ho : okP sg vl mt₉ lw ll la sz₉ lk₉ ch₉ lp dp ln) (hd₉ : 0 ≤ d₉ ∧ d₉ ≤ 3) (hop : ∀ i₉ : Int, 0 ≤ i₉ → i₉ < d₉ → 0 ≤ op₉ i₉ ∧ op₉ i₉ < sz₉) (x₉ : Int) (h3 : d₉ = 3) : CP E M_X7_takesFigure 1 [vr E 14, vi x₉] N σ 0 := by
  refine CT.of2 (own := RX7) (by decide) rfl (Nat.le_of_ble_eq_true rfl) ?_
  intro p e R s m args below meth c Q hF hr hlk hnm hz hR hQ
  obtain ⟨r14, r15, p0₉, p1₉, p2₉, p3₉, p4₉, p5₉, p6₉⟩ := hR0
  have pb0 : 16 < N := by omega
  have pb1 : 17 < N := by omega
  have pb2 : 18 < N := by omega
  have pb3 : 19 < N := by omega
  have pb4 : 20 < N := by omega
  have pb5 : 21 < N := by omega
  have pb6 : 22 < N := by omega
  have hsz := ho.1
  have hlk0 := ho.2.1
  have sgr : ∀ z₉ : Int, 0 ≤ z₉ → z₉ < 80 → 0 ≤ sg z₉ ∧ sg z₉ ≤ 6 := fun z₉ h1 h2 => (ho.2.2.2.2.2.2.1 z₉ h1 h2).1
  refine go_aload_n (pc := 0) hF dX7_takesFigure_0 0 rfl ?_
  refine go_get (pc := 1) hF fl_X7_15 dX7_takesFigure_1 (by omega) r14 rfl ?_
  refine go_iconst (pc := 4) hF dX7_takesFigure_4 ?_
  refine go_icmp_lt (pc := 5) hF 10 dX7_takesFigure_5 (by decide) (by omega) ⟨by decide, by decide⟩ (fun bq5 => ?_) (fun bq5 => ?_)
  · exact absurd bq5 (by omega)
  · refine go_iconst (pc := 8) hF dX7_takesFigure_8 ?_
    exact go_zretQ hF hr hlk hQ dX7_takesFigure_9 (by decide) ⟨rfl, rfl⟩
set_option maxHeartbeats 4000000 in
set_option maxRecDepth 100000 in
theorem c_X7_takesFigure_yes (E : En) (N : Nat) (σ : Nat → va_E) (op₉ : Int → Int) (d₉ fg : Int) {sg vl mt₉ lw ll la : Int → Int} {sz₉ lk₉ ch₉ lp dp ln : Int} (hN₉ : 101 ≤ N) (hR0 : isR E σ op₉ d₉ fg sg vl mt₉ lw ll la sz₉ lk₉ ch₉ lp dp ln) (ho : okP sg vl mt₉ lw ll la sz₉ lk₉ ch₉ lp dp ln) (hd₉ : 0 ≤ d₉ ∧ d₉ ≤ 3) (hop : ∀ i₉ : Int, 0 ≤ i₉ → i₉ < d₉ → 0 ≤ op₉ i₉ ∧ op₉ i₉ < sz₉) (x₉ : Int) (h3 : d₉ < 3) : CI E M_X7_takesFigure 1 [vr E 14, vi x₉] N σ (fun y₉ σ' => y₉ = 1 ∧ isR E σ' op₉ d₉ x₉ sg vl mt₉ lw ll la sz₉ lk₉ ch₉ lp dp ln ∧ ∀ q₉, (q₉ < 14 ∨ 22 < q₉) → σ' q₉ = σ q₉) := by
  refine CT.of2 (own := RX7) (by decide) rfl (Nat.le_of_ble_eq_true rfl) ?_
  intro p e R s m args below meth c Q hF hr hlk hnm hz hR hQ
  obtain ⟨r14, r15, p0₉, p1₉, p2₉, p3₉, p4₉, p5₉, p6₉⟩ := hR0
  have pb0 : 16 < N := by omega
  have pb1 : 17 < N := by omega
  have pb2 : 18 < N := by omega
  have pb3 : 19 < N := by omega
  have pb4 : 20 < N := by omega
  have pb5 : 21 < N := by omega
  have pb6 : 22 < N := by omega
  have hsz := ho.1
  have hlk0 := ho.2.1
  have sgr : ∀ z₉ : Int, 0 ≤ z₉ → z₉ < 80 → 0 ≤ sg z₉ ∧ sg z₉ ≤ 6 := fun z₉ h1 h2 => (ho.2.2.2.2.2.2.1 z₉ h1 h2).1
  refine go_aload_n (pc := 0) hF dX7_takesFigure_0 0 rfl ?_
  refine go_get (pc := 1) hF fl_X7_15 dX7_takesFigure_1 (by omega) r14 rfl ?_
  refine go_iconst (pc := 4) hF dX7_takesFigure_4 ?_
  refine go_icmp_lt (pc := 5) hF 10 dX7_takesFigure_5 (by decide) (by omega) ⟨by decide, by decide⟩ (fun bq5 => ?_) (fun bq5 => ?_)
  · refine go_aload_n (pc := 10) hF dX7_takesFigure_10 0 rfl ?_
    refine go_iload_n (pc := 11) hF dX7_takesFigure_11 1 rfl ?_
    refine go_put (pc := 12) hF [vr E 15, vi d₉, vi x₉, vr E 16] fl_X7_19 dX7_takesFigure_12 (by omega) r14 rfl rfl rfl (Nat.le_of_ble_eq_true rfl) (fun s1₉ u_s1 f_s1 => ?_)
    have t_s1 := (f_s1 16 (show 16 ≠ 14 by omega)).trans p0₉
    have t1_s1 := (f_s1 17 (show 17 ≠ 14 by omega)).trans p1₉
    have t2_s1 := (f_s1 18 (show 18 ≠ 14 by omega)).trans p2₉
    have t3_s1 := (f_s1 19 (show 19 ≠ 14 by omega)).trans p3₉
    have t4_s1 := (f_s1 20 (show 20 ≠ 14 by omega)).trans p4₉
    have t5_s1 := (f_s1 21 (show 21 ≠ 14 by omega)).trans p5₉
    have t6_s1 := (f_s1 22 (show 22 ≠ 14 by omega)).trans p6₉
    have op_s1 := (f_s1 15 (show 15 ≠ 14 by omega)).trans r15
    refine go_iconst (pc := 15) hF dX7_takesFigure_15 ?_
    exact go_zretQ hF hr hlk hQ dX7_takesFigure_16 (by decide) ⟨rfl, ⟨u_s1, op_s1, ⟨t_s1, t1_s1, t2_s1, t3_s1, t4_s1, t5_s1, t6_s1⟩⟩, (fun jj hjj => by rw [f_s1 jj (by omega)])⟩
  · exact absurd bq5 (by omega)
set_option maxHeartbeats 4000000 in
set_option maxRecDepth 100000 in
theorem c_X7_takesLook_no (E : En) (N : Nat) (σ : Nat → va_E) (op₉ : Int → Int) (d₉ fg : Int) {sg vl mt₉ lw ll la : Int → Int} {sz₉ lk₉ ch₉ lp dp ln : Int} (hN₉ : 101 ≤ N) (hR0 : isR E σ op₉ d₉ fg sg vl mt₉ lw ll la sz₉ lk₉ ch₉ lp dp ln) (ho : okP sg vl mt₉ lw ll la sz₉ lk₉ ch₉ lp dp ln) (hd₉ : 0 ≤ d₉ ∧ d₉ ≤ 3) (hop : ∀ i₉ : Int, 0 ≤ i₉ → i₉ < d₉ → 0 ≤ op₉ i₉ ∧ op₉ i₉ < sz₉) (x₉ : Int) (hk24 : lk₉ = 24) : CP E M_X7_takesLook 3 [vr E 14, vi x₉] N σ 0 := by
  refine CT.of2 (own := RX7) (by decide) rfl (Nat.le_of_ble_eq_true rfl) ?_
  intro p e R s m args below meth c Q hF hr hlk hnm hz hR hQ
  obtain ⟨r14, r15, p0₉, p1₉, p2₉, p3₉, p4₉, p5₉, p6₉⟩ := hR0
  have pb0 : 16 < N := by omega
  have pb1 : 17 < N := by omega
  have pb2 : 18 < N := by omega
  have pb3 : 19 < N := by omega
  have pb4 : 20 < N := by omega
  have pb5 : 21 < N := by omega
  have pb6 : 22 < N := by omega
  have hsz := ho.1
  have hlk0 := ho.2.1
  have sgr : ∀ z₉ : Int, 0 ≤ z₉ → z₉ < 80 → 0 ≤ sg z₉ ∧ sg z₉ ≤ 6 := fun z₉ h1 h2 => (ho.2.2.2.2.2.2.1 z₉ h1 h2).1
  refine go_iconst (pc := 0) hF dX7_takesLook_0 ?_
  refine go_istore_n (pc := 1) hF [(2, vi (-1)), (0, vr E 14), (1, vi x₉)] dX7_takesLook_1 rfl (by decide) ?_
  refine go_iconst (pc := 2) hF dX7_takesLook_2 ?_
  refine go_istore_n (pc := 3) hF [(3, vi 0), (2, vi (-1)), (0, vr E 14), (1, vi x₉)] dX7_takesLook_3 rfl (by decide) ?_
  have loop₉ : ∀ (n₉ : Nat) (j₉ : Nat), j₉ + n₉ = 5 → (j₉ : Int) ≤ d₉ → Go E p e R s m args below meth c Q 4 (0, 0) N σ [(3, vi (j₉ : Int)), (2, vi (arU sg sz₉ op₉ j₉)), (0, vr E 14), (1, vi x₉)] [] 4 := by
    intro n₉
    induction n₉ with
    | zero => intro j₉ hfu hj; exfalso; omega
    | succ n₉ ih₉ =>
      intro j₉ hfu hj
      have hoj : (j₉ : Int) < d₉ → 0 ≤ op₉ j₉ ∧ op₉ j₉ < sz₉ := fun h => hop j₉ (by omega) h
      refine go_iload_n (pc := 4) hF dX7_takesLook_4 0 rfl ?_
      refine go_aload_n (pc := 5) hF dX7_takesLook_5 2 rfl ?_
      refine go_get (pc := 6) hF fl_X7_15 dX7_takesLook_6 (by omega) r14 rfl ?_
      refine go_icmp_ge (pc := 9) hF 47 dX7_takesLook_9 (by decide) (by omega) (by omega) (fun bq9 => ?_) (fun bq9 => ?_)
      · refine go_aload_n (pc := 47) hF dX7_takesLook_47 2 rfl ?_
        refine go_get (pc := 48) hF fl_X7_25 dX7_takesLook_48 (by omega) r14 rfl ?_
        refine go_iload_n (pc := 51) hF dX7_takesLook_51 3 rfl ?_
        refine go_iload_n (pc := 52) hF dX7_takesLook_52 1 rfl ?_
        refine go_callVP (pc := 53) hF [vi x₉, vi (arU sg sz₉ op₉ j₉)] [] mv_X7_63 dX7_takesLook_53 pb0 p0₉ (c_X6_addLook_full E N σ 16 (by omega) ⟨p0₉, p1₉, p2₉, p3₉, p4₉, p5₉, p6₉⟩ x₉ (arU sg sz₉ op₉ j₉) hk24) rfl rfl (Nat.le_of_ble_eq_true rfl) (by decide) ⟨Nat.zero_le _, Nat.zero_le _⟩ ?_
        refine go_if_ne (pc := 56) hF 61 dX7_takesLook_56 (by decide) ⟨by decide, by decide⟩ (fun bq56 => ?_) (fun bq56 => ?_)
        · exact absurd bq56 (by decide)
        · refine go_iconst (pc := 59) hF dX7_takesLook_59 ?_
          exact go_zretQ hF hr hlk hQ dX7_takesLook_60 (by decide) ⟨rfl, rfl⟩
      · refine go_iload_n (pc := 12) hF dX7_takesLook_12 0 rfl ?_
        refine go_iconst (pc := 13) hF dX7_takesLook_13 ?_
        refine go_icmp_ge (pc := 14) hF 47 dX7_takesLook_14 (by decide) (by omega) ⟨by decide, by decide⟩ (fun bq14 => ?_) (fun bq14 => ?_)
        · exact absurd bq14 (by omega)
        · refine go_aload_n (pc := 17) hF dX7_takesLook_17 2 rfl ?_
          refine go_get (pc := 18) hF fl_X7_25 dX7_takesLook_18 (by omega) r14 rfl ?_
          refine go_aload_n (pc := 21) hF dX7_takesLook_21 2 rfl ?_
          refine go_get (pc := 22) hF fl_X7_9 dX7_takesLook_22 (by omega) r14 rfl ?_
          refine go_iload_n (pc := 25) hF dX7_takesLook_25 0 rfl ?_
          refine go_iald (pc := 26) hF dX7_takesLook_26 (by omega) r15 (by omega) ?_
          have zj := hoj (by omega)
          have zg := gSign_rg (sz₉ := sz₉) sgr (op₉ j₉)
          refine go_callVP (pc := 27) hF [vi (op₉ (j₉ : Int))] [] mv_X7_59 dX7_takesLook_27 pb0 p0₉ (c_X6_signAt E N σ 16 (op₉ (j₉ : Int)) (by omega) (by omega) ⟨p0₉, p1₉, p2₉, p3₉, p4₉, p5₉, p6₉⟩ ho) rfl rfl (Nat.le_of_ble_eq_true rfl) (by decide) ⟨Nat.zero_le _, Nat.zero_le _⟩ ?_
          refine go_iconst (pc := 30) hF dX7_takesLook_30 ?_
          refine go_icmp_ne (pc := 31) hF 41 dX7_takesLook_31 (by decide) (by omega) ⟨by decide, by decide⟩ (fun bq31 => ?_) (fun bq31 => ?_)
          · have ea : arU sg sz₉ op₉ (j₉ + 1) = arU sg sz₉ op₉ j₉ := by show (if gSign sg sz₉ (op₉ j₉) = 5 then op₉ j₉ else arU sg sz₉ op₉ j₉) = _; rw [if_neg (by omega)]
            rw [← ea]
            refine go_iinc (pc := 41) hF [(3, vi ((j₉ : Int) + 1)), (2, vi (arU sg sz₉ op₉ (j₉ + 1))), (0, vr E 14), (1, vi x₉)] dX7_takesLook_41 0 rfl rfl (by decide) ?_
            refine go_goto (pc := 44) hF 4 dX7_takesLook_44 (by decide) ?_
            exact ih₉ (j₉ + 1) (by omega) (by omega)
          · refine go_aload_n (pc := 34) hF dX7_takesLook_34 2 rfl ?_
            refine go_get (pc := 35) hF fl_X7_9 dX7_takesLook_35 (by omega) r14 rfl ?_
            refine go_iload_n (pc := 38) hF dX7_takesLook_38 0 rfl ?_
            refine go_iald (pc := 39) hF dX7_takesLook_39 (by omega) r15 (by omega) ?_
            refine go_istore_n (pc := 40) hF [(2, vi (op₉ (j₉ : Int))), (3, vi (j₉ : Int)), (0, vr E 14), (1, vi x₉)] dX7_takesLook_40 rfl (by decide) ?_
            have ea : arU sg sz₉ op₉ (j₉ + 1) = op₉ (j₉ : Int) := by show (if gSign sg sz₉ (op₉ j₉) = 5 then op₉ j₉ else arU sg sz₉ op₉ j₉) = _; rw [if_pos (by omega)]
            rw [← ea]
            refine go_iinc (pc := 41) hF [(3, vi ((j₉ : Int) + 1)), (2, vi (arU sg sz₉ op₉ (j₉ + 1))), (0, vr E 14), (1, vi x₉)] dX7_takesLook_41 1 rfl rfl (by decide) ?_
            refine go_goto (pc := 44) hF 4 dX7_takesLook_44 (by decide) ?_
            exact ih₉ (j₉ + 1) (by omega) (by omega)
  exact loop₉ 5 0 rfl (by omega) 
set_option maxHeartbeats 4000000 in
set_option maxRecDepth 100000 in
theorem c_X7_takesLook_yes (E : En) (N : Nat) (σ : Nat → va_E) (op₉ : Int → Int) (d₉ fg : Int) {sg vl mt₉ lw ll la : Int → Int} {sz₉ lk₉ ch₉ lp dp ln : Int} (hN₉ : 101 ≤ N) (hR0 : isR E σ op₉ d₉ fg sg vl mt₉ lw ll la sz₉ lk₉ ch₉ lp dp ln) (ho : okP sg vl mt₉ lw ll la sz₉ lk₉ ch₉ lp dp ln) (hd₉ : 0 ≤ d₉ ∧ d₉ ≤ 3) (hop : ∀ i₉ : Int, 0 ≤ i₉ → i₉ < d₉ → 0 ≤ op₉ i₉ ∧ op₉ i₉ < sz₉) (x₉ : Int) (hx : 0 ≤ x₉ ∧ x₉ ≤ 5) (hk24 : lk₉ < 24) (hs : sz₉ < 80) (har : -1 ≤ arU sg sz₉ op₉ d₉.toNat ∧ arU sg sz₉ op₉ d₉.toNat ≤ 80) : CI E M_X7_takesLook 3 [vr E 14, vi x₉] N σ (fun y₉ σ' => y₉ = 1 ∧ isR E σ' op₉ d₉ fg (up sg sz₉ 0) (up vl sz₉ lk₉) (up mt₉ sz₉ sz₉) (lwU op₉ x₉ (up lw sz₉ 0) d₉.toNat) (up ll lk₉ x₉) (up la lk₉ (arU sg sz₉ op₉ d₉.toNat)) (sz₉ + 1) (lk₉ + 1) ch₉ lp dp (orb ln x₉) ∧ ∀ q₉, (q₉ < 14 ∨ 22 < q₉) → σ' q₉ = σ q₉) := by
  refine CT.of2 (own := RX7) (by decide) rfl (Nat.le_of_ble_eq_true rfl) ?_
  intro p e R s m args below meth c Q hF hr hlk hnm hz hR hQ
  obtain ⟨r14, r15, p0₉, p1₉, p2₉, p3₉, p4₉, p5₉, p6₉⟩ := hR0
  have pb0 : 16 < N := by omega
  have pb1 : 17 < N := by omega
  have pb2 : 18 < N := by omega
  have pb3 : 19 < N := by omega
  have pb4 : 20 < N := by omega
  have pb5 : 21 < N := by omega
  have pb6 : 22 < N := by omega
  have hsz := ho.1
  have hlk0 := ho.2.1
  have sgr : ∀ z₉ : Int, 0 ≤ z₉ → z₉ < 80 → 0 ≤ sg z₉ ∧ sg z₉ ≤ 6 := fun z₉ h1 h2 => (ho.2.2.2.2.2.2.1 z₉ h1 h2).1
  have hln := ho.2.2.2.2.2.1
  refine go_iconst (pc := 0) hF dX7_takesLook_0 ?_
  refine go_istore_n (pc := 1) hF [(2, vi (-1)), (0, vr E 14), (1, vi x₉)] dX7_takesLook_1 rfl (by decide) ?_
  refine go_iconst (pc := 2) hF dX7_takesLook_2 ?_
  refine go_istore_n (pc := 3) hF [(3, vi 0), (2, vi (-1)), (0, vr E 14), (1, vi x₉)] dX7_takesLook_3 rfl (by decide) ?_
  have loop₉ : ∀ (n₉ : Nat) (j₉ : Nat), j₉ + n₉ = 5 → (j₉ : Int) ≤ d₉ → Go E p e R s m args below meth c Q 4 (0, 0) N σ [(3, vi (j₉ : Int)), (2, vi (arU sg sz₉ op₉ j₉)), (0, vr E 14), (1, vi x₉)] [] 4 := by
    intro n₉
    induction n₉ with
    | zero => intro j₉ hfu hj; exfalso; omega
    | succ n₉ ih₉ =>
      intro j₉ hfu hj
      have hoj : (j₉ : Int) < d₉ → 0 ≤ op₉ j₉ ∧ op₉ j₉ < sz₉ := fun h => hop j₉ (by omega) h
      refine go_iload_n (pc := 4) hF dX7_takesLook_4 0 rfl ?_
      refine go_aload_n (pc := 5) hF dX7_takesLook_5 2 rfl ?_
      refine go_get (pc := 6) hF fl_X7_15 dX7_takesLook_6 (by omega) r14 rfl ?_
      refine go_icmp_ge (pc := 9) hF 47 dX7_takesLook_9 (by decide) (by omega) (by omega) (fun bq9 => ?_) (fun bq9 => ?_)
      · have ej : j₉ = d₉.toNat := by omega
        subst ej
        refine go_aload_n (pc := 47) hF dX7_takesLook_47 2 rfl ?_
        refine go_get (pc := 48) hF fl_X7_25 dX7_takesLook_48 (by omega) r14 rfl ?_
        refine go_iload_n (pc := 51) hF dX7_takesLook_51 3 rfl ?_
        refine go_iload_n (pc := 52) hF dX7_takesLook_52 1 rfl ?_
        refine go_callVI (pc := 53) hF [vi x₉, vi (arU sg sz₉ op₉ d₉.toNat)] [] mv_X7_63 dX7_takesLook_53 pb0 p0₉ (c_X6_addLook E N σ 16 (by omega) ⟨p0₉, p1₉, p2₉, p3₉, p4₉, p5₉, p6₉⟩ x₉ (arU sg sz₉ op₉ d₉.toNat) (by omega) (by omega) (by omega) hln) rfl rfl (Nat.le_of_ble_eq_true rfl) (by decide) ⟨Nat.zero_le _, Nat.zero_le _⟩ (fun r_s1 s1₉ h_s1 => ?_)
        obtain ⟨e_s1, ⟨t0_s1, t1_s1, t2_s1, t3_s1, t4_s1, t5_s1, t6_s1⟩, f_s1⟩ := h_s1
        have rd_s1 := (f_s1 14 (by omega)).trans r14
        have op_s1 := (f_s1 15 (by omega)).trans r15
        subst e_s1
        refine go_if_ne (pc := 56) hF 61 dX7_takesLook_56 (by decide) ⟨by decide, by decide⟩ (fun bq56 => ?_) (fun bq56 => ?_)
        · refine go_iconst (pc := 61) hF dX7_takesLook_61 ?_
          refine go_istore_n (pc := 62) hF [(3, vi 0), (2, vi (arU sg sz₉ op₉ d₉.toNat)), (0, vr E 14), (1, vi x₉)] dX7_takesLook_62 rfl (by decide) ?_
          have lop2 : ∀ (n₉ : Nat) (j₉ : Nat) (τ : Nat → va_E), j₉ + n₉ = 5 → (j₉ : Int) ≤ d₉ → τ 16 = ob 6 [vr E 17, vr E 18, vr E 19, vr E 20, vr E 21, vr E 22, vi (sz₉ + 1), vi (lk₉ + 1), vi ch₉, vi lp, vi dp, vi (orb ln x₉)] → τ 17 = ai E 80 (up sg sz₉ 0) → τ 18 = ai E 80 (up vl sz₉ lk₉) → τ 19 = ai E 80 (up mt₉ sz₉ sz₉) → τ 20 = ai E 80 (lwU op₉ x₉ (up lw sz₉ 0) j₉) → τ 21 = ai E 24 (up ll lk₉ x₉) → τ 22 = ai E 24 (up la lk₉ (arU sg sz₉ op₉ d₉.toNat)) → (∀ jj : Nat, (jj < 16 ∨ 22 < jj) → τ jj = s1₉ jj) → Go E p e R s m args below meth c Q 4 (0, 0) N τ [(3, vi (j₉ : Int)), (0, vr E 14), (1, vi x₉)] [] 63 := by
            intro n₉
            induction n₉ with
            | zero => intro j₉ τ hfu hj c_t_lop2 c_t1_lop2 c_t2_lop2 c_t3_lop2 c_t4_lop2 c_t5_lop2 c_t6_lop2 fr_lop2; exfalso; omega
            | succ n₉ ih₉ =>
              intro j₉ τ hfu hj c_t_lop2 c_t1_lop2 c_t2_lop2 c_t3_lop2 c_t4_lop2 c_t5_lop2 c_t6_lop2 fr_lop2
              have rd_lop2 := (fr_lop2 14 (by omega)).trans rd_s1
              have op_lop2 := (fr_lop2 15 (by omega)).trans op_s1
              refine go_iload_n (pc := 63) hF dX7_takesLook_63 0 rfl ?_
              refine go_aload_n (pc := 64) hF dX7_takesLook_64 1 rfl ?_
              refine go_get (pc := 65) hF fl_X7_15 dX7_takesLook_65 (by omega) rd_lop2 rfl ?_
              refine go_icmp_ge (pc := 68) hF 96 dX7_takesLook_68 (by decide) (by omega) (by omega) (fun bq68 => ?_) (fun bq68 => ?_)
              · refine go_iconst (pc := 96) hF dX7_takesLook_96 ?_
                have ej2 : j₉ = d₉.toNat := by omega
                subst ej2
                exact go_zretQ hF hr hlk hQ dX7_takesLook_97 (by decide) ⟨rfl, ⟨rd_lop2, op_lop2, ⟨c_t_lop2, c_t1_lop2, c_t2_lop2, c_t3_lop2, c_t4_lop2, c_t5_lop2, c_t6_lop2⟩⟩, (fun jj hjj => by rw [fr_lop2 jj (by omega), f_s1 jj (by omega)])⟩
              · refine go_iload_n (pc := 71) hF dX7_takesLook_71 0 rfl ?_
                refine go_iconst (pc := 72) hF dX7_takesLook_72 ?_
                refine go_icmp_ge (pc := 73) hF 96 dX7_takesLook_73 (by decide) (by omega) ⟨by decide, by decide⟩ (fun bq73 => ?_) (fun bq73 => ?_)
                · exact absurd bq73 (by omega)
                · refine go_aload_n (pc := 76) hF dX7_takesLook_76 1 rfl ?_
                  refine go_get (pc := 77) hF fl_X7_25 dX7_takesLook_77 (by omega) rd_lop2 rfl ?_
                  refine go_aload_n (pc := 80) hF dX7_takesLook_80 1 rfl ?_
                  refine go_get (pc := 81) hF fl_X7_9 dX7_takesLook_81 (by omega) rd_lop2 rfl ?_
                  refine go_iload_n (pc := 84) hF dX7_takesLook_84 0 rfl ?_
                  refine go_iald (pc := 85) hF dX7_takesLook_85 (by omega) op_lop2 (by omega) ?_
                  refine go_iload_n (pc := 86) hF dX7_takesLook_86 2 rfl ?_
                  refine go_callVV (pc := 87) hF [vi (op₉ (j₉ : Int)), vi x₉] [] mv_X7_66 dX7_takesLook_87 pb0 c_t_lop2 (c_X6_addLineWithin E N τ 16 (by omega) ⟨c_t_lop2, c_t1_lop2, c_t2_lop2, c_t3_lop2, c_t4_lop2, c_t5_lop2, c_t6_lop2⟩ ((((ho.add (x₉ := 0) (v₉ := lk₉) (by omega) (by omega) (by omega)).look (x₉ := x₉) (v₉ := arU sg sz₉ op₉ d₉.toNat) (by omega) (by omega) har).lw (lwU_rg (by omega) (fun z₉ h1 h2 => ((ho.add (x₉ := 0) (v₉ := lk₉) (by omega) (by omega) (by omega)).2.2.2.2.2.2.1 z₉ h1 h2).2.2.2) j₉ (fun i₉ hi₉ => by have := hop i₉ (by omega) (by omega); omega)))) (op₉ (j₉ : Int)) x₉ (by have := hop (j₉ : Int) (by omega) (by omega); omega) (by omega)) rfl rfl (Nat.le_of_ble_eq_true rfl) (by decide) ⟨Nat.zero_le _, Nat.zero_le _⟩ (fun s2₉ h_s2 => ?_)
                  obtain ⟨⟨t0_s2, t1_s2, t2_s2, t3_s2, t4_s2, t5_s2, t6_s2⟩, f_s2⟩ := h_s2
                  have rd_s2 := (f_s2 14 (by omega)).trans rd_lop2
                  have op_s2 := (f_s2 15 (by omega)).trans op_lop2
                  refine go_iinc (pc := 90) hF [(3, vi ((j₉ : Int) + 1)), (0, vr E 14), (1, vi x₉)] dX7_takesLook_90 0 rfl rfl (by decide) ?_
                  refine go_goto (pc := 93) hF 63 dX7_takesLook_93 (by decide) ?_
                  exact ih₉ (j₉ + 1) s2₉ (by omega) (by omega) t0_s2 t1_s2 t2_s2 t3_s2 t4_s2 t5_s2 t6_s2 (fun jj hjj => by rw [f_s2 jj (by omega), fr_lop2 jj (by omega)])
          refine go_lv [(3, vi 0), (0, vr E 14), (1, vi x₉)] [0, 2, 3] rfl ?_
          exact lop2 5 0 s1₉ rfl (by omega) t0_s1 t1_s1 t2_s1 t3_s1 t4_s1 t5_s1 t6_s1 (fun _ _ => rfl)
        · exact absurd bq56 (by decide)
      · refine go_iload_n (pc := 12) hF dX7_takesLook_12 0 rfl ?_
        refine go_iconst (pc := 13) hF dX7_takesLook_13 ?_
        refine go_icmp_ge (pc := 14) hF 47 dX7_takesLook_14 (by decide) (by omega) ⟨by decide, by decide⟩ (fun bq14 => ?_) (fun bq14 => ?_)
        · exact absurd bq14 (by omega)
        · refine go_aload_n (pc := 17) hF dX7_takesLook_17 2 rfl ?_
          refine go_get (pc := 18) hF fl_X7_25 dX7_takesLook_18 (by omega) r14 rfl ?_
          refine go_aload_n (pc := 21) hF dX7_takesLook_21 2 rfl ?_
          refine go_get (pc := 22) hF fl_X7_9 dX7_takesLook_22 (by omega) r14 rfl ?_
          refine go_iload_n (pc := 25) hF dX7_takesLook_25 0 rfl ?_
          refine go_iald (pc := 26) hF dX7_takesLook_26 (by omega) r15 (by omega) ?_
          have zj := hoj (by omega)
          have zg := gSign_rg (sz₉ := sz₉) sgr (op₉ j₉)
          refine go_callVP (pc := 27) hF [vi (op₉ (j₉ : Int))] [] mv_X7_59 dX7_takesLook_27 pb0 p0₉ (c_X6_signAt E N σ 16 (op₉ (j₉ : Int)) (by omega) (by omega) ⟨p0₉, p1₉, p2₉, p3₉, p4₉, p5₉, p6₉⟩ ho) rfl rfl (Nat.le_of_ble_eq_true rfl) (by decide) ⟨Nat.zero_le _, Nat.zero_le _⟩ ?_
          refine go_iconst (pc := 30) hF dX7_takesLook_30 ?_
          refine go_icmp_ne (pc := 31) hF 41 dX7_takesLook_31 (by decide) (by omega) ⟨by decide, by decide⟩ (fun bq31 => ?_) (fun bq31 => ?_)
          · have ea : arU sg sz₉ op₉ (j₉ + 1) = arU sg sz₉ op₉ j₉ := by show (if gSign sg sz₉ (op₉ j₉) = 5 then op₉ j₉ else arU sg sz₉ op₉ j₉) = _; rw [if_neg (by omega)]
            rw [← ea]
            refine go_iinc (pc := 41) hF [(3, vi ((j₉ : Int) + 1)), (2, vi (arU sg sz₉ op₉ (j₉ + 1))), (0, vr E 14), (1, vi x₉)] dX7_takesLook_41 0 rfl rfl (by decide) ?_
            refine go_goto (pc := 44) hF 4 dX7_takesLook_44 (by decide) ?_
            exact ih₉ (j₉ + 1) (by omega) (by omega)
          · refine go_aload_n (pc := 34) hF dX7_takesLook_34 2 rfl ?_
            refine go_get (pc := 35) hF fl_X7_9 dX7_takesLook_35 (by omega) r14 rfl ?_
            refine go_iload_n (pc := 38) hF dX7_takesLook_38 0 rfl ?_
            refine go_iald (pc := 39) hF dX7_takesLook_39 (by omega) r15 (by omega) ?_
            refine go_istore_n (pc := 40) hF [(2, vi (op₉ (j₉ : Int))), (3, vi (j₉ : Int)), (0, vr E 14), (1, vi x₉)] dX7_takesLook_40 rfl (by decide) ?_
            have ea : arU sg sz₉ op₉ (j₉ + 1) = op₉ (j₉ : Int) := by show (if gSign sg sz₉ (op₉ j₉) = 5 then op₉ j₉ else arU sg sz₉ op₉ j₉) = _; rw [if_pos (by omega)]
            rw [← ea]
            refine go_iinc (pc := 41) hF [(3, vi ((j₉ : Int) + 1)), (2, vi (arU sg sz₉ op₉ (j₉ + 1))), (0, vr E 14), (1, vi x₉)] dX7_takesLook_41 1 rfl rfl (by decide) ?_
            refine go_goto (pc := 44) hF 4 dX7_takesLook_44 (by decide) ?_
            exact ih₉ (j₉ + 1) (by omega) (by omega)
  exact loop₉ 5 0 rfl (by omega) 
