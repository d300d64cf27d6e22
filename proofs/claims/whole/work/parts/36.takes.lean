/-! Reader₉: one₉ byte, then a₉ text₉. -/
theorem CI.mono {E : En} {M₉ : Mth} {d₉ : Nat} {as₉ : List Value} {N : Nat} {σ : Nat → va_E} {post₉ post' : Int → (Nat → va_E) → Prop} (h : CI E M₉ d₉ as₉ N σ post₉) (hp : ∀ y₉ σ', post₉ y₉ σ' → post' y₉ σ') : CI E M₉ d₉ as₉ N σ post' := CT.mono h (fun _ _ _ q₉ => ⟨q₉.1, q₉.2.choose, q₉.2.choose_spec.1, hp _ _ q₉.2.choose_spec.2⟩)

set_option maxHeartbeats 4000000 in
set_option maxRecDepth 100000 in
theorem c_X7_takes_fig91 (E : En) (N : Nat) (σ : Nat → va_E) (op₉ : Int → Int) (d₉ fg : Int) {sg vl mt₉ lw ll la : Int → Int} {sz₉ lk₉ ch₉ lp dp ln : Int} (hN₉ : 101 ≤ N) (hR0 : isR E σ op₉ d₉ fg sg vl mt₉ lw ll la sz₉ lk₉ ch₉ lp dp ln) (ho : okP sg vl mt₉ lw ll la sz₉ lk₉ ch₉ lp dp ln) (hd₉ : 0 ≤ d₉ ∧ d₉ ≤ 3) (hop : ∀ i₉ : Int, 0 ≤ i₉ → i₉ < d₉ → 0 ≤ op₉ i₉ ∧ op₉ i₉ < sz₉) (hf0 : fg ≠ 0) (hfg : 0 ≤ fg ∧ fg ≤ 9) (hlp1 : lp ≤ 80) (hs : sz₉ < 80) (h3 : d₉ < 3) : CI E M_X7_takes 6 [vr E 14, vi 91] N σ (fun y₉ σ' => y₉ = 1 ∧ isR E σ' (up op₉ d₉ sz₉) (d₉ + 1) 0 (up sg sz₉ 5) (up vl sz₉ fg) (up mt₉ sz₉ sz₉) (up lw sz₉ 0) ll la (sz₉ + 1) lk₉ ch₉ (lp + 1) (max dp (d₉ + 1)) ln ∧ ∀ q₉, (q₉ < 14 ∨ 22 < q₉) → σ' q₉ = σ q₉) := by
  refine CT.of2 (own := RX7) (by decide) rfl (Nat.le_of_ble_eq_true rfl) ?_
  intro p e R s m args below meth c Q hF hr hlk hnm hz hR hQ
  obtain ⟨r14, r15, p0₉, p1₉, p2₉, p3₉, p4₉, p5₉, p6₉⟩ := hR0
  have pb0 : 16 < N := by omega
  have pb1 : 17 < N := by omega
  have pb2 : 18 < N := by omega
  have pb3 : 19 < N := by omega
  have pb4 : 20 < N := by omega
  have pb5 : 21 < N := by omega
  have pb6 : 22 < N := by omega
  have hsz := ho.1
  have hlk0 := ho.2.1
  have sgr : ∀ z₉ : Int, 0 ≤ z₉ → z₉ < 80 → 0 ≤ sg z₉ ∧ sg z₉ ≤ 6 := fun z₉ h1 h2 => (ho.2.2.2.2.2.2.1 z₉ h1 h2).1
  refine go_aload_n (pc := 0) hF dX7_takes_0 0 rfl ?_
  refine go_get (pc := 1) hF fl_X7_19 dX7_takes_1 (by omega) r14 rfl ?_
  refine go_if_eq (pc := 4) hF 26 dX7_takes_4 (by decide) (by omega) (fun bq4 => ?_) (fun bq4 => ?_)
  · exact absurd bq4 (by omega)
  · refine go_iload_n (pc := 7) hF dX7_takes_7 1 rfl ?_
    refine go_bipush (pc := 8) hF dX7_takes_8 (by decide) ?_
    refine go_icmp_ne (pc := 10) hF 24 dX7_takes_10 (by decide) ⟨by decide, by decide⟩ ⟨by decide, by decide⟩ (fun bq10 => ?_) (fun bq10 => ?_)
    · exact absurd bq10 (by decide)
    · refine go_aload_n (pc := 13) hF dX7_takes_13 0 rfl ?_
      refine go_callVI (pc := 14) hF [] [] mv_X7_36 dX7_takes_14 (by omega) r14 (c_X7_opensLoop E N σ op₉ d₉ fg hN₉ ⟨r14, r15, ⟨p0₉, p1₉, p2₉, p3₉, p4₉, p5₉, p6₉⟩⟩ ho hd₉ hop hfg hlp1 hs h3) rfl rfl (Nat.le_of_ble_eq_true rfl) (by decide) ⟨Nat.zero_le _, Nat.zero_le _⟩ (fun r_s1 s1₉ h_s1 => ?_)
      obtain ⟨e_s1, ⟨x1_s1, x2_s1, t0_s1, t1_s1, t2_s1, t3_s1, t4_s1, t5_s1, t6_s1⟩, f_s1⟩ := h_s1
      subst e_s1
      refine go_if_eq (pc := 17) hF 24 dX7_takes_17 (by decide) ⟨by decide, by decide⟩ (fun bq17 => ?_) (fun bq17 => ?_)
      · exact absurd bq17 (by decide)
      · refine go_iconst (pc := 20) hF dX7_takes_20 ?_
        refine go_goto (pc := 21) hF 25 dX7_takes_21 (by decide) ?_
        exact go_zretQ hF hr hlk hQ dX7_takes_25 (by decide) ⟨rfl, ⟨x1_s1, x2_s1, ⟨t0_s1, t1_s1, t2_s1, t3_s1, t4_s1, t5_s1, t6_s1⟩⟩, (fun jj hjj => by rw [f_s1 jj (by omega)])⟩
set_option maxHeartbeats 4000000 in
set_option maxRecDepth 100000 in
theorem c_X7_takes_figno (E : En) (N : Nat) (σ : Nat → va_E) (op₉ : Int → Int) (d₉ fg : Int) {sg vl mt₉ lw ll la : Int → Int} {sz₉ lk₉ ch₉ lp dp ln : Int} (hN₉ : 101 ≤ N) (hR0 : isR E σ op₉ d₉ fg sg vl mt₉ lw ll la sz₉ lk₉ ch₉ lp dp ln) (ho : okP sg vl mt₉ lw ll la sz₉ lk₉ ch₉ lp dp ln) (hd₉ : 0 ≤ d₉ ∧ d₉ ≤ 3) (hop : ∀ i₉ : Int, 0 ≤ i₉ → i₉ < d₉ → 0 ≤ op₉ i₉ ∧ op₉ i₉ < sz₉) (cx : Int) (hc₉ : rg cx) (hf0 : fg ≠ 0) (hfg : 0 ≤ fg ∧ fg ≤ 9) (hne : cx ≠ 91) : CP E M_X7_takes 6 [vr E 14, vi cx] N σ 0 := by
  refine CT.of2 (own := RX7) (by decide) rfl (Nat.le_of_ble_eq_true rfl) ?_
  intro p e R s m args below meth c Q hF hr hlk hnm hz hR hQ
  obtain ⟨r14, r15, p0₉, p1₉, p2₉, p3₉, p4₉, p5₉, p6₉⟩ := hR0
  have pb0 : 16 < N := by omega
  have pb1 : 17 < N := by omega
  have pb2 : 18 < N := by omega
  have pb3 : 19 < N := by omega
  have pb4 : 20 < N := by omega
  have pb5 : 21 < N := by omega
  have pb6 : 22 < N := by omega
  have hsz := ho.1
  have hlk0 := ho.2.1
  have sgr : ∀ z₉ : Int, 0 ≤ z₉ → z₉ < 80 → 0 ≤ sg z₉ ∧ sg z₉ ≤ 6 := fun z₉ h1 h2 => (ho.2.2.2.2.2.2.1 z₉ h1 h2).1
  refine go_aload_n (pc := 0) hF dX7_takes_0 0 rfl ?_
  refine go_get (pc := 1) hF fl_X7_19 dX7_takes_1 (by omega) r14 rfl ?_
  refine go_if_eq (pc := 4) hF 26 dX7_takes_4 (by decide) (by omega) (fun bq4 => ?_) (fun bq4 => ?_)
  · exact absurd bq4 (by omega)
  · refine go_iload_n (pc := 7) hF dX7_takes_7 1 rfl ?_
    refine go_bipush (pc := 8) hF dX7_takes_8 (by decide) ?_
    refine go_icmp_ne (pc := 10) hF 24 dX7_takes_10 (by decide) (by omega) ⟨by decide, by decide⟩ (fun bq10 => ?_) (fun bq10 => ?_)
    · refine go_iconst (pc := 24) hF dX7_takes_24 ?_
      exact go_zretQ hF hr hlk hQ dX7_takes_25 (by decide) ⟨rfl, rfl⟩
    · exact absurd bq10 (by omega)
set_option maxHeartbeats 4000000 in
set_option maxRecDepth 100000 in
theorem c_X7_takes_lookno (E : En) (N : Nat) (σ : Nat → va_E) (op₉ : Int → Int) (d₉ : Int) {sg vl mt₉ lw ll la : Int → Int} {sz₉ lk₉ ch₉ lp dp ln : Int} (hN₉ : 101 ≤ N) (hR0 : isR E σ op₉ d₉ 0 sg vl mt₉ lw ll la sz₉ lk₉ ch₉ lp dp ln) (ho : okP sg vl mt₉ lw ll la sz₉ lk₉ ch₉ lp dp ln) (hd₉ : 0 ≤ d₉ ∧ d₉ ≤ 3) (hop : ∀ i₉ : Int, 0 ≤ i₉ → i₉ < d₉ → 0 ≤ op₉ i₉ ∧ op₉ i₉ < sz₉) (cx : Int) (hc₉ : 97 ≤ cx ∧ cx ≤ 102) (hk24 : lk₉ = 24) : CP E M_X7_takes 6 [vr E 14, vi cx] N σ 0 := by
  refine CT.of2 (own := RX7) (by decide) rfl (Nat.le_of_ble_eq_true rfl) ?_
  intro p e R s m args below meth c Q hF hr hlk hnm hz hR hQ
  obtain ⟨r14, r15, p0₉, p1₉, p2₉, p3₉, p4₉, p5₉, p6₉⟩ := hR0
  have pb0 : 16 < N := by omega
  have pb1 : 17 < N := by omega
  have pb2 : 18 < N := by omega
  have pb3 : 19 < N := by omega
  have pb4 : 20 < N := by omega
  have pb5 : 21 < N := by omega
  have pb6 : 22 < N := by omega
  have hsz := ho.1
  have hlk0 := ho.2.1
  have sgr : ∀ z₉ : Int, 0 ≤ z₉ → z₉ < 80 → 0 ≤ sg z₉ ∧ sg z₉ ≤ 6 := fun z₉ h1 h2 => (ho.2.2.2.2.2.2.1 z₉ h1 h2).1
  refine go_aload_n (pc := 0) hF dX7_takes_0 0 rfl ?_
  refine go_get (pc := 1) hF fl_X7_19 dX7_takes_1 (by omega) r14 rfl ?_
  refine go_if_eq (pc := 4) hF 26 dX7_takes_4 (by decide) ⟨by decide, by decide⟩ (fun bq4 => ?_) (fun bq4 => ?_)
  · refine go_iload_n (pc := 26) hF dX7_takes_26 1 rfl ?_
    refine go_bipush (pc := 27) hF dX7_takes_27 (by decide) ?_
    refine go_icmp_lt (pc := 29) hF 47 dX7_takes_29 (by decide) (by omega) ⟨by decide, by decide⟩ (fun bq29 => ?_) (fun bq29 => ?_)
    · exact absurd bq29 (by omega)
    · refine go_iload_n (pc := 32) hF dX7_takes_32 1 rfl ?_
      refine go_bipush (pc := 33) hF dX7_takes_33 (by decide) ?_
      refine go_icmp_ge (pc := 35) hF 47 dX7_takes_35 (by decide) (by omega) ⟨by decide, by decide⟩ (fun bq35 => ?_) (fun bq35 => ?_)
      · exact absurd bq35 (by omega)
      · refine go_aload_n (pc := 38) hF dX7_takes_38 0 rfl ?_
        refine go_iload_n (pc := 39) hF dX7_takes_39 1 rfl ?_
        refine go_bipush (pc := 40) hF dX7_takes_40 (by decide) ?_
        refine go_isub (pc := 42) hF dX7_takes_42 ?_
        refine go_callVP (pc := 43) hF [vi (cx - 97)] [] mv_X7_40 dX7_takes_43 (by omega) r14 (c_X7_takesLook_no E N σ op₉ d₉ 0 hN₉ ⟨r14, r15, ⟨p0₉, p1₉, p2₉, p3₉, p4₉, p5₉, p6₉⟩⟩ ho hd₉ hop (cx - 97) hk24) rfl rfl (Nat.le_of_ble_eq_true rfl) (by decide) ⟨Nat.zero_le _, Nat.zero_le _⟩ ?_
        exact go_zretQ hF hr hlk hQ dX7_takes_46 (by decide) ⟨rfl, rfl⟩
  · exact absurd bq4 (by decide)
set_option maxHeartbeats 4000000 in
set_option maxRecDepth 100000 in
theorem c_X7_takes_look (E : En) (N : Nat) (σ : Nat → va_E) (op₉ : Int → Int) (d₉ : Int) {sg vl mt₉ lw ll la : Int → Int} {sz₉ lk₉ ch₉ lp dp ln : Int} (hN₉ : 101 ≤ N) (hR0 : isR E σ op₉ d₉ 0 sg vl mt₉ lw ll la sz₉ lk₉ ch₉ lp dp ln) (ho : okP sg vl mt₉ lw ll la sz₉ lk₉ ch₉ lp dp ln) (hd₉ : 0 ≤ d₉ ∧ d₉ ≤ 3) (hop : ∀ i₉ : Int, 0 ≤ i₉ → i₉ < d₉ → 0 ≤ op₉ i₉ ∧ op₉ i₉ < sz₉) (cx : Int) (hc₉ : 97 ≤ cx ∧ cx ≤ 102) (hk24 : lk₉ < 24) (hs : sz₉ < 80) (har : -1 ≤ arU sg sz₉ op₉ d₉.toNat ∧ arU sg sz₉ op₉ d₉.toNat ≤ 80) : CI E M_X7_takes 6 [vr E 14, vi cx] N σ (fun y₉ σ' => y₉ = 1 ∧ isR E σ' op₉ d₉ 0 (up sg sz₉ 0) (up vl sz₉ lk₉) (up mt₉ sz₉ sz₉) (lwU op₉ (cx - 97) (up lw sz₉ 0) d₉.toNat) (up ll lk₉ (cx - 97)) (up la lk₉ (arU sg sz₉ op₉ d₉.toNat)) (sz₉ + 1) (lk₉ + 1) ch₉ lp dp (orb ln (cx - 97)) ∧ ∀ q₉, (q₉ < 14 ∨ 22 < q₉) → σ' q₉ = σ q₉) := by
  refine CT.of2 (own := RX7) (by decide) rfl (Nat.le_of_ble_eq_true rfl) ?_
  intro p e R s m args below meth c Q hF hr hlk hnm hz hR hQ
  obtain ⟨r14, r15, p0₉, p1₉, p2₉, p3₉, p4₉, p5₉, p6₉⟩ := hR0
  have pb0 : 16 < N := by omega
  have pb1 : 17 < N := by omega
  have pb2 : 18 < N := by omega
  have pb3 : 19 < N := by omega
  have pb4 : 20 < N := by omega
  have pb5 : 21 < N := by omega
  have pb6 : 22 < N := by omega
  have hsz := ho.1
  have hlk0 := ho.2.1
  have sgr : ∀ z₉ : Int, 0 ≤ z₉ → z₉ < 80 → 0 ≤ sg z₉ ∧ sg z₉ ≤ 6 := fun z₉ h1 h2 => (ho.2.2.2.2.2.2.1 z₉ h1 h2).1
  refine go_aload_n (pc := 0) hF dX7_takes_0 0 rfl ?_
  refine go_get (pc := 1) hF fl_X7_19 dX7_takes_1 (by omega) r14 rfl ?_
  refine go_if_eq (pc := 4) hF 26 dX7_takes_4 (by decide) ⟨by decide, by decide⟩ (fun bq4 => ?_) (fun bq4 => ?_)
  · refine go_iload_n (pc := 26) hF dX7_takes_26 1 rfl ?_
    refine go_bipush (pc := 27) hF dX7_takes_27 (by decide) ?_
    refine go_icmp_lt (pc := 29) hF 47 dX7_takes_29 (by decide) (by omega) ⟨by decide, by decide⟩ (fun bq29 => ?_) (fun bq29 => ?_)
    · exact absurd bq29 (by omega)
    · refine go_iload_n (pc := 32) hF dX7_takes_32 1 rfl ?_
      refine go_bipush (pc := 33) hF dX7_takes_33 (by decide) ?_
      refine go_icmp_ge (pc := 35) hF 47 dX7_takes_35 (by decide) (by omega) ⟨by decide, by decide⟩ (fun bq35 => ?_) (fun bq35 => ?_)
      · exact absurd bq35 (by omega)
      · refine go_aload_n (pc := 38) hF dX7_takes_38 0 rfl ?_
        refine go_iload_n (pc := 39) hF dX7_takes_39 1 rfl ?_
        refine go_bipush (pc := 40) hF dX7_takes_40 (by decide) ?_
        refine go_isub (pc := 42) hF dX7_takes_42 ?_
        refine go_callVI (pc := 43) hF [vi (cx - 97)] [] mv_X7_40 dX7_takes_43 (by omega) r14 (c_X7_takesLook_yes E N σ op₉ d₉ 0 hN₉ ⟨r14, r15, ⟨p0₉, p1₉, p2₉, p3₉, p4₉, p5₉, p6₉⟩⟩ ho hd₉ hop (cx - 97) (by omega) hk24 hs har) rfl rfl (Nat.le_of_ble_eq_true rfl) (by decide) ⟨Nat.zero_le _, Nat.zero_le _⟩ (fun r_s1 s1₉ h_s1 => ?_)
        obtain ⟨e_s1, ⟨x1_s1, x2_s1, t0_s1, t1_s1, t2_s1, t3_s1, t4_s1, t5_s1, t6_s1⟩, f_s1⟩ := h_s1
        subst e_s1
        exact go_zretQ hF hr hlk hQ dX7_takes_46 (by decide) ⟨rfl, ⟨x1_s1, x2_s1, ⟨t0_s1, t1_s1, t2_s1, t3_s1, t4_s1, t5_s1, t6_s1⟩⟩, (fun jj hjj => by rw [f_s1 jj (by omega)])⟩
  · exact absurd bq4 (by decide)
set_option maxHeartbeats 4000000 in
set_option maxRecDepth 100000 in
theorem c_X7_takes_fgno (E : En) (N : Nat) (σ : Nat → va_E) (op₉ : Int → Int) (d₉ : Int) {sg vl mt₉ lw ll la : Int → Int} {sz₉ lk₉ ch₉ lp dp ln : Int} (hN₉ : 101 ≤ N) (hR0 : isR E σ op₉ d₉ 0 sg vl mt₉ lw ll la sz₉ lk₉ ch₉ lp dp ln) (ho : okP sg vl mt₉ lw ll la sz₉ lk₉ ch₉ lp dp ln) (hd₉ : 0 ≤ d₉ ∧ d₉ ≤ 3) (hop : ∀ i₉ : Int, 0 ≤ i₉ → i₉ < d₉ → 0 ≤ op₉ i₉ ∧ op₉ i₉ < sz₉) (cx : Int) (hc₉ : 49 ≤ cx ∧ cx ≤ 57) (h3 : d₉ = 3) : CP E M_X7_takes 6 [vr E 14, vi cx] N σ 0 := by
  refine CT.of2 (own := RX7) (by decide) rfl (Nat.le_of_ble_eq_true rfl) ?_
  intro p e R s m args below meth c Q hF hr hlk hnm hz hR hQ
  obtain ⟨r14, r15, p0₉, p1₉, p2₉, p3₉, p4₉, p5₉, p6₉⟩ := hR0
  have pb0 : 16 < N := by omega
  have pb1 : 17 < N := by omega
  have pb2 : 18 < N := by omega
  have pb3 : 19 < N := by omega
  have pb4 : 20 < N := by omega
  have pb5 : 21 < N := by omega
  have pb6 : 22 < N := by omega
  have hsz := ho.1
  have hlk0 := ho.2.1
  have sgr : ∀ z₉ : Int, 0 ≤ z₉ → z₉ < 80 → 0 ≤ sg z₉ ∧ sg z₉ ≤ 6 := fun z₉ h1 h2 => (ho.2.2.2.2.2.2.1 z₉ h1 h2).1
  refine go_aload_n (pc := 0) hF dX7_takes_0 0 rfl ?_
  refine go_get (pc := 1) hF fl_X7_19 dX7_takes_1 (by omega) r14 rfl ?_
  refine go_if_eq (pc := 4) hF 26 dX7_takes_4 (by decide) ⟨by decide, by decide⟩ (fun bq4 => ?_) (fun bq4 => ?_)
  · refine go_iload_n (pc := 26) hF dX7_takes_26 1 rfl ?_
    refine go_bipush (pc := 27) hF dX7_takes_27 (by decide) ?_
    refine go_icmp_lt (pc := 29) hF 47 dX7_takes_29 (by decide) (by omega) ⟨by decide, by decide⟩ (fun bq29 => ?_) (fun bq29 => ?_)
    · refine go_iload_n (pc := 47) hF dX7_takes_47 1 rfl ?_
      refine go_bipush (pc := 48) hF dX7_takes_48 (by decide) ?_
      refine go_icmp_lt (pc := 50) hF 68 dX7_takes_50 (by decide) (by omega) ⟨by decide, by decide⟩ (fun bq50 => ?_) (fun bq50 => ?_)
      · exact absurd bq50 (by omega)
      · refine go_iload_n (pc := 53) hF dX7_takes_53 1 rfl ?_
        refine go_bipush (pc := 54) hF dX7_takes_54 (by decide) ?_
        refine go_icmp_gt (pc := 56) hF 68 dX7_takes_56 (by decide) (by omega) ⟨by decide, by decide⟩ (fun bq56 => ?_) (fun bq56 => ?_)
        · exact absurd bq56 (by omega)
        · refine go_aload_n (pc := 59) hF dX7_takes_59 0 rfl ?_
          refine go_iload_n (pc := 60) hF dX7_takes_60 1 rfl ?_
          refine go_bipush (pc := 61) hF dX7_takes_61 (by decide) ?_
          refine go_isub (pc := 63) hF dX7_takes_63 ?_
          refine go_callVP (pc := 64) hF [vi (cx - 48)] [] mv_X7_43 dX7_takes_64 (by omega) r14 (c_X7_takesFigure_no E N σ op₉ d₉ 0 hN₉ ⟨r14, r15, ⟨p0₉, p1₉, p2₉, p3₉, p4₉, p5₉, p6₉⟩⟩ ho hd₉ hop (cx - 48) h3) rfl rfl (Nat.le_of_ble_eq_true rfl) (by decide) ⟨Nat.zero_le _, Nat.zero_le _⟩ ?_
          exact go_zretQ hF hr hlk hQ dX7_takes_67 (by decide) ⟨rfl, rfl⟩
    · exact absurd bq29 (by omega)
  · exact absurd bq4 (by decide)
set_option maxHeartbeats 4000000 in
set_option maxRecDepth 100000 in
theorem c_X7_takes_fg (E : En) (N : Nat) (σ : Nat → va_E) (op₉ : Int → Int) (d₉ : Int) {sg vl mt₉ lw ll la : Int → Int} {sz₉ lk₉ ch₉ lp dp ln : Int} (hN₉ : 101 ≤ N) (hR0 : isR E σ op₉ d₉ 0 sg vl mt₉ lw ll la sz₉ lk₉ ch₉ lp dp ln) (ho : okP sg vl mt₉ lw ll la sz₉ lk₉ ch₉ lp dp ln) (hd₉ : 0 ≤ d₉ ∧ d₉ ≤ 3) (hop : ∀ i₉ : Int, 0 ≤ i₉ → i₉ < d₉ → 0 ≤ op₉ i₉ ∧ op₉ i₉ < sz₉) (cx : Int) (hc₉ : 49 ≤ cx ∧ cx ≤ 57) (h3 : d₉ < 3) : CI E M_X7_takes 6 [vr E 14, vi cx] N σ (fun y₉ σ' => y₉ = 1 ∧ isR E σ' op₉ d₉ (cx - 48) sg vl mt₉ lw ll la sz₉ lk₉ ch₉ lp dp ln ∧ ∀ q₉, (q₉ < 14 ∨ 22 < q₉) → σ' q₉ = σ q₉) := by
  refine CT.of2 (own := RX7) (by decide) rfl (Nat.le_of_ble_eq_true rfl) ?_
  intro p e R s m args below meth c Q hF hr hlk hnm hz hR hQ
  obtain ⟨r14, r15, p0₉, p1₉, p2₉, p3₉, p4₉, p5₉, p6₉⟩ := hR0
  have pb0 : 16 < N := by omega
  have pb1 : 17 < N := by omega
  have pb2 : 18 < N := by omega
  have pb3 : 19 < N := by omega
  have pb4 : 20 < N := by omega
  have pb5 : 21 < N := by omega
  have pb6 : 22 < N := by omega
  have hsz := ho.1
  have hlk0 := ho.2.1
  have sgr : ∀ z₉ : Int, 0 ≤ z₉ → z₉ < 80 → 0 ≤ sg z₉ ∧ sg z₉ ≤ 6 := fun z₉ h1 h2 => (ho.2.2.2.2.2.2.1 z₉ h1 h2).1
  refine go_aload_n (pc := 0) hF dX7_takes_0 0 rfl ?_
  refine go_get (pc := 1) hF fl_X7_19 dX7_takes_1 (by omega) r14 rfl ?_
  refine go_if_eq (pc := 4) hF 26 dX7_takes_4 (by decide) ⟨by decide, by decide⟩ (fun bq4 => ?_) (fun bq4 => ?_)
  · refine go_iload_n (pc := 26) hF dX7_takes_26 1 rfl ?_
    refine go_bipush (pc := 27) hF dX7_takes_27 (by decide) ?_
    refine go_icmp_lt (pc := 29) hF 47 dX7_takes_29 (by decide) (by omega) ⟨by decide, by decide⟩ (fun bq29 => ?_) (fun bq29 => ?_)
    · refine go_iload_n (pc := 47) hF dX7_takes_47 1 rfl ?_
      refine go_bipush (pc := 48) hF dX7_takes_48 (by decide) ?_
      refine go_icmp_lt (pc := 50) hF 68 dX7_takes_50 (by decide) (by omega) ⟨by decide, by decide⟩ (fun bq50 => ?_) (fun bq50 => ?_)
      · exact absurd bq50 (by omega)
      · refine go_iload_n (pc := 53) hF dX7_takes_53 1 rfl ?_
        refine go_bipush (pc := 54) hF dX7_takes_54 (by decide) ?_
        refine go_icmp_gt (pc := 56) hF 68 dX7_takes_56 (by decide) (by omega) ⟨by decide, by decide⟩ (fun bq56 => ?_) (fun bq56 => ?_)
        · exact absurd bq56 (by omega)
        · refine go_aload_n (pc := 59) hF dX7_takes_59 0 rfl ?_
          refine go_iload_n (pc := 60) hF dX7_takes_60 1 rfl ?_
          refine go_bipush (pc := 61) hF dX7_takes_61 (by decide) ?_
          refine go_isub (pc := 63) hF dX7_takes_63 ?_
          refine go_callVI (pc := 64) hF [vi (cx - 48)] [] mv_X7_43 dX7_takes_64 (by omega) r14 (c_X7_takesFigure_yes E N σ op₉ d₉ 0 hN₉ ⟨r14, r15, ⟨p0₉, p1₉, p2₉, p3₉, p4₉, p5₉, p6₉⟩⟩ ho hd₉ hop (cx - 48) h3) rfl rfl (Nat.le_of_ble_eq_true rfl) (by decide) ⟨Nat.zero_le _, Nat.zero_le _⟩ (fun r_s1 s1₉ h_s1 => ?_)
          obtain ⟨e_s1, ⟨x1_s1, x2_s1, t0_s1, t1_s1, t2_s1, t3_s1, t4_s1, t5_s1, t6_s1⟩, f_s1⟩ := h_s1
          subst e_s1
          exact go_zretQ hF hr hlk hQ dX7_takes_67 (by decide) ⟨rfl, ⟨x1_s1, x2_s1, ⟨t0_s1, t1_s1, t2_s1, t3_s1, t4_s1, t5_s1, t6_s1⟩⟩, (fun jj hjj => by rw [f_s1 jj (by omega)])⟩
    · exact absurd bq29 (by omega)
  · exact absurd bq4 (by decide)
set_option maxHeartbeats 4000000 in
set_option maxRecDepth 100000 in
theorem c_X7_takes_46 (E : En) (N : Nat) (σ : Nat → va_E) (op₉ : Int → Int) (d₉ : Int) {sg vl mt₉ lw ll la : Int → Int} {sz₉ lk₉ ch₉ lp dp ln : Int} (hN₉ : 101 ≤ N) (hR0 : isR E σ op₉ d₉ 0 sg vl mt₉ lw ll la sz₉ lk₉ ch₉ lp dp ln) (ho : okP sg vl mt₉ lw ll la sz₉ lk₉ ch₉ lp dp ln) (hd₉ : 0 ≤ d₉ ∧ d₉ ≤ 3) (hop : ∀ i₉ : Int, 0 ≤ i₉ → i₉ < d₉ → 0 ≤ op₉ i₉ ∧ op₉ i₉ < sz₉) (hs : sz₉ < 80) : CI E M_X7_takes 6 [vr E 14, vi 46] N σ (fun y₉ σ' => y₉ = 1 ∧ isR E σ' op₉ d₉ 0 (up sg sz₉ 1) (up vl sz₉ 0) (up mt₉ sz₉ sz₉) (up lw sz₉ 0) ll la (sz₉ + 1) lk₉ ch₉ lp dp ln ∧ ∀ q₉, (q₉ < 14 ∨ 22 < q₉) → σ' q₉ = σ q₉) := by
  refine CT.of2 (own := RX7) (by decide) rfl (Nat.le_of_ble_eq_true rfl) ?_
  intro p e R s m args below meth c Q hF hr hlk hnm hz hR hQ
  obtain ⟨r14, r15, p0₉, p1₉, p2₉, p3₉, p4₉, p5₉, p6₉⟩ := hR0
  have pb0 : 16 < N := by omega
  have pb1 : 17 < N := by omega
  have pb2 : 18 < N := by omega
  have pb3 : 19 < N := by omega
  have pb4 : 20 < N := by omega
  have pb5 : 21 < N := by omega
  have pb6 : 22 < N := by omega
  have hsz := ho.1
  have hlk0 := ho.2.1
  have sgr : ∀ z₉ : Int, 0 ≤ z₉ → z₉ < 80 → 0 ≤ sg z₉ ∧ sg z₉ ≤ 6 := fun z₉ h1 h2 => (ho.2.2.2.2.2.2.1 z₉ h1 h2).1
  refine go_aload_n (pc := 0) hF dX7_takes_0 0 rfl ?_
  refine go_get (pc := 1) hF fl_X7_19 dX7_takes_1 (by omega) r14 rfl ?_
  refine go_if_eq (pc := 4) hF 26 dX7_takes_4 (by decide) ⟨by decide, by decide⟩ (fun bq4 => ?_) (fun bq4 => ?_)
  · refine go_iload_n (pc := 26) hF dX7_takes_26 1 rfl ?_
    refine go_bipush (pc := 27) hF dX7_takes_27 (by decide) ?_
    refine go_icmp_lt (pc := 29) hF 47 dX7_takes_29 (by decide) ⟨by decide, by decide⟩ ⟨by decide, by decide⟩ (fun bq29 => ?_) (fun bq29 => ?_)
    · refine go_iload_n (pc := 47) hF dX7_takes_47 1 rfl ?_
      refine go_bipush (pc := 48) hF dX7_takes_48 (by decide) ?_
      refine go_icmp_lt (pc := 50) hF 68 dX7_takes_50 (by decide) ⟨by decide, by decide⟩ ⟨by decide, by decide⟩ (fun bq50 => ?_) (fun bq50 => ?_)
      · refine go_iload_n (pc := 68) hF dX7_takes_68 1 rfl ?_
        refine go_lookup (pc := 69) hF 120 dX7_takes_69 (by decide) ⟨by decide, by decide⟩ rfl (by decide) ?_
        refine go_aload_n (pc := 120) hF dX7_takes_120 0 rfl ?_
        refine go_get (pc := 121) hF fl_X7_25 dX7_takes_121 (by omega) r14 rfl ?_
        refine go_iconst (pc := 124) hF dX7_takes_124 ?_
        refine go_iconst (pc := 125) hF dX7_takes_125 ?_
        refine go_callVI (pc := 126) hF [vi 1, vi 0] [] mv_X7_46 dX7_takes_126 pb0 p0₉ (c_X6_add E N σ 16 (by omega) ⟨p0₉, p1₉, p2₉, p3₉, p4₉, p5₉, p6₉⟩ 1 0 (by omega)) rfl rfl (Nat.le_of_ble_eq_true rfl) (by decide) ⟨Nat.zero_le _, Nat.zero_le _⟩ (fun r_s1 s1₉ h_s1 => ?_)
        obtain ⟨e_s1, ⟨t0_s1, t1_s1, t2_s1, t3_s1, t4_s1, t5_s1, t6_s1⟩, f_s1⟩ := h_s1
        have rd_s1 := (f_s1 14 (by omega)).trans r14
        have op_s1 := (f_s1 15 (by omega)).trans r15
        subst e_s1
        exact go_zretQ hF hr hlk hQ dX7_takes_129 (by decide) ⟨rfl, ⟨rd_s1, op_s1, ⟨t0_s1, t1_s1, t2_s1, t3_s1, t4_s1, t5_s1, t6_s1⟩⟩, (fun jj hjj => by rw [f_s1 jj (by omega)])⟩
      · exact absurd bq50 (by decide)
    · exact absurd bq29 (by decide)
  · exact absurd bq4 (by decide)
set_option maxHeartbeats 4000000 in
set_option maxRecDepth 100000 in
theorem c_X7_takes_40no (E : En) (N : Nat) (σ : Nat → va_E) (op₉ : Int → Int) (d₉ : Int) {sg vl mt₉ lw ll la : Int → Int} {sz₉ lk₉ ch₉ lp dp ln : Int} (hN₉ : 101 ≤ N) (hR0 : isR E σ op₉ d₉ 0 sg vl mt₉ lw ll la sz₉ lk₉ ch₉ lp dp ln) (ho : okP sg vl mt₉ lw ll la sz₉ lk₉ ch₉ lp dp ln) (hd₉ : 0 ≤ d₉ ∧ d₉ ≤ 3) (hop : ∀ i₉ : Int, 0 ≤ i₉ → i₉ < d₉ → 0 ≤ op₉ i₉ ∧ op₉ i₉ < sz₉) (h3 : d₉ = 3) : CP E M_X7_takes 6 [vr E 14, vi 40] N σ 0 := by
  refine CT.of2 (own := RX7) (by decide) rfl (Nat.le_of_ble_eq_true rfl) ?_
  intro p e R s m args below meth c Q hF hr hlk hnm hz hR hQ
  obtain ⟨r14, r15, p0₉, p1₉, p2₉, p3₉, p4₉, p5₉, p6₉⟩ := hR0
  have pb0 : 16 < N := by omega
  have pb1 : 17 < N := by omega
  have pb2 : 18 < N := by omega
  have pb3 : 19 < N := by omega
  have pb4 : 20 < N := by omega
  have pb5 : 21 < N := by omega
  have pb6 : 22 < N := by omega
  have hsz := ho.1
  have hlk0 := ho.2.1
  have sgr : ∀ z₉ : Int, 0 ≤ z₉ → z₉ < 80 → 0 ≤ sg z₉ ∧ sg z₉ ≤ 6 := fun z₉ h1 h2 => (ho.2.2.2.2.2.2.1 z₉ h1 h2).1
  refine go_aload_n (pc := 0) hF dX7_takes_0 0 rfl ?_
  refine go_get (pc := 1) hF fl_X7_19 dX7_takes_1 (by omega) r14 rfl ?_
  refine go_if_eq (pc := 4) hF 26 dX7_takes_4 (by decide) ⟨by decide, by decide⟩ (fun bq4 => ?_) (fun bq4 => ?_)
  · refine go_iload_n (pc := 26) hF dX7_takes_26 1 rfl ?_
    refine go_bipush (pc := 27) hF dX7_takes_27 (by decide) ?_
    refine go_icmp_lt (pc := 29) hF 47 dX7_takes_29 (by decide) ⟨by decide, by decide⟩ ⟨by decide, by decide⟩ (fun bq29 => ?_) (fun bq29 => ?_)
    · refine go_iload_n (pc := 47) hF dX7_takes_47 1 rfl ?_
      refine go_bipush (pc := 48) hF dX7_takes_48 (by decide) ?_
      refine go_icmp_lt (pc := 50) hF 68 dX7_takes_50 (by decide) ⟨by decide, by decide⟩ ⟨by decide, by decide⟩ (fun bq50 => ?_) (fun bq50 => ?_)
      · refine go_iload_n (pc := 68) hF dX7_takes_68 1 rfl ?_
        refine go_lookup (pc := 69) hF 130 dX7_takes_69 (by decide) ⟨by decide, by decide⟩ rfl (by decide) ?_
        refine go_aload_n (pc := 130) hF dX7_takes_130 0 rfl ?_
        refine go_callVP (pc := 131) hF [] [] mv_X7_50 dX7_takes_131 (by omega) r14 (c_X7_opensChoice_no E N σ op₉ d₉ 0 hN₉ ⟨r14, r15, ⟨p0₉, p1₉, p2₉, p3₉, p4₉, p5₉, p6₉⟩⟩ ho hd₉ hop h3) rfl rfl (Nat.le_of_ble_eq_true rfl) (by decide) ⟨Nat.zero_le _, Nat.zero_le _⟩ ?_
        exact go_zretQ hF hr hlk hQ dX7_takes_134 (by decide) ⟨rfl, rfl⟩
      · exact absurd bq50 (by decide)
    · exact absurd bq29 (by decide)
  · exact absurd bq4 (by decide)
set_option maxHeartbeats 4000000 in
set_option maxRecDepth 100000 in
theorem c_X7_takes_40 (E : En) (N : Nat) (σ : Nat → va_E) (op₉ : Int → Int) (d₉ : Int) {sg vl mt₉ lw ll la : Int → Int} {sz₉ lk₉ ch₉ lp dp ln : Int} (hN₉ : 101 ≤ N) (hR0 : isR E σ op₉ d₉ 0 sg vl mt₉ lw ll la sz₉ lk₉ ch₉ lp dp ln) (ho : okP sg vl mt₉ lw ll la sz₉ lk₉ ch₉ lp dp ln) (hd₉ : 0 ≤ d₉ ∧ d₉ ≤ 3) (hop : ∀ i₉ : Int, 0 ≤ i₉ → i₉ < d₉ → 0 ≤ op₉ i₉ ∧ op₉ i₉ < sz₉) (hs : sz₉ < 80) (h3 : d₉ < 3) : CI E M_X7_takes 6 [vr E 14, vi 40] N σ (fun y₉ σ' => y₉ = 1 ∧ isR E σ' (up op₉ d₉ sz₉) (d₉ + 1) 0 (up sg sz₉ 2) (up vl sz₉ 0) (up mt₉ sz₉ sz₉) (up lw sz₉ 0) ll la (sz₉ + 1) lk₉ (ch₉ + 1) lp (max dp (d₉ + 1)) ln ∧ ∀ q₉, (q₉ < 14 ∨ 22 < q₉) → σ' q₉ = σ q₉) := by
  refine CT.of2 (own := RX7) (by decide) rfl (Nat.le_of_ble_eq_true rfl) ?_
  intro p e R s m args below meth c Q hF hr hlk hnm hz hR hQ
  obtain ⟨r14, r15, p0₉, p1₉, p2₉, p3₉, p4₉, p5₉, p6₉⟩ := hR0
  have pb0 : 16 < N := by omega
  have pb1 : 17 < N := by omega
  have pb2 : 18 < N := by omega
  have pb3 : 19 < N := by omega
  have pb4 : 20 < N := by omega
  have pb5 : 21 < N := by omega
  have pb6 : 22 < N := by omega
  have hsz := ho.1
  have hlk0 := ho.2.1
  have sgr : ∀ z₉ : Int, 0 ≤ z₉ → z₉ < 80 → 0 ≤ sg z₉ ∧ sg z₉ ≤ 6 := fun z₉ h1 h2 => (ho.2.2.2.2.2.2.1 z₉ h1 h2).1
  refine go_aload_n (pc := 0) hF dX7_takes_0 0 rfl ?_
  refine go_get (pc := 1) hF fl_X7_19 dX7_takes_1 (by omega) r14 rfl ?_
  refine go_if_eq (pc := 4) hF 26 dX7_takes_4 (by decide) ⟨by decide, by decide⟩ (fun bq4 => ?_) (fun bq4 => ?_)
  · refine go_iload_n (pc := 26) hF dX7_takes_26 1 rfl ?_
    refine go_bipush (pc := 27) hF dX7_takes_27 (by decide) ?_
    refine go_icmp_lt (pc := 29) hF 47 dX7_takes_29 (by decide) ⟨by decide, by decide⟩ ⟨by decide, by decide⟩ (fun bq29 => ?_) (fun bq29 => ?_)
    · refine go_iload_n (pc := 47) hF dX7_takes_47 1 rfl ?_
      refine go_bipush (pc := 48) hF dX7_takes_48 (by decide) ?_
      refine go_icmp_lt (pc := 50) hF 68 dX7_takes_50 (by decide) ⟨by decide, by decide⟩ ⟨by decide, by decide⟩ (fun bq50 => ?_) (fun bq50 => ?_)
      · refine go_iload_n (pc := 68) hF dX7_takes_68 1 rfl ?_
        refine go_lookup (pc := 69) hF 130 dX7_takes_69 (by decide) ⟨by decide, by decide⟩ rfl (by decide) ?_
        refine go_aload_n (pc := 130) hF dX7_takes_130 0 rfl ?_
        refine go_callVI (pc := 131) hF [] [] mv_X7_50 dX7_takes_131 (by omega) r14 (c_X7_opensChoice_yes E N σ op₉ d₉ 0 hN₉ ⟨r14, r15, ⟨p0₉, p1₉, p2₉, p3₉, p4₉, p5₉, p6₉⟩⟩ ho hd₉ hop hs h3) rfl rfl (Nat.le_of_ble_eq_true rfl) (by decide) ⟨Nat.zero_le _, Nat.zero_le _⟩ (fun r_s1 s1₉ h_s1 => ?_)
        obtain ⟨e_s1, ⟨x1_s1, x2_s1, t0_s1, t1_s1, t2_s1, t3_s1, t4_s1, t5_s1, t6_s1⟩, f_s1⟩ := h_s1
        subst e_s1
        exact go_zretQ hF hr hlk hQ dX7_takes_134 (by decide) ⟨rfl, ⟨x1_s1, x2_s1, ⟨t0_s1, t1_s1, t2_s1, t3_s1, t4_s1, t5_s1, t6_s1⟩⟩, (fun jj hjj => by rw [f_s1 jj (by omega)])⟩
      · exact absurd bq50 (by decide)
    · exact absurd bq29 (by decide)
  · exact absurd bq4 (by decide)
set_option maxHeartbeats 4000000 in
set_option maxRecDepth 100000 in
theorem c_X7_takes_124no (E : En) (N : Nat) (σ : Nat → va_E) (op₉ : Int → Int) (d₉ : Int) {sg vl mt₉ lw ll la : Int → Int} {sz₉ lk₉ ch₉ lp dp ln : Int} (hN₉ : 101 ≤ N) (hR0 : isR E σ op₉ d₉ 0 sg vl mt₉ lw ll la sz₉ lk₉ ch₉ lp dp ln) (ho : okP sg vl mt₉ lw ll la sz₉ lk₉ ch₉ lp dp ln) (hd₉ : 0 ≤ d₉ ∧ d₉ ≤ 3) (hop : ∀ i₉ : Int, 0 ≤ i₉ → i₉ < d₉ → 0 ≤ op₉ i₉ ∧ op₉ i₉ < sz₉) (hno : ¬ (0 < d₉ ∧ gSign sg sz₉ (op₉ (d₉ - 1)) = 2)) : CP E M_X7_takes 6 [vr E 14, vi 124] N σ 0 := by
  refine CT.of2 (own := RX7) (by decide) rfl (Nat.le_of_ble_eq_true rfl) ?_
  intro p e R s m args below meth c Q hF hr hlk hnm hz hR hQ
  obtain ⟨r14, r15, p0₉, p1₉, p2₉, p3₉, p4₉, p5₉, p6₉⟩ := hR0
  have pb0 : 16 < N := by omega
  have pb1 : 17 < N := by omega
  have pb2 : 18 < N := by omega
  have pb3 : 19 < N := by omega
  have pb4 : 20 < N := by omega
  have pb5 : 21 < N := by omega
  have pb6 : 22 < N := by omega
  have hsz := ho.1
  have hlk0 := ho.2.1
  have sgr : ∀ z₉ : Int, 0 ≤ z₉ → z₉ < 80 → 0 ≤ sg z₉ ∧ sg z₉ ≤ 6 := fun z₉ h1 h2 => (ho.2.2.2.2.2.2.1 z₉ h1 h2).1
  refine go_aload_n (pc := 0) hF dX7_takes_0 0 rfl ?_
  refine go_get (pc := 1) hF fl_X7_19 dX7_takes_1 (by omega) r14 rfl ?_
  refine go_if_eq (pc := 4) hF 26 dX7_takes_4 (by decide) ⟨by decide, by decide⟩ (fun bq4 => ?_) (fun bq4 => ?_)
  · refine go_iload_n (pc := 26) hF dX7_takes_26 1 rfl ?_
    refine go_bipush (pc := 27) hF dX7_takes_27 (by decide) ?_
    refine go_icmp_lt (pc := 29) hF 47 dX7_takes_29 (by decide) ⟨by decide, by decide⟩ ⟨by decide, by decide⟩ (fun bq29 => ?_) (fun bq29 => ?_)
    · exact absurd bq29 (by decide)
    · refine go_iload_n (pc := 32) hF dX7_takes_32 1 rfl ?_
      refine go_bipush (pc := 33) hF dX7_takes_33 (by decide) ?_
      refine go_icmp_ge (pc := 35) hF 47 dX7_takes_35 (by decide) ⟨by decide, by decide⟩ ⟨by decide, by decide⟩ (fun bq35 => ?_) (fun bq35 => ?_)
      · refine go_iload_n (pc := 47) hF dX7_takes_47 1 rfl ?_
        refine go_bipush (pc := 48) hF dX7_takes_48 (by decide) ?_
        refine go_icmp_lt (pc := 50) hF 68 dX7_takes_50 (by decide) ⟨by decide, by decide⟩ ⟨by decide, by decide⟩ (fun bq50 => ?_) (fun bq50 => ?_)
        · exact absurd bq50 (by decide)
        · refine go_iload_n (pc := 53) hF dX7_takes_53 1 rfl ?_
          refine go_bipush (pc := 54) hF dX7_takes_54 (by decide) ?_
          refine go_icmp_gt (pc := 56) hF 68 dX7_takes_56 (by decide) ⟨by decide, by decide⟩ ⟨by decide, by decide⟩ (fun bq56 => ?_) (fun bq56 => ?_)
          · refine go_iload_n (pc := 68) hF dX7_takes_68 1 rfl ?_
            refine go_lookup (pc := 69) hF 135 dX7_takes_69 (by decide) ⟨by decide, by decide⟩ rfl (by decide) ?_
            refine go_aload_n (pc := 135) hF dX7_takes_135 0 rfl ?_
            refine go_iconst (pc := 136) hF dX7_takes_136 ?_
            refine go_iconst (pc := 137) hF dX7_takes_137 ?_
            refine go_callVP (pc := 138) hF [vi 2, vi 3] [] mv_X7_53 dX7_takes_138 (by omega) r14 (c_X7_turns_no E N σ op₉ d₉ 0 hN₉ ⟨r14, r15, ⟨p0₉, p1₉, p2₉, p3₉, p4₉, p5₉, p6₉⟩⟩ ho hd₉ hop 2 3 (by omega) hno) rfl rfl (Nat.le_of_ble_eq_true rfl) (by decide) ⟨Nat.zero_le _, Nat.zero_le _⟩ ?_
            exact go_zretQ hF hr hlk hQ dX7_takes_141 (by decide) ⟨rfl, rfl⟩
          · exact absurd bq56 (by decide)
      · exact absurd bq35 (by decide)
  · exact absurd bq4 (by decide)
set_option maxHeartbeats 4000000 in
set_option maxRecDepth 100000 in
theorem c_X7_takes_124 (E : En) (N : Nat) (σ : Nat → va_E) (op₉ : Int → Int) (d₉ : Int) {sg vl mt₉ lw ll la : Int → Int} {sz₉ lk₉ ch₉ lp dp ln : Int} (hN₉ : 101 ≤ N) (hR0 : isR E σ op₉ d₉ 0 sg vl mt₉ lw ll la sz₉ lk₉ ch₉ lp dp ln) (ho : okP sg vl mt₉ lw ll la sz₉ lk₉ ch₉ lp dp ln) (hd₉ : 0 ≤ d₉ ∧ d₉ ≤ 3) (hop : ∀ i₉ : Int, 0 ≤ i₉ → i₉ < d₉ → 0 ≤ op₉ i₉ ∧ op₉ i₉ < sz₉) (hs : sz₉ < 80) (hyes : 0 < d₉ ∧ gSign sg sz₉ (op₉ (d₉ - 1)) = 2) : CI E M_X7_takes 6 [vr E 14, vi 124] N σ (fun y₉ σ' => y₉ = 1 ∧ isR E σ' (up op₉ (d₉ - 1) sz₉) d₉ 0 (up sg sz₉ 3) (up vl sz₉ 0) (up (up mt₉ sz₉ sz₉) (op₉ (d₉ - 1)) sz₉) (up lw sz₉ 0) ll la (sz₉ + 1) lk₉ ch₉ lp dp ln ∧ ∀ q₉, (q₉ < 14 ∨ 22 < q₉) → σ' q₉ = σ q₉) := by
  refine CT.of2 (own := RX7) (by decide) rfl (Nat.le_of_ble_eq_true rfl) ?_
  intro p e R s m args below meth c Q hF hr hlk hnm hz hR hQ
  obtain ⟨r14, r15, p0₉, p1₉, p2₉, p3₉, p4₉, p5₉, p6₉⟩ := hR0
  have pb0 : 16 < N := by omega
  have pb1 : 17 < N := by omega
  have pb2 : 18 < N := by omega
  have pb3 : 19 < N := by omega
  have pb4 : 20 < N := by omega
  have pb5 : 21 < N := by omega
  have pb6 : 22 < N := by omega
  have hsz := ho.1
  have hlk0 := ho.2.1
  have sgr : ∀ z₉ : Int, 0 ≤ z₉ → z₉ < 80 → 0 ≤ sg z₉ ∧ sg z₉ ≤ 6 := fun z₉ h1 h2 => (ho.2.2.2.2.2.2.1 z₉ h1 h2).1
  refine go_aload_n (pc := 0) hF dX7_takes_0 0 rfl ?_
  refine go_get (pc := 1) hF fl_X7_19 dX7_takes_1 (by omega) r14 rfl ?_
  refine go_if_eq (pc := 4) hF 26 dX7_takes_4 (by decide) ⟨by decide, by decide⟩ (fun bq4 => ?_) (fun bq4 => ?_)
  · refine go_iload_n (pc := 26) hF dX7_takes_26 1 rfl ?_
    refine go_bipush (pc := 27) hF dX7_takes_27 (by decide) ?_
    refine go_icmp_lt (pc := 29) hF 47 dX7_takes_29 (by decide) ⟨by decide, by decide⟩ ⟨by decide, by decide⟩ (fun bq29 => ?_) (fun bq29 => ?_)
    · exact absurd bq29 (by decide)
    · refine go_iload_n (pc := 32) hF dX7_takes_32 1 rfl ?_
      refine go_bipush (pc := 33) hF dX7_takes_33 (by decide) ?_
      refine go_icmp_ge (pc := 35) hF 47 dX7_takes_35 (by decide) ⟨by decide, by decide⟩ ⟨by decide, by decide⟩ (fun bq35 => ?_) (fun bq35 => ?_)
      · refine go_iload_n (pc := 47) hF dX7_takes_47 1 rfl ?_
        refine go_bipush (pc := 48) hF dX7_takes_48 (by decide) ?_
        refine go_icmp_lt (pc := 50) hF 68 dX7_takes_50 (by decide) ⟨by decide, by decide⟩ ⟨by decide, by decide⟩ (fun bq50 => ?_) (fun bq50 => ?_)
        · exact absurd bq50 (by decide)
        · refine go_iload_n (pc := 53) hF dX7_takes_53 1 rfl ?_
          refine go_bipush (pc := 54) hF dX7_takes_54 (by decide) ?_
          refine go_icmp_gt (pc := 56) hF 68 dX7_takes_56 (by decide) ⟨by decide, by decide⟩ ⟨by decide, by decide⟩ (fun bq56 => ?_) (fun bq56 => ?_)
          · refine go_iload_n (pc := 68) hF dX7_takes_68 1 rfl ?_
            refine go_lookup (pc := 69) hF 135 dX7_takes_69 (by decide) ⟨by decide, by decide⟩ rfl (by decide) ?_
            refine go_aload_n (pc := 135) hF dX7_takes_135 0 rfl ?_
            refine go_iconst (pc := 136) hF dX7_takes_136 ?_
            refine go_iconst (pc := 137) hF dX7_takes_137 ?_
            refine go_callVI (pc := 138) hF [vi 2, vi 3] [] mv_X7_53 dX7_takes_138 (by omega) r14 (c_X7_turns_yes E N σ op₉ d₉ 0 hN₉ ⟨r14, r15, ⟨p0₉, p1₉, p2₉, p3₉, p4₉, p5₉, p6₉⟩⟩ ho hd₉ hop 2 3 (by omega) (by omega) hs hyes) rfl rfl (Nat.le_of_ble_eq_true rfl) (by decide) ⟨Nat.zero_le _, Nat.zero_le _⟩ (fun r_s1 s1₉ h_s1 => ?_)
            obtain ⟨e_s1, ⟨x1_s1, x2_s1, t0_s1, t1_s1, t2_s1, t3_s1, t4_s1, t5_s1, t6_s1⟩, f_s1⟩ := h_s1
            subst e_s1
            exact go_zretQ hF hr hlk hQ dX7_takes_141 (by decide) ⟨rfl, ⟨x1_s1, x2_s1, ⟨t0_s1, t1_s1, t2_s1, t3_s1, t4_s1, t5_s1, t6_s1⟩⟩, (fun jj hjj => by rw [f_s1 jj (by omega)])⟩
          · exact absurd bq56 (by decide)
      · exact absurd bq35 (by decide)
  · exact absurd bq4 (by decide)
set_option maxHeartbeats 4000000 in
set_option maxRecDepth 100000 in
theorem c_X7_takes_41no (E : En) (N : Nat) (σ : Nat → va_E) (op₉ : Int → Int) (d₉ : Int) {sg vl mt₉ lw ll la : Int → Int} {sz₉ lk₉ ch₉ lp dp ln : Int} (hN₉ : 101 ≤ N) (hR0 : isR E σ op₉ d₉ 0 sg vl mt₉ lw ll la sz₉ lk₉ ch₉ lp dp ln) (ho : okP sg vl mt₉ lw ll la sz₉ lk₉ ch₉ lp dp ln) (hd₉ : 0 ≤ d₉ ∧ d₉ ≤ 3) (hop : ∀ i₉ : Int, 0 ≤ i₉ → i₉ < d₉ → 0 ≤ op₉ i₉ ∧ op₉ i₉ < sz₉) (hno : ¬ (0 < d₉ ∧ gSign sg sz₉ (op₉ (d₉ - 1)) = 3)) : CP E M_X7_takes 6 [vr E 14, vi 41] N σ 0 := by
  refine CT.of2 (own := RX7) (by decide) rfl (Nat.le_of_ble_eq_true rfl) ?_
  intro p e R s m args below meth c Q hF hr hlk hnm hz hR hQ
  obtain ⟨r14, r15, p0₉, p1₉, p2₉, p3₉, p4₉, p5₉, p6₉⟩ := hR0
  have pb0 : 16 < N := by omega
  have pb1 : 17 < N := by omega
  have pb2 : 18 < N := by omega
  have pb3 : 19 < N := by omega
  have pb4 : 20 < N := by omega
  have pb5 : 21 < N := by omega
  have pb6 : 22 < N := by omega
  have hsz := ho.1
  have hlk0 := ho.2.1
  have sgr : ∀ z₉ : Int, 0 ≤ z₉ → z₉ < 80 → 0 ≤ sg z₉ ∧ sg z₉ ≤ 6 := fun z₉ h1 h2 => (ho.2.2.2.2.2.2.1 z₉ h1 h2).1
  refine go_aload_n (pc := 0) hF dX7_takes_0 0 rfl ?_
  refine go_get (pc := 1) hF fl_X7_19 dX7_takes_1 (by omega) r14 rfl ?_
  refine go_if_eq (pc := 4) hF 26 dX7_takes_4 (by decide) ⟨by decide, by decide⟩ (fun bq4 => ?_) (fun bq4 => ?_)
  · refine go_iload_n (pc := 26) hF dX7_takes_26 1 rfl ?_
    refine go_bipush (pc := 27) hF dX7_takes_27 (by decide) ?_
    refine go_icmp_lt (pc := 29) hF 47 dX7_takes_29 (by decide) ⟨by decide, by decide⟩ ⟨by decide, by decide⟩ (fun bq29 => ?_) (fun bq29 => ?_)
    · refine go_iload_n (pc := 47) hF dX7_takes_47 1 rfl ?_
      refine go_bipush (pc := 48) hF dX7_takes_48 (by decide) ?_
      refine go_icmp_lt (pc := 50) hF 68 dX7_takes_50 (by decide) ⟨by decide, by decide⟩ ⟨by decide, by decide⟩ (fun bq50 => ?_) (fun bq50 => ?_)
      · refine go_iload_n (pc := 68) hF dX7_takes_68 1 rfl ?_
        refine go_lookup (pc := 69) hF 142 dX7_takes_69 (by decide) ⟨by decide, by decide⟩ rfl (by decide) ?_
        refine go_aload_n (pc := 142) hF dX7_takes_142 0 rfl ?_
        refine go_iconst (pc := 143) hF dX7_takes_143 ?_
        refine go_iconst (pc := 144) hF dX7_takes_144 ?_
        refine go_callVP (pc := 145) hF [vi 3, vi 4] [] mv_X7_56 dX7_takes_145 (by omega) r14 (c_X7_closes_no E N σ op₉ d₉ 0 hN₉ ⟨r14, r15, ⟨p0₉, p1₉, p2₉, p3₉, p4₉, p5₉, p6₉⟩⟩ ho hd₉ hop 3 4 (by omega) hno) rfl rfl (Nat.le_of_ble_eq_true rfl) (by decide) ⟨Nat.zero_le _, Nat.zero_le _⟩ ?_
        exact go_zretQ hF hr hlk hQ dX7_takes_148 (by decide) ⟨rfl, rfl⟩
      · exact absurd bq50 (by decide)
    · exact absurd bq29 (by decide)
  · exact absurd bq4 (by decide)
set_option maxHeartbeats 4000000 in
set_option maxRecDepth 100000 in
theorem c_X7_takes_41 (E : En) (N : Nat) (σ : Nat → va_E) (op₉ : Int → Int) (d₉ : Int) {sg vl mt₉ lw ll la : Int → Int} {sz₉ lk₉ ch₉ lp dp ln : Int} (hN₉ : 101 ≤ N) (hR0 : isR E σ op₉ d₉ 0 sg vl mt₉ lw ll la sz₉ lk₉ ch₉ lp dp ln) (ho : okP sg vl mt₉ lw ll la sz₉ lk₉ ch₉ lp dp ln) (hd₉ : 0 ≤ d₉ ∧ d₉ ≤ 3) (hop : ∀ i₉ : Int, 0 ≤ i₉ → i₉ < d₉ → 0 ≤ op₉ i₉ ∧ op₉ i₉ < sz₉) (hs : sz₉ < 80) (hyes : 0 < d₉ ∧ gSign sg sz₉ (op₉ (d₉ - 1)) = 3) : CI E M_X7_takes 6 [vr E 14, vi 41] N σ (fun y₉ σ' => y₉ = 1 ∧ isR E σ' (up op₉ (d₉ - 1) sz₉) (d₉ - 1) 0 (up sg sz₉ 4) (up vl sz₉ 0) (up (up mt₉ sz₉ sz₉) (op₉ (d₉ - 1)) sz₉) (up lw sz₉ 0) ll la (sz₉ + 1) lk₉ ch₉ lp dp ln ∧ ∀ q₉, (q₉ < 14 ∨ 22 < q₉) → σ' q₉ = σ q₉) := by
  refine CT.of2 (own := RX7) (by decide) rfl (Nat.le_of_ble_eq_true rfl) ?_
  intro p e R s m args below meth c Q hF hr hlk hnm hz hR hQ
  obtain ⟨r14, r15, p0₉, p1₉, p2₉, p3₉, p4₉, p5₉, p6₉⟩ := hR0
  have pb0 : 16 < N := by omega
  have pb1 : 17 < N := by omega
  have pb2 : 18 < N := by omega
  have pb3 : 19 < N := by omega
  have pb4 : 20 < N := by omega
  have pb5 : 21 < N := by omega
  have pb6 : 22 < N := by omega
  have hsz := ho.1
  have hlk0 := ho.2.1
  have sgr : ∀ z₉ : Int, 0 ≤ z₉ → z₉ < 80 → 0 ≤ sg z₉ ∧ sg z₉ ≤ 6 := fun z₉ h1 h2 => (ho.2.2.2.2.2.2.1 z₉ h1 h2).1
  refine go_aload_n (pc := 0) hF dX7_takes_0 0 rfl ?_
  refine go_get (pc := 1) hF fl_X7_19 dX7_takes_1 (by omega) r14 rfl ?_
  refine go_if_eq (pc := 4) hF 26 dX7_takes_4 (by decide) ⟨by decide, by decide⟩ (fun bq4 => ?_) (fun bq4 => ?_)
  · refine go_iload_n (pc := 26) hF dX7_takes_26 1 rfl ?_
    refine go_bipush (pc := 27) hF dX7_takes_27 (by decide) ?_
    refine go_icmp_lt (pc := 29) hF 47 dX7_takes_29 (by decide) ⟨by decide, by decide⟩ ⟨by decide, by decide⟩ (fun bq29 => ?_) (fun bq29 => ?_)
    · refine go_iload_n (pc := 47) hF dX7_takes_47 1 rfl ?_
      refine go_bipush (pc := 48) hF dX7_takes_48 (by decide) ?_
      refine go_icmp_lt (pc := 50) hF 68 dX7_takes_50 (by decide) ⟨by decide, by decide⟩ ⟨by decide, by decide⟩ (fun bq50 => ?_) (fun bq50 => ?_)
      · refine go_iload_n (pc := 68) hF dX7_takes_68 1 rfl ?_
        refine go_lookup (pc := 69) hF 142 dX7_takes_69 (by decide) ⟨by decide, by decide⟩ rfl (by decide) ?_
        refine go_aload_n (pc := 142) hF dX7_takes_142 0 rfl ?_
        refine go_iconst (pc := 143) hF dX7_takes_143 ?_
        refine go_iconst (pc := 144) hF dX7_takes_144 ?_
        refine go_callVI (pc := 145) hF [vi 3, vi 4] [] mv_X7_56 dX7_takes_145 (by omega) r14 (c_X7_closes_yes E N σ op₉ d₉ 0 hN₉ ⟨r14, r15, ⟨p0₉, p1₉, p2₉, p3₉, p4₉, p5₉, p6₉⟩⟩ ho hd₉ hop 3 4 (by omega) (by omega) hs hyes) rfl rfl (Nat.le_of_ble_eq_true rfl) (by decide) ⟨Nat.zero_le _, Nat.zero_le _⟩ (fun r_s1 s1₉ h_s1 => ?_)
        obtain ⟨e_s1, ⟨x1_s1, x2_s1, t0_s1, t1_s1, t2_s1, t3_s1, t4_s1, t5_s1, t6_s1⟩, f_s1⟩ := h_s1
        subst e_s1
        exact go_zretQ hF hr hlk hQ dX7_takes_148 (by decide) ⟨rfl, ⟨x1_s1, x2_s1, ⟨t0_s1, t1_s1, t2_s1, t3_s1, t4_s1, t5_s1, t6_s1⟩⟩, (fun jj hjj => by rw [f_s1 jj (by omega)])⟩
      · exact absurd bq50 (by decide)
    · exact absurd bq29 (by decide)
  · exact absurd bq4 (by decide)
set_option maxHeartbeats 4000000 in
set_option maxRecDepth 100000 in
theorem c_X7_takes_93no (E : En) (N : Nat) (σ : Nat → va_E) (op₉ : Int → Int) (d₉ : Int) {sg vl mt₉ lw ll la : Int → Int} {sz₉ lk₉ ch₉ lp dp ln : Int} (hN₉ : 101 ≤ N) (hR0 : isR E σ op₉ d₉ 0 sg vl mt₉ lw ll la sz₉ lk₉ ch₉ lp dp ln) (ho : okP sg vl mt₉ lw ll la sz₉ lk₉ ch₉ lp dp ln) (hd₉ : 0 ≤ d₉ ∧ d₉ ≤ 3) (hop : ∀ i₉ : Int, 0 ≤ i₉ → i₉ < d₉ → 0 ≤ op₉ i₉ ∧ op₉ i₉ < sz₉) (hno : ¬ (0 < d₉ ∧ gSign sg sz₉ (op₉ (d₉ - 1)) = 5)) : CP E M_X7_takes 6 [vr E 14, vi 93] N σ 0 := by
  refine CT.of2 (own := RX7) (by decide) rfl (Nat.le_of_ble_eq_true rfl) ?_
  intro p e R s m args below meth c Q hF hr hlk hnm hz hR hQ
  obtain ⟨r14, r15, p0₉, p1₉, p2₉, p3₉, p4₉, p5₉, p6₉⟩ := hR0
  have pb0 : 16 < N := by omega
  have pb1 : 17 < N := by omega
  have pb2 : 18 < N := by omega
  have pb3 : 19 < N := by omega
  have pb4 : 20 < N := by omega
  have pb5 : 21 < N := by omega
  have pb6 : 22 < N := by omega
  have hsz := ho.1
  have hlk0 := ho.2.1
  have sgr : ∀ z₉ : Int, 0 ≤ z₉ → z₉ < 80 → 0 ≤ sg z₉ ∧ sg z₉ ≤ 6 := fun z₉ h1 h2 => (ho.2.2.2.2.2.2.1 z₉ h1 h2).1
  refine go_aload_n (pc := 0) hF dX7_takes_0 0 rfl ?_
  refine go_get (pc := 1) hF fl_X7_19 dX7_takes_1 (by omega) r14 rfl ?_
  refine go_if_eq (pc := 4) hF 26 dX7_takes_4 (by decide) ⟨by decide, by decide⟩ (fun bq4 => ?_) (fun bq4 => ?_)
  · refine go_iload_n (pc := 26) hF dX7_takes_26 1 rfl ?_
    refine go_bipush (pc := 27) hF dX7_takes_27 (by decide) ?_
    refine go_icmp_lt (pc := 29) hF 47 dX7_takes_29 (by decide) ⟨by decide, by decide⟩ ⟨by decide, by decide⟩ (fun bq29 => ?_) (fun bq29 => ?_)
    · refine go_iload_n (pc := 47) hF dX7_takes_47 1 rfl ?_
      refine go_bipush (pc := 48) hF dX7_takes_48 (by decide) ?_
      refine go_icmp_lt (pc := 50) hF 68 dX7_takes_50 (by decide) ⟨by decide, by decide⟩ ⟨by decide, by decide⟩ (fun bq50 => ?_) (fun bq50 => ?_)
      · exact absurd bq50 (by decide)
      · refine go_iload_n (pc := 53) hF dX7_takes_53 1 rfl ?_
        refine go_bipush (pc := 54) hF dX7_takes_54 (by decide) ?_
        refine go_icmp_gt (pc := 56) hF 68 dX7_takes_56 (by decide) ⟨by decide, by decide⟩ ⟨by decide, by decide⟩ (fun bq56 => ?_) (fun bq56 => ?_)
        · refine go_iload_n (pc := 68) hF dX7_takes_68 1 rfl ?_
          refine go_lookup (pc := 69) hF 149 dX7_takes_69 (by decide) ⟨by decide, by decide⟩ rfl (by decide) ?_
          refine go_aload_n (pc := 149) hF dX7_takes_149 0 rfl ?_
          refine go_iconst (pc := 150) hF dX7_takes_150 ?_
          refine go_bipush (pc := 151) hF dX7_takes_151 (by decide) ?_
          refine go_callVP (pc := 153) hF [vi 5, vi 6] [] mv_X7_56 dX7_takes_153 (by omega) r14 (c_X7_closes_no E N σ op₉ d₉ 0 hN₉ ⟨r14, r15, ⟨p0₉, p1₉, p2₉, p3₉, p4₉, p5₉, p6₉⟩⟩ ho hd₉ hop 5 6 (by omega) hno) rfl rfl (Nat.le_of_ble_eq_true rfl) (by decide) ⟨Nat.zero_le _, Nat.zero_le _⟩ ?_
          exact go_zretQ hF hr hlk hQ dX7_takes_156 (by decide) ⟨rfl, rfl⟩
        · exact absurd bq56 (by decide)
    · exact absurd bq29 (by decide)
  · exact absurd bq4 (by decide)
set_option maxHeartbeats 4000000 in
set_option maxRecDepth 100000 in
theorem c_X7_takes_93 (E : En) (N : Nat) (σ : Nat → va_E) (op₉ : Int → Int) (d₉ : Int) {sg vl mt₉ lw ll la : Int → Int} {sz₉ lk₉ ch₉ lp dp ln : Int} (hN₉ : 101 ≤ N) (hR0 : isR E σ op₉ d₉ 0 sg vl mt₉ lw ll la sz₉ lk₉ ch₉ lp dp ln) (ho : okP sg vl mt₉ lw ll la sz₉ lk₉ ch₉ lp dp ln) (hd₉ : 0 ≤ d₉ ∧ d₉ ≤ 3) (hop : ∀ i₉ : Int, 0 ≤ i₉ → i₉ < d₉ → 0 ≤ op₉ i₉ ∧ op₉ i₉ < sz₉) (hs : sz₉ < 80) (hyes : 0 < d₉ ∧ gSign sg sz₉ (op₉ (d₉ - 1)) = 5) : CI E M_X7_takes 6 [vr E 14, vi 93] N σ (fun y₉ σ' => y₉ = 1 ∧ isR E σ' (up op₉ (d₉ - 1) sz₉) (d₉ - 1) 0 (up sg sz₉ 6) (up vl sz₉ 0) (up (up mt₉ sz₉ sz₉) (op₉ (d₉ - 1)) sz₉) (up lw sz₉ 0) ll la (sz₉ + 1) lk₉ ch₉ lp dp ln ∧ ∀ q₉, (q₉ < 14 ∨ 22 < q₉) → σ' q₉ = σ q₉) := by
  refine CT.of2 (own := RX7) (by decide) rfl (Nat.le_of_ble_eq_true rfl) ?_
  intro p e R s m args below meth c Q hF hr hlk hnm hz hR hQ
  obtain ⟨r14, r15, p0₉, p1₉, p2₉, p3₉, p4₉, p5₉, p6₉⟩ := hR0
  have pb0 : 16 < N := by omega
  have pb1 : 17 < N := by omega
  have pb2 : 18 < N := by omega
  have pb3 : 19 < N := by omega
  have pb4 : 20 < N := by omega
  have pb5 : 21 < N := by omega
  have pb6 : 22 < N := by omega
  have hsz := ho.1
  have hlk0 := ho.2.1
  have sgr : ∀ z₉ : Int, 0 ≤ z₉ → z₉ < 80 → 0 ≤ sg z₉ ∧ sg z₉ ≤ 6 := fun z₉ h1 h2 => (ho.2.2.2.2.2.2.1 z₉ h1 h2).1
  refine go_aload_n (pc := 0) hF dX7_takes_0 0 rfl ?_
  refine go_get (pc := 1) hF fl_X7_19 dX7_takes_1 (by omega) r14 rfl ?_
  refine go_if_eq (pc := 4) hF 26 dX7_takes_4 (by decide) ⟨by decide, by decide⟩ (fun bq4 => ?_) (fun bq4 => ?_)
  · refine go_iload_n (pc := 26) hF dX7_takes_26 1 rfl ?_
    refine go_bipush (pc := 27) hF dX7_takes_27 (by decide) ?_
    refine go_icmp_lt (pc := 29) hF 47 dX7_takes_29 (by decide) ⟨by decide, by decide⟩ ⟨by decide, by decide⟩ (fun bq29 => ?_) (fun bq29 => ?_)
    · refine go_iload_n (pc := 47) hF dX7_takes_47 1 rfl ?_
      refine go_bipush (pc := 48) hF dX7_takes_48 (by decide) ?_
      refine go_icmp_lt (pc := 50) hF 68 dX7_takes_50 (by decide) ⟨by decide, by decide⟩ ⟨by decide, by decide⟩ (fun bq50 => ?_) (fun bq50 => ?_)
      · exact absurd bq50 (by decide)
      · refine go_iload_n (pc := 53) hF dX7_takes_53 1 rfl ?_
        refine go_bipush (pc := 54) hF dX7_takes_54 (by decide) ?_
        refine go_icmp_gt (pc := 56) hF 68 dX7_takes_56 (by decide) ⟨by decide, by decide⟩ ⟨by decide, by decide⟩ (fun bq56 => ?_) (fun bq56 => ?_)
        · refine go_iload_n (pc := 68) hF dX7_takes_68 1 rfl ?_
          refine go_lookup (pc := 69) hF 149 dX7_takes_69 (by decide) ⟨by decide, by decide⟩ rfl (by decide) ?_
          refine go_aload_n (pc := 149) hF dX7_takes_149 0 rfl ?_
          refine go_iconst (pc := 150) hF dX7_takes_150 ?_
          refine go_bipush (pc := 151) hF dX7_takes_151 (by decide) ?_
          refine go_callVI (pc := 153) hF [vi 5, vi 6] [] mv_X7_56 dX7_takes_153 (by omega) r14 (c_X7_closes_yes E N σ op₉ d₉ 0 hN₉ ⟨r14, r15, ⟨p0₉, p1₉, p2₉, p3₉, p4₉, p5₉, p6₉⟩⟩ ho hd₉ hop 5 6 (by omega) (by omega) hs hyes) rfl rfl (Nat.le_of_ble_eq_true rfl) (by decide) ⟨Nat.zero_le _, Nat.zero_le _⟩ (fun r_s1 s1₉ h_s1 => ?_)
          obtain ⟨e_s1, ⟨x1_s1, x2_s1, t0_s1, t1_s1, t2_s1, t3_s1, t4_s1, t5_s1, t6_s1⟩, f_s1⟩ := h_s1
          subst e_s1
          exact go_zretQ hF hr hlk hQ dX7_takes_156 (by decide) ⟨rfl, ⟨x1_s1, x2_s1, ⟨t0_s1, t1_s1, t2_s1, t3_s1, t4_s1, t5_s1, t6_s1⟩⟩, (fun jj hjj => by rw [f_s1 jj (by omega)])⟩
        · exact absurd bq56 (by decide)
    · exact absurd bq29 (by decide)
  · exact absurd bq4 (by decide)
set_option maxHeartbeats 4000000 in
set_option maxRecDepth 100000 in
theorem c_X7_takes_other (E : En) (N : Nat) (σ : Nat → va_E) (op₉ : Int → Int) (d₉ : Int) {sg vl mt₉ lw ll la : Int → Int} {sz₉ lk₉ ch₉ lp dp ln : Int} (hN₉ : 101 ≤ N) (hR0 : isR E σ op₉ d₉ 0 sg vl mt₉ lw ll la sz₉ lk₉ ch₉ lp dp ln) (ho : okP sg vl mt₉ lw ll la sz₉ lk₉ ch₉ lp dp ln) (hd₉ : 0 ≤ d₉ ∧ d₉ ≤ 3) (hop : ∀ i₉ : Int, 0 ≤ i₉ → i₉ < d₉ → 0 ≤ op₉ i₉ ∧ op₉ i₉ < sz₉) (cx : Int) (hc₉ : rg cx) (h1 : ¬ (97 ≤ cx ∧ cx ≤ 102)) (h2 : ¬ (49 ≤ cx ∧ cx ≤ 57)) (h4 : cx ≠ 40 ∧ cx ≠ 41 ∧ cx ≠ 46 ∧ cx ≠ 93 ∧ cx ≠ 124) : CP E M_X7_takes 6 [vr E 14, vi cx] N σ 0 := by
  refine CT.of2 (own := RX7) (by decide) rfl (Nat.le_of_ble_eq_true rfl) ?_
  intro p e R s m args below meth c Q hF hr hlk hnm hz hR hQ
  obtain ⟨r14, r15, p0₉, p1₉, p2₉, p3₉, p4₉, p5₉, p6₉⟩ := hR0
  have pb0 : 16 < N := by omega
  have pb1 : 17 < N := by omega
  have pb2 : 18 < N := by omega
  have pb3 : 19 < N := by omega
  have pb4 : 20 < N := by omega
  have pb5 : 21 < N := by omega
  have pb6 : 22 < N := by omega
  have hsz := ho.1
  have hlk0 := ho.2.1
  have sgr : ∀ z₉ : Int, 0 ≤ z₉ → z₉ < 80 → 0 ≤ sg z₉ ∧ sg z₉ ≤ 6 := fun z₉ h1 h2 => (ho.2.2.2.2.2.2.1 z₉ h1 h2).1
  refine go_aload_n (pc := 0) hF dX7_takes_0 0 rfl ?_
  refine go_get (pc := 1) hF fl_X7_19 dX7_takes_1 (by omega) r14 rfl ?_
  refine go_if_eq (pc := 4) hF 26 dX7_takes_4 (by decide) ⟨by decide, by decide⟩ (fun bq4 => ?_) (fun bq4 => ?_)
  · refine go_iload_n (pc := 26) hF dX7_takes_26 1 rfl ?_
    refine go_bipush (pc := 27) hF dX7_takes_27 (by decide) ?_
    refine go_icmp_lt (pc := 29) hF 47 dX7_takes_29 (by decide) (by omega) ⟨by decide, by decide⟩ (fun bq29 => ?_) (fun bq29 => ?_)
    · refine go_iload_n (pc := 47) hF dX7_takes_47 1 rfl ?_
      refine go_bipush (pc := 48) hF dX7_takes_48 (by decide) ?_
      refine go_icmp_lt (pc := 50) hF 68 dX7_takes_50 (by decide) (by omega) ⟨by decide, by decide⟩ (fun bq50 => ?_) (fun bq50 => ?_)
      · refine go_iload_n (pc := 68) hF dX7_takes_68 1 rfl ?_
        refine go_lookup (pc := 69) (off := 88) hF 157 dX7_takes_69 (by decide) (by omega) (by show (if (40 : Int) = cx then _ else if (41 : Int) = cx then _ else if (46 : Int) = cx then _ else if (93 : Int) = cx then _ else if (124 : Int) = cx then _ else 88) = 88; rw [if_neg (by omega), if_neg (by omega), if_neg (by omega), if_neg (by omega), if_neg (by omega)]) (by decide) ?_
        refine go_iconst (pc := 157) hF dX7_takes_157 ?_
        exact go_zretQ hF hr hlk hQ dX7_takes_158 (by decide) ⟨rfl, rfl⟩
      · refine go_iload_n (pc := 53) hF dX7_takes_53 1 rfl ?_
        refine go_bipush (pc := 54) hF dX7_takes_54 (by decide) ?_
        refine go_icmp_gt (pc := 56) hF 68 dX7_takes_56 (by decide) (by omega) ⟨by decide, by decide⟩ (fun bq56 => ?_) (fun bq56 => ?_)
        · refine go_iload_n (pc := 68) hF dX7_takes_68 1 rfl ?_
          refine go_lookup (pc := 69) (off := 88) hF 157 dX7_takes_69 (by decide) (by omega) (by show (if (40 : Int) = cx then _ else if (41 : Int) = cx then _ else if (46 : Int) = cx then _ else if (93 : Int) = cx then _ else if (124 : Int) = cx then _ else 88) = 88; rw [if_neg (by omega), if_neg (by omega), if_neg (by omega), if_neg (by omega), if_neg (by omega)]) (by decide) ?_
          refine go_iconst (pc := 157) hF dX7_takes_157 ?_
          exact go_zretQ hF hr hlk hQ dX7_takes_158 (by decide) ⟨rfl, rfl⟩
        · exact absurd bq56 (by omega)
    · refine go_iload_n (pc := 32) hF dX7_takes_32 1 rfl ?_
      refine go_bipush (pc := 33) hF dX7_takes_33 (by decide) ?_
      refine go_icmp_ge (pc := 35) hF 47 dX7_takes_35 (by decide) (by omega) ⟨by decide, by decide⟩ (fun bq35 => ?_) (fun bq35 => ?_)
      · refine go_iload_n (pc := 47) hF dX7_takes_47 1 rfl ?_
        refine go_bipush (pc := 48) hF dX7_takes_48 (by decide) ?_
        refine go_icmp_lt (pc := 50) hF 68 dX7_takes_50 (by decide) (by omega) ⟨by decide, by decide⟩ (fun bq50 => ?_) (fun bq50 => ?_)
        · refine go_iload_n (pc := 68) hF dX7_takes_68 1 rfl ?_
          refine go_lookup (pc := 69) (off := 88) hF 157 dX7_takes_69 (by decide) (by omega) (by show (if (40 : Int) = cx then _ else if (41 : Int) = cx then _ else if (46 : Int) = cx then _ else if (93 : Int) = cx then _ else if (124 : Int) = cx then _ else 88) = 88; rw [if_neg (by omega), if_neg (by omega), if_neg (by omega), if_neg (by omega), if_neg (by omega)]) (by decide) ?_
          refine go_iconst (pc := 157) hF dX7_takes_157 ?_
          exact go_zretQ hF hr hlk hQ dX7_takes_158 (by decide) ⟨rfl, rfl⟩
        · refine go_iload_n (pc := 53) hF dX7_takes_53 1 rfl ?_
          refine go_bipush (pc := 54) hF dX7_takes_54 (by decide) ?_
          refine go_icmp_gt (pc := 56) hF 68 dX7_takes_56 (by decide) (by omega) ⟨by decide, by decide⟩ (fun bq56 => ?_) (fun bq56 => ?_)
          · refine go_iload_n (pc := 68) hF dX7_takes_68 1 rfl ?_
            refine go_lookup (pc := 69) (off := 88) hF 157 dX7_takes_69 (by decide) (by omega) (by show (if (40 : Int) = cx then _ else if (41 : Int) = cx then _ else if (46 : Int) = cx then _ else if (93 : Int) = cx then _ else if (124 : Int) = cx then _ else 88) = 88; rw [if_neg (by omega), if_neg (by omega), if_neg (by omega), if_neg (by omega), if_neg (by omega)]) (by decide) ?_
            refine go_iconst (pc := 157) hF dX7_takes_157 ?_
            exact go_zretQ hF hr hlk hQ dX7_takes_158 (by decide) ⟨rfl, rfl⟩
          · exact absurd bq56 (by omega)
      · exact absurd bq35 (by omega)
  · exact absurd bq4 (by decide)
/-- one₉ byte more₉: none where it can₉ not stand -/
def zst (c : Int) (s : Zs) (u₉ : Tr) (fg : Int) : Option (Zs × Tr × Int) :=
  if c = 32 then some (s, u₉, fg)
  else if fg ≠ 0 then (if c = 91 then some ((u₉, fg, .nil) :: s, .nil, 0) else none)
  else if 97 ≤ c ∧ c ≤ 102 then (if zK s + tLks u₉ < 24 then some (s, tSn u₉ (.nest c .nil), 0) else none)
  else if 49 ≤ c ∧ c ≤ 57 then (if s.length < 3 then some (s, u₉, c - 48) else none)
  else if c = 46 then some (s, tSn u₉ (.nest 46 .nil), 0)
  else if c = 40 then (if s.length < 3 then some ((u₉, 0, .nil) :: s, .nil, 0) else none)
  else if c = 124 then (match s with | [] => none | f₉ :: r₉ => if f₉.2.1 = 0 then some ((f₉.1, -1, u₉) :: r₉, .nil, 0) else none)
  else if c = 41 then (match s with | [] => none | f₉ :: r₉ => if f₉.2.1 = -1 then some (r₉, tSn f₉.1 (.append f₉.2.2 u₉), 0) else none)
  else if c = 93 then (match s with | [] => none | f₉ :: r₉ => if 1 ≤ f₉.2.1 then some (r₉, tSn f₉.1 (.tag f₉.2.1.toNat u₉), 0) else none)
  else none

set_option maxHeartbeats 4000000 in
set_option maxRecDepth 100000 in
theorem c_X7_takes (E : En) (N : Nat) (σ : Nat → va_E) {op₉ sg vl mt₉ lw ll la : Int → Int} {d₉ fg sz₉ lk₉ ch₉ lp dp ln : Int} {s : Zs} {u₉ : Tr} (c : Int) (hN₉ : 101 ≤ N) (hR0 : isR E σ op₉ d₉ fg sg vl mt₉ lw ll la sz₉ lk₉ ch₉ lp dp ln) (hC : RC op₉ d₉ sg vl mt₉ lw ll la sz₉ lk₉ ch₉ lp dp ln s u₉) (hfg : 0 ≤ fg ∧ fg ≤ 9) (hf3 : fg ≠ 0 → d₉ < 3) (hs : sz₉ < 80) (hc₉ : (0 ≤ c ∧ c ≤ 127) ∧ c ≠ 32) : CI E M_X7_takes 6 [vr E 14, vi c] N σ (fun y₉ σ' => (∀ q₉, (q₉ < 14 ∨ 22 < q₉) → σ' q₉ = σ q₉) ∧ ((y₉ = 0 ∧ zst c s u₉ fg = none ∧ σ' = σ) ∨ (y₉ = 1 ∧ ∃ (s' : Zs) (u' : Tr) (fg' : Int) (op' sg' vl' mt' lw' ll' la' : Int → Int) (d' sz' lk' ch' lp' dp' ln' : Int), zst c s u₉ fg = some (s', u', fg') ∧ isR E σ' op' d' fg' sg' vl' mt' lw' ll' la' sz' lk' ch' lp' dp' ln' ∧ RC op' d' sg' vl' mt' lw' ll' la' sz' lk' ch' lp' dp' ln' s' u' ∧ sz' + (if fg' = 0 then 0 else 1) ≤ sz₉ + (if fg = 0 then 0 else 1) + 1 ∧ (0 ≤ fg' ∧ fg' ≤ 9) ∧ (fg' ≠ 0 → d' < 3)))) := by
  have hC0 := hC
  obtain ⟨ho, hd₉, hW, hop, hzC, hB₉, hu, hpa, hsz, hlk, hch, hlp, hdp, hln, h3⟩ := hC
  have hd3 : 0 ≤ d₉ ∧ d₉ ≤ 3 := by omega
  have hopr : ∀ i₉ : Int, 0 ≤ i₉ → i₉ < d₉ → 0 ≤ op₉ i₉ ∧ op₉ i₉ < sz₉ := fun i₉ i0₉ i1₉ => by
    have := zOp_lt s hop i₉.toNat (by omega)
    rw [show ((i₉.toNat : Nat) : Int) = i₉ by omega] at this
    omega
  have hne : ¬ c = 32 := hc₉.2
  have bb := zCh_le s hW
  have bu := tChs_le u₉ hu
  have hb1 := ho.1
  have hb2 := ho.2.1
  by_cases hf0 : fg = 0
  · subst hf0
    have zf : ¬ ((0 : Int) ≠ 0) := by decide
    by_cases cl₉ : 97 ≤ c ∧ c ≤ 102
    · by_cases k24 : lk₉ < 24
      · have ear : arU sg sz₉ op₉ d₉.toNat = zL s := by rw [show d₉.toNat = s.length by omega]; exact zC_ar s hW hop (by omega) hzC
        have lr := zL_rg s
        refine CI.mono (c_X7_takes_look E N σ op₉ d₉ hN₉ hR0 ho hd3 hopr c cl₉ k24 hs (by rw [ear]; omega)) (fun y₉ σ' h => ⟨h.2.2, Or.inr ⟨h.1, s, tSn u₉ (.nest c .nil), 0, _, _, _, _, _, _, _, _, _, _, _, _, _, _, ?_, h.2.1, ?_, ?_, by omega, fun q₉ => absurd rfl q₉⟩⟩)
        · unfold zst; rw [if_neg hne, if_neg zf, if_pos cl₉, if_pos (by omega)]
        · rw [ear]; exact hC0.look hs k24 cl₉
        · rw [if_pos rfl]; omega
      · refine CI.mono (c_X7_takes_lookno E N σ op₉ d₉ hN₉ hR0 ho hd3 hopr c cl₉ (by omega)) (fun y₉ σ' h => ⟨fun q₉ _ => by rw [h.2], Or.inl ⟨h.1, ?_, h.2⟩⟩)
        unfold zst; rw [if_neg hne, if_neg zf, if_pos cl₉, if_neg (by omega)]
    · by_cases cf₉ : 49 ≤ c ∧ c ≤ 57
      · by_cases d3₉ : d₉ < 3
        · refine CI.mono (c_X7_takes_fg E N σ op₉ d₉ hN₉ hR0 ho hd3 hopr c cf₉ d3₉) (fun y₉ σ' h => ⟨h.2.2, Or.inr ⟨h.1, s, u₉, c - 48, _, _, _, _, _, _, _, _, _, _, _, _, _, _, ?_, h.2.1, hC0, ?_, by omega, fun _ => d3₉⟩⟩)
          · unfold zst; rw [if_neg hne, if_neg zf, if_neg cl₉, if_pos cf₉, if_pos (by omega)]
          · rw [if_pos rfl, if_neg (by omega)]; omega
        · refine CI.mono (c_X7_takes_fgno E N σ op₉ d₉ hN₉ hR0 ho hd3 hopr c cf₉ (by omega)) (fun y₉ σ' h => ⟨fun q₉ _ => by rw [h.2], Or.inl ⟨h.1, ?_, h.2⟩⟩)
          unfold zst; rw [if_neg hne, if_neg zf, if_neg cl₉, if_pos cf₉, if_neg (by omega)]
      · by_cases c46₉ : c = 46
        · subst c46₉
          refine CI.mono (c_X7_takes_46 E N σ op₉ d₉ hN₉ hR0 ho hd3 hopr hs) (fun y₉ σ' h => ⟨h.2.2, Or.inr ⟨h.1, s, _, 0, _, _, _, _, _, _, _, _, _, _, _, _, _, _, ?_, h.2.1, hC0.work hs, by rw [if_pos rfl]; omega, by omega, fun q₉ => absurd rfl q₉⟩⟩)
          unfold zst; rw [if_neg hne, if_neg zf, if_neg cl₉, if_neg cf₉, if_pos rfl]
        · by_cases c40₉ : c = 40
          · subst c40₉
            by_cases d3₉ : d₉ < 3
            · refine CI.mono (c_X7_takes_40 E N σ op₉ d₉ hN₉ hR0 ho hd3 hopr hs d3₉) (fun y₉ σ' h => ⟨h.2.2, Or.inr ⟨h.1, _, _, 0, _, _, _, _, _, _, _, _, _, _, _, _, _, _, ?_, h.2.1, hC0.choice hs d3₉, by rw [if_pos rfl]; omega, by omega, fun q₉ => absurd rfl q₉⟩⟩)
              unfold zst; rw [if_neg hne, if_neg zf, if_neg cl₉, if_neg cf₉, if_neg c46₉, if_pos rfl, if_pos (by omega)]
            · refine CI.mono (c_X7_takes_40no E N σ op₉ d₉ hN₉ hR0 ho hd3 hopr (by omega)) (fun y₉ σ' h => ⟨fun q₉ _ => by rw [h.2], Or.inl ⟨h.1, ?_, h.2⟩⟩)
              unfold zst; rw [if_neg hne, if_neg zf, if_neg cl₉, if_neg cf₉, if_neg c46₉, if_pos rfl, if_neg (by omega)]
          · by_cases co : c = 124 ∨ c = 41 ∨ c = 93
            · cases s with
              | nil =>
                have hl0 : ([] : Zs).length = 0 := rfl
                rw [hl0] at hd₉
                rcases co with e | e | e
                · subst e
                  refine CI.mono (c_X7_takes_124no E N σ op₉ d₉ hN₉ hR0 ho hd3 hopr (fun q₉ => by omega)) (fun y₉ σ' h => ⟨fun q₉ _ => by rw [h.2], Or.inl ⟨h.1, rfl, h.2⟩⟩)
                · subst e
                  refine CI.mono (c_X7_takes_41no E N σ op₉ d₉ hN₉ hR0 ho hd3 hopr (fun q₉ => by omega)) (fun y₉ σ' h => ⟨fun q₉ _ => by rw [h.2], Or.inl ⟨h.1, rfl, h.2⟩⟩)
                · subst e
                  refine CI.mono (c_X7_takes_93no E N σ op₉ d₉ hN₉ hR0 ho hd3 hopr (fun q₉ => by omega)) (fun y₉ σ' h => ⟨fun q₉ _ => by rw [h.2], Or.inl ⟨h.1, rfl, h.2⟩⟩)
              | cons f₉ r₉ =>
                have hl0 : (f₉ :: r₉).length = r₉.length + 1 := rfl
                rw [hl0] at hd₉
                have top₉ := zC_top hW hop (sz₉ := sz₉) (by omega) hzC
                rw [show (r₉.length : Int) = d₉ - 1 by omega] at top₉
                have hkd := hW.2.2.1
                rcases co with e | e | e
                · subst e
                  by_cases k0₉ : f₉.2.1 = 0
                  · rw [if_pos k0₉] at top₉
                    refine CI.mono (c_X7_takes_124 E N σ op₉ d₉ hN₉ hR0 ho hd3 hopr hs ⟨by omega, top₉⟩) (fun y₉ σ' h => ⟨h.2.2, Or.inr ⟨h.1, _, _, 0, _, _, _, _, _, _, _, _, _, _, _, _, _, _, ?_, h.2.1, hC0.turn k0₉ hs, by rw [if_pos rfl]; omega, by omega, fun q₉ => absurd rfl q₉⟩⟩)
                    show (if f₉.2.1 = 0 then _ else none) = _; rw [if_pos k0₉]
                  · rw [if_neg k0₉] at top₉
                    refine CI.mono (c_X7_takes_124no E N σ op₉ d₉ hN₉ hR0 ho hd3 hopr (fun q₉ => by have := q₉.2; rw [top₉] at this; split at this <;> omega)) (fun y₉ σ' h => ⟨fun q₉ _ => by rw [h.2], Or.inl ⟨h.1, ?_, h.2⟩⟩)
                    show (if f₉.2.1 = 0 then _ else none) = _; rw [if_neg k0₉]
                · subst e
                  by_cases k0₉ : f₉.2.1 = -1
                  · rw [if_neg (by omega), if_pos k0₉] at top₉
                    refine CI.mono (c_X7_takes_41 E N σ op₉ d₉ hN₉ hR0 ho hd3 hopr hs ⟨by omega, top₉⟩) (fun y₉ σ' h => ⟨h.2.2, Or.inr ⟨h.1, _, _, 0, _, _, _, _, _, _, _, _, _, _, _, _, _, _, ?_, h.2.1, hC0.endChoice k0₉ hs, by rw [if_pos rfl]; omega, by omega, fun q₉ => absurd rfl q₉⟩⟩)
                    show (if f₉.2.1 = -1 then _ else none) = _; rw [if_pos k0₉]
                  · refine CI.mono (c_X7_takes_41no E N σ op₉ d₉ hN₉ hR0 ho hd3 hopr (fun q₉ => by have := q₉.2; rw [top₉, if_neg k0₉] at this; split at this <;> omega)) (fun y₉ σ' h => ⟨fun q₉ _ => by rw [h.2], Or.inl ⟨h.1, ?_, h.2⟩⟩)
                    show (if f₉.2.1 = -1 then _ else none) = _; rw [if_neg k0₉]
                · subst e
                  by_cases k0₉ : 1 ≤ f₉.2.1
                  · rw [if_neg (by omega), if_neg (by omega)] at top₉
                    refine CI.mono (c_X7_takes_93 E N σ op₉ d₉ hN₉ hR0 ho hd3 hopr hs ⟨by omega, top₉⟩) (fun y₉ σ' h => ⟨h.2.2, Or.inr ⟨h.1, _, _, 0, _, _, _, _, _, _, _, _, _, _, _, _, _, _, ?_, h.2.1, hC0.endLoop ⟨k0₉, hkd.2⟩ hs, by rw [if_pos rfl]; omega, by omega, fun q₉ => absurd rfl q₉⟩⟩)
                    show (if 1 ≤ f₉.2.1 then _ else none) = _; rw [if_pos k0₉]
                  · refine CI.mono (c_X7_takes_93no E N σ op₉ d₉ hN₉ hR0 ho hd3 hopr (fun q₉ => by have := q₉.2; rw [top₉] at this; split at this; omega; split at this <;> omega)) (fun y₉ σ' h => ⟨fun q₉ _ => by rw [h.2], Or.inl ⟨h.1, ?_, h.2⟩⟩)
                    show (if 1 ≤ f₉.2.1 then _ else none) = _; rw [if_neg k0₉]
            · refine CI.mono (c_X7_takes_other E N σ op₉ d₉ hN₉ hR0 ho hd3 hopr c (by omega) cl₉ cf₉ (by omega)) (fun y₉ σ' h => ⟨fun q₉ _ => by rw [h.2], Or.inl ⟨h.1, ?_, h.2⟩⟩)
              unfold zst; rw [if_neg hne, if_neg zf, if_neg cl₉, if_neg cf₉, if_neg c46₉, if_neg c40₉, if_neg (by omega), if_neg (by omega), if_neg (by omega)]
  · by_cases c91 : c = 91
    · subst c91
      refine CI.mono (c_X7_takes_fig91 E N σ op₉ d₉ fg hN₉ hR0 ho hd3 hopr hf0 hfg (by omega) hs (hf3 hf0)) (fun y₉ σ' h => ⟨h.2.2, Or.inr ⟨h.1, _, _, 0, _, _, _, _, _, _, _, _, _, _, _, _, _, _, ?_, h.2.1, hC0.loop hs (hf3 hf0) (by omega), by rw [if_pos rfl, if_neg hf0]; omega, by omega, fun q₉ => absurd rfl q₉⟩⟩)
      unfold zst; rw [if_neg hne, if_pos hf0, if_pos rfl]
    · refine CI.mono (c_X7_takes_figno E N σ op₉ d₉ fg hN₉ hR0 ho hd3 hopr c (by omega) hf0 hfg c91) (fun y₉ σ' h => ⟨fun q₉ _ => by rw [h.2], Or.inl ⟨h.1, ?_, h.2⟩⟩)
      unfold zst; rw [if_neg hne, if_pos hf0, if_neg c91]

