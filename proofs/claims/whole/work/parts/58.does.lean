/-! The reference₉: goes₉. -/
theorem cm_TK0 {g₉ : Int → Int} {row₉ mo le₉ B₉ : Int} {T : XS} {Pq : Int → Prop} (h : TK₉ g₉ T B₉) (hr : 0 ≤ row₉ ∧ row₉ < 343) (hl : 0 ≤ le₉ ∧ mo ≤ B₉) (h1 : Pq mo) (h2 : Pq le₉) (h3 : ∀ c, Pq c → le₉ ≤ c ∧ c ≤ mo) : TK₉ (cmF g₉ 0 row₉ mo le₉) (fun r₉ c => T r₉ c ∨ (r₉ = row₉ ∧ Pq c)) B₉ :=
  (cm_TK (a₉ := 0) (h.ext (fun z₉ _ _ => by show g₉ (0 + z₉) = g₉ z₉; rw [Int.zero_add])) hr hl h1 h2 h3).ext (fun z₉ _ _ => by show _ = cmF g₉ 0 row₉ mo le₉ (0 + z₉); rw [Int.zero_add])
theorem TK₉.iffR {g₉ : Int → Int} {S₉ T : XS} {B₉ : Int} (h : TK₉ g₉ S₉ B₉) (e : ∀ r₉ c, 0 ≤ r₉ → r₉ < 343 → (S₉ r₉ c ↔ T r₉ c)) : TK₉ g₉ T B₉ := fun r₉ r0 r1₉ => by
  rcases h r₉ r0 r1₉ with q₉ | q₉
  · exact Or.inl ⟨q₉.1, fun c z₉ => q₉.2 c ((e r₉ c r0 r1₉).mpr z₉)⟩
  · exact Or.inr ⟨q₉.1, (e _ _ r0 r1₉).mp q₉.2.1, (e _ _ r0 r1₉).mp q₉.2.2.1, fun c z₉ => q₉.2.2.2 c ((e r₉ c r0 r1₉).mpr z₉)⟩
theorem TK_none {g₉ : Int → Int} {B₉ : Int} (h : ∀ z₉ : Int, 0 ≤ z₉ → z₉ < 686 → g₉ z₉ = -1) : TK₉ g₉ (fun _ _ => False) B₉ := fun r₉ r0 r1₉ => Or.inl ⟨h r₉ r0 (by omega), fun _ z₉ => z₉⟩
theorem TK_dead {g₉ : Int → Int} {S₉ : XS} {B₉ : Int} (h : TK₉ g₉ S₉ B₉) {r₉ : Int} (hr : 0 ≤ r₉ ∧ r₉ < 343) (hn : g₉ r₉ < 0) : ∀ c, ¬ S₉ r₉ c := by
  rcases h r₉ hr.1 hr.2 with q₉ | q₉
  · exact q₉.2
  · have := (q₉.2.2.2 _ q₉.2.1).1
    omega
theorem TK_live {g₉ : Int → Int} {S₉ : XS} {B₉ : Int} (h : TK₉ g₉ S₉ B₉) {r₉ : Int} (hr : 0 ≤ r₉ ∧ r₉ < 343) (hn : 0 ≤ g₉ r₉) : (0 ≤ g₉ (343 + r₉) ∧ g₉ (343 + r₉) ≤ g₉ r₉ ∧ g₉ r₉ ≤ B₉) ∧ S₉ r₉ (g₉ r₉) ∧ S₉ r₉ (g₉ (343 + r₉)) ∧ ∀ c, S₉ r₉ c → g₉ (343 + r₉) ≤ c ∧ c ≤ g₉ r₉ := by
  rcases h r₉ hr.1 hr.2 with q₉ | q₉
  · omega
  · have := (q₉.2.2.2 _ q₉.2.1).1
    exact ⟨by omega, q₉.2⟩
set_option maxHeartbeats 4000000 in
set_option maxRecDepth 100000 in
theorem c_X11_comes (E : En) (N : Nat) (σ : Nat → va_E) (ci nn : Nat) {g₉ : Int → Int} (hci : ci < N) (hnn₉ : nn ≤ 65536) (zc : σ ci = ai E nn g₉) (a₉ row₉ mo le₉ : Int) (ha₉ : 0 ≤ a₉ ∧ a₉ + 686 ≤ nn) (hrow : 0 ≤ row₉ ∧ row₉ < 343) (hg : rg (g₉ (a₉ + row₉))) (hlo : 0 ≤ g₉ (a₉ + row₉) → rg (g₉ (a₉ + 343 + row₉))) (hmo : rg mo) (hle : rg le₉) : CV E M_X11_comes 1 [vr E ci, vi a₉, vi row₉, vi mo, vi le₉] N σ (fun σ' => σ' ci = ai E nn (cmF g₉ a₉ row₉ mo le₉) ∧ ∀ q₉, q₉ ≠ ci → σ' q₉ = σ q₉) := by
  refine CT.of2 (own := RX11) (by decide) rfl (Nat.le_of_ble_eq_true rfl) ?_
  intro p e R s m args below meth c Q hF hr hlk hnm hz hR hQ
  refine go_aload_n (pc := 0) hF dX11_comes_0 0 rfl ?_
  refine go_iload_n (pc := 1) hF dX11_comes_1 1 rfl ?_
  refine go_iload_n (pc := 2) hF dX11_comes_2 2 rfl ?_
  refine go_iadd (pc := 3) hF dX11_comes_3 ?_
  refine go_iald (pc := 4) (hn := hnn₉) hF dX11_comes_4 hci zc (by omega)  ?_
  refine go_if_lt (pc := 5) hF 12 dX11_comes_5 (by decide) (by omega) (fun bq5 => ?_) (fun bq5 => ?_)
  · refine go_iconst (pc := 12) hF dX11_comes_12 ?_
    refine go_istore (pc := 13) hF [(5, vi 0), (0, vr E ci), (1, vi a₉), (2, vi row₉), (3, vi mo), (4, vi le₉)] dX11_comes_13 rfl (by decide) ?_
    refine go_aload_n (pc := 15) hF dX11_comes_15 1 rfl ?_
    refine go_iload_n (pc := 16) hF dX11_comes_16 2 rfl ?_
    refine go_iload_n (pc := 17) hF dX11_comes_17 3 rfl ?_
    refine go_iadd (pc := 18) hF dX11_comes_18 ?_
    refine go_iload (pc := 19) hF dX11_comes_19 0 rfl ?_
    refine go_if_eq (pc := 21) hF 41 dX11_comes_21 (by decide) ⟨by decide, by decide⟩ (fun bq21 => ?_) (fun bq21 => ?_)
    · refine go_iload_n (pc := 41) hF dX11_comes_41 4 rfl ?_
      refine go_iast (pc := 42) hF dX11_comes_42 hci zc (by omega) (fun s1₉ u_s1 f_s1 => ?_) hnn₉
      refine go_iload_n (pc := 43) hF dX11_comes_43 2 rfl ?_
      refine go_sipush (pc := 44) hF dX11_comes_44 (by decide) ?_
      refine go_iadd (pc := 47) hF dX11_comes_47 ?_
      refine go_iload_n (pc := 48) hF dX11_comes_48 3 rfl ?_
      refine go_iadd (pc := 49) hF dX11_comes_49 ?_
      refine go_istore (pc := 50) hF [(6, vi ((a₉ + 343) + row₉)), (5, vi 0), (0, vr E ci), (1, vi a₉), (2, vi row₉), (3, vi mo), (4, vi le₉)] dX11_comes_50 rfl (by decide) ?_
      refine go_aload_n (pc := 52) hF dX11_comes_52 2 rfl ?_
      refine go_iload (pc := 53) hF dX11_comes_53 0 rfl ?_
      refine go_iload (pc := 55) hF dX11_comes_55 1 rfl ?_
      refine go_if_eq (pc := 57) hF 76 dX11_comes_57 (by decide) ⟨by decide, by decide⟩ (fun bq57 => ?_) (fun bq57 => ?_)
      · refine go_iload (pc := 76) hF dX11_comes_76 6 rfl ?_
        refine go_iast (pc := 78) hF dX11_comes_78 hci u_s1 (by omega) (fun s2₉ u_s2 f_s2 => ?_) hnn₉
        have h1 : (if 0 ≤ g₉ (a₉ + row₉) ∧ mo < g₉ (a₉ + row₉) then g₉ (a₉ + row₉) else mo) = mo := by rw [if_neg (by omega)]
        have h2 : (if 0 ≤ g₉ (a₉ + row₉) ∧ g₉ (a₉ + 343 + row₉) < le₉ then g₉ (a₉ + 343 + row₉) else le₉) = le₉ := by rw [if_neg (by omega)]
        exact go_vretQ hF hr hlk hQ dX11_comes_79 ⟨by unfold cmF; rw [h1, h2]; exact u_s2, (fun jj hjj => by rw [f_s2 jj (by omega), f_s1 jj (by omega)])⟩
      · exact absurd bq57 (by decide)
    · exact absurd bq21 (by decide)
  · refine go_iconst (pc := 8) hF dX11_comes_8 ?_
    refine go_goto (pc := 9) hF 13 dX11_comes_9 (by decide) ?_
    refine go_istore (pc := 13) hF [(5, vi 1), (0, vr E ci), (1, vi a₉), (2, vi row₉), (3, vi mo), (4, vi le₉)] dX11_comes_13 rfl (by decide) ?_
    refine go_aload_n (pc := 15) hF dX11_comes_15 1 rfl ?_
    refine go_iload_n (pc := 16) hF dX11_comes_16 2 rfl ?_
    refine go_iload_n (pc := 17) hF dX11_comes_17 3 rfl ?_
    refine go_iadd (pc := 18) hF dX11_comes_18 ?_
    refine go_iload (pc := 19) hF dX11_comes_19 0 rfl ?_
    refine go_if_eq (pc := 21) hF 41 dX11_comes_21 (by decide) ⟨by decide, by decide⟩ (fun bq21 => ?_) (fun bq21 => ?_)
    · exact absurd bq21 (by decide)
    · refine go_aload_n (pc := 24) hF dX11_comes_24 1 rfl ?_
      refine go_iload_n (pc := 25) hF dX11_comes_25 2 rfl ?_
      refine go_iload_n (pc := 26) hF dX11_comes_26 3 rfl ?_
      refine go_iadd (pc := 27) hF dX11_comes_27 ?_
      refine go_iald (pc := 28) (hn := hnn₉) hF dX11_comes_28 hci zc (by omega)  ?_
      refine go_iload_n (pc := 29) hF dX11_comes_29 4 rfl ?_
      refine go_icmp_le (pc := 30) hF 41 dX11_comes_30 (by decide) (by omega) (by omega) (fun bq30 => ?_) (fun bq30 => ?_)
      · refine go_iload_n (pc := 41) hF dX11_comes_41 4 rfl ?_
        refine go_iast (pc := 42) hF dX11_comes_42 hci zc (by omega) (fun s3₉ u_s3 f_s3 => ?_) hnn₉
        refine go_iload_n (pc := 43) hF dX11_comes_43 2 rfl ?_
        refine go_sipush (pc := 44) hF dX11_comes_44 (by decide) ?_
        refine go_iadd (pc := 47) hF dX11_comes_47 ?_
        refine go_iload_n (pc := 48) hF dX11_comes_48 3 rfl ?_
        refine go_iadd (pc := 49) hF dX11_comes_49 ?_
        refine go_istore (pc := 50) hF [(6, vi ((a₉ + 343) + row₉)), (5, vi 1), (0, vr E ci), (1, vi a₉), (2, vi row₉), (3, vi mo), (4, vi le₉)] dX11_comes_50 rfl (by decide) ?_
        refine go_aload_n (pc := 52) hF dX11_comes_52 2 rfl ?_
        refine go_iload (pc := 53) hF dX11_comes_53 0 rfl ?_
        refine go_iload (pc := 55) hF dX11_comes_55 1 rfl ?_
        refine go_if_eq (pc := 57) hF 76 dX11_comes_57 (by decide) ⟨by decide, by decide⟩ (fun bq57 => ?_) (fun bq57 => ?_)
        · exact absurd bq57 (by decide)
        · have glo := hlo (by omega)
          refine go_aload_n (pc := 60) hF dX11_comes_60 2 rfl ?_
          refine go_iload (pc := 61) hF dX11_comes_61 0 rfl ?_
          refine go_iald (pc := 63) (hn := hnn₉) hF dX11_comes_63 hci u_s3 (by omega)  ?_
          rw [up_ne _ _ (by omega)]
          refine go_iload (pc := 64) hF dX11_comes_64 6 rfl ?_
          refine go_icmp_ge (pc := 66) hF 76 dX11_comes_66 (by decide) (by omega) (by omega) (fun bq66 => ?_) (fun bq66 => ?_)
          · refine go_iload (pc := 76) hF dX11_comes_76 6 rfl ?_
            refine go_iast (pc := 78) hF dX11_comes_78 hci u_s3 (by omega) (fun s4₉ u_s4 f_s4 => ?_) hnn₉
            have h1 : (if 0 ≤ g₉ (a₉ + row₉) ∧ mo < g₉ (a₉ + row₉) then g₉ (a₉ + row₉) else mo) = mo := by rw [if_neg (by omega)]
            have h2 : (if 0 ≤ g₉ (a₉ + row₉) ∧ g₉ (a₉ + 343 + row₉) < le₉ then g₉ (a₉ + 343 + row₉) else le₉) = le₉ := by rw [if_neg (by omega)]
            exact go_vretQ hF hr hlk hQ dX11_comes_79 ⟨by unfold cmF; rw [h1, h2]; exact u_s4, (fun jj hjj => by rw [f_s4 jj (by omega), f_s3 jj (by omega)])⟩
          · refine go_aload_n (pc := 69) hF dX11_comes_69 2 rfl ?_
            refine go_iload (pc := 70) hF dX11_comes_70 0 rfl ?_
            refine go_iald (pc := 72) (hn := hnn₉) hF dX11_comes_72 hci u_s3 (by omega)  ?_
            rw [up_ne _ _ (by omega)]
            refine go_goto (pc := 73) hF 78 dX11_comes_73 (by decide) ?_
            refine go_iast (pc := 78) hF dX11_comes_78 hci u_s3 (by omega) (fun s5 u_s5 f_s5 => ?_) hnn₉
            have h1 : (if 0 ≤ g₉ (a₉ + row₉) ∧ mo < g₉ (a₉ + row₉) then g₉ (a₉ + row₉) else mo) = mo := by rw [if_neg (by omega)]
            have h2 : (if 0 ≤ g₉ (a₉ + row₉) ∧ g₉ (a₉ + 343 + row₉) < le₉ then g₉ (a₉ + 343 + row₉) else le₉) = g₉ (a₉ + 343 + row₉) := by rw [if_pos (by omega)]
            exact go_vretQ hF hr hlk hQ dX11_comes_79 ⟨by unfold cmF; rw [h1, h2]; exact u_s5, (fun jj hjj => by rw [f_s5 jj (by omega), f_s3 jj (by omega)])⟩
      · refine go_aload_n (pc := 33) hF dX11_comes_33 1 rfl ?_
        refine go_iload_n (pc := 34) hF dX11_comes_34 2 rfl ?_
        refine go_iload_n (pc := 35) hF dX11_comes_35 3 rfl ?_
        refine go_iadd (pc := 36) hF dX11_comes_36 ?_
        refine go_iald (pc := 37) (hn := hnn₉) hF dX11_comes_37 hci zc (by omega)  ?_
        refine go_goto (pc := 38) hF 42 dX11_comes_38 (by decide) ?_
        refine go_iast (pc := 42) hF dX11_comes_42 hci zc (by omega) (fun s6₉ u_s6 f_s6 => ?_) hnn₉
        refine go_iload_n (pc := 43) hF dX11_comes_43 2 rfl ?_
        refine go_sipush (pc := 44) hF dX11_comes_44 (by decide) ?_
        refine go_iadd (pc := 47) hF dX11_comes_47 ?_
        refine go_iload_n (pc := 48) hF dX11_comes_48 3 rfl ?_
        refine go_iadd (pc := 49) hF dX11_comes_49 ?_
        refine go_istore (pc := 50) hF [(6, vi ((a₉ + 343) + row₉)), (5, vi 1), (0, vr E ci), (1, vi a₉), (2, vi row₉), (3, vi mo), (4, vi le₉)] dX11_comes_50 rfl (by decide) ?_
        refine go_aload_n (pc := 52) hF dX11_comes_52 2 rfl ?_
        refine go_iload (pc := 53) hF dX11_comes_53 0 rfl ?_
        refine go_iload (pc := 55) hF dX11_comes_55 1 rfl ?_
        refine go_if_eq (pc := 57) hF 76 dX11_comes_57 (by decide) ⟨by decide, by decide⟩ (fun bq57 => ?_) (fun bq57 => ?_)
        · exact absurd bq57 (by decide)
        · have glo := hlo (by omega)
          refine go_aload_n (pc := 60) hF dX11_comes_60 2 rfl ?_
          refine go_iload (pc := 61) hF dX11_comes_61 0 rfl ?_
          refine go_iald (pc := 63) (hn := hnn₉) hF dX11_comes_63 hci u_s6 (by omega)  ?_
          rw [up_ne _ _ (by omega)]
          refine go_iload (pc := 64) hF dX11_comes_64 6 rfl ?_
          refine go_icmp_ge (pc := 66) hF 76 dX11_comes_66 (by decide) (by omega) (by omega) (fun bq66 => ?_) (fun bq66 => ?_)
          · refine go_iload (pc := 76) hF dX11_comes_76 6 rfl ?_
            refine go_iast (pc := 78) hF dX11_comes_78 hci u_s6 (by omega) (fun s7 u_s7 f_s7 => ?_) hnn₉
            have h1 : (if 0 ≤ g₉ (a₉ + row₉) ∧ mo < g₉ (a₉ + row₉) then g₉ (a₉ + row₉) else mo) = g₉ (a₉ + row₉) := by rw [if_pos (by omega)]
            have h2 : (if 0 ≤ g₉ (a₉ + row₉) ∧ g₉ (a₉ + 343 + row₉) < le₉ then g₉ (a₉ + 343 + row₉) else le₉) = le₉ := by rw [if_neg (by omega)]
            exact go_vretQ hF hr hlk hQ dX11_comes_79 ⟨by unfold cmF; rw [h1, h2]; exact u_s7, (fun jj hjj => by rw [f_s7 jj (by omega), f_s6 jj (by omega)])⟩
          · refine go_aload_n (pc := 69) hF dX11_comes_69 2 rfl ?_
            refine go_iload (pc := 70) hF dX11_comes_70 0 rfl ?_
            refine go_iald (pc := 72) (hn := hnn₉) hF dX11_comes_72 hci u_s6 (by omega)  ?_
            rw [up_ne _ _ (by omega)]
            refine go_goto (pc := 73) hF 78 dX11_comes_73 (by decide) ?_
            refine go_iast (pc := 78) hF dX11_comes_78 hci u_s6 (by omega) (fun s8 u_s8 f_s8 => ?_) hnn₉
            have h1 : (if 0 ≤ g₉ (a₉ + row₉) ∧ mo < g₉ (a₉ + row₉) then g₉ (a₉ + row₉) else mo) = g₉ (a₉ + row₉) := by rw [if_pos (by omega)]
            have h2 : (if 0 ≤ g₉ (a₉ + row₉) ∧ g₉ (a₉ + 343 + row₉) < le₉ then g₉ (a₉ + 343 + row₉) else le₉) = g₉ (a₉ + 343 + row₉) := by rw [if_pos (by omega)]
            exact go_vretQ hF hr hlk hQ dX11_comes_79 ⟨by unfold cmF; rw [h1, h2]; exact u_s8, (fun jj hjj => by rw [f_s8 jj (by omega), f_s6 jj (by omega)])⟩
set_option maxHeartbeats 4000000 in
set_option maxRecDepth 100000 in
theorem c_X11_clears (E : En) (N : Nat) (σ : Nat → va_E) {un sz₉ tl rz hi₉ mi ak rt cn : Int} {nx : Int → Int} (hN₉ : 120 ≤ N) (z101 : σ 94 = mOb E un sz₉ tl rz hi₉ mi ak rt cn) (z120 : σ 113 = ai E 686 nx) : CV E M_X11_clears 1 [vr E 94] N σ (fun σ' => ∃ nx', σ' 113 = ai E 686 nx' ∧ (∀ z₉ : Int, 0 ≤ z₉ → z₉ < 686 → nx' z₉ = -1) ∧ ∀ q₉, q₉ ≠ 113 → σ' q₉ = σ q₉) := by
  refine CT.of2 (own := RX11) (by decide) rfl (Nat.le_of_ble_eq_true rfl) ?_
  intro p e R s m args below meth c Q hF hr hlk hnm hz hR hQ
  refine go_iconst (pc := 0) hF dX11_clears_0 ?_
  refine go_istore_n (pc := 1) hF [(1, vi 0), (0, vr E 94)] dX11_clears_1 rfl (by decide) ?_
  have loop₉ : ∀ (n₉ : Nat) (j₉ : Nat) (h2 : Int → Int) (τ : Nat → va_E), j₉ + n₉ = 688 → (j₉ : Int) ≤ 686 → (∀ z₉ : Int, 0 ≤ z₉ → z₉ < 686 → h2 z₉ = if z₉ < (j₉ : Int) then (fun _ : Int => (-1 : Int)) z₉ else nx z₉) → τ 113 = ai E 686 h2 → (∀ jj : Nat, jj ≠ 113 → τ jj = σ jj) → Go E p e R s m args below meth c Q 2 (0, 0) N τ [(1, vi (j₉ : Int)), (0, vr E 94)] [] 2 := by
    intro n₉
    induction n₉ with
    | zero => intro j₉ h2 τ hfu hj hg c_nx_loop fr_loop; exfalso; omega
    | succ n₉ ih₉ =>
      intro j₉ h2 τ hfu hj hg c_nx_loop fr_loop
      have x_loop := (fr_loop 94 (by omega)).trans z101
      refine go_iload_n (pc := 2) hF dX11_clears_2 0 rfl ?_
      refine go_sipush (pc := 3) hF dX11_clears_3 (by decide) ?_
      refine go_icmp_ge (pc := 6) hF 22 dX11_clears_6 (by decide) (by omega) ⟨by decide, by decide⟩ (fun bq6 => ?_) (fun bq6 => ?_)
      · have ej : j₉ = 686 := by omega
        subst ej
        exact go_vretQ hF hr hlk hQ dX11_clears_22 ⟨_, c_nx_loop, fun z₉ z0 z1 => by rw [hg z₉ z0 z1, if_pos (by omega)], (fun jj hjj => by rw [fr_loop jj (by omega)])⟩
      · refine go_aload_n (pc := 9) hF dX11_clears_9 1 rfl ?_
        refine go_get (pc := 10) hF fl_X11_65 dX11_clears_10 (by omega) x_loop rfl ?_
        refine go_iload_n (pc := 13) hF dX11_clears_13 0 rfl ?_
        refine go_iconst (pc := 14) hF dX11_clears_14 ?_
        refine go_iast (pc := 15) hF dX11_clears_15 (by omega) c_nx_loop (by omega) (fun s1₉ u_s1 f_s1 => ?_)
        have x_s1 := (f_s1 94 (by omega)).trans x_loop
        refine go_iinc (pc := 16) hF [(1, vi ((j₉ : Int) + 1)), (0, vr E 94)] dX11_clears_16 0 rfl rfl (by decide) ?_
        refine go_goto (pc := 19) hF 2 dX11_clears_19 (by decide) ?_
        exact ih₉ (j₉ + 1) _ s1₉ (by omega) (by omega) (map_step hg rfl) u_s1 (fun jj hjj => by rw [f_s1 jj (by omega), fr_loop jj (by omega)])
  exact loop₉ 688 0 nx σ rfl (by omega) (fun z₉ z0 z1 => by rw [if_neg (by omega)]) z120 (fun _ _ => rfl)
set_option maxHeartbeats 4000000 in
set_option maxRecDepth 100000 in
theorem c_X11_nextIsNow (E : En) (N : Nat) (σ : Nat → va_E) {un sz₉ tl rz hi₉ mi ak rt cn : Int} {nx tk : Int → Int} (hN₉ : 120 ≤ N) (z101 : σ 94 = mOb E un sz₉ tl rz hi₉ mi ak rt cn) (z120 : σ 113 = ai E 686 nx) (z119 : σ 112 = ai E 686 tk) : CV E M_X11_nextIsNow 1 [vr E 94] N σ (fun σ' => ∃ tk', σ' 112 = ai E 686 tk' ∧ (∀ z₉ : Int, 0 ≤ z₉ → z₉ < 686 → tk' z₉ = nx z₉) ∧ ∀ q₉, q₉ ≠ 112 → σ' q₉ = σ q₉) := by
  refine CT.of2 (own := RX11) (by decide) rfl (Nat.le_of_ble_eq_true rfl) ?_
  intro p e R s m args below meth c Q hF hr hlk hnm hz hR hQ
  refine go_iconst (pc := 0) hF dX11_nextIsNow_0 ?_
  refine go_istore_n (pc := 1) hF [(1, vi 0), (0, vr E 94)] dX11_nextIsNow_1 rfl (by decide) ?_
  have loop₉ : ∀ (n₉ : Nat) (j₉ : Nat) (h2 : Int → Int) (τ : Nat → va_E), j₉ + n₉ = 688 → (j₉ : Int) ≤ 686 → (∀ z₉ : Int, 0 ≤ z₉ → z₉ < 686 → h2 z₉ = if z₉ < (j₉ : Int) then (nx) z₉ else tk z₉) → τ 112 = ai E 686 h2 → (∀ jj : Nat, jj ≠ 112 → τ jj = σ jj) → Go E p e R s m args below meth c Q 2 (0, 0) N τ [(1, vi (j₉ : Int)), (0, vr E 94)] [] 2 := by
    intro n₉
    induction n₉ with
    | zero => intro j₉ h2 τ hfu hj hg c_tk_loop fr_loop; exfalso; omega
    | succ n₉ ih₉ =>
      intro j₉ h2 τ hfu hj hg c_tk_loop fr_loop
      have x_loop := (fr_loop 94 (by omega)).trans z101
      have nx_loop := (fr_loop 113 (by omega)).trans z120
      refine go_iload_n (pc := 2) hF dX11_nextIsNow_2 0 rfl ?_
      refine go_sipush (pc := 3) hF dX11_nextIsNow_3 (by decide) ?_
      refine go_icmp_ge (pc := 6) hF 27 dX11_nextIsNow_6 (by decide) (by omega) ⟨by decide, by decide⟩ (fun bq6 => ?_) (fun bq6 => ?_)
      · have ej : j₉ = 686 := by omega
        subst ej
        exact go_vretQ hF hr hlk hQ dX11_nextIsNow_27 ⟨_, c_tk_loop, fun z₉ z0 z1 => by rw [hg z₉ z0 z1, if_pos (by omega)], (fun jj hjj => by rw [fr_loop jj (by omega)])⟩
      · refine go_aload_n (pc := 9) hF dX11_nextIsNow_9 1 rfl ?_
        refine go_get (pc := 10) hF fl_X11_62 dX11_nextIsNow_10 (by omega) x_loop rfl ?_
        refine go_iload_n (pc := 13) hF dX11_nextIsNow_13 0 rfl ?_
        refine go_aload_n (pc := 14) hF dX11_nextIsNow_14 1 rfl ?_
        refine go_get (pc := 15) hF fl_X11_65 dX11_nextIsNow_15 (by omega) x_loop rfl ?_
        refine go_iload_n (pc := 18) hF dX11_nextIsNow_18 0 rfl ?_
        refine go_iald (pc := 19) hF dX11_nextIsNow_19 (by omega) nx_loop (by omega)  ?_
        refine go_iast (pc := 20) hF dX11_nextIsNow_20 (by omega) c_tk_loop (by omega) (fun s1₉ u_s1 f_s1 => ?_)
        have x_s1 := (f_s1 94 (by omega)).trans x_loop
        have nx_s1 := (f_s1 113 (by omega)).trans nx_loop
        refine go_iinc (pc := 21) hF [(1, vi ((j₉ : Int) + 1)), (0, vr E 94)] dX11_nextIsNow_21 0 rfl rfl (by decide) ?_
        refine go_goto (pc := 24) hF 2 dX11_nextIsNow_24 (by decide) ?_
        exact ih₉ (j₉ + 1) _ s1₉ (by omega) (by omega) (map_step hg rfl) u_s1 (fun jj hjj => by rw [f_s1 jj (by omega), fr_loop jj (by omega)])
  exact loop₉ 688 0 tk σ rfl (by omega) (fun z₉ z0 z1 => by rw [if_neg (by omega)]) z119 (fun _ _ => rfl)
set_option maxHeartbeats 4000000 in
set_option maxRecDepth 100000 in
theorem c_X11_savesTook_121 (E : En) (N : Nat) (σ : Nat → va_E) {un sz₉ tl rz hi₉ mi ak rt cn : Int} {tk g₉ : Int → Int} (hN₉ : 120 ≤ N) (z101 : σ 94 = mOb E un sz₉ tl rz hi₉ mi ak rt cn) (z119 : σ 112 = ai E 686 tk) (z121 : σ 114 = ai E 2058 g₉) (dl : Int) (hdl : 0 ≤ dl ∧ dl ≤ 2) : CV E M_X11_savesTook 1 [vr E 94, vr E 114, vi dl] N σ (fun σ' => ∃ g', σ' 114 = ai E 2058 g' ∧ (∀ z₉ : Int, 0 ≤ z₉ → z₉ < 686 → g' (686 * dl + z₉) = tk z₉) ∧ (∀ z₉ : Int, 0 ≤ z₉ → z₉ < 2058 → (z₉ < 686 * dl ∨ 686 * dl + 686 ≤ z₉) → g' z₉ = g₉ z₉) ∧ ∀ q₉, q₉ ≠ 114 → σ' q₉ = σ q₉) := by
  refine CT.of2 (own := RX11) (by decide) rfl (Nat.le_of_ble_eq_true rfl) ?_
  intro p e R s m args below meth c Q hF hr hlk hnm hz hR hQ
  refine go_iconst (pc := 0) hF dX11_savesTook_0 ?_
  refine go_istore_n (pc := 1) hF [(3, vi 0), (0, vr E 94), (1, vr E 114), (2, vi dl)] dX11_savesTook_1 rfl (by decide) ?_
  have loop₉ : ∀ (n₉ : Nat) (j₉ : Nat) (h2 : Int → Int) (τ : Nat → va_E), j₉ + n₉ = 688 → (j₉ : Int) ≤ 686 → (∀ z₉ : Int, 0 ≤ z₉ → z₉ < 2058 → h2 z₉ = if 686 * dl ≤ z₉ ∧ z₉ < 686 * dl + (j₉ : Int) then tk (z₉ - 686 * dl) else g₉ z₉) → τ 114 = ai E 2058 h2 → (∀ jj : Nat, jj ≠ 114 → τ jj = σ jj) → Go E p e R s m args below meth c Q 4 (0, 0) N τ [(3, vi (j₉ : Int)), (0, vr E 94), (1, vr E 114), (2, vi dl)] [] 2 := by
    intro n₉
    induction n₉ with
    | zero => intro j₉ h2 τ hfu hj hg c_g_loop fr_loop; exfalso; omega
    | succ n₉ ih₉ =>
      intro j₉ h2 τ hfu hj hg c_g_loop fr_loop
      have x_loop := (fr_loop 94 (by omega)).trans z101
      have tk_loop := (fr_loop 112 (by omega)).trans z119
      refine go_iload_n (pc := 2) hF dX11_savesTook_2 0 rfl ?_
      refine go_sipush (pc := 3) hF dX11_savesTook_3 (by decide) ?_
      refine go_icmp_ge (pc := 6) hF 30 dX11_savesTook_6 (by decide) (by omega) ⟨by decide, by decide⟩ (fun bq6 => ?_) (fun bq6 => ?_)
      · have ej : j₉ = 686 := by omega
        subst ej
        exact go_vretQ hF hr hlk hQ dX11_savesTook_30 ⟨_, c_g_loop, fun z₉ z0 z1 => by rw [hg _ (by omega) (by omega), if_pos (by omega), show 686 * dl + z₉ - 686 * dl = z₉ by omega], fun z₉ z0 z1 z2 => by rw [hg z₉ z0 z1, if_neg (by omega)], (fun jj hjj => by rw [fr_loop jj (by omega)])⟩
      · refine go_aload_n (pc := 9) hF dX11_savesTook_9 2 rfl ?_
        refine go_sipush (pc := 10) hF dX11_savesTook_10 (by decide) ?_
        refine go_iload_n (pc := 13) hF dX11_savesTook_13 3 rfl ?_
        refine go_imul (pc := 14) hF dX11_savesTook_14 ?_
        refine go_iload_n (pc := 15) hF dX11_savesTook_15 0 rfl ?_
        refine go_iadd (pc := 16) hF dX11_savesTook_16 ?_
        refine go_aload_n (pc := 17) hF dX11_savesTook_17 1 rfl ?_
        refine go_get (pc := 18) hF fl_X11_62 dX11_savesTook_18 (by omega) x_loop rfl ?_
        refine go_iload_n (pc := 21) hF dX11_savesTook_21 0 rfl ?_
        refine go_iald (pc := 22) hF dX11_savesTook_22 (by omega) tk_loop (by omega)  ?_
        refine go_iast (pc := 23) hF dX11_savesTook_23 (by omega) c_g_loop (by omega) (fun s1₉ u_s1 f_s1 => ?_)
        have x_s1 := (f_s1 94 (by omega)).trans x_loop
        have tk_s1 := (f_s1 112 (by omega)).trans tk_loop
        refine go_iinc (pc := 24) hF [(3, vi ((j₉ : Int) + 1)), (0, vr E 94), (1, vr E 114), (2, vi dl)] dX11_savesTook_24 0 rfl rfl (by decide) ?_
        refine go_goto (pc := 27) hF 2 dX11_savesTook_27 (by decide) ?_
        exact ih₉ (j₉ + 1) _ s1₉ (by omega) (by omega) (copy_step hg) u_s1 (fun jj hjj => by rw [f_s1 jj (by omega), fr_loop jj (by omega)])
  exact loop₉ 688 0 g₉ σ rfl (by omega) (fun z₉ z0 z1 => by rw [if_neg (by omega)]) z121 (fun _ _ => rfl)
set_option maxHeartbeats 4000000 in
set_option maxRecDepth 100000 in
theorem c_X11_bringsTook_121 (E : En) (N : Nat) (σ : Nat → va_E) {un sz₉ tl rz hi₉ mi ak rt cn : Int} {tk g₉ : Int → Int} (hN₉ : 120 ≤ N) (z101 : σ 94 = mOb E un sz₉ tl rz hi₉ mi ak rt cn) (z119 : σ 112 = ai E 686 tk) (z121 : σ 114 = ai E 2058 g₉) (dl : Int) (hdl : 0 ≤ dl ∧ dl ≤ 2) : CV E M_X11_bringsTook 1 [vr E 94, vr E 114, vi dl] N σ (fun σ' => ∃ tk', σ' 112 = ai E 686 tk' ∧ (∀ z₉ : Int, 0 ≤ z₉ → z₉ < 686 → tk' z₉ = g₉ (686 * dl + z₉)) ∧ ∀ q₉, q₉ ≠ 112 → σ' q₉ = σ q₉) := by
  refine CT.of2 (own := RX11) (by decide) rfl (Nat.le_of_ble_eq_true rfl) ?_
  intro p e R s m args below meth c Q hF hr hlk hnm hz hR hQ
  refine go_iconst (pc := 0) hF dX11_bringsTook_0 ?_
  refine go_istore_n (pc := 1) hF [(3, vi 0), (0, vr E 94), (1, vr E 114), (2, vi dl)] dX11_bringsTook_1 rfl (by decide) ?_
  have loop₉ : ∀ (n₉ : Nat) (j₉ : Nat) (h2 : Int → Int) (τ : Nat → va_E), j₉ + n₉ = 688 → (j₉ : Int) ≤ 686 → (∀ z₉ : Int, 0 ≤ z₉ → z₉ < 686 → h2 z₉ = if z₉ < (j₉ : Int) then (fun z₉ : Int => g₉ (686 * dl + z₉)) z₉ else tk z₉) → τ 112 = ai E 686 h2 → (∀ jj : Nat, jj ≠ 112 → τ jj = σ jj) → Go E p e R s m args below meth c Q 4 (0, 0) N τ [(3, vi (j₉ : Int)), (0, vr E 94), (1, vr E 114), (2, vi dl)] [] 2 := by
    intro n₉
    induction n₉ with
    | zero => intro j₉ h2 τ hfu hj hg c_tk_loop fr_loop; exfalso; omega
    | succ n₉ ih₉ =>
      intro j₉ h2 τ hfu hj hg c_tk_loop fr_loop
      have x_loop := (fr_loop 94 (by omega)).trans z101
      have g_loop := (fr_loop 114 (by omega)).trans z121
      refine go_iload_n (pc := 2) hF dX11_bringsTook_2 0 rfl ?_
      refine go_sipush (pc := 3) hF dX11_bringsTook_3 (by decide) ?_
      refine go_icmp_ge (pc := 6) hF 30 dX11_bringsTook_6 (by decide) (by omega) ⟨by decide, by decide⟩ (fun bq6 => ?_) (fun bq6 => ?_)
      · have ej : j₉ = 686 := by omega
        subst ej
        exact go_vretQ hF hr hlk hQ dX11_bringsTook_30 ⟨_, c_tk_loop, fun z₉ z0 z1 => by rw [hg z₉ z0 z1, if_pos (by omega)], (fun jj hjj => by rw [fr_loop jj (by omega)])⟩
      · refine go_aload_n (pc := 9) hF dX11_bringsTook_9 1 rfl ?_
        refine go_get (pc := 10) hF fl_X11_62 dX11_bringsTook_10 (by omega) x_loop rfl ?_
        refine go_iload_n (pc := 13) hF dX11_bringsTook_13 0 rfl ?_
        refine go_aload_n (pc := 14) hF dX11_bringsTook_14 2 rfl ?_
        refine go_sipush (pc := 15) hF dX11_bringsTook_15 (by decide) ?_
        refine go_iload_n (pc := 18) hF dX11_bringsTook_18 3 rfl ?_
        refine go_imul (pc := 19) hF dX11_bringsTook_19 ?_
        refine go_iload_n (pc := 20) hF dX11_bringsTook_20 0 rfl ?_
        refine go_iadd (pc := 21) hF dX11_bringsTook_21 ?_
        refine go_iald (pc := 22) hF dX11_bringsTook_22 (by omega) g_loop (by omega)  ?_
        refine go_iast (pc := 23) hF dX11_bringsTook_23 (by omega) c_tk_loop (by omega) (fun s1₉ u_s1 f_s1 => ?_)
        have x_s1 := (f_s1 94 (by omega)).trans x_loop
        have g_s1 := (f_s1 114 (by omega)).trans g_loop
        refine go_iinc (pc := 24) hF [(3, vi ((j₉ : Int) + 1)), (0, vr E 94), (1, vr E 114), (2, vi dl)] dX11_bringsTook_24 0 rfl rfl (by decide) ?_
        refine go_goto (pc := 27) hF 2 dX11_bringsTook_27 (by decide) ?_
        exact ih₉ (j₉ + 1) _ s1₉ (by omega) (by omega) (map_step hg rfl) u_s1 (fun jj hjj => by rw [f_s1 jj (by omega), fr_loop jj (by omega)])
  exact loop₉ 688 0 tk σ rfl (by omega) (fun z₉ z0 z1 => by rw [if_neg (by omega)]) z119 (fun _ _ => rfl)
set_option maxHeartbeats 4000000 in
set_option maxRecDepth 100000 in
theorem c_X11_joins_121 (E : En) (N : Nat) (σ : Nat → va_E) {un sz₉ tl rz hi₉ mi ak rt cn : Int} {tk g₉ : Int → Int} (hN₉ : 120 ≤ N) (z101 : σ 94 = mOb E un sz₉ tl rz hi₉ mi ak rt cn) (z119 : σ 112 = ai E 686 tk) (z121 : σ 114 = ai E 2058 g₉) (dl : Int) (hdl : 0 ≤ dl ∧ dl ≤ 2) (T S₉ : XS) (B₉ : Int) (hB₉ : 0 ≤ B₉ ∧ B₉ ≤ 1000000000) (hS₉ : TK₉ tk S₉ B₉) (hT0 : TK₉ (fun z₉ => g₉ (686 * dl + z₉)) T B₉) : CV E M_X11_joins 2 [vr E 94, vr E 114, vi dl] N σ (fun σ' => ∃ g', σ' 114 = ai E 2058 g' ∧ TK₉ (fun z₉ => g' (686 * dl + z₉)) (fun r₉ c => T r₉ c ∨ S₉ r₉ c) B₉ ∧ (∀ z₉ : Int, 0 ≤ z₉ → (z₉ < 686 * dl ∨ 686 * dl + 686 ≤ z₉) → g' z₉ = g₉ z₉) ∧ ∀ q₉, q₉ ≠ 114 → σ' q₉ = σ q₉) := by
  refine CT.of2 (own := RX11) (by decide) rfl (Nat.le_of_ble_eq_true rfl) ?_
  intro p e R s m args below meth c Q hF hr hlk hnm hz hR hQ
  refine go_iconst (pc := 0) hF dX11_joins_0 ?_
  refine go_istore_n (pc := 1) hF [(3, vi 0), (0, vr E 94), (1, vr E 114), (2, vi dl)] dX11_joins_1 rfl (by decide) ?_
  have loop₉ : ∀ (n₉ : Nat) (j₉ : Nat) (h2 : Int → Int) (τ : Nat → va_E), j₉ + n₉ = 345 → (j₉ : Int) ≤ 343 → TK₉ (fun z₉ => h2 (686 * dl + z₉)) (jD T S₉ (j₉ : Int)) B₉ → (∀ z₉ : Int, 0 ≤ z₉ → (z₉ < 686 * dl ∨ 686 * dl + 686 ≤ z₉) → h2 z₉ = g₉ z₉) → τ 114 = ai E 2058 h2 → (∀ jj : Nat, jj ≠ 114 → τ jj = σ jj) → Go E p e R s m args below meth c Q 4 (0, 0) N τ [(3, vi (j₉ : Int)), (0, vr E 94), (1, vr E 114), (2, vi dl)] [] 2 := by
    intro n₉
    induction n₉ with
    | zero => intro j₉ h2 τ hfu hj hT₉ ho c_g_loop fr_loop; exfalso; omega
    | succ n₉ ih₉ =>
      intro j₉ h2 τ hfu hj hT₉ ho c_g_loop fr_loop
      have x_loop := (fr_loop 94 (by omega)).trans z101
      have tk_loop := (fr_loop 112 (by omega)).trans z119
      refine go_iload_n (pc := 2) hF dX11_joins_2 0 rfl ?_
      refine go_sipush (pc := 3) hF dX11_joins_3 (by decide) ?_
      refine go_icmp_ge (pc := 6) hF 50 dX11_joins_6 (by decide) (by omega) ⟨by decide, by decide⟩ (fun bq6 => ?_) (fun bq6 => ?_)
      · have ej : j₉ = 343 := by omega
        subst ej
        exact go_vretQ hF hr hlk hQ dX11_joins_50 ⟨_, c_g_loop, TK₉.iffR hT₉ (fun r₉ c r0 r1₉ => ⟨fun h => h.elim Or.inl (fun z₉ => Or.inr z₉.2), fun h => h.elim Or.inl (fun z₉ => Or.inr ⟨by omega, z₉⟩)⟩), ho, (fun jj hjj => by rw [fr_loop jj (by omega)])⟩
      · have gv : h2 (686 * dl + (j₉ : Int)) = -1 ∨ (0 ≤ h2 (686 * dl + (343 + (j₉ : Int))) ∧ h2 (686 * dl + (343 + (j₉ : Int))) ≤ h2 (686 * dl + (j₉ : Int)) ∧ h2 (686 * dl + (j₉ : Int)) ≤ B₉) := TK₉.val hT₉ (r₉ := (j₉ : Int)) ⟨by omega, by omega⟩
        have tv := TK₉.val hS₉ (r₉ := (j₉ : Int)) ⟨by omega, by omega⟩
        refine go_aload_n (pc := 9) hF dX11_joins_9 1 rfl ?_
        refine go_get (pc := 10) hF fl_X11_62 dX11_joins_10 (by omega) x_loop rfl ?_
        refine go_iload_n (pc := 13) hF dX11_joins_13 0 rfl ?_
        refine go_iald (pc := 14) hF dX11_joins_14 (by omega) tk_loop (by omega)  ?_
        refine go_if_lt (pc := 15) hF 44 dX11_joins_15 (by decide) (by omega) (fun bq15 => ?_) (fun bq15 => ?_)
        · refine go_iinc (pc := 44) hF [(3, vi ((j₉ : Int) + 1)), (0, vr E 94), (1, vr E 114), (2, vi dl)] dX11_joins_44 0 rfl rfl (by decide) ?_
          refine go_goto (pc := 47) hF 2 dX11_joins_47 (by decide) ?_
          exact ih₉ (j₉ + 1) _ τ (by omega) (by omega) (TK₉.iff hT₉ (jD_n (TK_dead hS₉ ⟨by omega, by omega⟩ bq15))) ho c_g_loop (fun jj hjj => by rw [fr_loop jj (by omega)])
        · have tl9 := TK_live hS₉ (r₉ := (j₉ : Int)) ⟨by omega, by omega⟩ (by omega)
          refine go_aload_n (pc := 18) hF dX11_joins_18 2 rfl ?_
          refine go_sipush (pc := 19) hF dX11_joins_19 (by decide) ?_
          refine go_iload_n (pc := 22) hF dX11_joins_22 3 rfl ?_
          refine go_imul (pc := 23) hF dX11_joins_23 ?_
          refine go_iload_n (pc := 24) hF dX11_joins_24 0 rfl ?_
          refine go_aload_n (pc := 25) hF dX11_joins_25 1 rfl ?_
          refine go_get (pc := 26) hF fl_X11_62 dX11_joins_26 (by omega) x_loop rfl ?_
          refine go_iload_n (pc := 29) hF dX11_joins_29 0 rfl ?_
          refine go_iald (pc := 30) hF dX11_joins_30 (by omega) tk_loop (by omega)  ?_
          refine go_aload_n (pc := 31) hF dX11_joins_31 1 rfl ?_
          refine go_get (pc := 32) hF fl_X11_62 dX11_joins_32 (by omega) x_loop rfl ?_
          refine go_sipush (pc := 35) hF dX11_joins_35 (by decide) ?_
          refine go_iload_n (pc := 38) hF dX11_joins_38 0 rfl ?_
          refine go_iadd (pc := 39) hF dX11_joins_39 ?_
          refine go_iald (pc := 40) hF dX11_joins_40 (by omega) tk_loop (by omega)  ?_
          refine go_callSV (pc := 41) hF [vr E 114, vi (686 * dl), vi (j₉ : Int), vi (tk (j₉ : Int)), vi (tk (343 + (j₉ : Int)))] [] ms_X11_229 dX11_joins_41 (c_X11_comes E N τ 114 2058 (by omega) (by decide) c_g_loop (686 * dl) (j₉ : Int) (tk (j₉ : Int)) (tk (343 + (j₉ : Int))) (by omega) (by omega) (by omega) (fun h => by rw [show 686 * dl + 343 + (j₉ : Int) = 686 * dl + (343 + j₉) by omega]; omega) (by omega) (by omega)) rfl rfl (Nat.le_of_ble_eq_true rfl) (by decide) ⟨Nat.zero_le _, Nat.zero_le _⟩ (fun s1₉ h_s1 => ?_)
          obtain ⟨u_s1, f_s1⟩ := h_s1
          have x_s1 := (f_s1 94 (by omega)).trans x_loop
          have tk_s1 := (f_s1 112 (by omega)).trans tk_loop
          refine go_iinc (pc := 44) hF [(3, vi ((j₉ : Int) + 1)), (0, vr E 94), (1, vr E 114), (2, vi dl)] dX11_joins_44 0 rfl rfl (by decide) ?_
          refine go_goto (pc := 47) hF 2 dX11_joins_47 (by decide) ?_
          exact ih₉ (j₉ + 1) _ s1₉ (by omega) (by omega) (TK₉.iff (cm_TK hT₉ ⟨by omega, by omega⟩ ⟨tl9.1.1, tl9.1.2.2⟩ tl9.2.1 tl9.2.2.1 tl9.2.2.2) (jD_s T S₉ j₉)) (fun z₉ z0 z1 => by rw [cmF_out ⟨by omega, by omega⟩ z1]; exact ho z₉ z0 z1) u_s1 (fun jj hjj => by rw [f_s1 jj (by omega), fr_loop jj (by omega)])
  exact loop₉ 345 0 g₉ σ rfl (by omega) (TK₉.iffR hT0 (fun r₉ c r0 r1₉ => ⟨Or.inl, fun h => h.elim id (fun z₉ => absurd z₉.1 (by omega))⟩)) (fun _ _ _ => rfl) z121 (fun _ _ => rfl)
set_option maxHeartbeats 4000000 in
set_option maxRecDepth 100000 in
theorem c_X11_savesTook_122 (E : En) (N : Nat) (σ : Nat → va_E) {un sz₉ tl rz hi₉ mi ak rt cn : Int} {tk g₉ : Int → Int} (hN₉ : 120 ≤ N) (z101 : σ 94 = mOb E un sz₉ tl rz hi₉ mi ak rt cn) (z119 : σ 112 = ai E 686 tk) (z122 : σ 115 = ai E 2058 g₉) (dl : Int) (hdl : 0 ≤ dl ∧ dl ≤ 2) : CV E M_X11_savesTook 1 [vr E 94, vr E 115, vi dl] N σ (fun σ' => ∃ g', σ' 115 = ai E 2058 g' ∧ (∀ z₉ : Int, 0 ≤ z₉ → z₉ < 686 → g' (686 * dl + z₉) = tk z₉) ∧ (∀ z₉ : Int, 0 ≤ z₉ → z₉ < 2058 → (z₉ < 686 * dl ∨ 686 * dl + 686 ≤ z₉) → g' z₉ = g₉ z₉) ∧ ∀ q₉, q₉ ≠ 115 → σ' q₉ = σ q₉) := by
  refine CT.of2 (own := RX11) (by decide) rfl (Nat.le_of_ble_eq_true rfl) ?_
  intro p e R s m args below meth c Q hF hr hlk hnm hz hR hQ
  refine go_iconst (pc := 0) hF dX11_savesTook_0 ?_
  refine go_istore_n (pc := 1) hF [(3, vi 0), (0, vr E 94), (1, vr E 115), (2, vi dl)] dX11_savesTook_1 rfl (by decide) ?_
  have loop₉ : ∀ (n₉ : Nat) (j₉ : Nat) (h2 : Int → Int) (τ : Nat → va_E), j₉ + n₉ = 688 → (j₉ : Int) ≤ 686 → (∀ z₉ : Int, 0 ≤ z₉ → z₉ < 2058 → h2 z₉ = if 686 * dl ≤ z₉ ∧ z₉ < 686 * dl + (j₉ : Int) then tk (z₉ - 686 * dl) else g₉ z₉) → τ 115 = ai E 2058 h2 → (∀ jj : Nat, jj ≠ 115 → τ jj = σ jj) → Go E p e R s m args below meth c Q 4 (0, 0) N τ [(3, vi (j₉ : Int)), (0, vr E 94), (1, vr E 115), (2, vi dl)] [] 2 := by
    intro n₉
    induction n₉ with
    | zero => intro j₉ h2 τ hfu hj hg c_g_loop fr_loop; exfalso; omega
    | succ n₉ ih₉ =>
      intro j₉ h2 τ hfu hj hg c_g_loop fr_loop
      have x_loop := (fr_loop 94 (by omega)).trans z101
      have tk_loop := (fr_loop 112 (by omega)).trans z119
      refine go_iload_n (pc := 2) hF dX11_savesTook_2 0 rfl ?_
      refine go_sipush (pc := 3) hF dX11_savesTook_3 (by decide) ?_
      refine go_icmp_ge (pc := 6) hF 30 dX11_savesTook_6 (by decide) (by omega) ⟨by decide, by decide⟩ (fun bq6 => ?_) (fun bq6 => ?_)
      · have ej : j₉ = 686 := by omega
        subst ej
        exact go_vretQ hF hr hlk hQ dX11_savesTook_30 ⟨_, c_g_loop, fun z₉ z0 z1 => by rw [hg _ (by omega) (by omega), if_pos (by omega), show 686 * dl + z₉ - 686 * dl = z₉ by omega], fun z₉ z0 z1 z2 => by rw [hg z₉ z0 z1, if_neg (by omega)], (fun jj hjj => by rw [fr_loop jj (by omega)])⟩
      · refine go_aload_n (pc := 9) hF dX11_savesTook_9 2 rfl ?_
        refine go_sipush (pc := 10) hF dX11_savesTook_10 (by decide) ?_
        refine go_iload_n (pc := 13) hF dX11_savesTook_13 3 rfl ?_
        refine go_imul (pc := 14) hF dX11_savesTook_14 ?_
        refine go_iload_n (pc := 15) hF dX11_savesTook_15 0 rfl ?_
        refine go_iadd (pc := 16) hF dX11_savesTook_16 ?_
        refine go_aload_n (pc := 17) hF dX11_savesTook_17 1 rfl ?_
        refine go_get (pc := 18) hF fl_X11_62 dX11_savesTook_18 (by omega) x_loop rfl ?_
        refine go_iload_n (pc := 21) hF dX11_savesTook_21 0 rfl ?_
        refine go_iald (pc := 22) hF dX11_savesTook_22 (by omega) tk_loop (by omega)  ?_
        refine go_iast (pc := 23) hF dX11_savesTook_23 (by omega) c_g_loop (by omega) (fun s1₉ u_s1 f_s1 => ?_)
        have x_s1 := (f_s1 94 (by omega)).trans x_loop
        have tk_s1 := (f_s1 112 (by omega)).trans tk_loop
        refine go_iinc (pc := 24) hF [(3, vi ((j₉ : Int) + 1)), (0, vr E 94), (1, vr E 115), (2, vi dl)] dX11_savesTook_24 0 rfl rfl (by decide) ?_
        refine go_goto (pc := 27) hF 2 dX11_savesTook_27 (by decide) ?_
        exact ih₉ (j₉ + 1) _ s1₉ (by omega) (by omega) (copy_step hg) u_s1 (fun jj hjj => by rw [f_s1 jj (by omega), fr_loop jj (by omega)])
  exact loop₉ 688 0 g₉ σ rfl (by omega) (fun z₉ z0 z1 => by rw [if_neg (by omega)]) z122 (fun _ _ => rfl)
set_option maxHeartbeats 4000000 in
set_option maxRecDepth 100000 in
theorem c_X11_bringsTook_122 (E : En) (N : Nat) (σ : Nat → va_E) {un sz₉ tl rz hi₉ mi ak rt cn : Int} {tk g₉ : Int → Int} (hN₉ : 120 ≤ N) (z101 : σ 94 = mOb E un sz₉ tl rz hi₉ mi ak rt cn) (z119 : σ 112 = ai E 686 tk) (z122 : σ 115 = ai E 2058 g₉) (dl : Int) (hdl : 0 ≤ dl ∧ dl ≤ 2) : CV E M_X11_bringsTook 1 [vr E 94, vr E 115, vi dl] N σ (fun σ' => ∃ tk', σ' 112 = ai E 686 tk' ∧ (∀ z₉ : Int, 0 ≤ z₉ → z₉ < 686 → tk' z₉ = g₉ (686 * dl + z₉)) ∧ ∀ q₉, q₉ ≠ 112 → σ' q₉ = σ q₉) := by
  refine CT.of2 (own := RX11) (by decide) rfl (Nat.le_of_ble_eq_true rfl) ?_
  intro p e R s m args below meth c Q hF hr hlk hnm hz hR hQ
  refine go_iconst (pc := 0) hF dX11_bringsTook_0 ?_
  refine go_istore_n (pc := 1) hF [(3, vi 0), (0, vr E 94), (1, vr E 115), (2, vi dl)] dX11_bringsTook_1 rfl (by decide) ?_
  have loop₉ : ∀ (n₉ : Nat) (j₉ : Nat) (h2 : Int → Int) (τ : Nat → va_E), j₉ + n₉ = 688 → (j₉ : Int) ≤ 686 → (∀ z₉ : Int, 0 ≤ z₉ → z₉ < 686 → h2 z₉ = if z₉ < (j₉ : Int) then (fun z₉ : Int => g₉ (686 * dl + z₉)) z₉ else tk z₉) → τ 112 = ai E 686 h2 → (∀ jj : Nat, jj ≠ 112 → τ jj = σ jj) → Go E p e R s m args below meth c Q 4 (0, 0) N τ [(3, vi (j₉ : Int)), (0, vr E 94), (1, vr E 115), (2, vi dl)] [] 2 := by
    intro n₉
    induction n₉ with
    | zero => intro j₉ h2 τ hfu hj hg c_tk_loop fr_loop; exfalso; omega
    | succ n₉ ih₉ =>
      intro j₉ h2 τ hfu hj hg c_tk_loop fr_loop
      have x_loop := (fr_loop 94 (by omega)).trans z101
      have g_loop := (fr_loop 115 (by omega)).trans z122
      refine go_iload_n (pc := 2) hF dX11_bringsTook_2 0 rfl ?_
      refine go_sipush (pc := 3) hF dX11_bringsTook_3 (by decide) ?_
      refine go_icmp_ge (pc := 6) hF 30 dX11_bringsTook_6 (by decide) (by omega) ⟨by decide, by decide⟩ (fun bq6 => ?_) (fun bq6 => ?_)
      · have ej : j₉ = 686 := by omega
        subst ej
        exact go_vretQ hF hr hlk hQ dX11_bringsTook_30 ⟨_, c_tk_loop, fun z₉ z0 z1 => by rw [hg z₉ z0 z1, if_pos (by omega)], (fun jj hjj => by rw [fr_loop jj (by omega)])⟩
      · refine go_aload_n (pc := 9) hF dX11_bringsTook_9 1 rfl ?_
        refine go_get (pc := 10) hF fl_X11_62 dX11_bringsTook_10 (by omega) x_loop rfl ?_
        refine go_iload_n (pc := 13) hF dX11_bringsTook_13 0 rfl ?_
        refine go_aload_n (pc := 14) hF dX11_bringsTook_14 2 rfl ?_
        refine go_sipush (pc := 15) hF dX11_bringsTook_15 (by decide) ?_
        refine go_iload_n (pc := 18) hF dX11_bringsTook_18 3 rfl ?_
        refine go_imul (pc := 19) hF dX11_bringsTook_19 ?_
        refine go_iload_n (pc := 20) hF dX11_bringsTook_20 0 rfl ?_
        refine go_iadd (pc := 21) hF dX11_bringsTook_21 ?_
        refine go_iald (pc := 22) hF dX11_bringsTook_22 (by omega) g_loop (by omega)  ?_
        refine go_iast (pc := 23) hF dX11_bringsTook_23 (by omega) c_tk_loop (by omega) (fun s1₉ u_s1 f_s1 => ?_)
        have x_s1 := (f_s1 94 (by omega)).trans x_loop
        have g_s1 := (f_s1 115 (by omega)).trans g_loop
        refine go_iinc (pc := 24) hF [(3, vi ((j₉ : Int) + 1)), (0, vr E 94), (1, vr E 115), (2, vi dl)] dX11_bringsTook_24 0 rfl rfl (by decide) ?_
        refine go_goto (pc := 27) hF 2 dX11_bringsTook_27 (by decide) ?_
        exact ih₉ (j₉ + 1) _ s1₉ (by omega) (by omega) (map_step hg rfl) u_s1 (fun jj hjj => by rw [f_s1 jj (by omega), fr_loop jj (by omega)])
  exact loop₉ 688 0 tk σ rfl (by omega) (fun z₉ z0 z1 => by rw [if_neg (by omega)]) z119 (fun _ _ => rfl)
set_option maxHeartbeats 4000000 in
set_option maxRecDepth 100000 in
theorem c_X11_joins_122 (E : En) (N : Nat) (σ : Nat → va_E) {un sz₉ tl rz hi₉ mi ak rt cn : Int} {tk g₉ : Int → Int} (hN₉ : 120 ≤ N) (z101 : σ 94 = mOb E un sz₉ tl rz hi₉ mi ak rt cn) (z119 : σ 112 = ai E 686 tk) (z122 : σ 115 = ai E 2058 g₉) (dl : Int) (hdl : 0 ≤ dl ∧ dl ≤ 2) (T S₉ : XS) (B₉ : Int) (hB₉ : 0 ≤ B₉ ∧ B₉ ≤ 1000000000) (hS₉ : TK₉ tk S₉ B₉) (hT0 : TK₉ (fun z₉ => g₉ (686 * dl + z₉)) T B₉) : CV E M_X11_joins 2 [vr E 94, vr E 115, vi dl] N σ (fun σ' => ∃ g', σ' 115 = ai E 2058 g' ∧ TK₉ (fun z₉ => g' (686 * dl + z₉)) (fun r₉ c => T r₉ c ∨ S₉ r₉ c) B₉ ∧ (∀ z₉ : Int, 0 ≤ z₉ → (z₉ < 686 * dl ∨ 686 * dl + 686 ≤ z₉) → g' z₉ = g₉ z₉) ∧ ∀ q₉, q₉ ≠ 115 → σ' q₉ = σ q₉) := by
  refine CT.of2 (own := RX11) (by decide) rfl (Nat.le_of_ble_eq_true rfl) ?_
  intro p e R s m args below meth c Q hF hr hlk hnm hz hR hQ
  refine go_iconst (pc := 0) hF dX11_joins_0 ?_
  refine go_istore_n (pc := 1) hF [(3, vi 0), (0, vr E 94), (1, vr E 115), (2, vi dl)] dX11_joins_1 rfl (by decide) ?_
  have loop₉ : ∀ (n₉ : Nat) (j₉ : Nat) (h2 : Int → Int) (τ : Nat → va_E), j₉ + n₉ = 345 → (j₉ : Int) ≤ 343 → TK₉ (fun z₉ => h2 (686 * dl + z₉)) (jD T S₉ (j₉ : Int)) B₉ → (∀ z₉ : Int, 0 ≤ z₉ → (z₉ < 686 * dl ∨ 686 * dl + 686 ≤ z₉) → h2 z₉ = g₉ z₉) → τ 115 = ai E 2058 h2 → (∀ jj : Nat, jj ≠ 115 → τ jj = σ jj) → Go E p e R s m args below meth c Q 4 (0, 0) N τ [(3, vi (j₉ : Int)), (0, vr E 94), (1, vr E 115), (2, vi dl)] [] 2 := by
    intro n₉
    induction n₉ with
    | zero => intro j₉ h2 τ hfu hj hT₉ ho c_g_loop fr_loop; exfalso; omega
    | succ n₉ ih₉ =>
      intro j₉ h2 τ hfu hj hT₉ ho c_g_loop fr_loop
      have x_loop := (fr_loop 94 (by omega)).trans z101
      have tk_loop := (fr_loop 112 (by omega)).trans z119
      refine go_iload_n (pc := 2) hF dX11_joins_2 0 rfl ?_
      refine go_sipush (pc := 3) hF dX11_joins_3 (by decide) ?_
      refine go_icmp_ge (pc := 6) hF 50 dX11_joins_6 (by decide) (by omega) ⟨by decide, by decide⟩ (fun bq6 => ?_) (fun bq6 => ?_)
      · have ej : j₉ = 343 := by omega
        subst ej
        exact go_vretQ hF hr hlk hQ dX11_joins_50 ⟨_, c_g_loop, TK₉.iffR hT₉ (fun r₉ c r0 r1₉ => ⟨fun h => h.elim Or.inl (fun z₉ => Or.inr z₉.2), fun h => h.elim Or.inl (fun z₉ => Or.inr ⟨by omega, z₉⟩)⟩), ho, (fun jj hjj => by rw [fr_loop jj (by omega)])⟩
      · have gv : h2 (686 * dl + (j₉ : Int)) = -1 ∨ (0 ≤ h2 (686 * dl + (343 + (j₉ : Int))) ∧ h2 (686 * dl + (343 + (j₉ : Int))) ≤ h2 (686 * dl + (j₉ : Int)) ∧ h2 (686 * dl + (j₉ : Int)) ≤ B₉) := TK₉.val hT₉ (r₉ := (j₉ : Int)) ⟨by omega, by omega⟩
        have tv := TK₉.val hS₉ (r₉ := (j₉ : Int)) ⟨by omega, by omega⟩
        refine go_aload_n (pc := 9) hF dX11_joins_9 1 rfl ?_
        refine go_get (pc := 10) hF fl_X11_62 dX11_joins_10 (by omega) x_loop rfl ?_
        refine go_iload_n (pc := 13) hF dX11_joins_13 0 rfl ?_
        refine go_iald (pc := 14) hF dX11_joins_14 (by omega) tk_loop (by omega)  ?_
        refine go_if_lt (pc := 15) hF 44 dX11_joins_15 (by decide) (by omega) (fun bq15 => ?_) (fun bq15 => ?_)
        · refine go_iinc (pc := 44) hF [(3, vi ((j₉ : Int) + 1)), (0, vr E 94), (1, vr E 115), (2, vi dl)] dX11_joins_44 0 rfl rfl (by decide) ?_
          refine go_goto (pc := 47) hF 2 dX11_joins_47 (by decide) ?_
          exact ih₉ (j₉ + 1) _ τ (by omega) (by omega) (TK₉.iff hT₉ (jD_n (TK_dead hS₉ ⟨by omega, by omega⟩ bq15))) ho c_g_loop (fun jj hjj => by rw [fr_loop jj (by omega)])
        · have tl9 := TK_live hS₉ (r₉ := (j₉ : Int)) ⟨by omega, by omega⟩ (by omega)
          refine go_aload_n (pc := 18) hF dX11_joins_18 2 rfl ?_
          refine go_sipush (pc := 19) hF dX11_joins_19 (by decide) ?_
          refine go_iload_n (pc := 22) hF dX11_joins_22 3 rfl ?_
          refine go_imul (pc := 23) hF dX11_joins_23 ?_
          refine go_iload_n (pc := 24) hF dX11_joins_24 0 rfl ?_
          refine go_aload_n (pc := 25) hF dX11_joins_25 1 rfl ?_
          refine go_get (pc := 26) hF fl_X11_62 dX11_joins_26 (by omega) x_loop rfl ?_
          refine go_iload_n (pc := 29) hF dX11_joins_29 0 rfl ?_
          refine go_iald (pc := 30) hF dX11_joins_30 (by omega) tk_loop (by omega)  ?_
          refine go_aload_n (pc := 31) hF dX11_joins_31 1 rfl ?_
          refine go_get (pc := 32) hF fl_X11_62 dX11_joins_32 (by omega) x_loop rfl ?_
          refine go_sipush (pc := 35) hF dX11_joins_35 (by decide) ?_
          refine go_iload_n (pc := 38) hF dX11_joins_38 0 rfl ?_
          refine go_iadd (pc := 39) hF dX11_joins_39 ?_
          refine go_iald (pc := 40) hF dX11_joins_40 (by omega) tk_loop (by omega)  ?_
          refine go_callSV (pc := 41) hF [vr E 115, vi (686 * dl), vi (j₉ : Int), vi (tk (j₉ : Int)), vi (tk (343 + (j₉ : Int)))] [] ms_X11_229 dX11_joins_41 (c_X11_comes E N τ 115 2058 (by omega) (by decide) c_g_loop (686 * dl) (j₉ : Int) (tk (j₉ : Int)) (tk (343 + (j₉ : Int))) (by omega) (by omega) (by omega) (fun h => by rw [show 686 * dl + 343 + (j₉ : Int) = 686 * dl + (343 + j₉) by omega]; omega) (by omega) (by omega)) rfl rfl (Nat.le_of_ble_eq_true rfl) (by decide) ⟨Nat.zero_le _, Nat.zero_le _⟩ (fun s1₉ h_s1 => ?_)
          obtain ⟨u_s1, f_s1⟩ := h_s1
          have x_s1 := (f_s1 94 (by omega)).trans x_loop
          have tk_s1 := (f_s1 112 (by omega)).trans tk_loop
          refine go_iinc (pc := 44) hF [(3, vi ((j₉ : Int) + 1)), (0, vr E 94), (1, vr E 115), (2, vi dl)] dX11_joins_44 0 rfl rfl (by decide) ?_
          refine go_goto (pc := 47) hF 2 dX11_joins_47 (by decide) ?_
          exact ih₉ (j₉ + 1) _ s1₉ (by omega) (by omega) (TK₉.iff (cm_TK hT₉ ⟨by omega, by omega⟩ ⟨tl9.1.1, tl9.1.2.2⟩ tl9.2.1 tl9.2.2.1 tl9.2.2.2) (jD_s T S₉ j₉)) (fun z₉ z0 z1 => by rw [cmF_out ⟨by omega, by omega⟩ z1]; exact ho z₉ z0 z1) u_s1 (fun jj hjj => by rw [f_s1 jj (by omega), fr_loop jj (by omega)])
  exact loop₉ 345 0 g₉ σ rfl (by omega) (TK₉.iffR hT0 (fun r₉ c r0 r1₉ => ⟨Or.inl, fun h => h.elim id (fun z₉ => absurd z₉.1 (by omega))⟩)) (fun _ _ _ => rfl) z122 (fun _ _ => rfl)
set_option maxHeartbeats 4000000 in
set_option maxRecDepth 100000 in
theorem c_X11_does_look (E : En) (N : Nat) (σ : Nat → va_E) {un tl rz hi₉ mi ak rt cn : Int} {t₉ : Tr} {nw sn tk nx : Int → Int} (hN₉ : 120 ≤ N) (z101 : σ 94 = mOb E un (tLen t₉ : Int) tl rz hi₉ mi ak rt cn) (z102 : σ 95 = ai E 7 nw) (z105 : σ 98 = ai E 80 sn) (z119 : σ 112 = ai E 686 tk) (z120 : σ 113 = ai E 686 nx) (u₉ kd pr pp B₉ : Int) (S₉ : XS) (n5₉ : nw 5 = kd) (n6₉ : nw 6 = pr) (hu : 1 ≤ u₉ ∧ u₉ ≤ 3) (hkd : 0 ≤ kd ∧ kd ≤ 3) (hpr : 2 ≤ pr ∧ pr ≤ 99) (hpp : 0 ≤ pp ∧ pp < 80) (hc₉ : 97 ≤ sn pp ∧ sn pp ≤ 102) (hB₉ : 0 ≤ B₉ ∧ B₉ ≤ 1000000000) (hvS : vS u₉ S₉) (hS₉ : TK₉ tk S₉ B₉) : CV E M_X11_does 4 [vr E 94, vi pp, vi u₉] N σ (fun σ' => ∃ tk' nx', σ' 112 = ai E 686 tk' ∧ σ' 113 = ai E 686 nx' ∧ TK₉ tk' (xLook u₉ kd pr (sn pp) S₉) (B₉ + 99) ∧ ∀ q₉, ¬ (112 ≤ q₉ ∧ q₉ ≤ 113) → σ' q₉ = σ q₉) := by
  refine CT.of2 (own := RX11) (by decide) rfl (Nat.le_of_ble_eq_true rfl) ?_
  intro p e R s m args below meth c Q hF hr hlk hnm hz hR hQ
  refine go_aload_n (pc := 0) hF dX11_does_0 0 rfl ?_
  refine go_callVV (pc := 1) hF [] [] mv_X11_233 dX11_does_1 (by omega) z101 (c_X11_clears E N σ hN₉ z101 z120) rfl rfl (Nat.le_of_ble_eq_true rfl) (by decide) ⟨Nat.zero_le _, Nat.zero_le _⟩ (fun s1₉ h_s1 => ?_)
  obtain ⟨nx_s1, u_s1, hn_s1, f_s1⟩ := h_s1
  have x_s1 := (f_s1 94 (by omega)).trans z101
  have nw_s1 := (f_s1 95 (by omega)).trans z102
  have sn_s1 := (f_s1 98 (by omega)).trans z105
  have tk_s1 := (f_s1 112 (by omega)).trans z119
  refine go_aload_n (pc := 4) hF dX11_does_4 0 rfl ?_
  refine go_get (pc := 5) hF fl_X11_19 dX11_does_5 (by omega) x_s1 rfl ?_
  refine go_iload_n (pc := 8) hF dX11_does_8 1 rfl ?_
  refine go_iald (pc := 9) hF dX11_does_9 (by omega) sn_s1 (by omega)  ?_
  refine go_bipush (pc := 10) hF dX11_does_10 (by decide) ?_
  refine go_isub (pc := 12) hF dX11_does_12 ?_
  refine go_istore_n (pc := 13) hF [(3, vi ((sn pp) - 97)), (0, vr E 94), (1, vi pp), (2, vi u₉)] dX11_does_13 rfl (by decide) ?_
  refine go_aload_n (pc := 14) hF dX11_does_14 1 rfl ?_
  refine go_get (pc := 15) hF fl_X11_19 dX11_does_15 (by omega) x_s1 rfl ?_
  refine go_iload_n (pc := 18) hF dX11_does_18 2 rfl ?_
  refine go_iald (pc := 19) hF dX11_does_19 (by omega) sn_s1 (by omega)  ?_
  refine go_callSP (pc := 20) hF [vi (sn pp)] [] ms_X11_168 dX11_does_20 (show CP E M_X11_isLook 2 [vi (sn pp)] N s1₉ 1 from (by have h := c_X11_isLook E N s1₉ (sn pp) (by omega); rw [bI_t (by omega)] at h; exact h)) rfl rfl (Nat.le_of_ble_eq_true rfl) (by decide) ⟨Nat.zero_le _, Nat.zero_le _⟩ ?_
  refine go_istore (pc := 23) hF [(4, vi 1), (3, vi ((sn pp) - 97)), (0, vr E 94), (1, vi pp), (2, vi u₉)] dX11_does_23 rfl (by decide) ?_
  refine go_iconst (pc := 25) hF dX11_does_25 ?_
  refine go_istore (pc := 26) hF [(5, vi 0), (4, vi 1), (3, vi ((sn pp) - 97)), (0, vr E 94), (1, vi pp), (2, vi u₉)] dX11_does_26 rfl (by decide) ?_
  have loop₉ : ∀ (n₉ : Nat) (j₉ : Nat) (h2 : Int → Int) (τ : Nat → va_E), j₉ + n₉ = 345 → (j₉ : Int) ≤ 343 → TK₉ h2 (xD (fun a₉ => mAfter a₉ (sn pp - 97) u₉ kd) (fun a₉ => if mPlace a₉ (sn pp - 97) = -1 then pr else 1) S₉ (j₉ : Int)) (B₉ + 99) → τ 113 = ai E 686 h2 → (∀ jj : Nat, jj ≠ 113 → τ jj = s1₉ jj) → Go E p e R s m args below meth c Q 8 (0, 0) N τ [(5, vi (j₉ : Int)), (4, vi 1), (3, vi (sn pp - 97)), (0, vr E 94), (1, vi pp), (2, vi u₉)] [] 28 := by
    intro n₉
    induction n₉ with
    | zero => intro j₉ h2 τ hfu hj hT₉ c_nx_loop fr_loop; exfalso; omega
    | succ n₉ ih₉ =>
      intro j₉ h2 τ hfu hj hT₉ c_nx_loop fr_loop
      have x_loop := (fr_loop 94 (by omega)).trans x_s1
      have nw_loop := (fr_loop 95 (by omega)).trans nw_s1
      have sn_loop := (fr_loop 98 (by omega)).trans sn_s1
      have tk_loop := (fr_loop 112 (by omega)).trans tk_s1
      refine go_iload (pc := 28) hF dX11_does_28 0 rfl ?_
      refine go_sipush (pc := 30) hF dX11_does_30 (by decide) ?_
      refine go_icmp_ge (pc := 33) hF 129 dX11_does_33 (by decide) (by omega) ⟨by decide, by decide⟩ (fun bq33 => ?_) (fun bq33 => ?_)
      · refine go_aload_n (pc := 129) hF dX11_does_129 3 rfl ?_
        refine go_callVV (pc := 130) hF [] [] mv_X11_236 dX11_does_130 (by omega) x_loop (c_X11_nextIsNow E N τ hN₉ x_loop c_nx_loop tk_loop) rfl rfl (Nat.le_of_ble_eq_true rfl) (by decide) ⟨Nat.zero_le _, Nat.zero_le _⟩ (fun s2₉ h_s2 => ?_)
        obtain ⟨tk_s2, u_s2, ht_s2, f_s2⟩ := h_s2
        have x_s2 := (f_s2 94 (by omega)).trans x_loop
        have nw_s2 := (f_s2 95 (by omega)).trans nw_loop
        have sn_s2 := (f_s2 98 (by omega)).trans sn_loop
        have nx_s2 := (f_s2 113 (by omega)).trans c_nx_loop
        have ej : j₉ = 343 := by omega
        subst ej
        exact go_vretQ hF hr hlk hQ dX11_does_133 ⟨_, _, u_s2, nx_s2, ((TK₉.ext hT₉ ht_s2).iff (fun r₉ c => xD_look hc₉ hvS r₉ c)), (fun jj hjj => by rw [f_s2 jj (by omega), fr_loop jj (by omega), f_s1 jj (by omega)])⟩
      · have tv := TK₉.val hS₉ (r₉ := (j₉ : Int)) ⟨by omega, by omega⟩
        refine go_aload_n (pc := 36) hF dX11_does_36 3 rfl ?_
        refine go_get (pc := 37) hF fl_X11_62 dX11_does_37 (by omega) x_loop rfl ?_
        refine go_iload (pc := 40) hF dX11_does_40 0 rfl ?_
        refine go_iald (pc := 42) hF dX11_does_42 (by omega) tk_loop (by omega)  ?_
        refine go_if_lt (pc := 43) hF 123 dX11_does_43 (by decide) (by omega) (fun bq43 => ?_) (fun bq43 => ?_)
        · refine go_iinc (pc := 123) hF [(5, vi ((j₉ : Int) + 1)), (4, vi 1), (3, vi (sn pp - 97)), (0, vr E 94), (1, vi pp), (2, vi u₉)] dX11_does_123 0 rfl rfl (by decide) ?_
          refine go_goto (pc := 126) hF 28 dX11_does_126 (by decide) ?_
          exact ih₉ (j₉ + 1) _ τ (by omega) (by omega) (TK₉.iff hT₉ (xD_n (TK_dead hS₉ ⟨by omega, by omega⟩ bq43))) c_nx_loop (fun jj hjj => by rw [fr_loop jj (by omega)])
        · have tl9 := TK_live hS₉ (r₉ := (j₉ : Int)) ⟨by omega, by omega⟩ (by omega)
          have hra : 0 ≤ mAfter (j₉ : Int) (sn pp - 97) u₉ kd ∧ mAfter (j₉ : Int) (sn pp - 97) u₉ kd < 343 := (row_ok (hvS _ _ tl9.2.1) (by omega) hu hkd).2.2.1
          have gc₉ : 1 ≤ (if mPlace (j₉ : Int) (sn pp - 97) = -1 then pr else 1) ∧ (if mPlace (j₉ : Int) (sn pp - 97) = -1 then pr else 1) ≤ 99 := by split <;> omega
          have gv := TK₉.val hT₉ (r₉ := mAfter (j₉ : Int) (sn pp - 97) u₉ kd) hra
          refine go_iload (pc := 46) hF dX11_does_46 1 rfl ?_
          refine go_if_eq (pc := 48) hF 61 dX11_does_48 (by decide) ⟨by decide, by decide⟩ (fun bq48 => ?_) (fun bq48 => ?_)
          · exact absurd bq48 (by decide)
          · refine go_aload_n (pc := 51) hF dX11_does_51 3 rfl ?_
            refine go_iload (pc := 52) hF dX11_does_52 0 rfl ?_
            refine go_iload_n (pc := 54) hF dX11_does_54 2 rfl ?_
            refine go_callVP (pc := 55) hF [vi (j₉ : Int), vi (sn pp - 97)] [] mv_X11_146 dX11_does_55 (by omega) x_loop (c_X11_costs E N τ hN₉ x_loop nw_loop (j₉ : Int) (sn pp - 97) (by omega) (by omega)) rfl rfl (Nat.le_of_ble_eq_true rfl) (by decide) ⟨Nat.zero_le _, Nat.zero_le _⟩ ?_
            rw [n6₉]
            refine go_goto (pc := 58) hF 62 dX11_does_58 (by decide) ?_
            refine go_istore (pc := 62) hF [(6, vi (if mPlace (j₉ : Int) (sn pp - 97) = -1 then pr else 1)), (5, vi (j₉ : Int)), (4, vi 1), (3, vi (sn pp - 97)), (0, vr E 94), (1, vi pp), (2, vi u₉)] dX11_does_62 rfl (by decide) ?_
            refine go_iload (pc := 64) hF dX11_does_64 2 rfl ?_
            refine go_if_eq (pc := 66) hF 85 dX11_does_66 (by decide) ⟨by decide, by decide⟩ (fun bq66 => ?_) (fun bq66 => ?_)
            · exact absurd bq66 (by decide)
            · refine go_iload (pc := 69) hF dX11_does_69 1 rfl ?_
              refine go_iload_n (pc := 71) hF dX11_does_71 3 rfl ?_
              refine go_iload_n (pc := 72) hF dX11_does_72 6 rfl ?_
              refine go_aload_n (pc := 73) hF dX11_does_73 4 rfl ?_
              refine go_get (pc := 74) hF fl_X11_7 dX11_does_74 (by omega) x_loop rfl ?_
              refine go_iconst (pc := 77) hF dX11_does_77 ?_
              refine go_iald (pc := 78) hF dX11_does_78 (by omega) nw_loop (by omega)  ?_
              refine go_callSP (pc := 79) hF [vi (j₉ : Int), vi (sn pp - 97), vi u₉, vi (nw 5)] [] ms_X11_142 dX11_does_79 (c_X11_after E N τ (j₉ : Int) (sn pp - 97) u₉ (nw 5) (by omega) (by omega) (by omega) (by omega)) rfl rfl (Nat.le_of_ble_eq_true rfl) (by decide) ⟨Nat.zero_le _, Nat.zero_le _⟩ ?_
              rw [n5₉]
              refine go_goto (pc := 82) hF 87 dX11_does_82 (by decide) ?_
              refine go_istore (pc := 87) hF [(7, vi (mAfter (j₉ : Int) (sn pp - 97) u₉ kd)), (6, vi (if mPlace (j₉ : Int) (sn pp - 97) = -1 then pr else 1)), (5, vi (j₉ : Int)), (4, vi 1), (3, vi (sn pp - 97)), (0, vr E 94), (1, vi pp), (2, vi u₉)] dX11_does_87 rfl (by decide) ?_
              refine go_aload_n (pc := 89) hF dX11_does_89 5 rfl ?_
              refine go_get (pc := 90) hF fl_X11_65 dX11_does_90 (by omega) x_loop rfl ?_
              refine go_iconst (pc := 93) hF dX11_does_93 ?_
              refine go_iload (pc := 94) hF dX11_does_94 0 rfl ?_
              refine go_aload_n (pc := 96) hF dX11_does_96 5 rfl ?_
              refine go_get (pc := 97) hF fl_X11_62 dX11_does_97 (by omega) x_loop rfl ?_
              refine go_iload (pc := 100) hF dX11_does_100 2 rfl ?_
              refine go_iald (pc := 102) hF dX11_does_102 (by omega) tk_loop (by omega)  ?_
              refine go_iload (pc := 103) hF dX11_does_103 1 rfl ?_
              refine go_iadd (pc := 105) hF dX11_does_105 ?_
              refine go_aload_n (pc := 106) hF dX11_does_106 5 rfl ?_
              refine go_get (pc := 107) hF fl_X11_62 dX11_does_107 (by omega) x_loop rfl ?_
              refine go_sipush (pc := 110) hF dX11_does_110 (by decide) ?_
              refine go_iload (pc := 113) hF dX11_does_113 2 rfl ?_
              refine go_iadd (pc := 115) hF dX11_does_115 ?_
              refine go_iald (pc := 116) hF dX11_does_116 (by omega) tk_loop (by omega)  ?_
              refine go_iload (pc := 117) hF dX11_does_117 1 rfl ?_
              refine go_iadd (pc := 119) hF dX11_does_119 ?_
              refine go_callSV (pc := 120) hF [vr E 113, vi 0, vi (mAfter (j₉ : Int) (sn pp - 97) u₉ kd), vi ((tk (j₉ : Int)) + (if mPlace (j₉ : Int) (sn pp - 97) = -1 then pr else 1)), vi ((tk (343 + (j₉ : Int))) + (if mPlace (j₉ : Int) (sn pp - 97) = -1 then pr else 1))] [] ms_X11_229 dX11_does_120 (c_X11_comes E N τ 113 686 (by omega) (by decide) c_nx_loop 0 (mAfter (j₉ : Int) (sn pp - 97) u₉ kd) (tk (j₉ : Int) + (if mPlace (j₉ : Int) (sn pp - 97) = -1 then pr else 1)) (tk (343 + (j₉ : Int)) + (if mPlace (j₉ : Int) (sn pp - 97) = -1 then pr else 1)) (by omega) hra (by rw [Int.zero_add]; omega) (fun h => by rw [show (0 : Int) + 343 + (mAfter (j₉ : Int) (sn pp - 97) u₉ kd) = 343 + (mAfter (j₉ : Int) (sn pp - 97) u₉ kd) by omega]; rw [Int.zero_add] at h; omega) (by omega) (by omega)) rfl rfl (Nat.le_of_ble_eq_true rfl) (by decide) ⟨Nat.zero_le _, Nat.zero_le _⟩ (fun s3₉ h_s3 => ?_)
              obtain ⟨u_s3, f_s3⟩ := h_s3
              have x_s3 := (f_s3 94 (by omega)).trans x_loop
              have nw_s3 := (f_s3 95 (by omega)).trans nw_loop
              have sn_s3 := (f_s3 98 (by omega)).trans sn_loop
              have tk_s3 := (f_s3 112 (by omega)).trans tk_loop
              refine go_iinc (pc := 123) hF [(5, vi ((j₉ : Int) + 1)), (7, vi (mAfter (j₉ : Int) (sn pp - 97) u₉ kd)), (6, vi (if mPlace (j₉ : Int) (sn pp - 97) = -1 then pr else 1)), (4, vi 1), (3, vi (sn pp - 97)), (0, vr E 94), (1, vi pp), (2, vi u₉)] dX11_does_123 2 rfl rfl (by decide) ?_
              refine go_goto (pc := 126) hF 28 dX11_does_126 (by decide) ?_
              refine go_lv [(5, vi ((j₉ : Int) + 1)), (4, vi 1), (3, vi (sn pp - 97)), (0, vr E 94), (1, vi pp), (2, vi u₉)] [0, 3, 4, 5, 6, 7] rfl ?_
              exact ih₉ (j₉ + 1) _ s3₉ (by omega) (by omega) (TK₉.iff (cm_TK0 (Pq := fun c => S₉ (j₉ : Int) (c - (if mPlace (j₉ : Int) (sn pp - 97) = -1 then pr else 1))) hT₉ hra ⟨by omega, by omega⟩ (by show S₉ (j₉ : Int) (tk (j₉ : Int) + (if mPlace (j₉ : Int) (sn pp - 97) = -1 then pr else 1) - (if mPlace (j₉ : Int) (sn pp - 97) = -1 then pr else 1)); rw [show tk (j₉ : Int) + (if mPlace (j₉ : Int) (sn pp - 97) = -1 then pr else 1) - (if mPlace (j₉ : Int) (sn pp - 97) = -1 then pr else 1) = tk (j₉ : Int) by omega]; exact tl9.2.1) (by show S₉ (j₉ : Int) (tk (343 + (j₉ : Int)) + (if mPlace (j₉ : Int) (sn pp - 97) = -1 then pr else 1) - (if mPlace (j₉ : Int) (sn pp - 97) = -1 then pr else 1)); rw [show tk (343 + (j₉ : Int)) + (if mPlace (j₉ : Int) (sn pp - 97) = -1 then pr else 1) - (if mPlace (j₉ : Int) (sn pp - 97) = -1 then pr else 1) = tk (343 + (j₉ : Int)) by omega]; exact tl9.2.2.1) (fun c hc₉ => by have q₉ := tl9.2.2.2 _ hc₉; omega)) (xD_s (fun a₉ => mAfter a₉ (sn pp - 97) u₉ kd) (fun a₉ => if mPlace a₉ (sn pp - 97) = -1 then pr else 1) S₉ j₉)) u_s3 (fun jj hjj => by rw [f_s3 jj (by omega), fr_loop jj (by omega)])
  exact loop₉ 345 0 _ s1₉ rfl (by omega) (TK₉.iff (TK_none hn_s1) (fun r₉ c => ⟨fun z₉ => z₉.elim, fun z₉ => absurd z₉ (xD_0 _ _ _ _ _)⟩)) u_s1 (fun _ _ => rfl)
set_option maxHeartbeats 4000000 in
set_option maxRecDepth 100000 in
theorem c_X11_does_dot (E : En) (N : Nat) (σ : Nat → va_E) {un tl rz hi₉ mi ak rt cn : Int} {t₉ : Tr} {nw sn tk nx : Int → Int} (hN₉ : 120 ≤ N) (z101 : σ 94 = mOb E un (tLen t₉ : Int) tl rz hi₉ mi ak rt cn) (z102 : σ 95 = ai E 7 nw) (z105 : σ 98 = ai E 80 sn) (z119 : σ 112 = ai E 686 tk) (z120 : σ 113 = ai E 686 nx) (u₉ kd pr pp B₉ : Int) (S₉ : XS) (n5₉ : nw 5 = kd) (n6₉ : nw 6 = pr) (hu : 1 ≤ u₉ ∧ u₉ ≤ 3) (hkd : 0 ≤ kd ∧ kd ≤ 3) (hpr : 2 ≤ pr ∧ pr ≤ 99) (hpp : 0 ≤ pp ∧ pp < 80) (hc₉ : sn pp = 46) (hB₉ : 0 ≤ B₉ ∧ B₉ ≤ 1000000000) (hvS : vS u₉ S₉) (hS₉ : TK₉ tk S₉ B₉) : CV E M_X11_does 4 [vr E 94, vi pp, vi u₉] N σ (fun σ' => ∃ tk' nx', σ' 112 = ai E 686 tk' ∧ σ' 113 = ai E 686 nx' ∧ TK₉ tk' (xLook u₉ kd pr (sn pp) S₉) (B₉ + 99) ∧ ∀ q₉, ¬ (112 ≤ q₉ ∧ q₉ ≤ 113) → σ' q₉ = σ q₉) := by
  refine CT.of2 (own := RX11) (by decide) rfl (Nat.le_of_ble_eq_true rfl) ?_
  intro p e R s m args below meth c Q hF hr hlk hnm hz hR hQ
  refine go_aload_n (pc := 0) hF dX11_does_0 0 rfl ?_
  refine go_callVV (pc := 1) hF [] [] mv_X11_233 dX11_does_1 (by omega) z101 (c_X11_clears E N σ hN₉ z101 z120) rfl rfl (Nat.le_of_ble_eq_true rfl) (by decide) ⟨Nat.zero_le _, Nat.zero_le _⟩ (fun s1₉ h_s1 => ?_)
  obtain ⟨nx_s1, u_s1, hn_s1, f_s1⟩ := h_s1
  have x_s1 := (f_s1 94 (by omega)).trans z101
  have nw_s1 := (f_s1 95 (by omega)).trans z102
  have sn_s1 := (f_s1 98 (by omega)).trans z105
  have tk_s1 := (f_s1 112 (by omega)).trans z119
  refine go_aload_n (pc := 4) hF dX11_does_4 0 rfl ?_
  refine go_get (pc := 5) hF fl_X11_19 dX11_does_5 (by omega) x_s1 rfl ?_
  refine go_iload_n (pc := 8) hF dX11_does_8 1 rfl ?_
  refine go_iald (pc := 9) hF dX11_does_9 (by omega) sn_s1 (by omega)  ?_
  refine go_bipush (pc := 10) hF dX11_does_10 (by decide) ?_
  refine go_isub (pc := 12) hF dX11_does_12 ?_
  refine go_istore_n (pc := 13) hF [(3, vi ((sn pp) - 97)), (0, vr E 94), (1, vi pp), (2, vi u₉)] dX11_does_13 rfl (by decide) ?_
  refine go_aload_n (pc := 14) hF dX11_does_14 1 rfl ?_
  refine go_get (pc := 15) hF fl_X11_19 dX11_does_15 (by omega) x_s1 rfl ?_
  refine go_iload_n (pc := 18) hF dX11_does_18 2 rfl ?_
  refine go_iald (pc := 19) hF dX11_does_19 (by omega) sn_s1 (by omega)  ?_
  refine go_callSP (pc := 20) hF [vi (sn pp)] [] ms_X11_168 dX11_does_20 (show CP E M_X11_isLook 2 [vi (sn pp)] N s1₉ 0 from (by have h := c_X11_isLook E N s1₉ (sn pp) (by omega); rw [bI_f (by omega)] at h; exact h)) rfl rfl (Nat.le_of_ble_eq_true rfl) (by decide) ⟨Nat.zero_le _, Nat.zero_le _⟩ ?_
  refine go_istore (pc := 23) hF [(4, vi 0), (3, vi ((sn pp) - 97)), (0, vr E 94), (1, vi pp), (2, vi u₉)] dX11_does_23 rfl (by decide) ?_
  refine go_iconst (pc := 25) hF dX11_does_25 ?_
  refine go_istore (pc := 26) hF [(5, vi 0), (4, vi 0), (3, vi ((sn pp) - 97)), (0, vr E 94), (1, vi pp), (2, vi u₉)] dX11_does_26 rfl (by decide) ?_
  have loop₉ : ∀ (n₉ : Nat) (j₉ : Nat) (h2 : Int → Int) (τ : Nat → va_E), j₉ + n₉ = 345 → (j₉ : Int) ≤ 343 → TK₉ h2 (xD (fun a₉ => a₉) (fun _ => 1) S₉ (j₉ : Int)) (B₉ + 99) → τ 113 = ai E 686 h2 → (∀ jj : Nat, jj ≠ 113 → τ jj = s1₉ jj) → Go E p e R s m args below meth c Q 8 (0, 0) N τ [(5, vi (j₉ : Int)), (4, vi 0), (3, vi (sn pp - 97)), (0, vr E 94), (1, vi pp), (2, vi u₉)] [] 28 := by
    intro n₉
    induction n₉ with
    | zero => intro j₉ h2 τ hfu hj hT₉ c_nx_loop fr_loop; exfalso; omega
    | succ n₉ ih₉ =>
      intro j₉ h2 τ hfu hj hT₉ c_nx_loop fr_loop
      have x_loop := (fr_loop 94 (by omega)).trans x_s1
      have nw_loop := (fr_loop 95 (by omega)).trans nw_s1
      have sn_loop := (fr_loop 98 (by omega)).trans sn_s1
      have tk_loop := (fr_loop 112 (by omega)).trans tk_s1
      refine go_iload (pc := 28) hF dX11_does_28 0 rfl ?_
      refine go_sipush (pc := 30) hF dX11_does_30 (by decide) ?_
      refine go_icmp_ge (pc := 33) hF 129 dX11_does_33 (by decide) (by omega) ⟨by decide, by decide⟩ (fun bq33 => ?_) (fun bq33 => ?_)
      · refine go_aload_n (pc := 129) hF dX11_does_129 3 rfl ?_
        refine go_callVV (pc := 130) hF [] [] mv_X11_236 dX11_does_130 (by omega) x_loop (c_X11_nextIsNow E N τ hN₉ x_loop c_nx_loop tk_loop) rfl rfl (Nat.le_of_ble_eq_true rfl) (by decide) ⟨Nat.zero_le _, Nat.zero_le _⟩ (fun s2₉ h_s2 => ?_)
        obtain ⟨tk_s2, u_s2, ht_s2, f_s2⟩ := h_s2
        have x_s2 := (f_s2 94 (by omega)).trans x_loop
        have nw_s2 := (f_s2 95 (by omega)).trans nw_loop
        have sn_s2 := (f_s2 98 (by omega)).trans sn_loop
        have nx_s2 := (f_s2 113 (by omega)).trans c_nx_loop
        have ej : j₉ = 343 := by omega
        subst ej
        exact go_vretQ hF hr hlk hQ dX11_does_133 ⟨_, _, u_s2, nx_s2, ((TK₉.ext hT₉ ht_s2).iff (fun r₉ c => by rw [hc₉]; exact xD_dot hvS r₉ c)), (fun jj hjj => by rw [f_s2 jj (by omega), fr_loop jj (by omega), f_s1 jj (by omega)])⟩
      · have tv := TK₉.val hS₉ (r₉ := (j₉ : Int)) ⟨by omega, by omega⟩
        refine go_aload_n (pc := 36) hF dX11_does_36 3 rfl ?_
        refine go_get (pc := 37) hF fl_X11_62 dX11_does_37 (by omega) x_loop rfl ?_
        refine go_iload (pc := 40) hF dX11_does_40 0 rfl ?_
        refine go_iald (pc := 42) hF dX11_does_42 (by omega) tk_loop (by omega)  ?_
        refine go_if_lt (pc := 43) hF 123 dX11_does_43 (by decide) (by omega) (fun bq43 => ?_) (fun bq43 => ?_)
        · refine go_iinc (pc := 123) hF [(5, vi ((j₉ : Int) + 1)), (4, vi 0), (3, vi (sn pp - 97)), (0, vr E 94), (1, vi pp), (2, vi u₉)] dX11_does_123 0 rfl rfl (by decide) ?_
          refine go_goto (pc := 126) hF 28 dX11_does_126 (by decide) ?_
          exact ih₉ (j₉ + 1) _ τ (by omega) (by omega) (TK₉.iff hT₉ (xD_n (TK_dead hS₉ ⟨by omega, by omega⟩ bq43))) c_nx_loop (fun jj hjj => by rw [fr_loop jj (by omega)])
        · have tl9 := TK_live hS₉ (r₉ := (j₉ : Int)) ⟨by omega, by omega⟩ (by omega)
          have hra : 0 ≤ (j₉ : Int) ∧ (j₉ : Int) < 343 := by omega
          have gv := TK₉.val hT₉ (r₉ := (j₉ : Int)) hra
          refine go_iload (pc := 46) hF dX11_does_46 1 rfl ?_
          refine go_if_eq (pc := 48) hF 61 dX11_does_48 (by decide) ⟨by decide, by decide⟩ (fun bq48 => ?_) (fun bq48 => ?_)
          · refine go_iconst (pc := 61) hF dX11_does_61 ?_
            refine go_istore (pc := 62) hF [(6, vi 1), (5, vi (j₉ : Int)), (4, vi 0), (3, vi (sn pp - 97)), (0, vr E 94), (1, vi pp), (2, vi u₉)] dX11_does_62 rfl (by decide) ?_
            refine go_iload (pc := 64) hF dX11_does_64 2 rfl ?_
            refine go_if_eq (pc := 66) hF 85 dX11_does_66 (by decide) ⟨by decide, by decide⟩ (fun bq66 => ?_) (fun bq66 => ?_)
            · refine go_iload (pc := 85) hF dX11_does_85 1 rfl ?_
              refine go_istore (pc := 87) hF [(7, vi (j₉ : Int)), (6, vi 1), (5, vi (j₉ : Int)), (4, vi 0), (3, vi (sn pp - 97)), (0, vr E 94), (1, vi pp), (2, vi u₉)] dX11_does_87 rfl (by decide) ?_
              refine go_aload_n (pc := 89) hF dX11_does_89 5 rfl ?_
              refine go_get (pc := 90) hF fl_X11_65 dX11_does_90 (by omega) x_loop rfl ?_
              refine go_iconst (pc := 93) hF dX11_does_93 ?_
              refine go_iload (pc := 94) hF dX11_does_94 0 rfl ?_
              refine go_aload_n (pc := 96) hF dX11_does_96 5 rfl ?_
              refine go_get (pc := 97) hF fl_X11_62 dX11_does_97 (by omega) x_loop rfl ?_
              refine go_iload (pc := 100) hF dX11_does_100 2 rfl ?_
              refine go_iald (pc := 102) hF dX11_does_102 (by omega) tk_loop (by omega)  ?_
              refine go_iload (pc := 103) hF dX11_does_103 1 rfl ?_
              refine go_iadd (pc := 105) hF dX11_does_105 ?_
              refine go_aload_n (pc := 106) hF dX11_does_106 5 rfl ?_
              refine go_get (pc := 107) hF fl_X11_62 dX11_does_107 (by omega) x_loop rfl ?_
              refine go_sipush (pc := 110) hF dX11_does_110 (by decide) ?_
              refine go_iload (pc := 113) hF dX11_does_113 2 rfl ?_
              refine go_iadd (pc := 115) hF dX11_does_115 ?_
              refine go_iald (pc := 116) hF dX11_does_116 (by omega) tk_loop (by omega)  ?_
              refine go_iload (pc := 117) hF dX11_does_117 1 rfl ?_
              refine go_iadd (pc := 119) hF dX11_does_119 ?_
              refine go_callSV (pc := 120) hF [vr E 113, vi 0, vi (j₉ : Int), vi ((tk (j₉ : Int)) + 1), vi ((tk (343 + (j₉ : Int))) + 1)] [] ms_X11_229 dX11_does_120 (c_X11_comes E N τ 113 686 (by omega) (by decide) c_nx_loop 0 ((j₉ : Int)) (tk (j₉ : Int) + 1) (tk (343 + (j₉ : Int)) + 1) (by omega) hra (by rw [Int.zero_add]; omega) (fun h => by rw [show (0 : Int) + 343 + ((j₉ : Int)) = 343 + ((j₉ : Int)) by omega]; rw [Int.zero_add] at h; omega) (by omega) (by omega)) rfl rfl (Nat.le_of_ble_eq_true rfl) (by decide) ⟨Nat.zero_le _, Nat.zero_le _⟩ (fun s3₉ h_s3 => ?_)
              obtain ⟨u_s3, f_s3⟩ := h_s3
              have x_s3 := (f_s3 94 (by omega)).trans x_loop
              have nw_s3 := (f_s3 95 (by omega)).trans nw_loop
              have sn_s3 := (f_s3 98 (by omega)).trans sn_loop
              have tk_s3 := (f_s3 112 (by omega)).trans tk_loop
              refine go_iinc (pc := 123) hF [(5, vi ((j₉ : Int) + 1)), (7, vi (j₉ : Int)), (6, vi 1), (4, vi 0), (3, vi (sn pp - 97)), (0, vr E 94), (1, vi pp), (2, vi u₉)] dX11_does_123 2 rfl rfl (by decide) ?_
              refine go_goto (pc := 126) hF 28 dX11_does_126 (by decide) ?_
              refine go_lv [(5, vi ((j₉ : Int) + 1)), (4, vi 0), (3, vi (sn pp - 97)), (0, vr E 94), (1, vi pp), (2, vi u₉)] [0, 3, 4, 5, 6, 7] rfl ?_
              exact ih₉ (j₉ + 1) _ s3₉ (by omega) (by omega) (TK₉.iff (cm_TK0 (Pq := fun c => S₉ (j₉ : Int) (c - 1)) hT₉ hra ⟨by omega, by omega⟩ (by show S₉ (j₉ : Int) (tk (j₉ : Int) + 1 - 1); rw [show tk (j₉ : Int) + 1 - 1 = tk (j₉ : Int) by omega]; exact tl9.2.1) (by show S₉ (j₉ : Int) (tk (343 + (j₉ : Int)) + 1 - 1); rw [show tk (343 + (j₉ : Int)) + 1 - 1 = tk (343 + (j₉ : Int)) by omega]; exact tl9.2.2.1) (fun c hc₉ => by have q₉ := tl9.2.2.2 _ hc₉; omega)) (xD_s (fun a₉ => a₉) (fun _ => 1) S₉ j₉)) u_s3 (fun jj hjj => by rw [f_s3 jj (by omega), fr_loop jj (by omega)])
            · exact absurd bq66 (by decide)
          · exact absurd bq48 (by decide)
  exact loop₉ 345 0 _ s1₉ rfl (by omega) (TK₉.iff (TK_none hn_s1) (fun r₉ c => ⟨fun z₉ => z₉.elim, fun z₉ => absurd z₉ (xD_0 _ _ _ _ _)⟩)) u_s1 (fun _ _ => rfl)
