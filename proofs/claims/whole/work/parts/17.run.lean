/-! Runner: single runs. -/
theorem shr_all : ∀ b₉ : Fin 20, ((iI ((b₉.val : Nat) : Int) &&& 31).toBitVec.smod 32).toNat = b₉.val := by decide +kernel
theorem shrV {a₉ b₉ : Int} (ha₉ : 0 ≤ a₉ ∧ a₉ < 2147483648) (hb₉ : 0 ≤ b₉ ∧ b₉ < 20) : iI a₉ >>> (iI b₉ &&& 31) = iI (a₉ / 2 ^ b₉.toNat) := by
  obtain ⟨n₉, rfl⟩ := Int.eq_ofNat_of_zero_le hb₉.1
  have h := b_shr (a := a₉) n₉ (2 ^ n₉) rfl (shr_all ⟨n₉, by omega⟩) ha₉
  rw [h, Int.toNat_natCast]
  congr 1
theorem bit_rg {a₉ : Int} (n₉ : Nat) (ha₉ : 0 ≤ a₉) : 0 ≤ a₉ / 2 ^ n₉ ∧ a₉ / 2 ^ n₉ ≤ a₉ := by
  have h2 : (0 : Int) ≤ 2 ^ n₉ := Int.pow_nonneg (by decide)
  exact ⟨Int.ediv_nonneg ha₉ h2, Int.ediv_le_self _ ha₉⟩
theorem bitOf_01 (ch₉ as₉ : Int) : bitOf ch₉ as₉ = 0 ∨ bitOf ch₉ as₉ = 1 := by
  unfold bitOf
  split
  · omega
  · exact Or.inl rfl
/-- at most so many₉ bits₉ are asked₉ -/
def tAsk : Tr → Nat
  | .append (.nest _ .nil) r₉ => tAsk r₉
  | .append (.append a₉ b₉) r₉ => 1 + tAsk a₉ + tAsk b₉ + tAsk r₉
  | .append (.tag n₉ a₉) r₉ => n₉ * (1 + tAsk a₉) + tAsk r₉
  | _ => 0
set_option maxHeartbeats 4000000 in
set_option maxRecDepth 100000 in
theorem c_X9_answersOne (E : En) (N : Nat) (σ : Nat → va_E) (g₉ : Nat) (ch₉ ta hi₉ mi sk : Int) (hgN : g₉ < N) (hch : 0 ≤ ch₉ ∧ ch₉ < 1048576) (hsk : 0 ≤ sk ∧ sk < 2147483647) (hg : σ g₉ = ob 8 [vi ch₉, vi ta, vi hi₉, vi mi, vi sk]) : CI E M_X9_answersOne 1 [vr E g₉] N σ (fun y₉ σ' => y₉ = bitOf ch₉ sk ∧ σ' g₉ = ob 8 [vi ch₉, vi ta, vi hi₉, vi mi, vi (sk + 1)] ∧ ∀ q₉, q₉ ≠ g₉ → σ' q₉ = σ q₉) := by
  refine CT.of2 (own := RX9) (by decide) rfl (Nat.le_of_ble_eq_true rfl) ?_
  intro p e R s m args below meth c Q hF hr hlk hnm hz hR hQ
  refine go_aload_n (pc := 0) hF dX9_answersOne_0 0 rfl ?_
  refine go_get (pc := 1) hF fl_X9_24 dX9_answersOne_1 (by omega) hg rfl ?_
  refine go_bipush (pc := 4) hF dX9_answersOne_4 (by decide) ?_
  refine go_icmp_ge (pc := 6) hF 28 dX9_answersOne_6 (by decide) (by omega) ⟨by decide, by decide⟩ (fun bq6 => ?_) (fun bq6 => ?_)
  · refine go_iconst (pc := 28) hF dX9_answersOne_28 ?_
    refine go_istore_n (pc := 29) hF [(1, vi 0), (0, vr E g₉)] dX9_answersOne_29 rfl (by decide) ?_
    refine go_aload_n (pc := 30) hF dX9_answersOne_30 1 rfl ?_
    refine go_dup (pc := 31) hF dX9_answersOne_31 rfl ?_
    refine go_get (pc := 32) hF fl_X9_24 dX9_answersOne_32 (by omega) hg rfl ?_
    refine go_iconst (pc := 35) hF dX9_answersOne_35 ?_
    refine go_iadd (pc := 36) hF dX9_answersOne_36 ?_
    refine go_put (pc := 37) hF [vi ch₉, vi ta, vi hi₉, vi mi, vi (sk + 1)] fl_X9_24 dX9_answersOne_37 (by omega) hg rfl rfl rfl (Nat.le_of_ble_eq_true rfl) (fun s1₉ u_s1 f_s1 => ?_)
    refine go_iload_n (pc := 40) hF dX9_answersOne_40 0 rfl ?_
    exact go_zretQ hF hr hlk hQ dX9_answersOne_41 (by decide) ⟨by unfold bitOf; first | (rw [if_pos (by omega)]; omega) | (rw [if_neg (by omega)]), u_s1, (fun jj hjj => by rw [f_s1 jj (by omega)])⟩
  · have zs := bit_rg (a₉ := ch₉) sk.toNat hch.1
    refine go_aload_n (pc := 9) hF dX9_answersOne_9 0 rfl ?_
    refine go_get (pc := 10) hF fl_X9_9 dX9_answersOne_10 (by omega) hg rfl ?_
    refine go_aload_n (pc := 13) hF dX9_answersOne_13 0 rfl ?_
    refine go_get (pc := 14) hF fl_X9_24 dX9_answersOne_14 (by omega) hg rfl ?_
    refine go_ishr (pc := 17) hF (ch₉ / 2 ^ sk.toNat) (shrV (by omega) (by omega)) dX9_answersOne_17 ?_
    refine go_iconst (pc := 18) hF dX9_answersOne_18 ?_
    refine go_iand (pc := 19) hF ((ch₉ / 2 ^ sk.toNat) % 2) (b_and 1 1 2 (by decide) (by decide) (by omega)) dX9_answersOne_19 ?_
    refine go_iconst (pc := 20) hF dX9_answersOne_20 ?_
    refine go_icmp_ne (pc := 21) hF 28 dX9_answersOne_21 (by decide) (by omega) ⟨by decide, by decide⟩ (fun bq21 => ?_) (fun bq21 => ?_)
    · refine go_iconst (pc := 28) hF dX9_answersOne_28 ?_
      refine go_istore_n (pc := 29) hF [(1, vi 0), (0, vr E g₉)] dX9_answersOne_29 rfl (by decide) ?_
      refine go_aload_n (pc := 30) hF dX9_answersOne_30 1 rfl ?_
      refine go_dup (pc := 31) hF dX9_answersOne_31 rfl ?_
      refine go_get (pc := 32) hF fl_X9_24 dX9_answersOne_32 (by omega) hg rfl ?_
      refine go_iconst (pc := 35) hF dX9_answersOne_35 ?_
      refine go_iadd (pc := 36) hF dX9_answersOne_36 ?_
      refine go_put (pc := 37) hF [vi ch₉, vi ta, vi hi₉, vi mi, vi (sk + 1)] fl_X9_24 dX9_answersOne_37 (by omega) hg rfl rfl rfl (Nat.le_of_ble_eq_true rfl) (fun s2₉ u_s2 f_s2 => ?_)
      refine go_iload_n (pc := 40) hF dX9_answersOne_40 0 rfl ?_
      exact go_zretQ hF hr hlk hQ dX9_answersOne_41 (by decide) ⟨by unfold bitOf; first | (rw [if_pos (by omega)]; omega) | (rw [if_neg (by omega)]), u_s2, (fun jj hjj => by rw [f_s2 jj (by omega)])⟩
    · refine go_iconst (pc := 24) hF dX9_answersOne_24 ?_
      refine go_goto (pc := 25) hF 29 dX9_answersOne_25 (by decide) ?_
      refine go_istore_n (pc := 29) hF [(1, vi 1), (0, vr E g₉)] dX9_answersOne_29 rfl (by decide) ?_
      refine go_aload_n (pc := 30) hF dX9_answersOne_30 1 rfl ?_
      refine go_dup (pc := 31) hF dX9_answersOne_31 rfl ?_
      refine go_get (pc := 32) hF fl_X9_24 dX9_answersOne_32 (by omega) hg rfl ?_
      refine go_iconst (pc := 35) hF dX9_answersOne_35 ?_
      refine go_iadd (pc := 36) hF dX9_answersOne_36 ?_
      refine go_put (pc := 37) hF [vi ch₉, vi ta, vi hi₉, vi mi, vi (sk + 1)] fl_X9_24 dX9_answersOne_37 (by omega) hg rfl rfl rfl (Nat.le_of_ble_eq_true rfl) (fun s3₉ u_s3 f_s3 => ?_)
      refine go_iload_n (pc := 40) hF dX9_answersOne_40 0 rfl ?_
      exact go_zretQ hF hr hlk hQ dX9_answersOne_41 (by decide) ⟨by unfold bitOf; first | (rw [if_pos (by omega)]; omega) | (rw [if_neg (by omega)]), u_s3, (fun jj hjj => by rw [f_s3 jj (by omega)])⟩
set_option maxHeartbeats 4000000 in
set_option maxRecDepth 100000 in
theorem c_X9_runLook (E : En) (N : Nat) (σ : Nat → va_E) (g₉ h : Nat) (ch₉ ta hi₉ mi sk r₉ u₉ kd pr x₉ : Int) (hgN : g₉ < N) (hhN : h < N) (hgh : g₉ ≠ h) (hrr : 0 ≤ r₉ ∧ r₉ < 512) (hu : 1 ≤ u₉ ∧ u₉ ≤ 3) (hkd : 0 ≤ kd ∧ kd ≤ 3) (hx : 0 ≤ x₉ ∧ x₉ ≤ 5) (hg : σ g₉ = ob 8 [vi ch₉, vi ta, vi hi₉, vi mi, vi sk]) (hh : σ h = ob 1 [vi r₉, vi u₉, vi kd, vi pr]) : CV E M_X9_runLook 4 [vr E g₉, vr E h, vi x₉] N σ (fun σ' => σ' g₉ = ob 8 [vi ch₉, vi (ta + cCost r₉ x₉ pr), vi (if cPlace r₉ x₉ = -1 then hi₉ else hi₉ + 1), vi (if cPlace r₉ x₉ = -1 then mi + 1 else mi), vi sk] ∧ σ' h = ob 1 [vi (cAfter r₉ x₉ u₉ kd), vi u₉, vi kd, vi pr] ∧ ∀ q₉, (q₉ ≠ g₉ ∧ q₉ ≠ h) → σ' q₉ = σ q₉) := by
  refine CT.of2 (own := RX9) (by decide) rfl (Nat.le_of_ble_eq_true rfl) ?_
  intro p e R s m args below meth c Q hF hr hlk hnm hz hR hQ
  refine go_aload_n (pc := 0) hF dX9_runLook_0 1 rfl ?_
  refine go_get (pc := 1) hF fl_X9_57 dX9_runLook_1 (by omega) hh rfl ?_
  refine go_iload_n (pc := 4) hF dX9_runLook_4 2 rfl ?_
  refine go_callSP (pc := 5) hF [vi r₉, vi x₉] [] ms_X9_62 dX9_runLook_5 (c_X8_placeOf E N σ r₉ x₉ (by omega) (by omega)) rfl rfl (Nat.le_of_ble_eq_true rfl) (by decide) ⟨Nat.zero_le _, Nat.zero_le _⟩ ?_
  have zp := cPlace_rg r₉ x₉
  refine go_iconst (pc := 8) hF dX9_runLook_8 ?_
  refine go_icmp_ne (pc := 9) hF 25 dX9_runLook_9 (by decide) (by omega) ⟨by decide, by decide⟩ (fun bq9 => ?_) (fun bq9 => ?_)
  · refine go_aload_n (pc := 25) hF dX9_runLook_25 0 rfl ?_
    refine go_dup (pc := 26) hF dX9_runLook_26 rfl ?_
    refine go_get (pc := 27) hF fl_X9_18 dX9_runLook_27 (by omega) hg rfl ?_
    refine go_iconst (pc := 30) hF dX9_runLook_30 ?_
    refine go_iadd (pc := 31) hF dX9_runLook_31 ?_
    refine go_put (pc := 32) hF [vi ch₉, vi ta, vi (hi₉ + 1), vi mi, vi sk] fl_X9_18 dX9_runLook_32 (by omega) hg rfl rfl rfl (Nat.le_of_ble_eq_true rfl) (fun s1₉ u_s1 f_s1 => ?_)
    have h_s1 := (f_s1 h (show h ≠ g₉ by omega)).trans hh
    refine go_aload_n (pc := 35) hF dX9_runLook_35 0 rfl ?_
    refine go_dup (pc := 36) hF dX9_runLook_36 rfl ?_
    refine go_get (pc := 37) hF fl_X9_15 dX9_runLook_37 (by omega) u_s1 rfl ?_
    refine go_aload_n (pc := 40) hF dX9_runLook_40 1 rfl ?_
    refine go_iload_n (pc := 41) hF dX9_runLook_41 2 rfl ?_
    refine go_callVI (pc := 42) hF [vi x₉] [vi ta, vr E g₉] mv_X9_68 dX9_runLook_42 (by omega) h_s1 (c_X1_lookAt E N s1₉ h r₉ u₉ kd pr x₉ hrr (by omega) (by omega) (by omega) (by omega) h_s1) rfl rfl (Nat.le_of_ble_eq_true rfl) (by decide) ⟨Nat.zero_le _, Nat.zero_le _⟩ (fun r_s2 s2₉ h_s2 => ?_)
    obtain ⟨e_s2, u0_s2, f_s2⟩ := h_s2
    have g_s2 := (f_s2 g₉ (by omega)).trans u_s1
    subst e_s2
    refine go_iadd (pc := 45) hF dX9_runLook_45 ?_
    refine go_put (pc := 46) hF [vi ch₉, vi (ta + (cCost r₉ x₉ pr)), vi (hi₉ + 1), vi mi, vi sk] fl_X9_15 dX9_runLook_46 (by omega) g_s2 rfl rfl rfl (Nat.le_of_ble_eq_true rfl) (fun s3₉ u_s3 f_s3 => ?_)
    have h_s3 := (f_s3 h (show h ≠ g₉ by omega)).trans u0_s2
    exact go_vretQ hF hr hlk hQ dX9_runLook_49 ⟨by rw [u_s3]; first | (rw [if_pos (by omega), if_pos (by omega)]; try simp) | (rw [if_neg (by omega), if_neg (by omega)]; try simp), h_s3, (fun jj hjj => by rw [f_s3 jj (by omega), f_s2 jj (by omega), f_s1 jj (by omega)])⟩
  · refine go_aload_n (pc := 12) hF dX9_runLook_12 0 rfl ?_
    refine go_dup (pc := 13) hF dX9_runLook_13 rfl ?_
    refine go_get (pc := 14) hF fl_X9_21 dX9_runLook_14 (by omega) hg rfl ?_
    refine go_iconst (pc := 17) hF dX9_runLook_17 ?_
    refine go_iadd (pc := 18) hF dX9_runLook_18 ?_
    refine go_put (pc := 19) hF [vi ch₉, vi ta, vi hi₉, vi (mi + 1), vi sk] fl_X9_21 dX9_runLook_19 (by omega) hg rfl rfl rfl (Nat.le_of_ble_eq_true rfl) (fun s4₉ u_s4 f_s4 => ?_)
    have h_s4 := (f_s4 h (show h ≠ g₉ by omega)).trans hh
    refine go_goto (pc := 22) hF 35 dX9_runLook_22 (by decide) ?_
    refine go_aload_n (pc := 35) hF dX9_runLook_35 0 rfl ?_
    refine go_dup (pc := 36) hF dX9_runLook_36 rfl ?_
    refine go_get (pc := 37) hF fl_X9_15 dX9_runLook_37 (by omega) u_s4 rfl ?_
    refine go_aload_n (pc := 40) hF dX9_runLook_40 1 rfl ?_
    refine go_iload_n (pc := 41) hF dX9_runLook_41 2 rfl ?_
    refine go_callVI (pc := 42) hF [vi x₉] [vi ta, vr E g₉] mv_X9_68 dX9_runLook_42 (by omega) h_s4 (c_X1_lookAt E N s4₉ h r₉ u₉ kd pr x₉ hrr (by omega) (by omega) (by omega) (by omega) h_s4) rfl rfl (Nat.le_of_ble_eq_true rfl) (by decide) ⟨Nat.zero_le _, Nat.zero_le _⟩ (fun r_s5 s5 h_s5 => ?_)
    obtain ⟨e_s5, u0_s5, f_s5⟩ := h_s5
    have g_s5 := (f_s5 g₉ (by omega)).trans u_s4
    subst e_s5
    refine go_iadd (pc := 45) hF dX9_runLook_45 ?_
    refine go_put (pc := 46) hF [vi ch₉, vi (ta + (cCost r₉ x₉ pr)), vi hi₉, vi (mi + 1), vi sk] fl_X9_15 dX9_runLook_46 (by omega) g_s5 rfl rfl rfl (Nat.le_of_ble_eq_true rfl) (fun s6₉ u_s6 f_s6 => ?_)
    have h_s6 := (f_s6 h (show h ≠ g₉ by omega)).trans u0_s5
    exact go_vretQ hF hr hlk hQ dX9_runLook_49 ⟨by rw [u_s6]; first | (rw [if_pos (by omega), if_pos (by omega)]; try simp) | (rw [if_neg (by omega), if_neg (by omega)]; try simp), h_s6, (fun jj hjj => by rw [f_s6 jj (by omega), f_s5 jj (by omega), f_s4 jj (by omega)])⟩
set_option maxHeartbeats 4000000 in
set_option maxRecDepth 100000 in
theorem c_X9_tell (E : En) (N : Nat) (σ : Nat → va_E) (g₉ : Nat) (ch₉ ta hi₉ mi sk a₉ : Int) (hgN : g₉ < N) (ha₉ : 0 ≤ a₉ ∧ a₉ ≤ 2) (hg : σ g₉ = ob 8 [vi ch₉, vi ta, vi hi₉, vi mi, vi sk]) : CP E M_X9_tell 1 [vr E g₉, vi a₉] N σ (if a₉ = 0 then hi₉ else if a₉ = 1 then mi else sk) := by
  refine CT.of2 (own := RX9) (by decide) rfl (Nat.le_of_ble_eq_true rfl) ?_
  intro p e R s m args below meth c Q hF hr hlk hnm hz hR hQ
  obtain rfl | rfl | rfl : a₉ = 0 ∨ a₉ = 1 ∨ a₉ = 2 := by omega
  · refine go_iload_n (pc := 0) hF dX9_tell_0 1 rfl ?_
    refine go_lookup (pc := 1) hF 28 dX9_tell_1 (by decide) ⟨by decide, by decide⟩ rfl (by decide) ?_
    refine go_aload_n (pc := 28) hF dX9_tell_28 0 rfl ?_
    refine go_get (pc := 29) hF fl_X9_18 dX9_tell_29 (by omega) hg rfl ?_
    exact go_iretQ hF hr hlk hQ dX9_tell_32 ⟨rfl, rfl⟩
  · refine go_iload_n (pc := 0) hF dX9_tell_0 1 rfl ?_
    refine go_lookup (pc := 1) hF 33 dX9_tell_1 (by decide) ⟨by decide, by decide⟩ rfl (by decide) ?_
    refine go_aload_n (pc := 33) hF dX9_tell_33 0 rfl ?_
    refine go_get (pc := 34) hF fl_X9_21 dX9_tell_34 (by omega) hg rfl ?_
    exact go_iretQ hF hr hlk hQ dX9_tell_37 ⟨rfl, rfl⟩
  · refine go_iload_n (pc := 0) hF dX9_tell_0 1 rfl ?_
    refine go_lookup (pc := 1) hF 38 dX9_tell_1 (by decide) ⟨by decide, by decide⟩ rfl (by decide) ?_
    refine go_aload_n (pc := 38) hF dX9_tell_38 0 rfl ?_
    refine go_get (pc := 39) hF fl_X9_24 dX9_tell_39 (by omega) hg rfl ?_
    exact go_iretQ hF hr hlk hQ dX9_tell_42 ⟨rfl, rfl⟩
