/-! Program. -/
/-- a Program at cell i, its six rows behind it -/
def isP (E : En) (σ : Nat → va_E) (i : Nat) (sg vl mt lw ll la : Int → Int) (sz lk ch lp dp ln : Int) : Prop := σ i = ob 6 [vr E (i + 1), vr E (i + 2), vr E (i + 3), vr E (i + 4), vr E (i + 5), vr E (i + 6), vi sz, vi lk, vi ch, vi lp, vi dp, vi ln] ∧ σ (i + 1) = ai E 80 sg ∧ σ (i + 2) = ai E 80 vl ∧ σ (i + 3) = ai E 80 mt ∧ σ (i + 4) = ai E 80 lw ∧ σ (i + 5) = ai E 24 ll ∧ σ (i + 6) = ai E 24 la
theorem isP.keep {E : En} {σ τ : Nat → va_E} {i : Nat} {sg vl mt lw ll la : Int → Int} {sz lk ch lp dp ln : Int} (h : isP E σ i sg vl mt lw ll la sz lk ch lp dp ln) (hk : ∀ j, i ≤ j → j ≤ i + 6 → τ j = σ j) : isP E τ i sg vl mt lw ll la sz lk ch lp dp ln := by
  obtain ⟨h0, h1, h2, h3, h4, h5, h6⟩ := h
  exact ⟨(hk _ (by omega) (by omega)).trans h0, (hk _ (by omega) (by omega)).trans h1, (hk _ (by omega) (by omega)).trans h2, (hk _ (by omega) (by omega)).trans h3, (hk _ (by omega) (by omega)).trans h4, (hk _ (by omega) (by omega)).trans h5, (hk _ (by omega) (by omega)).trans h6⟩
/-- what a program's numbers keep to -/
def okP (sg vl mt lw ll la : Int → Int) (sz lk ch lp dp ln : Int) : Prop := (0 ≤ sz ∧ sz ≤ 80) ∧ (0 ≤ lk ∧ lk ≤ 24) ∧ (0 ≤ ch ∧ ch ≤ 80) ∧ (0 ≤ lp ∧ lp ≤ 81) ∧ (0 ≤ dp ∧ dp ≤ 3) ∧ (0 ≤ ln ∧ ln < 64) ∧ (∀ z : Int, 0 ≤ z → z < 80 → (0 ≤ sg z ∧ sg z ≤ 6) ∧ (0 ≤ vl z ∧ vl z ≤ 24) ∧ (0 ≤ mt z ∧ mt z ≤ 80) ∧ (0 ≤ lw z ∧ lw z < 64)) ∧ ∀ z : Int, 0 ≤ z → z < 24 → (0 ≤ ll z ∧ ll z ≤ 5) ∧ (-1 ≤ la z ∧ la z ≤ 80)
def gIs (n m a : Int) : Prop := 0 ≤ a ∧ a < n ∧ a < m

def gSign (sg : Int → Int) (sz a : Int) : Int := if 0 ≤ a ∧ a < sz ∧ a < 80 then sg a else -1
def gVal (vl : Int → Int) (sz a : Int) : Int := if 0 ≤ a ∧ a < sz ∧ a < 80 then vl a else 0
def gMate (mt : Int → Int) (sz a : Int) : Int := if 0 ≤ a ∧ a < sz ∧ a < 80 then max a (mt a) else a
def gLine (ll : Int → Int) (lk a : Int) : Int := if 0 ≤ a ∧ a < lk ∧ a < 24 then ll a else 0
def gFig (vl la : Int → Int) (sz lk a : Int) : Int := if 0 ≤ a ∧ a < lk ∧ a < 24 then gVal vl sz (la a) else 0
def gMany (lw la : Int → Int) (sz lk a : Int) : Int := if (0 ≤ a ∧ a < lk ∧ a < 24) ∧ 0 ≤ la a ∧ la a < sz ∧ la a < 80 then pc6 (lw (la a)) else 0
set_option maxHeartbeats 4000000 in
set_option maxRecDepth 100000 in
theorem c_X6_isSign (E : En) (N : Nat) (σ : Nat → va_E) (i : Nat) {sg vl mt lw ll la : Int → Int} {sz lk ch lp dp ln : Int} (a : Int) (ga : rg a) (hi : i + 6 < N) (hp : isP E σ i sg vl mt lw ll la sz lk ch lp dp ln) (ho : okP sg vl mt lw ll la sz lk ch lp dp ln) : CP E M_X6_isSign 1 [vr E i, vi a] N σ (bI (0 ≤ a ∧ a < sz ∧ a < 80)) := by
  refine CT.of2 (own := RX6) (by decide) rfl (Nat.le_of_ble_eq_true rfl) ?_
  intro p e R s m args below meth c Q hF hr hlk hnm hz hR hQ
  obtain ⟨p0, p1, p2, p3, p4, p5, p6⟩ := hp
  have pb0 : i < N := by omega
  have pb1 : i + 1 < N := by omega
  have pb2 : i + 2 < N := by omega
  have pb3 : i + 3 < N := by omega
  have pb4 : i + 4 < N := by omega
  have pb5 : i + 5 < N := by omega
  have pb6 : i + 6 < N := by omega
  obtain ⟨o1, o2, o3, o4, o5, o6, o7, o8⟩ := ho
  refine go_iload_n (pc := 0) hF dX6_isSign_0 1 rfl ?_
  refine go_if_lt (pc := 1) hF 22 dX6_isSign_1 (by decide) (by omega) (fun bq1 => ?_) (fun bq1 => ?_)
  · refine go_iconst (pc := 22) hF dX6_isSign_22 ?_
    exact go_zretQ hF hr hlk hQ dX6_isSign_23 (by decide) ⟨by first | (exfalso; omega) | (rw [bI_t (by omega)]; done) | (rw [bI_f (by omega)]; done), rfl⟩
  · refine go_iload_n (pc := 4) hF dX6_isSign_4 1 rfl ?_
    refine go_aload_n (pc := 5) hF dX6_isSign_5 0 rfl ?_
    refine go_get (pc := 6) hF fl_X6_30 dX6_isSign_6 pb0 p0 rfl ?_
    refine go_icmp_ge (pc := 9) hF 22 dX6_isSign_9 (by decide) (by omega) (by omega) (fun bq9 => ?_) (fun bq9 => ?_)
    · refine go_iconst (pc := 22) hF dX6_isSign_22 ?_
      exact go_zretQ hF hr hlk hQ dX6_isSign_23 (by decide) ⟨by first | (exfalso; omega) | (rw [bI_t (by omega)]; done) | (rw [bI_f (by omega)]; done), rfl⟩
    · refine go_iload_n (pc := 12) hF dX6_isSign_12 1 rfl ?_
      refine go_bipush (pc := 13) hF dX6_isSign_13 (by decide) ?_
      refine go_icmp_ge (pc := 15) hF 22 dX6_isSign_15 (by decide) (by omega) ⟨by decide, by decide⟩ (fun bq15 => ?_) (fun bq15 => ?_)
      · refine go_iconst (pc := 22) hF dX6_isSign_22 ?_
        exact go_zretQ hF hr hlk hQ dX6_isSign_23 (by decide) ⟨by first | (exfalso; omega) | (rw [bI_t (by omega)]; done) | (rw [bI_f (by omega)]; done), rfl⟩
      · refine go_iconst (pc := 18) hF dX6_isSign_18 ?_
        refine go_goto (pc := 19) hF 23 dX6_isSign_19 (by decide) ?_
        exact go_zretQ hF hr hlk hQ dX6_isSign_23 (by decide) ⟨by first | (exfalso; omega) | (rw [bI_t (by omega)]; done) | (rw [bI_f (by omega)]; done), rfl⟩
set_option maxHeartbeats 4000000 in
set_option maxRecDepth 100000 in
theorem c_X6_isLook (E : En) (N : Nat) (σ : Nat → va_E) (i : Nat) {sg vl mt lw ll la : Int → Int} {sz lk ch lp dp ln : Int} (a : Int) (ga : rg a) (hi : i + 6 < N) (hp : isP E σ i sg vl mt lw ll la sz lk ch lp dp ln) (ho : okP sg vl mt lw ll la sz lk ch lp dp ln) : CP E M_X6_isLook 1 [vr E i, vi a] N σ (bI (0 ≤ a ∧ a < lk ∧ a < 24)) := by
  refine CT.of2 (own := RX6) (by decide) rfl (Nat.le_of_ble_eq_true rfl) ?_
  intro p e R s m args below meth c Q hF hr hlk hnm hz hR hQ
  obtain ⟨p0, p1, p2, p3, p4, p5, p6⟩ := hp
  have pb0 : i < N := by omega
  have pb1 : i + 1 < N := by omega
  have pb2 : i + 2 < N := by omega
  have pb3 : i + 3 < N := by omega
  have pb4 : i + 4 < N := by omega
  have pb5 : i + 5 < N := by omega
  have pb6 : i + 6 < N := by omega
  obtain ⟨o1, o2, o3, o4, o5, o6, o7, o8⟩ := ho
  refine go_iload_n (pc := 0) hF dX6_isLook_0 1 rfl ?_
  refine go_if_lt (pc := 1) hF 22 dX6_isLook_1 (by decide) (by omega) (fun bq1 => ?_) (fun bq1 => ?_)
  · refine go_iconst (pc := 22) hF dX6_isLook_22 ?_
    exact go_zretQ hF hr hlk hQ dX6_isLook_23 (by decide) ⟨by first | (exfalso; omega) | (rw [bI_t (by omega)]; done) | (rw [bI_f (by omega)]; done), rfl⟩
  · refine go_iload_n (pc := 4) hF dX6_isLook_4 1 rfl ?_
    refine go_aload_n (pc := 5) hF dX6_isLook_5 0 rfl ?_
    refine go_get (pc := 6) hF fl_X6_34 dX6_isLook_6 pb0 p0 rfl ?_
    refine go_icmp_ge (pc := 9) hF 22 dX6_isLook_9 (by decide) (by omega) (by omega) (fun bq9 => ?_) (fun bq9 => ?_)
    · refine go_iconst (pc := 22) hF dX6_isLook_22 ?_
      exact go_zretQ hF hr hlk hQ dX6_isLook_23 (by decide) ⟨by first | (exfalso; omega) | (rw [bI_t (by omega)]; done) | (rw [bI_f (by omega)]; done), rfl⟩
    · refine go_iload_n (pc := 12) hF dX6_isLook_12 1 rfl ?_
      refine go_bipush (pc := 13) hF dX6_isLook_13 (by decide) ?_
      refine go_icmp_ge (pc := 15) hF 22 dX6_isLook_15 (by decide) (by omega) ⟨by decide, by decide⟩ (fun bq15 => ?_) (fun bq15 => ?_)
      · refine go_iconst (pc := 22) hF dX6_isLook_22 ?_
        exact go_zretQ hF hr hlk hQ dX6_isLook_23 (by decide) ⟨by first | (exfalso; omega) | (rw [bI_t (by omega)]; done) | (rw [bI_f (by omega)]; done), rfl⟩
      · refine go_iconst (pc := 18) hF dX6_isLook_18 ?_
        refine go_goto (pc := 19) hF 23 dX6_isLook_19 (by decide) ?_
        exact go_zretQ hF hr hlk hQ dX6_isLook_23 (by decide) ⟨by first | (exfalso; omega) | (rw [bI_t (by omega)]; done) | (rw [bI_f (by omega)]; done), rfl⟩
set_option maxHeartbeats 4000000 in
set_option maxRecDepth 100000 in
theorem c_X6_signAt (E : En) (N : Nat) (σ : Nat → va_E) (i : Nat) {sg vl mt lw ll la : Int → Int} {sz lk ch lp dp ln : Int} (a : Int) (ga : rg a) (hi : i + 6 < N) (hp : isP E σ i sg vl mt lw ll la sz lk ch lp dp ln) (ho : okP sg vl mt lw ll la sz lk ch lp dp ln) : CP E M_X6_signAt 2 [vr E i, vi a] N σ (gSign sg sz a) := by
  refine CT.of2 (own := RX6) (by decide) rfl (Nat.le_of_ble_eq_true rfl) ?_
  intro p e R s m args below meth c Q hF hr hlk hnm hz hR hQ
  obtain ⟨p0, p1, p2, p3, p4, p5, p6⟩ := hp
  have pb0 : i < N := by omega
  have pb1 : i + 1 < N := by omega
  have pb2 : i + 2 < N := by omega
  have pb3 : i + 3 < N := by omega
  have pb4 : i + 4 < N := by omega
  have pb5 : i + 5 < N := by omega
  have pb6 : i + 6 < N := by omega
  obtain ⟨o1, o2, o3, o4, o5, o6, o7, o8⟩ := ho
  refine go_aload_n (pc := 0) hF dX6_signAt_0 0 rfl ?_
  refine go_iload_n (pc := 1) hF dX6_signAt_1 1 rfl ?_
  refine go_callVP (pc := 2) hF [vi a] [] mv_X6_59 dX6_signAt_2 pb0 p0 (c_X6_isSign E N σ i a (by omega) hi ⟨p0, p1, p2, p3, p4, p5, p6⟩ ⟨o1, o2, o3, o4, o5, o6, o7, o8⟩) rfl rfl (Nat.le_of_ble_eq_true rfl) (by decide) ⟨Nat.zero_le _, Nat.zero_le _⟩ ?_
  refine go_if_eq (pc := 5) hF 17 dX6_signAt_5 (by decide) (bI_rg _) (fun bq5 => ?_) (fun bq5 => ?_)
  · have nq5 := bq5; rw [bI_0] at nq5; try rw [Decidable.not_not] at nq5
    refine go_iconst (pc := 17) hF dX6_signAt_17 ?_
    exact go_iretQ hF hr hlk hQ dX6_signAt_18 ⟨by unfold gSign; repeat (first | rfl | omega | (rw [if_pos (by omega)]) | (rw [if_neg (by omega)])), rfl⟩
  · have nq5 := bq5; rw [bI_0] at nq5; try rw [Decidable.not_not] at nq5
    refine go_aload_n (pc := 8) hF dX6_signAt_8 0 rfl ?_
    refine go_get (pc := 9) hF fl_X6_9 dX6_signAt_9 pb0 p0 rfl ?_
    refine go_iload_n (pc := 12) hF dX6_signAt_12 1 rfl ?_
    refine go_iald (pc := 13) hF dX6_signAt_13 pb1 p1 (by omega) ?_
    refine go_goto (pc := 14) hF 18 dX6_signAt_14 (by decide) ?_
    exact go_iretQ hF hr hlk hQ dX6_signAt_18 ⟨by unfold gSign; repeat (first | rfl | omega | (rw [if_pos (by omega)]) | (rw [if_neg (by omega)])), rfl⟩
set_option maxHeartbeats 4000000 in
set_option maxRecDepth 100000 in
theorem c_X6_valueAt (E : En) (N : Nat) (σ : Nat → va_E) (i : Nat) {sg vl mt lw ll la : Int → Int} {sz lk ch lp dp ln : Int} (a : Int) (ga : rg a) (hi : i + 6 < N) (hp : isP E σ i sg vl mt lw ll la sz lk ch lp dp ln) (ho : okP sg vl mt lw ll la sz lk ch lp dp ln) : CP E M_X6_valueAt 2 [vr E i, vi a] N σ (gVal vl sz a) := by
  refine CT.of2 (own := RX6) (by decide) rfl (Nat.le_of_ble_eq_true rfl) ?_
  intro p e R s m args below meth c Q hF hr hlk hnm hz hR hQ
  obtain ⟨p0, p1, p2, p3, p4, p5, p6⟩ := hp
  have pb0 : i < N := by omega
  have pb1 : i + 1 < N := by omega
  have pb2 : i + 2 < N := by omega
  have pb3 : i + 3 < N := by omega
  have pb4 : i + 4 < N := by omega
  have pb5 : i + 5 < N := by omega
  have pb6 : i + 6 < N := by omega
  obtain ⟨o1, o2, o3, o4, o5, o6, o7, o8⟩ := ho
  refine go_aload_n (pc := 0) hF dX6_valueAt_0 0 rfl ?_
  refine go_iload_n (pc := 1) hF dX6_valueAt_1 1 rfl ?_
  refine go_callVP (pc := 2) hF [vi a] [] mv_X6_59 dX6_valueAt_2 pb0 p0 (c_X6_isSign E N σ i a (by omega) hi ⟨p0, p1, p2, p3, p4, p5, p6⟩ ⟨o1, o2, o3, o4, o5, o6, o7, o8⟩) rfl rfl (Nat.le_of_ble_eq_true rfl) (by decide) ⟨Nat.zero_le _, Nat.zero_le _⟩ ?_
  refine go_if_eq (pc := 5) hF 17 dX6_valueAt_5 (by decide) (bI_rg _) (fun bq5 => ?_) (fun bq5 => ?_)
  · have nq5 := bq5; rw [bI_0] at nq5; try rw [Decidable.not_not] at nq5
    refine go_iconst (pc := 17) hF dX6_valueAt_17 ?_
    exact go_iretQ hF hr hlk hQ dX6_valueAt_18 ⟨by unfold gVal; repeat (first | rfl | omega | (rw [if_pos (by omega)]) | (rw [if_neg (by omega)])), rfl⟩
  · have nq5 := bq5; rw [bI_0] at nq5; try rw [Decidable.not_not] at nq5
    refine go_aload_n (pc := 8) hF dX6_valueAt_8 0 rfl ?_
    refine go_get (pc := 9) hF fl_X6_15 dX6_valueAt_9 pb0 p0 rfl ?_
    refine go_iload_n (pc := 12) hF dX6_valueAt_12 1 rfl ?_
    refine go_iald (pc := 13) hF dX6_valueAt_13 pb2 p2 (by omega) ?_
    refine go_goto (pc := 14) hF 18 dX6_valueAt_14 (by decide) ?_
    exact go_iretQ hF hr hlk hQ dX6_valueAt_18 ⟨by unfold gVal; repeat (first | rfl | omega | (rw [if_pos (by omega)]) | (rw [if_neg (by omega)])), rfl⟩
set_option maxHeartbeats 4000000 in
set_option maxRecDepth 100000 in
theorem c_X6_mateOf (E : En) (N : Nat) (σ : Nat → va_E) (i : Nat) {sg vl mt lw ll la : Int → Int} {sz lk ch lp dp ln : Int} (a : Int) (ga : rg a) (hi : i + 6 < N) (hp : isP E σ i sg vl mt lw ll la sz lk ch lp dp ln) (ho : okP sg vl mt lw ll la sz lk ch lp dp ln) : CP E M_X6_mateOf 2 [vr E i, vi a] N σ (gMate mt sz a) := by
  refine CT.of2 (own := RX6) (by decide) rfl (Nat.le_of_ble_eq_true rfl) ?_
  intro p e R s m args below meth c Q hF hr hlk hnm hz hR hQ
  obtain ⟨p0, p1, p2, p3, p4, p5, p6⟩ := hp
  have pb0 : i < N := by omega
  have pb1 : i + 1 < N := by omega
  have pb2 : i + 2 < N := by omega
  have pb3 : i + 3 < N := by omega
  have pb4 : i + 4 < N := by omega
  have pb5 : i + 5 < N := by omega
  have pb6 : i + 6 < N := by omega
  obtain ⟨o1, o2, o3, o4, o5, o6, o7, o8⟩ := ho
  refine go_aload_n (pc := 0) hF dX6_mateOf_0 0 rfl ?_
  refine go_iload_n (pc := 1) hF dX6_mateOf_1 1 rfl ?_
  refine go_callVP (pc := 2) hF [vi a] [] mv_X6_59 dX6_mateOf_2 pb0 p0 (c_X6_isSign E N σ i a (by omega) hi ⟨p0, p1, p2, p3, p4, p5, p6⟩ ⟨o1, o2, o3, o4, o5, o6, o7, o8⟩) rfl rfl (Nat.le_of_ble_eq_true rfl) (by decide) ⟨Nat.zero_le _, Nat.zero_le _⟩ ?_
  refine go_if_eq (pc := 5) hF 21 dX6_mateOf_5 (by decide) (bI_rg _) (fun bq5 => ?_) (fun bq5 => ?_)
  · have nq5 := bq5; rw [bI_0] at nq5; try rw [Decidable.not_not] at nq5
    refine go_iload_n (pc := 21) hF dX6_mateOf_21 1 rfl ?_
    exact go_iretQ hF hr hlk hQ dX6_mateOf_22 ⟨by unfold gMate; repeat (first | rfl | omega | (rw [if_pos (by omega)]) | (rw [if_neg (by omega)])), rfl⟩
  · have nq5 := bq5; rw [bI_0] at nq5; try rw [Decidable.not_not] at nq5
    have om := (o7 a nq5.1 (by omega)).2.2.1
    refine go_iload_n (pc := 8) hF dX6_mateOf_8 1 rfl ?_
    refine go_aload_n (pc := 9) hF dX6_mateOf_9 0 rfl ?_
    refine go_get (pc := 10) hF fl_X6_18 dX6_mateOf_10 pb0 p0 rfl ?_
    refine go_iload_n (pc := 13) hF dX6_mateOf_13 1 rfl ?_
    refine go_iald (pc := 14) hF dX6_mateOf_14 pb3 p3 (by omega) ?_
    refine go_mmax (pc := 15) hF ms_X6_63 dX6_mateOf_15 (by omega) (by omega) (Nat.le_of_ble_eq_true rfl) (by decide) ⟨Nat.zero_le _, Nat.zero_le _⟩ ?_
    refine go_goto (pc := 18) hF 22 dX6_mateOf_18 (by decide) ?_
    exact go_iretQ hF hr hlk hQ dX6_mateOf_22 ⟨by unfold gMate; repeat (first | rfl | omega | (rw [if_pos (by omega)]) | (rw [if_neg (by omega)])), rfl⟩
set_option maxHeartbeats 4000000 in
set_option maxRecDepth 100000 in
theorem c_X6_lineOfLook (E : En) (N : Nat) (σ : Nat → va_E) (i : Nat) {sg vl mt lw ll la : Int → Int} {sz lk ch lp dp ln : Int} (a : Int) (ga : rg a) (hi : i + 6 < N) (hp : isP E σ i sg vl mt lw ll la sz lk ch lp dp ln) (ho : okP sg vl mt lw ll la sz lk ch lp dp ln) : CP E M_X6_lineOfLook 2 [vr E i, vi a] N σ (gLine ll lk a) := by
  refine CT.of2 (own := RX6) (by decide) rfl (Nat.le_of_ble_eq_true rfl) ?_
  intro p e R s m args below meth c Q hF hr hlk hnm hz hR hQ
  obtain ⟨p0, p1, p2, p3, p4, p5, p6⟩ := hp
  have pb0 : i < N := by omega
  have pb1 : i + 1 < N := by omega
  have pb2 : i + 2 < N := by omega
  have pb3 : i + 3 < N := by omega
  have pb4 : i + 4 < N := by omega
  have pb5 : i + 5 < N := by omega
  have pb6 : i + 6 < N := by omega
  obtain ⟨o1, o2, o3, o4, o5, o6, o7, o8⟩ := ho
  refine go_aload_n (pc := 0) hF dX6_lineOfLook_0 0 rfl ?_
  refine go_iload_n (pc := 1) hF dX6_lineOfLook_1 1 rfl ?_
  refine go_callVP (pc := 2) hF [vi a] [] mv_X6_69 dX6_lineOfLook_2 pb0 p0 (c_X6_isLook E N σ i a (by omega) hi ⟨p0, p1, p2, p3, p4, p5, p6⟩ ⟨o1, o2, o3, o4, o5, o6, o7, o8⟩) rfl rfl (Nat.le_of_ble_eq_true rfl) (by decide) ⟨Nat.zero_le _, Nat.zero_le _⟩ ?_
  refine go_if_eq (pc := 5) hF 17 dX6_lineOfLook_5 (by decide) (bI_rg _) (fun bq5 => ?_) (fun bq5 => ?_)
  · have nq5 := bq5; rw [bI_0] at nq5; try rw [Decidable.not_not] at nq5
    refine go_iconst (pc := 17) hF dX6_lineOfLook_17 ?_
    exact go_iretQ hF hr hlk hQ dX6_lineOfLook_18 ⟨by unfold gLine; repeat (first | rfl | omega | (rw [if_pos (by omega)]) | (rw [if_neg (by omega)])), rfl⟩
  · have nq5 := bq5; rw [bI_0] at nq5; try rw [Decidable.not_not] at nq5
    refine go_aload_n (pc := 8) hF dX6_lineOfLook_8 0 rfl ?_
    refine go_get (pc := 9) hF fl_X6_24 dX6_lineOfLook_9 pb0 p0 rfl ?_
    refine go_iload_n (pc := 12) hF dX6_lineOfLook_12 1 rfl ?_
    refine go_iald (pc := 13) hF dX6_lineOfLook_13 pb5 p5 (by omega) ?_
    refine go_goto (pc := 14) hF 18 dX6_lineOfLook_14 (by decide) ?_
    exact go_iretQ hF hr hlk hQ dX6_lineOfLook_18 ⟨by unfold gLine; repeat (first | rfl | omega | (rw [if_pos (by omega)]) | (rw [if_neg (by omega)])), rfl⟩
set_option maxHeartbeats 4000000 in
set_option maxRecDepth 100000 in
theorem c_X6_figureAround (E : En) (N : Nat) (σ : Nat → va_E) (i : Nat) {sg vl mt lw ll la : Int → Int} {sz lk ch lp dp ln : Int} (a : Int) (ga : rg a) (hi : i + 6 < N) (hp : isP E σ i sg vl mt lw ll la sz lk ch lp dp ln) (ho : okP sg vl mt lw ll la sz lk ch lp dp ln) : CP E M_X6_figureAround 3 [vr E i, vi a] N σ (gFig vl la sz lk a) := by
  refine CT.of2 (own := RX6) (by decide) rfl (Nat.le_of_ble_eq_true rfl) ?_
  intro p e R s m args below meth c Q hF hr hlk hnm hz hR hQ
  obtain ⟨p0, p1, p2, p3, p4, p5, p6⟩ := hp
  have pb0 : i < N := by omega
  have pb1 : i + 1 < N := by omega
  have pb2 : i + 2 < N := by omega
  have pb3 : i + 3 < N := by omega
  have pb4 : i + 4 < N := by omega
  have pb5 : i + 5 < N := by omega
  have pb6 : i + 6 < N := by omega
  obtain ⟨o1, o2, o3, o4, o5, o6, o7, o8⟩ := ho
  refine go_aload_n (pc := 0) hF dX6_figureAround_0 0 rfl ?_
  refine go_iload_n (pc := 1) hF dX6_figureAround_1 1 rfl ?_
  refine go_callVP (pc := 2) hF [vi a] [] mv_X6_69 dX6_figureAround_2 pb0 p0 (c_X6_isLook E N σ i a (by omega) hi ⟨p0, p1, p2, p3, p4, p5, p6⟩ ⟨o1, o2, o3, o4, o5, o6, o7, o8⟩) rfl rfl (Nat.le_of_ble_eq_true rfl) (by decide) ⟨Nat.zero_le _, Nat.zero_le _⟩ ?_
  refine go_if_eq (pc := 5) hF 21 dX6_figureAround_5 (by decide) (bI_rg _) (fun bq5 => ?_) (fun bq5 => ?_)
  · have nq5 := bq5; rw [bI_0] at nq5; try rw [Decidable.not_not] at nq5
    refine go_iconst (pc := 21) hF dX6_figureAround_21 ?_
    exact go_iretQ hF hr hlk hQ dX6_figureAround_22 ⟨by unfold gFig; repeat (first | rfl | omega | (rw [if_pos (by omega)]) | (rw [if_neg (by omega)])), rfl⟩
  · have nq5 := bq5; rw [bI_0] at nq5; try rw [Decidable.not_not] at nq5
    have ol := (o8 a nq5.1 (by omega)).2
    refine go_aload_n (pc := 8) hF dX6_figureAround_8 0 rfl ?_
    refine go_aload_n (pc := 9) hF dX6_figureAround_9 0 rfl ?_
    refine go_get (pc := 10) hF fl_X6_27 dX6_figureAround_10 pb0 p0 rfl ?_
    refine go_iload_n (pc := 13) hF dX6_figureAround_13 1 rfl ?_
    refine go_iald (pc := 14) hF dX6_figureAround_14 pb6 p6 (by omega) ?_
    refine go_callVP (pc := 15) hF [vi (la a)] [] mv_X6_72 dX6_figureAround_15 pb0 p0 (c_X6_valueAt E N σ i (la a) (by omega) hi ⟨p0, p1, p2, p3, p4, p5, p6⟩ ⟨o1, o2, o3, o4, o5, o6, o7, o8⟩) rfl rfl (Nat.le_of_ble_eq_true rfl) (by decide) ⟨Nat.zero_le _, Nat.zero_le _⟩ ?_
    refine go_goto (pc := 18) hF 22 dX6_figureAround_18 (by decide) ?_
    exact go_iretQ hF hr hlk hQ dX6_figureAround_22 ⟨by unfold gFig; repeat (first | rfl | omega | (rw [if_pos (by omega)]) | (rw [if_neg (by omega)])), rfl⟩
set_option maxHeartbeats 4000000 in
set_option maxRecDepth 100000 in
theorem c_X6_isInLoop (E : En) (N : Nat) (σ : Nat → va_E) (i : Nat) {sg vl mt lw ll la : Int → Int} {sz lk ch lp dp ln : Int} (a : Int) (ga : rg a) (hi : i + 6 < N) (hp : isP E σ i sg vl mt lw ll la sz lk ch lp dp ln) (ho : okP sg vl mt lw ll la sz lk ch lp dp ln) : CP E M_X6_isInLoop 2 [vr E i, vi a] N σ (bI ((0 ≤ a ∧ a < lk ∧ a < 24) ∧ la a ≠ -1)) := by
  refine CT.of2 (own := RX6) (by decide) rfl (Nat.le_of_ble_eq_true rfl) ?_
  intro p e R s m args below meth c Q hF hr hlk hnm hz hR hQ
  obtain ⟨p0, p1, p2, p3, p4, p5, p6⟩ := hp
  have pb0 : i < N := by omega
  have pb1 : i + 1 < N := by omega
  have pb2 : i + 2 < N := by omega
  have pb3 : i + 3 < N := by omega
  have pb4 : i + 4 < N := by omega
  have pb5 : i + 5 < N := by omega
  have pb6 : i + 6 < N := by omega
  obtain ⟨o1, o2, o3, o4, o5, o6, o7, o8⟩ := ho
  refine go_aload_n (pc := 0) hF dX6_isInLoop_0 0 rfl ?_
  refine go_iload_n (pc := 1) hF dX6_isInLoop_1 1 rfl ?_
  refine go_callVP (pc := 2) hF [vi a] [] mv_X6_69 dX6_isInLoop_2 pb0 p0 (c_X6_isLook E N σ i a (by omega) hi ⟨p0, p1, p2, p3, p4, p5, p6⟩ ⟨o1, o2, o3, o4, o5, o6, o7, o8⟩) rfl rfl (Nat.le_of_ble_eq_true rfl) (by decide) ⟨Nat.zero_le _, Nat.zero_le _⟩ ?_
  refine go_if_eq (pc := 5) hF 22 dX6_isInLoop_5 (by decide) (bI_rg _) (fun bq5 => ?_) (fun bq5 => ?_)
  · have nq5 := bq5; rw [bI_0] at nq5; try rw [Decidable.not_not] at nq5
    refine go_iconst (pc := 22) hF dX6_isInLoop_22 ?_
    exact go_zretQ hF hr hlk hQ dX6_isInLoop_23 (by decide) ⟨by first | (exfalso; omega) | (rw [bI_t (by omega)]; done) | (rw [bI_f (by omega)]; done), rfl⟩
  · have nq5 := bq5; rw [bI_0] at nq5; try rw [Decidable.not_not] at nq5
    have ol := (o8 a nq5.1 (by omega)).2
    refine go_aload_n (pc := 8) hF dX6_isInLoop_8 0 rfl ?_
    refine go_get (pc := 9) hF fl_X6_27 dX6_isInLoop_9 pb0 p0 rfl ?_
    refine go_iload_n (pc := 12) hF dX6_isInLoop_12 1 rfl ?_
    refine go_iald (pc := 13) hF dX6_isInLoop_13 pb6 p6 (by omega) ?_
    refine go_iconst (pc := 14) hF dX6_isInLoop_14 ?_
    refine go_icmp_eq (pc := 15) hF 22 dX6_isInLoop_15 (by decide) (by omega) ⟨by decide, by decide⟩ (fun bq15 => ?_) (fun bq15 => ?_)
    · refine go_iconst (pc := 22) hF dX6_isInLoop_22 ?_
      exact go_zretQ hF hr hlk hQ dX6_isInLoop_23 (by decide) ⟨by first | (exfalso; omega) | (rw [bI_t (by omega)]; done) | (rw [bI_f (by omega)]; done), rfl⟩
    · refine go_iconst (pc := 18) hF dX6_isInLoop_18 ?_
      refine go_goto (pc := 19) hF 23 dX6_isInLoop_19 (by decide) ?_
      exact go_zretQ hF hr hlk hQ dX6_isInLoop_23 (by decide) ⟨by first | (exfalso; omega) | (rw [bI_t (by omega)]; done) | (rw [bI_f (by omega)]; done), rfl⟩
set_option maxHeartbeats 4000000 in
set_option maxRecDepth 100000 in
theorem c_X6_howManyLinesAround (E : En) (N : Nat) (σ : Nat → va_E) (i : Nat) {sg vl mt lw ll la : Int → Int} {sz lk ch lp dp ln : Int} (a : Int) (ga : rg a) (hi : i + 6 < N) (hp : isP E σ i sg vl mt lw ll la sz lk ch lp dp ln) (ho : okP sg vl mt lw ll la sz lk ch lp dp ln) : CP E M_X6_howManyLinesAround 3 [vr E i, vi a] N σ (gMany lw la sz lk a) := by
  refine CT.of2 (own := RX6) (by decide) rfl (Nat.le_of_ble_eq_true rfl) ?_
  intro p e R s m args below meth c Q hF hr hlk hnm hz hR hQ
  obtain ⟨p0, p1, p2, p3, p4, p5, p6⟩ := hp
  have pb0 : i < N := by omega
  have pb1 : i + 1 < N := by omega
  have pb2 : i + 2 < N := by omega
  have pb3 : i + 3 < N := by omega
  have pb4 : i + 4 < N := by omega
  have pb5 : i + 5 < N := by omega
  have pb6 : i + 6 < N := by omega
  obtain ⟨o1, o2, o3, o4, o5, o6, o7, o8⟩ := ho
  refine go_aload_n (pc := 0) hF dX6_howManyLinesAround_0 0 rfl ?_
  refine go_iload_n (pc := 1) hF dX6_howManyLinesAround_1 1 rfl ?_
  refine go_callVP (pc := 2) hF [vi a] [] mv_X6_69 dX6_howManyLinesAround_2 pb0 p0 (c_X6_isLook E N σ i a (by omega) hi ⟨p0, p1, p2, p3, p4, p5, p6⟩ ⟨o1, o2, o3, o4, o5, o6, o7, o8⟩) rfl rfl (Nat.le_of_ble_eq_true rfl) (by decide) ⟨Nat.zero_le _, Nat.zero_le _⟩ ?_
  refine go_if_eq (pc := 5) hF 17 dX6_howManyLinesAround_5 (by decide) (bI_rg _) (fun bq5 => ?_) (fun bq5 => ?_)
  · have nq5 := bq5; rw [bI_0] at nq5; try rw [Decidable.not_not] at nq5
    refine go_iconst (pc := 17) hF dX6_howManyLinesAround_17 ?_
    refine go_istore_n (pc := 18) hF [(2, vi (-1)), (0, vr E i), (1, vi a)] dX6_howManyLinesAround_18 rfl (by decide) ?_
    refine go_aload_n (pc := 19) hF dX6_howManyLinesAround_19 1 rfl ?_
    refine go_iload_n (pc := 20) hF dX6_howManyLinesAround_20 0 rfl ?_
    refine go_callVP (pc := 21) hF [vi (-1)] [] mv_X6_59 dX6_howManyLinesAround_21 pb0 p0 (c_X6_isSign E N σ i (-1) ⟨by decide, by decide⟩ hi ⟨p0, p1, p2, p3, p4, p5, p6⟩ ⟨o1, o2, o3, o4, o5, o6, o7, o8⟩) rfl rfl (Nat.le_of_ble_eq_true rfl) (by decide) ⟨Nat.zero_le _, Nat.zero_le _⟩ ?_
    refine go_if_eq (pc := 24) hF 39 dX6_howManyLinesAround_24 (by decide) (bI_rg _) (fun bq24 => ?_) (fun bq24 => ?_)
    · have nq24 := bq24; rw [bI_0] at nq24; try rw [Decidable.not_not] at nq24
      refine go_iconst (pc := 39) hF dX6_howManyLinesAround_39 ?_
      exact go_iretQ hF hr hlk hQ dX6_howManyLinesAround_40 ⟨by unfold gMany; repeat (first | rfl | omega | (rw [if_pos (by omega)]) | (rw [if_neg (by omega)])), rfl⟩
    · have nq24 := bq24; rw [bI_0] at nq24; try rw [Decidable.not_not] at nq24
      refine go_aload_n (pc := 27) hF dX6_howManyLinesAround_27 1 rfl ?_
      refine go_get (pc := 28) hF fl_X6_21 dX6_howManyLinesAround_28 pb0 p0 rfl ?_
      refine go_iload_n (pc := 31) hF dX6_howManyLinesAround_31 0 rfl ?_
      refine go_iald (pc := 32) hF dX6_howManyLinesAround_32 pb4 p4 (by omega) ?_
      refine go_callSP (pc := 33) hF [vi (lw (-1))] [] ms_X6_76 dX6_howManyLinesAround_33 (c_J6_bitCount E N σ (lw (-1)) (by omega)) rfl rfl (Nat.le_of_ble_eq_true rfl) (by decide) ⟨Nat.zero_le _, Nat.zero_le _⟩ ?_
      refine go_goto (pc := 36) hF 40 dX6_howManyLinesAround_36 (by decide) ?_
      exact go_iretQ hF hr hlk hQ dX6_howManyLinesAround_40 ⟨by unfold gMany; repeat (first | rfl | omega | (rw [if_pos (by omega)]) | (rw [if_neg (by omega)])), rfl⟩
  · have nq5 := bq5; rw [bI_0] at nq5; try rw [Decidable.not_not] at nq5
    have ol := (o8 a nq5.1 (by omega)).2
    refine go_aload_n (pc := 8) hF dX6_howManyLinesAround_8 0 rfl ?_
    refine go_get (pc := 9) hF fl_X6_27 dX6_howManyLinesAround_9 pb0 p0 rfl ?_
    refine go_iload_n (pc := 12) hF dX6_howManyLinesAround_12 1 rfl ?_
    refine go_iald (pc := 13) hF dX6_howManyLinesAround_13 pb6 p6 (by omega) ?_
    refine go_goto (pc := 14) hF 18 dX6_howManyLinesAround_14 (by decide) ?_
    refine go_istore_n (pc := 18) hF [(2, vi (la a)), (0, vr E i), (1, vi a)] dX6_howManyLinesAround_18 rfl (by decide) ?_
    refine go_aload_n (pc := 19) hF dX6_howManyLinesAround_19 1 rfl ?_
    refine go_iload_n (pc := 20) hF dX6_howManyLinesAround_20 0 rfl ?_
    refine go_callVP (pc := 21) hF [vi (la a)] [] mv_X6_59 dX6_howManyLinesAround_21 pb0 p0 (c_X6_isSign E N σ i (la a) (by omega) hi ⟨p0, p1, p2, p3, p4, p5, p6⟩ ⟨o1, o2, o3, o4, o5, o6, o7, o8⟩) rfl rfl (Nat.le_of_ble_eq_true rfl) (by decide) ⟨Nat.zero_le _, Nat.zero_le _⟩ ?_
    refine go_if_eq (pc := 24) hF 39 dX6_howManyLinesAround_24 (by decide) (bI_rg _) (fun bq24 => ?_) (fun bq24 => ?_)
    · have nq24 := bq24; rw [bI_0] at nq24; try rw [Decidable.not_not] at nq24
      refine go_iconst (pc := 39) hF dX6_howManyLinesAround_39 ?_
      exact go_iretQ hF hr hlk hQ dX6_howManyLinesAround_40 ⟨by unfold gMany; repeat (first | rfl | omega | (rw [if_pos (by omega)]) | (rw [if_neg (by omega)])), rfl⟩
    · have nq24 := bq24; rw [bI_0] at nq24; try rw [Decidable.not_not] at nq24
      have ow := (o7 (la a) nq24.1 (by omega)).2.2.2
      refine go_aload_n (pc := 27) hF dX6_howManyLinesAround_27 1 rfl ?_
      refine go_get (pc := 28) hF fl_X6_21 dX6_howManyLinesAround_28 pb0 p0 rfl ?_
      refine go_iload_n (pc := 31) hF dX6_howManyLinesAround_31 0 rfl ?_
      refine go_iald (pc := 32) hF dX6_howManyLinesAround_32 pb4 p4 (by omega) ?_
      refine go_callSP (pc := 33) hF [vi (lw (la a))] [] ms_X6_76 dX6_howManyLinesAround_33 (c_J6_bitCount E N σ (lw (la a)) (by omega)) rfl rfl (Nat.le_of_ble_eq_true rfl) (by decide) ⟨Nat.zero_le _, Nat.zero_le _⟩ ?_
      refine go_goto (pc := 36) hF 40 dX6_howManyLinesAround_36 (by decide) ?_
      exact go_iretQ hF hr hlk hQ dX6_howManyLinesAround_40 ⟨by unfold gMany; repeat (first | rfl | omega | (rw [if_pos (by omega)]) | (rw [if_neg (by omega)])), rfl⟩
