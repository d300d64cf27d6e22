set_option maxHeartbeats 4000000 in
set_option maxRecDepth 100000 in
theorem c_X1_setAs (E : En) (N : Nat) (σ : Nat → va_E) (i j : Nat) (r1 w1 k1 p1 r2 w2 k2 p2 : Int) (hi : i < N) (hj : j < N) (hij : i ≠ j) (hc : σ i = ob 1 [vi r1, vi w1, vi k1, vi p1]) (hd : σ j = ob 1 [vi r2, vi w2, vi k2, vi p2]) : CV E M_X1_setAs 1 [vr E i, vr E j] N σ (fun σ' => σ' i = ob 1 [vi r2, vi w2, vi k2, vi p2] ∧ ∀ q, q ≠ i → σ' q = σ q) := by
  refine CT.of2 (own := RX1) (by decide) rfl (Nat.le_of_ble_eq_true rfl) ?_
  intro p e R s m args below meth c Q hF hr hlk hnm hz hR hQ
  refine go_aload_n (pc := 0) hF dX1_setAs_0 0 rfl ?_
  refine go_aload_n (pc := 1) hF dX1_setAs_1 1 rfl ?_
  refine go_get (pc := 2) hF fl_X1_11 dX1_setAs_2 hj hd rfl ?_
  refine go_put (pc := 5) hF [vi r2, vi w1, vi k1, vi p1] fl_X1_11 dX1_setAs_5 hi hc rfl rfl rfl (Nat.le_of_ble_eq_true rfl) (fun s1 u_s1 f_s1 => ?_)
  have o_s1 := (f_s1 j (show j ≠ i by omega)).trans hd
  refine go_aload_n (pc := 8) hF dX1_setAs_8 0 rfl ?_
  refine go_aload_n (pc := 9) hF dX1_setAs_9 1 rfl ?_
  refine go_get (pc := 10) hF fl_X1_17 dX1_setAs_10 hj o_s1 rfl ?_
  refine go_put (pc := 13) hF [vi r2, vi w2, vi k1, vi p1] fl_X1_17 dX1_setAs_13 hi u_s1 rfl rfl rfl (Nat.le_of_ble_eq_true rfl) (fun s2 u_s2 f_s2 => ?_)
  have o_s2 := (f_s2 j (show j ≠ i by omega)).trans o_s1
  refine go_aload_n (pc := 16) hF dX1_setAs_16 0 rfl ?_
  refine go_aload_n (pc := 17) hF dX1_setAs_17 1 rfl ?_
  refine go_get (pc := 18) hF fl_X1_20 dX1_setAs_18 hj o_s2 rfl ?_
  refine go_put (pc := 21) hF [vi r2, vi w2, vi k2, vi p1] fl_X1_20 dX1_setAs_21 hi u_s2 rfl rfl rfl (Nat.le_of_ble_eq_true rfl) (fun s3 u_s3 f_s3 => ?_)
  have o_s3 := (f_s3 j (show j ≠ i by omega)).trans o_s2
  refine go_aload_n (pc := 24) hF dX1_setAs_24 0 rfl ?_
  refine go_aload_n (pc := 25) hF dX1_setAs_25 1 rfl ?_
  refine go_get (pc := 26) hF fl_X1_23 dX1_setAs_26 hj o_s3 rfl ?_
  refine go_put (pc := 29) hF [vi r2, vi w2, vi k2, vi p2] fl_X1_23 dX1_setAs_29 hi u_s3 rfl rfl rfl (Nat.le_of_ble_eq_true rfl) (fun s4 u_s4 f_s4 => ?_)
  have o_s4 := (f_s4 j (show j ≠ i by omega)).trans o_s3
  exact go_vretQ hF hr hlk hQ dX1_setAs_32 ⟨u_s4, (fun j hj => by rw [f_s4 j (by omega), f_s3 j (by omega), f_s2 j (by omega), f_s1 j (by omega)])⟩
set_option maxHeartbeats 4000000 in
set_option maxRecDepth 100000 in
theorem c_X1_isAs (E : En) (N : Nat) (σ : Nat → va_E) (i j : Nat) (r1 w1 k1 p1 r2 w2 k2 p2 : Int) (gr1 : rg r1) (gw1 : rg w1) (gk1 : rg k1) (gp1 : rg p1) (gr2 : rg r2) (gw2 : rg w2) (gk2 : rg k2) (gp2 : rg p2) (hi : i < N) (hj : j < N) (hc : σ i = ob 1 [vi r1, vi w1, vi k1, vi p1]) (hd : σ j = ob 1 [vi r2, vi w2, vi k2, vi p2]) : CP E M_X1_isAs 1 [vr E i, vr E j] N σ (bI (r1 = r2 ∧ w1 = w2 ∧ k1 = k2 ∧ p1 = p2)) := by
  refine CT.of2 (own := RX1) (by decide) rfl (Nat.le_of_ble_eq_true rfl) ?_
  intro p e R s m args below meth c Q hF hr hlk hnm hz hR hQ
  refine go_aload_n (pc := 0) hF dX1_isAs_0 0 rfl ?_
  refine go_get (pc := 1) hF fl_X1_11 dX1_isAs_1 hi hc rfl ?_
  refine go_aload_n (pc := 4) hF dX1_isAs_4 1 rfl ?_
  refine go_get (pc := 5) hF fl_X1_11 dX1_isAs_5 hj hd rfl ?_
  refine go_icmp_ne (pc := 8) hF 48 dX1_isAs_8 (by decide) (by omega) (by omega) (fun b8 => ?_) (fun b8 => ?_)
  · refine go_iconst (pc := 48) hF dX1_isAs_48 ?_
    exact go_zretQ hF hr hlk hQ dX1_isAs_49 (by decide) ⟨by first | (rw [bI_t (by omega)]) | (rw [bI_f (by omega)]), rfl⟩
  · refine go_aload_n (pc := 11) hF dX1_isAs_11 0 rfl ?_
    refine go_get (pc := 12) hF fl_X1_17 dX1_isAs_12 hi hc rfl ?_
    refine go_aload_n (pc := 15) hF dX1_isAs_15 1 rfl ?_
    refine go_get (pc := 16) hF fl_X1_17 dX1_isAs_16 hj hd rfl ?_
    refine go_icmp_ne (pc := 19) hF 48 dX1_isAs_19 (by decide) (by omega) (by omega) (fun b19 => ?_) (fun b19 => ?_)
    · refine go_iconst (pc := 48) hF dX1_isAs_48 ?_
      exact go_zretQ hF hr hlk hQ dX1_isAs_49 (by decide) ⟨by first | (rw [bI_t (by omega)]) | (rw [bI_f (by omega)]), rfl⟩
    · refine go_aload_n (pc := 22) hF dX1_isAs_22 0 rfl ?_
      refine go_get (pc := 23) hF fl_X1_20 dX1_isAs_23 hi hc rfl ?_
      refine go_aload_n (pc := 26) hF dX1_isAs_26 1 rfl ?_
      refine go_get (pc := 27) hF fl_X1_20 dX1_isAs_27 hj hd rfl ?_
      refine go_icmp_ne (pc := 30) hF 48 dX1_isAs_30 (by decide) (by omega) (by omega) (fun b30 => ?_) (fun b30 => ?_)
      · refine go_iconst (pc := 48) hF dX1_isAs_48 ?_
        exact go_zretQ hF hr hlk hQ dX1_isAs_49 (by decide) ⟨by first | (rw [bI_t (by omega)]) | (rw [bI_f (by omega)]), rfl⟩
      · refine go_aload_n (pc := 33) hF dX1_isAs_33 0 rfl ?_
        refine go_get (pc := 34) hF fl_X1_23 dX1_isAs_34 hi hc rfl ?_
        refine go_aload_n (pc := 37) hF dX1_isAs_37 1 rfl ?_
        refine go_get (pc := 38) hF fl_X1_23 dX1_isAs_38 hj hd rfl ?_
        refine go_icmp_ne (pc := 41) hF 48 dX1_isAs_41 (by decide) (by omega) (by omega) (fun b41 => ?_) (fun b41 => ?_)
        · refine go_iconst (pc := 48) hF dX1_isAs_48 ?_
          exact go_zretQ hF hr hlk hQ dX1_isAs_49 (by decide) ⟨by first | (rw [bI_t (by omega)]) | (rw [bI_f (by omega)]), rfl⟩
        · refine go_iconst (pc := 44) hF dX1_isAs_44 ?_
          refine go_goto (pc := 45) hF 49 dX1_isAs_45 (by decide) ?_
          exact go_zretQ hF hr hlk hQ dX1_isAs_49 (by decide) ⟨by first | (rw [bI_t (by omega)]) | (rw [bI_f (by omega)]), rfl⟩
theorem cPlace_rg (row x : Int) : -1 ≤ cPlace row x ∧ cPlace row x ≤ 2 := by
  unfold cPlace
  repeat' split
  all_goals omega
/-- the row behind a look, what it takes: the class's own numbers -/
def cAfter (row x w kd : Int) : Int := if cPlace row x = -1 then cMiss row x w else cHit row (cPlace row x) w kd
def cCost (row x pr : Int) : Int := if cPlace row x = -1 then pr else 1
set_option maxHeartbeats 4000000 in
set_option maxRecDepth 100000 in
theorem c_X1_lookAt (E : En) (N : Nat) (σ : Nat → va_E) (i : Nat) (r w k pr x : Int) (h0 : 0 ≤ r ∧ r < 512) (hw : 1 ≤ w ∧ w ≤ 3) (hk : 0 ≤ k ∧ k ≤ 3) (hx : 0 ≤ x ∧ x ≤ 5) (hi : i < N) (hc : σ i = ob 1 [vi r, vi w, vi k, vi pr]) : CI E M_X1_lookAt 3 [vr E i, vi x] N σ (fun y σ' => y = cCost r x pr ∧ σ' i = ob 1 [vi (cAfter r x w k), vi w, vi k, vi pr] ∧ ∀ q, q ≠ i → σ' q = σ q) := by
  refine CT.of2 (own := RX1) (by decide) rfl (Nat.le_of_ble_eq_true rfl) ?_
  intro p e R s m args below meth c Q hF hr hlk hnm hz hR hQ
  have zp := cPlace_rg r x
  refine go_aload_n (pc := 0) hF dX1_lookAt_0 0 rfl ?_
  refine go_get (pc := 1) hF fl_X1_11 dX1_lookAt_1 hi hc rfl ?_
  refine go_iload_n (pc := 4) hF dX1_lookAt_4 1 rfl ?_
  refine go_callSP (pc := 5) hF [vi r, vi x] [] ms_X1_26 dX1_lookAt_5 (c_X8_placeOf E N σ r x (by omega) (by omega)) rfl rfl (Nat.le_of_ble_eq_true rfl) (by decide) ⟨Nat.zero_le _, Nat.zero_le _⟩ ?_
  refine go_istore_n (pc := 8) hF [(2, vi (cPlace r x)), (0, vr E i), (1, vi x)] dX1_lookAt_8 rfl (by decide) ?_
  refine go_iload_n (pc := 9) hF dX1_lookAt_9 0 rfl ?_
  refine go_iconst (pc := 10) hF dX1_lookAt_10 ?_
  refine go_icmp_ne (pc := 11) hF 35 dX1_lookAt_11 (by decide) (by omega) ⟨by decide, by decide⟩ (fun b11 => ?_) (fun b11 => ?_)
  · refine go_aload_n (pc := 35) hF dX1_lookAt_35 1 rfl ?_
    refine go_aload_n (pc := 36) hF dX1_lookAt_36 1 rfl ?_
    refine go_get (pc := 37) hF fl_X1_11 dX1_lookAt_37 hi hc rfl ?_
    refine go_iload_n (pc := 40) hF dX1_lookAt_40 0 rfl ?_
    refine go_aload_n (pc := 41) hF dX1_lookAt_41 1 rfl ?_
    refine go_get (pc := 42) hF fl_X1_17 dX1_lookAt_42 hi hc rfl ?_
    refine go_aload_n (pc := 45) hF dX1_lookAt_45 1 rfl ?_
    refine go_get (pc := 46) hF fl_X1_20 dX1_lookAt_46 hi hc rfl ?_
    refine go_callSP (pc := 49) hF [vi r, vi (cPlace r x), vi w, vi k] [vr E i] ms_X1_34 dX1_lookAt_49 (c_X8_afterHit E N σ r (cPlace r x) w k (by omega) (by omega) (by omega) (by omega)) rfl rfl (Nat.le_of_ble_eq_true rfl) (by decide) ⟨Nat.zero_le _, Nat.zero_le _⟩ ?_
    refine go_put (pc := 52) hF [vi (cHit r (cPlace r x) w k), vi w, vi k, vi pr] fl_X1_11 dX1_lookAt_52 hi hc rfl rfl rfl (Nat.le_of_ble_eq_true rfl) (fun s1 u_s1 f_s1 => ?_)
    refine go_iconst (pc := 55) hF dX1_lookAt_55 ?_
    exact go_iretQ hF hr hlk hQ dX1_lookAt_56 ⟨by unfold cCost; first | (rw [if_pos (by omega)]) | (rw [if_neg (by omega)]), by rw [u_s1]; unfold cAfter; first | (rw [if_pos (by omega)]) | (rw [if_neg (by omega)]), (fun j hj => by rw [f_s1 j (by omega)])⟩
  · refine go_aload_n (pc := 14) hF dX1_lookAt_14 1 rfl ?_
    refine go_aload_n (pc := 15) hF dX1_lookAt_15 1 rfl ?_
    refine go_get (pc := 16) hF fl_X1_11 dX1_lookAt_16 hi hc rfl ?_
    refine go_iload_n (pc := 19) hF dX1_lookAt_19 2 rfl ?_
    refine go_aload_n (pc := 20) hF dX1_lookAt_20 1 rfl ?_
    refine go_get (pc := 21) hF fl_X1_17 dX1_lookAt_21 hi hc rfl ?_
    refine go_callSP (pc := 24) hF [vi r, vi x, vi w] [vr E i] ms_X1_30 dX1_lookAt_24 (c_X8_afterMiss E N σ r x w (by omega) (by omega) (by omega)) rfl rfl (Nat.le_of_ble_eq_true rfl) (by decide) ⟨Nat.zero_le _, Nat.zero_le _⟩ ?_
    refine go_put (pc := 27) hF [vi (cMiss r x w), vi w, vi k, vi pr] fl_X1_11 dX1_lookAt_27 hi hc rfl rfl rfl (Nat.le_of_ble_eq_true rfl) (fun s2 u_s2 f_s2 => ?_)
    refine go_aload_n (pc := 30) hF dX1_lookAt_30 1 rfl ?_
    refine go_get (pc := 31) hF fl_X1_23 dX1_lookAt_31 hi u_s2 rfl ?_
    exact go_iretQ hF hr hlk hQ dX1_lookAt_34 ⟨by unfold cCost; first | (rw [if_pos (by omega)]) | (rw [if_neg (by omega)]), by rw [u_s2]; unfold cAfter; first | (rw [if_pos (by omega)]) | (rw [if_neg (by omega)]), (fun j hj => by rw [f_s2 j (by omega)])⟩
/-- an Ages at cell i, with its two rows behind it -/
def isA (E : En) (σ : Nat → va_E) (i : Nat) (mu ma : Int → Int) : Prop := σ i = ob 0 [vr E (i + 1), vr E (i + 2)] ∧ σ (i + 1) = ai E 6 mu ∧ σ (i + 2) = ai E 6 ma
theorem isA.keep {E : En} {σ τ : Nat → va_E} {i : Nat} {mu ma : Int → Int} (h : isA E σ i mu ma) (hk : ∀ j, i ≤ j → j ≤ i + 2 → τ j = σ j) : isA E τ i mu ma := ⟨(hk _ (by omega) (by omega)).trans h.1, (hk _ (by omega) (by omega)).trans h.2.1, (hk _ (by omega) (by omega)).trans h.2.2⟩

set_option maxHeartbeats 4000000 in
set_option maxRecDepth 100000 in
theorem c_X0_start (E : En) (N : Nat) (σ : Nat → va_E) (i : Nat) (mu ma : Int → Int) (v : Int) (hi : i + 2 < N) (ha : isA E σ i mu ma) : CV E M_X0_start 2 [vr E i, vi v] N σ (fun σ' => isA E σ' i (fun _ => v) (fun _ => v) ∧ ∀ q, (q < i ∨ i + 2 < q) → σ' q = σ q) := by
  refine CT.of2 (own := RX0) (by decide) rfl (Nat.le_of_ble_eq_true rfl) ?_
  intro p e R s m args below meth c Q hF hr hlk hnm hz hR hQ
  obtain ⟨a0, a1, a2⟩ := ha
  have ab0 : i < N := by omega
  have ab1 : i + 1 < N := by omega
  have ab2 : i + 2 < N := by omega
  refine go_aload_n (pc := 0) hF dX0_start_0 0 rfl ?_
  refine go_get (pc := 1) hF fl_X0_9 dX0_start_1 ab0 a0 rfl ?_
  refine go_iload_n (pc := 4) hF dX0_start_4 1 rfl ?_
  refine go_callSV (pc := 5) hF [vr E (i + 1), vi v] [] ms_X0_18 dX0_start_5 (c_J7_fill E N σ (i + 1) 6 _ v ab1 (by decide) a1) rfl rfl (Nat.le_of_ble_eq_true rfl) (by decide) ⟨Nat.zero_le _, Nat.zero_le _⟩ (fun s1 h_s1 => ?_)
  obtain ⟨u0_s1, f_s1⟩ := h_s1
  have t_s1 := (f_s1 i (by omega)).trans a0
  have ty_s1 := (f_s1 (i + 2) (by omega)).trans a2
  refine go_aload_n (pc := 8) hF dX0_start_8 0 rfl ?_
  refine go_get (pc := 9) hF fl_X0_15 dX0_start_9 ab0 t_s1 rfl ?_
  refine go_iload_n (pc := 12) hF dX0_start_12 1 rfl ?_
  refine go_callSV (pc := 13) hF [vr E (i + 2), vi v] [] ms_X0_18 dX0_start_13 (c_J7_fill E N s1 (i + 2) 6 _ v ab2 (by decide) ty_s1) rfl rfl (Nat.le_of_ble_eq_true rfl) (by decide) ⟨Nat.zero_le _, Nat.zero_le _⟩ (fun s2 h_s2 => ?_)
  obtain ⟨u0_s2, f_s2⟩ := h_s2
  have t_s2 := (f_s2 i (by omega)).trans t_s1
  have tm_s2 := (f_s2 (i + 1) (by omega)).trans u0_s1
  exact go_vretQ hF hr hlk hQ dX0_start_16 ⟨⟨t_s2, tm_s2, u0_s2⟩, (fun j hj => by rw [f_s2 j (by omega), f_s1 j (by omega)])⟩
set_option maxHeartbeats 4000000 in
set_option maxRecDepth 100000 in
theorem c_X0_setAs (E : En) (N : Nat) (σ : Nat → va_E) (i j : Nat) (mu ma nu na : Int → Int) (hi : i + 2 < N) (hj : j + 2 < N) (hij : i + 2 < j ∨ j + 2 < i) (ha : isA E σ i mu ma) (ho : isA E σ j nu na) : CV E M_X0_setAs 1 [vr E i, vr E j] N σ (fun σ' => isA E σ' i nu na ∧ ∀ q, (q < i ∨ i + 2 < q) → σ' q = σ q) := by
  refine CT.of2 (own := RX0) (by decide) rfl (Nat.le_of_ble_eq_true rfl) ?_
  intro p e R s m args below meth c Q hF hr hlk hnm hz hR hQ
  obtain ⟨a0, a1, a2⟩ := ha
  have ab0 : i < N := by omega
  have ab1 : i + 1 < N := by omega
  have ab2 : i + 2 < N := by omega
  obtain ⟨o0, o1, o2⟩ := ho
  have ob0 : j < N := by omega
  have ob1 : j + 1 < N := by omega
  have ob2 : j + 2 < N := by omega
  refine go_iconst (pc := 0) hF dX0_setAs_0 ?_
  refine go_istore_n (pc := 1) hF [(2, vi 0), (0, vr E i), (1, vr E j)] dX0_setAs_1 rfl (by decide) ?_
  have loop : ∀ (n : Nat) (q : Int) (gm : Int → Int) (gy : Int → Int) (τ : Nat → va_E), 6 - q < n → 0 ≤ q ∧ q ≤ 6 → (∀ z : Int, 0 ≤ z → z < q → gm z = nu z ∧ gy z = na z) → τ (i + 1) = ai E 6 gm → τ (i + 2) = ai E 6 gy → (∀ j : Nat, (j ≠ i + 1 ∧ j ≠ i + 2) → τ j = σ j) → Go E p e R s m args below meth c Q 3 (0, 0) N τ [(2, vi q), (0, vr E i), (1, vr E j)] [] 2 := by
    intro n
    induction n with
    | zero => intro q gm gy τ hfu hq hg c_tm_loop c_ty_loop fr_loop; exfalso; omega
    | succ n ih =>
      intro q gm gy τ hfu hq hg c_tm_loop c_ty_loop fr_loop
      have t_loop := (fr_loop i (by omega)).trans a0
      have o_loop := (fr_loop j (by omega)).trans o0
      have om_loop := (fr_loop (j + 1) (by omega)).trans o1
      have oy_loop := (fr_loop (j + 2) (by omega)).trans o2
      refine go_iload_n (pc := 2) hF dX0_setAs_2 0 rfl ?_
      refine go_bipush (pc := 3) hF dX0_setAs_3 (by decide) ?_
      refine go_icmp_ge (pc := 5) hF 38 dX0_setAs_5 (by decide) (by omega) ⟨by decide, by decide⟩ (fun b5 => ?_) (fun b5 => ?_)
      · refine go_ai (i + 1) 6 nu ab1 c_tm_loop (fun j h1 h2 => (hg j h1 (by omega)).1) (fun τ1 v1 g1 => ?_)
        have y1 := (g1 (i + 2) (by omega)).trans c_ty_loop
        refine go_ai (i + 2) 6 na ab2 y1 (fun j h1 h2 => (hg j h1 (by omega)).2) (fun τ2 v2 g2 => ?_)
        exact go_vretQ hF hr hlk hQ dX0_setAs_38 ⟨⟨(g2 i (by omega)).trans ((g1 i (by omega)).trans t_loop), (g2 _ (by omega)).trans v1, v2⟩, fun j hj => by rw [g2 j (by omega), g1 j (by omega), fr_loop j (by omega)]⟩
      · refine go_aload_n (pc := 8) hF dX0_setAs_8 1 rfl ?_
        refine go_get (pc := 9) hF fl_X0_9 dX0_setAs_9 ab0 t_loop rfl ?_
        refine go_iload_n (pc := 12) hF dX0_setAs_12 0 rfl ?_
        refine go_aload_n (pc := 13) hF dX0_setAs_13 2 rfl ?_
        refine go_get (pc := 14) hF fl_X0_9 dX0_setAs_14 ob0 o_loop rfl ?_
        refine go_iload_n (pc := 17) hF dX0_setAs_17 0 rfl ?_
        refine go_iald (pc := 18) hF dX0_setAs_18 ob1 om_loop (by omega) ?_
        refine go_iast (pc := 19) hF dX0_setAs_19 ab1 c_tm_loop (by omega) (fun s1 u_s1 f_s1 => ?_)
        have t_s1 := (f_s1 i (show i ≠ i + 1 by omega)).trans t_loop
        have ty_s1 := (f_s1 (i + 2) (show i + 2 ≠ i + 1 by omega)).trans c_ty_loop
        have o_s1 := (f_s1 j (show j ≠ i + 1 by omega)).trans o_loop
        have om_s1 := (f_s1 (j + 1) (show j + 1 ≠ i + 1 by omega)).trans om_loop
        have oy_s1 := (f_s1 (j + 2) (show j + 2 ≠ i + 1 by omega)).trans oy_loop
        refine go_aload_n (pc := 20) hF dX0_setAs_20 1 rfl ?_
        refine go_get (pc := 21) hF fl_X0_15 dX0_setAs_21 ab0 t_s1 rfl ?_
        refine go_iload_n (pc := 24) hF dX0_setAs_24 0 rfl ?_
        refine go_aload_n (pc := 25) hF dX0_setAs_25 2 rfl ?_
        refine go_get (pc := 26) hF fl_X0_15 dX0_setAs_26 ob0 o_s1 rfl ?_
        refine go_iload_n (pc := 29) hF dX0_setAs_29 0 rfl ?_
        refine go_iald (pc := 30) hF dX0_setAs_30 ob2 oy_s1 (by omega) ?_
        refine go_iast (pc := 31) hF dX0_setAs_31 ab2 ty_s1 (by omega) (fun s2 u_s2 f_s2 => ?_)
        have t_s2 := (f_s2 i (show i ≠ i + 2 by omega)).trans t_s1
        have tm_s2 := (f_s2 (i + 1) (show i + 1 ≠ i + 2 by omega)).trans u_s1
        have o_s2 := (f_s2 j (show j ≠ i + 2 by omega)).trans o_s1
        have om_s2 := (f_s2 (j + 1) (show j + 1 ≠ i + 2 by omega)).trans om_s1
        have oy_s2 := (f_s2 (j + 2) (show j + 2 ≠ i + 2 by omega)).trans oy_s1
        refine go_iinc (pc := 32) hF [(2, vi (q + 1)), (0, vr E i), (1, vr E j)] dX0_setAs_32 0 rfl rfl (by decide) ?_
        refine go_goto (pc := 35) hF 2 dX0_setAs_35 (by decide) ?_
        exact ih _ _ _ s2 (by omega) (by omega) (fun z h1 h2 => by by_cases h3 : z = q; (subst h3; exact ⟨up_self _ _ _, up_self _ _ _⟩); (rw [up_ne _ _ h3, up_ne _ _ h3]; exact hg z h1 (by omega))) tm_s2 u_s2 (fun j hj => by rw [f_s2 j (by omega), f_s1 j (by omega), fr_loop j (by omega)])
  exact loop 7 0 mu ma σ (by omega) (by omega) (fun z h1 h2 => absurd h1 (by omega)) a1 a2 (fun _ _ => rfl)
/-- the ages behind a look at x -/
def lkMu (g : Int → Int) (x : Int) : Int → Int := fun z => if z = x then 0 else if g z < g x then g z + 1 else g z
def lkMa (g : Int → Int) (x v : Int) : Int → Int := fun z => if z = x then 0 else if g z ≤ g x then min (g z + 1) v else g z
/-- a loop's step at place q: what was done is below q -/
def stMu (g : Int → Int) (x : Int) : Int → Int := fun z => if g z < g x then g z + 1 else g z
def stMa (g : Int → Int) (x v : Int) : Int → Int := fun z => if g z ≤ g x then min (g z + 1) v else g z
set_option maxHeartbeats 4000000 in
set_option maxRecDepth 100000 in
theorem c_X0_lookAt (E : En) (N : Nat) (σ : Nat → va_E) (i : Nat) (mu ma : Int → Int) (x v : Int) (hx : 0 ≤ x ∧ x ≤ 5) (hv : 1 ≤ v ∧ v ≤ 3) (hmu : ∀ z : Int, 0 ≤ z → z < 6 → 0 ≤ mu z ∧ mu z ≤ 3) (hma : ∀ z : Int, 0 ≤ z → z < 6 → 0 ≤ ma z ∧ ma z ≤ 3) (hi : i + 2 < N) (ha : isA E σ i mu ma) : CV E M_X0_lookAt 3 [vr E i, vi x, vi v] N σ (fun σ' => isA E σ' i (lkMu mu x) (lkMa ma x v) ∧ ∀ q, (q < i ∨ i + 2 < q) → σ' q = σ q) := by
  refine CT.of2 (own := RX0) (by decide) rfl (Nat.le_of_ble_eq_true rfl) ?_
  intro p e R s m args below meth c Q hF hr hlk hnm hz hR hQ
  obtain ⟨a0, a1, a2⟩ := ha
  have ab0 : i < N := by omega
  have ab1 : i + 1 < N := by omega
  have ab2 : i + 2 < N := by omega
  refine go_iload_n (pc := 0) hF dX0_lookAt_0 1 rfl ?_
  refine go_callNP (pc := 1) hF [vi x] [] mn_X0_24 dX0_lookAt_1 (c_X10_isLine E N σ x (by omega)) rfl rfl (Nat.le_of_ble_eq_true rfl) (by decide) ⟨Nat.zero_le _, Nat.zero_le _⟩ ?_
  refine go_if_ne (pc := 4) hF 8 dX0_lookAt_4 (by decide) (bI_rg _) (fun b4 => ?_) (fun b4 => ?_)
  · refine go_aload_n (pc := 8) hF dX0_lookAt_8 0 rfl ?_
    refine go_get (pc := 9) hF fl_X0_9 dX0_lookAt_9 ab0 a0 rfl ?_
    refine go_iload_n (pc := 12) hF dX0_lookAt_12 1 rfl ?_
    refine go_iald (pc := 13) hF dX0_lookAt_13 ab1 a1 (by omega) ?_
    refine go_istore_n (pc := 14) hF [(3, vi (mu x)), (0, vr E i), (1, vi x), (2, vi v)] dX0_lookAt_14 rfl (by decide) ?_
    refine go_aload_n (pc := 15) hF dX0_lookAt_15 1 rfl ?_
    refine go_get (pc := 16) hF fl_X0_15 dX0_lookAt_16 ab0 a0 rfl ?_
    refine go_iload_n (pc := 19) hF dX0_lookAt_19 2 rfl ?_
    refine go_iald (pc := 20) hF dX0_lookAt_20 ab2 a2 (by omega) ?_
    refine go_istore (pc := 21) hF [(4, vi (ma x)), (3, vi (mu x)), (0, vr E i), (1, vi x), (2, vi v)] dX0_lookAt_21 rfl (by decide) ?_
    refine go_iconst (pc := 23) hF dX0_lookAt_23 ?_
    refine go_istore (pc := 24) hF [(5, vi 0), (4, vi (ma x)), (3, vi (mu x)), (0, vr E i), (1, vi x), (2, vi v)] dX0_lookAt_24 rfl (by decide) ?_
    have loop : ∀ (n : Nat) (q : Int) (gm : Int → Int) (gy : Int → Int) (τ : Nat → va_E), 6 - q < n → 0 ≤ q ∧ q ≤ 6 → (∀ z : Int, 0 ≤ z → z < 6 → (z < q → gm z = stMu mu x z ∧ gy z = stMa ma x v z) ∧ (q ≤ z → gm z = mu z ∧ gy z = ma z)) → τ (i + 1) = ai E 6 gm → τ (i + 2) = ai E 6 gy → (∀ j : Nat, (j ≠ i + 1 ∧ j ≠ i + 2) → τ j = σ j) → Go E p e R s m args below meth c Q 6 (0, 0) N τ [(5, vi q), (4, vi (ma x)), (3, vi (mu x)), (0, vr E i), (1, vi x), (2, vi v)] [] 26 := by
      intro n
      induction n with
      | zero => intro q gm gy τ hfu hq hg c_tm_loop c_ty_loop fr_loop; exfalso; omega
      | succ n ih =>
        intro q gm gy τ hfu hq hg c_tm_loop c_ty_loop fr_loop
        have t_loop := (fr_loop i (by omega)).trans a0
        have zq : q < 6 → (gm q = mu q ∧ gy q = ma q) := fun h => (hg q hq.1 h).2 (Int.le_refl q)
        have zx := hmu x hx.1 (by omega)
        have zy := hma x hx.1 (by omega)
        have zb : q < 6 → (0 ≤ gm q ∧ gm q ≤ 3) ∧ (0 ≤ gy q ∧ gy q ≤ 3) := fun h => by rw [(zq h).1, (zq h).2]; exact ⟨hmu q hq.1 h, hma q hq.1 h⟩
        refine go_iload (pc := 26) hF dX0_lookAt_26 0 rfl ?_
        refine go_bipush (pc := 28) hF dX0_lookAt_28 (by decide) ?_
        refine go_icmp_ge (pc := 30) hF 93 dX0_lookAt_30 (by decide) (by omega) ⟨by decide, by decide⟩ (fun b30 => ?_) (fun b30 => ?_)
        · refine go_aload_n (pc := 93) hF dX0_lookAt_93 3 rfl ?_
          refine go_get (pc := 94) hF fl_X0_9 dX0_lookAt_94 ab0 t_loop rfl ?_
          refine go_iload_n (pc := 97) hF dX0_lookAt_97 4 rfl ?_
          refine go_iconst (pc := 98) hF dX0_lookAt_98 ?_
          refine go_iast (pc := 99) hF dX0_lookAt_99 ab1 c_tm_loop (by omega) (fun s1 u_s1 f_s1 => ?_)
          have t_s1 := (f_s1 i (show i ≠ i + 1 by omega)).trans t_loop
          have ty_s1 := (f_s1 (i + 2) (show i + 2 ≠ i + 1 by omega)).trans c_ty_loop
          refine go_aload_n (pc := 100) hF dX0_lookAt_100 3 rfl ?_
          refine go_get (pc := 101) hF fl_X0_15 dX0_lookAt_101 ab0 t_s1 rfl ?_
          refine go_iload_n (pc := 104) hF dX0_lookAt_104 4 rfl ?_
          refine go_iconst (pc := 105) hF dX0_lookAt_105 ?_
          refine go_iast (pc := 106) hF dX0_lookAt_106 ab2 ty_s1 (by omega) (fun s2 u_s2 f_s2 => ?_)
          have t_s2 := (f_s2 i (show i ≠ i + 2 by omega)).trans t_s1
          have tm_s2 := (f_s2 (i + 1) (show i + 1 ≠ i + 2 by omega)).trans u_s1
          refine go_ai (i + 1) 6 (lkMu mu x) ab1 tm_s2 (fun z h1 h2 => ?_) (fun τ1 v1 g1 => ?_)
          · unfold lkMu; by_cases h3 : z = x
            · subst h3; rw [up_self, if_pos rfl]
            · rw [up_ne _ _ h3, if_neg h3]; exact ((hg z h1 (by omega)).1 (by omega)).1
          have y1 := (g1 (i + 2) (by omega)).trans u_s2
          refine go_ai (i + 2) 6 (lkMa ma x v) ab2 y1 (fun z h1 h2 => ?_) (fun τ2 v2 g2 => ?_)
          · unfold lkMa; by_cases h3 : z = x
            · subst h3; rw [up_self, if_pos rfl]
            · rw [up_ne _ _ h3, if_neg h3]; exact ((hg z h1 (by omega)).1 (by omega)).2
          exact go_vretQ hF hr hlk hQ dX0_lookAt_107 ⟨⟨(g2 i (by omega)).trans ((g1 i (by omega)).trans t_s2), (g2 _ (by omega)).trans v1, v2⟩, fun j hj => by rw [g2 j (by omega), g1 j (by omega), f_s2 j (by omega), f_s1 j (by omega), fr_loop j (by omega)]⟩
        · have zc := zb (by omega)
          have zd := zq (by omega)
          refine go_aload_n (pc := 33) hF dX0_lookAt_33 3 rfl ?_
          refine go_get (pc := 34) hF fl_X0_9 dX0_lookAt_34 ab0 t_loop rfl ?_
          refine go_iload (pc := 37) hF dX0_lookAt_37 0 rfl ?_
          refine go_iald (pc := 39) hF dX0_lookAt_39 ab1 c_tm_loop (by omega) ?_
          refine go_iload_n (pc := 40) hF dX0_lookAt_40 2 rfl ?_
          refine go_icmp_ge (pc := 41) hF 55 dX0_lookAt_41 (by decide) (by omega) (by omega) (fun b41 => ?_) (fun b41 => ?_)
          · refine go_aload_n (pc := 55) hF dX0_lookAt_55 3 rfl ?_
            refine go_get (pc := 56) hF fl_X0_15 dX0_lookAt_56 ab0 t_loop rfl ?_
            refine go_iload (pc := 59) hF dX0_lookAt_59 0 rfl ?_
            refine go_iald (pc := 61) hF dX0_lookAt_61 ab2 c_ty_loop (by omega) ?_
            refine go_iload (pc := 62) hF dX0_lookAt_62 1 rfl ?_
            refine go_icmp_gt (pc := 64) hF 87 dX0_lookAt_64 (by decide) (by omega) (by omega) (fun b64 => ?_) (fun b64 => ?_)
            · refine go_iinc (pc := 87) hF [(5, vi (q + 1)), (4, vi (ma x)), (3, vi (mu x)), (0, vr E i), (1, vi x), (2, vi v)] dX0_lookAt_87 0 rfl rfl (by decide) ?_
              refine go_goto (pc := 90) hF 26 dX0_lookAt_90 (by decide) ?_
              exact ih _ _ _ τ (by omega) (by omega) (fun z h1 h2 => by
            have hz := hg z h1 h2
            have e1 := zq (by omega)
            by_cases h3 : z = q
            · subst h3
              refine ⟨fun _ => ?_, fun h => absurd h (by omega)⟩
              simp only [stMu, stMa, up_self]
              constructor
              · first | (rw [if_pos (by omega)]; omega) | (rw [if_neg (by omega)]; omega)
              · first | (rw [if_pos (by omega)]; omega) | (rw [if_neg (by omega)]; omega)
            · try simp only [up_ne _ _ h3]
              exact ⟨fun h => hz.1 (by omega), fun h => hz.2 (by omega)⟩) c_tm_loop c_ty_loop (fun j hj => by rw [fr_loop j (by omega)])
            · refine go_aload_n (pc := 67) hF dX0_lookAt_67 3 rfl ?_
              refine go_get (pc := 68) hF fl_X0_15 dX0_lookAt_68 ab0 t_loop rfl ?_
              refine go_iload (pc := 71) hF dX0_lookAt_71 0 rfl ?_
              refine go_aload_n (pc := 73) hF dX0_lookAt_73 3 rfl ?_
              refine go_get (pc := 74) hF fl_X0_15 dX0_lookAt_74 ab0 t_loop rfl ?_
              refine go_iload (pc := 77) hF dX0_lookAt_77 0 rfl ?_
              refine go_iald (pc := 79) hF dX0_lookAt_79 ab2 c_ty_loop (by omega) ?_
              refine go_iconst (pc := 80) hF dX0_lookAt_80 ?_
              refine go_iadd (pc := 81) hF dX0_lookAt_81 ?_
              refine go_iload_n (pc := 82) hF dX0_lookAt_82 5 rfl ?_
              refine go_mmin (pc := 83) hF ms_X0_28 dX0_lookAt_83 (by omega) (by omega) (Nat.le_of_ble_eq_true rfl) (by decide) ⟨Nat.zero_le _, Nat.zero_le _⟩ ?_
              refine go_iast (pc := 86) hF dX0_lookAt_86 ab2 c_ty_loop (by omega) (fun s3 u_s3 f_s3 => ?_)
              have t_s3 := (f_s3 i (show i ≠ i + 2 by omega)).trans t_loop
              have tm_s3 := (f_s3 (i + 1) (show i + 1 ≠ i + 2 by omega)).trans c_tm_loop
              refine go_iinc (pc := 87) hF [(5, vi (q + 1)), (4, vi (ma x)), (3, vi (mu x)), (0, vr E i), (1, vi x), (2, vi v)] dX0_lookAt_87 0 rfl rfl (by decide) ?_
              refine go_goto (pc := 90) hF 26 dX0_lookAt_90 (by decide) ?_
              exact ih _ _ _ s3 (by omega) (by omega) (fun z h1 h2 => by
            have hz := hg z h1 h2
            have e1 := zq (by omega)
            by_cases h3 : z = q
            · subst h3
              refine ⟨fun _ => ?_, fun h => absurd h (by omega)⟩
              simp only [stMu, stMa, up_self]
              constructor
              · first | (rw [if_pos (by omega)]; omega) | (rw [if_neg (by omega)]; omega)
              · first | (rw [if_pos (by omega)]; omega) | (rw [if_neg (by omega)]; omega)
            · try simp only [up_ne _ _ h3]
              exact ⟨fun h => hz.1 (by omega), fun h => hz.2 (by omega)⟩) tm_s3 u_s3 (fun j hj => by rw [f_s3 j (by omega), fr_loop j (by omega)])
          · refine go_aload_n (pc := 44) hF dX0_lookAt_44 3 rfl ?_
            refine go_get (pc := 45) hF fl_X0_9 dX0_lookAt_45 ab0 t_loop rfl ?_
            refine go_iload (pc := 48) hF dX0_lookAt_48 0 rfl ?_
            refine go_dup2 (pc := 50) hF dX0_lookAt_50 rfl rfl ?_
            refine go_iald (pc := 51) hF dX0_lookAt_51 ab1 c_tm_loop (by omega) ?_
            refine go_iconst (pc := 52) hF dX0_lookAt_52 ?_
            refine go_iadd (pc := 53) hF dX0_lookAt_53 ?_
            refine go_iast (pc := 54) hF dX0_lookAt_54 ab1 c_tm_loop (by omega) (fun s4 u_s4 f_s4 => ?_)
            have t_s4 := (f_s4 i (show i ≠ i + 1 by omega)).trans t_loop
            have ty_s4 := (f_s4 (i + 2) (show i + 2 ≠ i + 1 by omega)).trans c_ty_loop
            refine go_aload_n (pc := 55) hF dX0_lookAt_55 3 rfl ?_
            refine go_get (pc := 56) hF fl_X0_15 dX0_lookAt_56 ab0 t_s4 rfl ?_
            refine go_iload (pc := 59) hF dX0_lookAt_59 0 rfl ?_
            refine go_iald (pc := 61) hF dX0_lookAt_61 ab2 ty_s4 (by omega) ?_
            refine go_iload (pc := 62) hF dX0_lookAt_62 1 rfl ?_
            refine go_icmp_gt (pc := 64) hF 87 dX0_lookAt_64 (by decide) (by omega) (by omega) (fun b64 => ?_) (fun b64 => ?_)
            · refine go_iinc (pc := 87) hF [(5, vi (q + 1)), (4, vi (ma x)), (3, vi (mu x)), (0, vr E i), (1, vi x), (2, vi v)] dX0_lookAt_87 0 rfl rfl (by decide) ?_
              refine go_goto (pc := 90) hF 26 dX0_lookAt_90 (by decide) ?_
              exact ih _ _ _ s4 (by omega) (by omega) (fun z h1 h2 => by
            have hz := hg z h1 h2
            have e1 := zq (by omega)
            by_cases h3 : z = q
            · subst h3
              refine ⟨fun _ => ?_, fun h => absurd h (by omega)⟩
              simp only [stMu, stMa, up_self]
              constructor
              · first | (rw [if_pos (by omega)]; omega) | (rw [if_neg (by omega)]; omega)
              · first | (rw [if_pos (by omega)]; omega) | (rw [if_neg (by omega)]; omega)
            · try simp only [up_ne _ _ h3]
              exact ⟨fun h => hz.1 (by omega), fun h => hz.2 (by omega)⟩) u_s4 ty_s4 (fun j hj => by rw [f_s4 j (by omega), fr_loop j (by omega)])
            · refine go_aload_n (pc := 67) hF dX0_lookAt_67 3 rfl ?_
              refine go_get (pc := 68) hF fl_X0_15 dX0_lookAt_68 ab0 t_s4 rfl ?_
              refine go_iload (pc := 71) hF dX0_lookAt_71 0 rfl ?_
              refine go_aload_n (pc := 73) hF dX0_lookAt_73 3 rfl ?_
              refine go_get (pc := 74) hF fl_X0_15 dX0_lookAt_74 ab0 t_s4 rfl ?_
              refine go_iload (pc := 77) hF dX0_lookAt_77 0 rfl ?_
              refine go_iald (pc := 79) hF dX0_lookAt_79 ab2 ty_s4 (by omega) ?_
              refine go_iconst (pc := 80) hF dX0_lookAt_80 ?_
              refine go_iadd (pc := 81) hF dX0_lookAt_81 ?_
              refine go_iload_n (pc := 82) hF dX0_lookAt_82 5 rfl ?_
              refine go_mmin (pc := 83) hF ms_X0_28 dX0_lookAt_83 (by omega) (by omega) (Nat.le_of_ble_eq_true rfl) (by decide) ⟨Nat.zero_le _, Nat.zero_le _⟩ ?_
              refine go_iast (pc := 86) hF dX0_lookAt_86 ab2 ty_s4 (by omega) (fun s5 u_s5 f_s5 => ?_)
              have t_s5 := (f_s5 i (show i ≠ i + 2 by omega)).trans t_s4
              have tm_s5 := (f_s5 (i + 1) (show i + 1 ≠ i + 2 by omega)).trans u_s4
              refine go_iinc (pc := 87) hF [(5, vi (q + 1)), (4, vi (ma x)), (3, vi (mu x)), (0, vr E i), (1, vi x), (2, vi v)] dX0_lookAt_87 0 rfl rfl (by decide) ?_
              refine go_goto (pc := 90) hF 26 dX0_lookAt_90 (by decide) ?_
              exact ih _ _ _ s5 (by omega) (by omega) (fun z h1 h2 => by
            have hz := hg z h1 h2
            have e1 := zq (by omega)
            by_cases h3 : z = q
            · subst h3
              refine ⟨fun _ => ?_, fun h => absurd h (by omega)⟩
              simp only [stMu, stMa, up_self]
              constructor
              · first | (rw [if_pos (by omega)]; omega) | (rw [if_neg (by omega)]; omega)
              · first | (rw [if_pos (by omega)]; omega) | (rw [if_neg (by omega)]; omega)
            · try simp only [up_ne _ _ h3]
              exact ⟨fun h => hz.1 (by omega), fun h => hz.2 (by omega)⟩) tm_s5 u_s5 (fun j hj => by rw [f_s5 j (by omega), f_s4 j (by omega), fr_loop j (by omega)])
    exact loop 7 0 mu ma σ (by omega) (by omega) (fun z h1 h2 => ⟨fun h => absurd h1 (by omega), fun _ => ⟨rfl, rfl⟩⟩) a1 a2 (fun _ _ => rfl)
  · exact absurd ((bI_0 _).mp b4) (by omega)
def jnMu (g f : Int → Int) : Int → Int := fun z => if g z < f z then f z else g z
def jnMa (g f : Int → Int) : Int → Int := fun z => if f z < g z then f z else g z

set_option maxHeartbeats 4000000 in
set_option maxRecDepth 100000 in
theorem c_X0_joinWith (E : En) (N : Nat) (σ : Nat → va_E) (i j : Nat) (mu ma nu na : Int → Int) (hmu : ∀ z : Int, 0 ≤ z → z < 6 → 0 ≤ mu z ∧ mu z ≤ 3) (hma : ∀ z : Int, 0 ≤ z → z < 6 → 0 ≤ ma z ∧ ma z ≤ 3) (hnu : ∀ z : Int, 0 ≤ z → z < 6 → 0 ≤ nu z ∧ nu z ≤ 3) (hna : ∀ z : Int, 0 ≤ z → z < 6 → 0 ≤ na z ∧ na z ≤ 3) (hi : i + 2 < N) (hj : j + 2 < N) (hij : i + 2 < j ∨ j + 2 < i) (ha : isA E σ i mu ma) (ho : isA E σ j nu na) : CI E M_X0_joinWith 1 [vr E i, vr E j] N σ (fun y σ' => (y = 0 ∨ y = 1) ∧ (y = 0 ↔ ∀ z : Int, 0 ≤ z → z < 6 → nu z ≤ mu z ∧ ma z ≤ na z) ∧ isA E σ' i (jnMu mu nu) (jnMa ma na) ∧ ∀ q, (q < i ∨ i + 2 < q) → σ' q = σ q) := by
  refine CT.of2 (own := RX0) (by decide) rfl (Nat.le_of_ble_eq_true rfl) ?_
  intro p e R s m args below meth c Q hF hr hlk hnm hz hR hQ
  obtain ⟨a0, a1, a2⟩ := ha
  have ab0 : i < N := by omega
  have ab1 : i + 1 < N := by omega
  have ab2 : i + 2 < N := by omega
  obtain ⟨o0, o1, o2⟩ := ho
  have ob0 : j < N := by omega
  have ob1 : j + 1 < N := by omega
  have ob2 : j + 2 < N := by omega
  refine go_iconst (pc := 0) hF dX0_joinWith_0 ?_
  refine go_istore_n (pc := 1) hF [(2, vi 0), (0, vr E i), (1, vr E j)] dX0_joinWith_1 rfl (by decide) ?_
  refine go_iconst (pc := 2) hF dX0_joinWith_2 ?_
  refine go_istore_n (pc := 3) hF [(3, vi 0), (2, vi 0), (0, vr E i), (1, vr E j)] dX0_joinWith_3 rfl (by decide) ?_
  have loop : ∀ (n : Nat) (q : Int) (ch : Int) (gm : Int → Int) (gy : Int → Int) (τ : Nat → va_E), 6 - q < n → 0 ≤ q ∧ q ≤ 6 → (ch = 0 ∨ ch = 1) → (ch = 0 ↔ ∀ z : Int, 0 ≤ z → z < q → nu z ≤ mu z ∧ ma z ≤ na z) → (∀ z : Int, 0 ≤ z → z < 6 → (z < q → gm z = jnMu mu nu z ∧ gy z = jnMa ma na z) ∧ (q ≤ z → gm z = mu z ∧ gy z = ma z)) → τ (i + 1) = ai E 6 gm → τ (i + 2) = ai E 6 gy → (∀ j : Nat, (j ≠ i + 1 ∧ j ≠ i + 2) → τ j = σ j) → Go E p e R s m args below meth c Q 4 (0, 0) N τ [(3, vi q), (2, vi ch), (0, vr E i), (1, vr E j)] [] 4 := by
    intro n
    induction n with
    | zero => intro q ch gm gy τ hfu hq hc0 hc1 hg c_tm_loop c_ty_loop fr_loop; exfalso; omega
    | succ n ih =>
      intro q ch gm gy τ hfu hq hc0 hc1 hg c_tm_loop c_ty_loop fr_loop
      have t_loop := (fr_loop i (by omega)).trans a0
      have o_loop := (fr_loop j (by omega)).trans o0
      have om_loop := (fr_loop (j + 1) (by omega)).trans o1
      have oy_loop := (fr_loop (j + 2) (by omega)).trans o2
      have zq : q < 6 → (gm q = mu q ∧ gy q = ma q) := fun h => (hg q hq.1 h).2 (Int.le_refl q)
      have zb : q < 6 → ((0 ≤ gm q ∧ gm q ≤ 3) ∧ (0 ≤ gy q ∧ gy q ≤ 3)) ∧ ((0 ≤ nu q ∧ nu q ≤ 3) ∧ (0 ≤ na q ∧ na q ≤ 3)) := fun h => by rw [(zq h).1, (zq h).2]; exact ⟨⟨hmu q hq.1 h, hma q hq.1 h⟩, ⟨hnu q hq.1 h, hna q hq.1 h⟩⟩
      refine go_iload_n (pc := 4) hF dX0_joinWith_4 0 rfl ?_
      refine go_bipush (pc := 5) hF dX0_joinWith_5 (by decide) ?_
      refine go_icmp_ge (pc := 7) hF 74 dX0_joinWith_7 (by decide) (by omega) ⟨by decide, by decide⟩ (fun b7 => ?_) (fun b7 => ?_)
      · refine go_iload_n (pc := 74) hF dX0_joinWith_74 1 rfl ?_
        have hq6 : q = 6 := by omega
        refine go_ai (i + 1) 6 (jnMu mu nu) ab1 c_tm_loop (fun z h1 h2 => ((hg z h1 (by omega)).1 (by omega)).1) (fun τ1 v1 g1 => ?_)
        have y1 := (g1 (i + 2) (by omega)).trans c_ty_loop
        refine go_ai (i + 2) 6 (jnMa ma na) ab2 y1 (fun z h1 h2 => ((hg z h1 (by omega)).1 (by omega)).2) (fun τ2 v2 g2 => ?_)
        exact go_zretQ hF hr hlk hQ dX0_joinWith_75 hc0 ⟨hc0, by rw [hq6] at hc1; exact hc1, ⟨(g2 i (by omega)).trans ((g1 i (by omega)).trans t_loop), (g2 _ (by omega)).trans v1, v2⟩, fun j hj => by rw [g2 j (by omega), g1 j (by omega), fr_loop j (by omega)]⟩
      · have zc := zb (by omega)
        have zd := zq (by omega)
        refine go_aload_n (pc := 10) hF dX0_joinWith_10 3 rfl ?_
        refine go_get (pc := 11) hF fl_X0_9 dX0_joinWith_11 ob0 o_loop rfl ?_
        refine go_iload_n (pc := 14) hF dX0_joinWith_14 0 rfl ?_
        refine go_iald (pc := 15) hF dX0_joinWith_15 ob1 om_loop (by omega) ?_
        refine go_aload_n (pc := 16) hF dX0_joinWith_16 2 rfl ?_
        refine go_get (pc := 17) hF fl_X0_9 dX0_joinWith_17 ab0 t_loop rfl ?_
        refine go_iload_n (pc := 20) hF dX0_joinWith_20 0 rfl ?_
        refine go_iald (pc := 21) hF dX0_joinWith_21 ab1 c_tm_loop (by omega) ?_
        refine go_icmp_le (pc := 22) hF 39 dX0_joinWith_22 (by decide) (by omega) (by omega) (fun b22 => ?_) (fun b22 => ?_)
        · refine go_aload_n (pc := 39) hF dX0_joinWith_39 3 rfl ?_
          refine go_get (pc := 40) hF fl_X0_15 dX0_joinWith_40 ob0 o_loop rfl ?_
          refine go_iload_n (pc := 43) hF dX0_joinWith_43 0 rfl ?_
          refine go_iald (pc := 44) hF dX0_joinWith_44 ob2 oy_loop (by omega) ?_
          refine go_aload_n (pc := 45) hF dX0_joinWith_45 2 rfl ?_
          refine go_get (pc := 46) hF fl_X0_15 dX0_joinWith_46 ab0 t_loop rfl ?_
          refine go_iload_n (pc := 49) hF dX0_joinWith_49 0 rfl ?_
          refine go_iald (pc := 50) hF dX0_joinWith_50 ab2 c_ty_loop (by omega) ?_
          refine go_icmp_ge (pc := 51) hF 68 dX0_joinWith_51 (by decide) (by omega) (by omega) (fun b51 => ?_) (fun b51 => ?_)
          · refine go_iinc (pc := 68) hF [(3, vi (q + 1)), (2, vi ch), (0, vr E i), (1, vr E j)] dX0_joinWith_68 0 rfl rfl (by decide) ?_
            refine go_goto (pc := 71) hF 4 dX0_joinWith_71 (by decide) ?_
            exact ih _ _ _ _ τ (by omega) (by omega) hc0 ⟨fun h z h1 h2 => by by_cases h3 : z = q; (subst h3; have := zq (by omega); omega); exact hc1.mp h z h1 (by omega), fun h => hc1.mpr (fun z h1 h2 => h z h1 (by omega))⟩ (fun z h1 h2 => by
            have hz := hg z h1 h2
            have e1 := zq (by omega)
            by_cases h3 : z = q
            · subst h3
              refine ⟨fun _ => ?_, fun h => absurd h (by omega)⟩
              simp only [jnMu, jnMa, up_self]
              constructor
              · first | (rw [if_pos (by omega)]; omega) | (rw [if_neg (by omega)]; omega) | (rw [if_pos (by omega)]) | (rw [if_neg (by omega)])
              · first | (rw [if_pos (by omega)]; omega) | (rw [if_neg (by omega)]; omega) | (rw [if_pos (by omega)]) | (rw [if_neg (by omega)])
            · try simp only [up_ne _ _ h3]
              exact ⟨fun h => hz.1 (by omega), fun h => hz.2 (by omega)⟩) c_tm_loop c_ty_loop (fun j hj => by rw [fr_loop j (by omega)])
          · refine go_aload_n (pc := 54) hF dX0_joinWith_54 2 rfl ?_
            refine go_get (pc := 55) hF fl_X0_15 dX0_joinWith_55 ab0 t_loop rfl ?_
            refine go_iload_n (pc := 58) hF dX0_joinWith_58 0 rfl ?_
            refine go_aload_n (pc := 59) hF dX0_joinWith_59 3 rfl ?_
            refine go_get (pc := 60) hF fl_X0_15 dX0_joinWith_60 ob0 o_loop rfl ?_
            refine go_iload_n (pc := 63) hF dX0_joinWith_63 0 rfl ?_
            refine go_iald (pc := 64) hF dX0_joinWith_64 ob2 oy_loop (by omega) ?_
            refine go_iast (pc := 65) hF dX0_joinWith_65 ab2 c_ty_loop (by omega) (fun s1 u_s1 f_s1 => ?_)
            have t_s1 := (f_s1 i (show i ≠ i + 2 by omega)).trans t_loop
            have tm_s1 := (f_s1 (i + 1) (show i + 1 ≠ i + 2 by omega)).trans c_tm_loop
            have o_s1 := (f_s1 j (show j ≠ i + 2 by omega)).trans o_loop
            have om_s1 := (f_s1 (j + 1) (show j + 1 ≠ i + 2 by omega)).trans om_loop
            have oy_s1 := (f_s1 (j + 2) (show j + 2 ≠ i + 2 by omega)).trans oy_loop
            refine go_iconst (pc := 66) hF dX0_joinWith_66 ?_
            refine go_istore_n (pc := 67) hF [(2, vi 1), (3, vi q), (0, vr E i), (1, vr E j)] dX0_joinWith_67 rfl (by decide) ?_
            refine go_iinc (pc := 68) hF [(3, vi (q + 1)), (2, vi 1), (0, vr E i), (1, vr E j)] dX0_joinWith_68 1 rfl rfl (by decide) ?_
            refine go_goto (pc := 71) hF 4 dX0_joinWith_71 (by decide) ?_
            exact ih _ _ _ _ s1 (by omega) (by omega) (Or.inr rfl) ⟨fun h => absurd h (by decide), fun h => absurd (h q hq.1 (by omega)) (by have := zq (by omega); omega)⟩ (fun z h1 h2 => by
            have hz := hg z h1 h2
            have e1 := zq (by omega)
            by_cases h3 : z = q
            · subst h3
              refine ⟨fun _ => ?_, fun h => absurd h (by omega)⟩
              simp only [jnMu, jnMa, up_self]
              constructor
              · first | (rw [if_pos (by omega)]; omega) | (rw [if_neg (by omega)]; omega) | (rw [if_pos (by omega)]) | (rw [if_neg (by omega)])
              · first | (rw [if_pos (by omega)]; omega) | (rw [if_neg (by omega)]; omega) | (rw [if_pos (by omega)]) | (rw [if_neg (by omega)])
            · try simp only [up_ne _ _ h3]
              exact ⟨fun h => hz.1 (by omega), fun h => hz.2 (by omega)⟩) tm_s1 u_s1 (fun j hj => by rw [f_s1 j (by omega), fr_loop j (by omega)])
        · refine go_aload_n (pc := 25) hF dX0_joinWith_25 2 rfl ?_
          refine go_get (pc := 26) hF fl_X0_9 dX0_joinWith_26 ab0 t_loop rfl ?_
          refine go_iload_n (pc := 29) hF dX0_joinWith_29 0 rfl ?_
          refine go_aload_n (pc := 30) hF dX0_joinWith_30 3 rfl ?_
          refine go_get (pc := 31) hF fl_X0_9 dX0_joinWith_31 ob0 o_loop rfl ?_
          refine go_iload_n (pc := 34) hF dX0_joinWith_34 0 rfl ?_
          refine go_iald (pc := 35) hF dX0_joinWith_35 ob1 om_loop (by omega) ?_
          refine go_iast (pc := 36) hF dX0_joinWith_36 ab1 c_tm_loop (by omega) (fun s2 u_s2 f_s2 => ?_)
          have t_s2 := (f_s2 i (show i ≠ i + 1 by omega)).trans t_loop
          have ty_s2 := (f_s2 (i + 2) (show i + 2 ≠ i + 1 by omega)).trans c_ty_loop
          have o_s2 := (f_s2 j (show j ≠ i + 1 by omega)).trans o_loop
          have om_s2 := (f_s2 (j + 1) (show j + 1 ≠ i + 1 by omega)).trans om_loop
          have oy_s2 := (f_s2 (j + 2) (show j + 2 ≠ i + 1 by omega)).trans oy_loop
          refine go_iconst (pc := 37) hF dX0_joinWith_37 ?_
          refine go_istore_n (pc := 38) hF [(2, vi 1), (3, vi q), (0, vr E i), (1, vr E j)] dX0_joinWith_38 rfl (by decide) ?_
          refine go_aload_n (pc := 39) hF dX0_joinWith_39 3 rfl ?_
          refine go_get (pc := 40) hF fl_X0_15 dX0_joinWith_40 ob0 o_s2 rfl ?_
          refine go_iload_n (pc := 43) hF dX0_joinWith_43 1 rfl ?_
          refine go_iald (pc := 44) hF dX0_joinWith_44 ob2 oy_s2 (by omega) ?_
          refine go_aload_n (pc := 45) hF dX0_joinWith_45 2 rfl ?_
          refine go_get (pc := 46) hF fl_X0_15 dX0_joinWith_46 ab0 t_s2 rfl ?_
          refine go_iload_n (pc := 49) hF dX0_joinWith_49 1 rfl ?_
          refine go_iald (pc := 50) hF dX0_joinWith_50 ab2 ty_s2 (by omega) ?_
          refine go_icmp_ge (pc := 51) hF 68 dX0_joinWith_51 (by decide) (by omega) (by omega) (fun b51 => ?_) (fun b51 => ?_)
          · refine go_iinc (pc := 68) hF [(3, vi (q + 1)), (2, vi 1), (0, vr E i), (1, vr E j)] dX0_joinWith_68 1 rfl rfl (by decide) ?_
            refine go_goto (pc := 71) hF 4 dX0_joinWith_71 (by decide) ?_
            exact ih _ _ _ _ s2 (by omega) (by omega) (Or.inr rfl) ⟨fun h => absurd h (by decide), fun h => absurd (h q hq.1 (by omega)) (by have := zq (by omega); omega)⟩ (fun z h1 h2 => by
            have hz := hg z h1 h2
            have e1 := zq (by omega)
            by_cases h3 : z = q
            · subst h3
              refine ⟨fun _ => ?_, fun h => absurd h (by omega)⟩
              simp only [jnMu, jnMa, up_self]
              constructor
              · first | (rw [if_pos (by omega)]; omega) | (rw [if_neg (by omega)]; omega) | (rw [if_pos (by omega)]) | (rw [if_neg (by omega)])
              · first | (rw [if_pos (by omega)]; omega) | (rw [if_neg (by omega)]; omega) | (rw [if_pos (by omega)]) | (rw [if_neg (by omega)])
            · try simp only [up_ne _ _ h3]
              exact ⟨fun h => hz.1 (by omega), fun h => hz.2 (by omega)⟩) u_s2 ty_s2 (fun j hj => by rw [f_s2 j (by omega), fr_loop j (by omega)])
          · refine go_aload_n (pc := 54) hF dX0_joinWith_54 2 rfl ?_
            refine go_get (pc := 55) hF fl_X0_15 dX0_joinWith_55 ab0 t_s2 rfl ?_
            refine go_iload_n (pc := 58) hF dX0_joinWith_58 1 rfl ?_
            refine go_aload_n (pc := 59) hF dX0_joinWith_59 3 rfl ?_
            refine go_get (pc := 60) hF fl_X0_15 dX0_joinWith_60 ob0 o_s2 rfl ?_
            refine go_iload_n (pc := 63) hF dX0_joinWith_63 1 rfl ?_
            refine go_iald (pc := 64) hF dX0_joinWith_64 ob2 oy_s2 (by omega) ?_
            refine go_iast (pc := 65) hF dX0_joinWith_65 ab2 ty_s2 (by omega) (fun s3 u_s3 f_s3 => ?_)
            have t_s3 := (f_s3 i (show i ≠ i + 2 by omega)).trans t_s2
            have tm_s3 := (f_s3 (i + 1) (show i + 1 ≠ i + 2 by omega)).trans u_s2
            have o_s3 := (f_s3 j (show j ≠ i + 2 by omega)).trans o_s2
            have om_s3 := (f_s3 (j + 1) (show j + 1 ≠ i + 2 by omega)).trans om_s2
            have oy_s3 := (f_s3 (j + 2) (show j + 2 ≠ i + 2 by omega)).trans oy_s2
            refine go_iconst (pc := 66) hF dX0_joinWith_66 ?_
            refine go_istore_n (pc := 67) hF [(2, vi 1), (3, vi q), (0, vr E i), (1, vr E j)] dX0_joinWith_67 rfl (by decide) ?_
            refine go_iinc (pc := 68) hF [(3, vi (q + 1)), (2, vi 1), (0, vr E i), (1, vr E j)] dX0_joinWith_68 1 rfl rfl (by decide) ?_
            refine go_goto (pc := 71) hF 4 dX0_joinWith_71 (by decide) ?_
            exact ih _ _ _ _ s3 (by omega) (by omega) (Or.inr rfl) ⟨fun h => absurd h (by decide), fun h => absurd (h q hq.1 (by omega)) (by have := zq (by omega); omega)⟩ (fun z h1 h2 => by
            have hz := hg z h1 h2
            have e1 := zq (by omega)
            by_cases h3 : z = q
            · subst h3
              refine ⟨fun _ => ?_, fun h => absurd h (by omega)⟩
              simp only [jnMu, jnMa, up_self]
              constructor
              · first | (rw [if_pos (by omega)]; omega) | (rw [if_neg (by omega)]; omega) | (rw [if_pos (by omega)]) | (rw [if_neg (by omega)])
              · first | (rw [if_pos (by omega)]; omega) | (rw [if_neg (by omega)]; omega) | (rw [if_pos (by omega)]) | (rw [if_neg (by omega)])
            · try simp only [up_ne _ _ h3]
              exact ⟨fun h => hz.1 (by omega), fun h => hz.2 (by omega)⟩) tm_s3 u_s3 (fun j hj => by rw [f_s3 j (by omega), f_s2 j (by omega), fr_loop j (by omega)])
  exact loop 7 0 0 mu ma σ (by omega) (by omega) (Or.inl rfl) ⟨fun _ z h1 h2 => absurd h1 (by omega), fun _ => rfl⟩ (fun z h1 h2 => ⟨fun h => absurd h1 (by omega), fun _ => ⟨rfl, rfl⟩⟩) a1 a2 (fun _ _ => rfl)
