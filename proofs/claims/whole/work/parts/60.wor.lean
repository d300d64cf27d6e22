/-! The reference₉: worst, best₉, ends₉, worstBy. -/
/-- the most, the least₉, the count₉, over the rows₉ ahead₉ of₉ j₉ -/
def moI (S₉ : XS) (m j₉ : Int) : Prop := 0 ≤ m ∧ (∀ r₉ c, 0 ≤ r₉ → r₉ < j₉ → S₉ r₉ c → c ≤ m) ∧ (m = 0 ∨ ∃ r₉, S₉ r₉ m)
def leI (S₉ : XS) (m j₉ : Int) : Prop := (m = -1 ∧ ∀ r₉ c, 0 ≤ r₉ → r₉ < j₉ → ¬ S₉ r₉ c) ∨ (0 ≤ m ∧ (∀ r₉ c, 0 ≤ r₉ → r₉ < j₉ → S₉ r₉ c → m ≤ c) ∧ ∃ r₉, S₉ r₉ m)
def cnI (S₉ : XS) (m j₉ : Int) : Prop := 0 ≤ m ∧ ∃ f₉ : Int → Int, (∀ q₉ : Int, 0 ≤ q₉ → q₉ < m → (∃ c, S₉ (f₉ q₉) c) ∧ 0 ≤ f₉ q₉ ∧ f₉ q₉ < j₉) ∧ (∀ q₉ q' : Int, 0 ≤ q₉ → q₉ < m → 0 ≤ q' → q' < m → f₉ q₉ = f₉ q' → q₉ = q') ∧ ∀ r₉ c, 0 ≤ r₉ → r₉ < j₉ → S₉ r₉ c → ∃ q₉ : Int, 0 ≤ q₉ ∧ q₉ < m ∧ f₉ q₉ = r₉
theorem moI_0 (S₉ : XS) : moI S₉ 0 ((0 : Nat) : Int) := ⟨Int.le_refl _, fun r₉ c r0 r1₉ => absurd r1₉ (by omega), Or.inl rfl⟩
theorem leI_0 (S₉ : XS) : leI S₉ (-1) ((0 : Nat) : Int) := Or.inl ⟨rfl, fun r₉ c r0 r1₉ => absurd r1₉ (by omega)⟩
theorem cnI_0 (S₉ : XS) : cnI S₉ 0 ((0 : Nat) : Int) := ⟨Int.le_refl _, fun _ => 0, fun q₉ q0 q1₉ => absurd q1₉ (by omega), fun q₉ q' q0 q1₉ => absurd q1₉ (by omega), fun r₉ c r0 r1₉ => absurd r1₉ (by omega)⟩
theorem moI_keep {g₉ : Int → Int} {S₉ : XS} {B₉ m : Int} {j₉ : Nat} (h : moI S₉ m j₉) (hS₉ : TK₉ g₉ S₉ B₉) (hj : (j₉ : Int) < 343) (hm₉ : g₉ j₉ ≤ m) : moI S₉ m ((j₉ + 1 : Nat) : Int) := by
  refine ⟨h.1, fun r₉ c r0 r1₉ hc₉ => ?_, h.2.2⟩
  by_cases e : r₉ = j₉
  · subst e
    rcases hS₉ j₉ (by omega) hj with q₉ | q₉
    · exact absurd hc₉ (q₉.2 c)
    · have := (q₉.2.2.2 c hc₉).2; omega
  · exact h.2.1 r₉ c r0 (by omega) hc₉
theorem moI_new {g₉ : Int → Int} {S₉ : XS} {B₉ m : Int} {j₉ : Nat} (h : moI S₉ m j₉) (hS₉ : TK₉ g₉ S₉ B₉) (hj : (j₉ : Int) < 343) (hm₉ : m < g₉ j₉) : moI S₉ (g₉ j₉) ((j₉ + 1 : Nat) : Int) := by
  have h0 := h.1
  refine ⟨by omega, fun r₉ c r0 r1₉ hc₉ => ?_, ?_⟩
  · by_cases e : r₉ = j₉
    · subst e
      rcases hS₉ j₉ (by omega) hj with q₉ | q₉
      · exact absurd hc₉ (q₉.2 c)
      · exact (q₉.2.2.2 c hc₉).2
    · have := h.2.1 r₉ c r0 (by omega) hc₉; omega
  · rcases hS₉ j₉ (by omega) hj with q₉ | q₉
    · omega
    · exact Or.inr ⟨j₉, q₉.2.1⟩
theorem moI_top {g₉ : Int → Int} {S₉ : XS} {B₉ m u₉ : Int} (h : moI S₉ m 343) (hS₉ : TK₉ g₉ S₉ B₉) (hv : vS u₉ S₉) (hn : ∃ r₉ c, S₉ r₉ c) : topS S₉ m ∧ 0 ≤ m ∧ m ≤ max 0 B₉ := by
  obtain ⟨r0, c0₉, h0⟩ := hn
  have hr := fun r₉ c (z₉ : S₉ r₉ c) => (hv r₉ c z₉).1
  have a0₉ := h.2.1 r0 c0₉ (hr _ _ h0).1 (hr _ _ h0).2 h0
  have hex₉ : ∃ r₉, S₉ r₉ m := by
    rcases h.2.2 with e | e
    · rcases hS₉ r0 (hr _ _ h0).1 (hr _ _ h0).2 with q₉ | q₉
      · exact absurd h0 (q₉.2 _)
      · have := (q₉.2.2.2 c0₉ h0).1
        have hh := h.1
        have ec : c0₉ = m := by omega
        exact ⟨r0, by rw [← ec]; exact h0⟩
    · exact e
  refine ⟨⟨fun r₉ c z₉ => h.2.1 r₉ c (hr _ _ z₉).1 (hr _ _ z₉).2 z₉, hex₉⟩, h.1, ?_⟩
  obtain ⟨r₉, z₉⟩ := hex₉
  rcases hS₉ r₉ (hr _ _ z₉).1 (hr _ _ z₉).2 with q₉ | q₉
  · exact absurd z₉ (q₉.2 _)
  · have := (q₉.2.2.2 m z₉).2; omega
theorem leI_dead {S₉ : XS} {m : Int} {j₉ : Nat} (h : leI S₉ m j₉) (hn : ∀ c, ¬ S₉ j₉ c) : leI S₉ m ((j₉ + 1 : Nat) : Int) := by
  rcases h with h | h
  · exact Or.inl ⟨h.1, fun r₉ c r0 r1₉ hc₉ => by
      by_cases e : r₉ = j₉
      · subst e; exact hn c hc₉
      · exact h.2 r₉ c r0 (by omega) hc₉⟩
  · exact Or.inr ⟨h.1, fun r₉ c r0 r1₉ hc₉ => by
      by_cases e : r₉ = j₉
      · subst e; exact absurd hc₉ (hn c)
      · exact h.2.1 r₉ c r0 (by omega) hc₉, h.2.2⟩
theorem leI_keep {g₉ : Int → Int} {S₉ : XS} {B₉ m : Int} {j₉ : Nat} (h : leI S₉ m j₉) (hS₉ : TK₉ g₉ S₉ B₉) (hj : (j₉ : Int) < 343) (hl : 0 ≤ g₉ j₉) (h1 : ¬ m = -1) (hm₉ : m ≤ g₉ (343 + j₉)) : leI S₉ m ((j₉ + 1 : Nat) : Int) := by
  have q₉ := TK_live hS₉ ⟨by omega, hj⟩ hl
  rcases h with h | h
  · exact absurd h.1 h1
  · exact Or.inr ⟨h.1, fun r₉ c r0 r1₉ hc₉ => by
      by_cases e : r₉ = j₉
      · subst e; have := (q₉.2.2.2 c hc₉).1; omega
      · exact h.2.1 r₉ c r0 (by omega) hc₉, h.2.2⟩
theorem leI_new {g₉ : Int → Int} {S₉ : XS} {B₉ m : Int} {j₉ : Nat} (h : leI S₉ m j₉) (hS₉ : TK₉ g₉ S₉ B₉) (hj : (j₉ : Int) < 343) (hl : 0 ≤ g₉ j₉) (hm₉ : m = -1 ∨ g₉ (343 + j₉) < m) : leI S₉ (g₉ (343 + j₉)) ((j₉ + 1 : Nat) : Int) := by
  have q₉ := TK_live hS₉ ⟨by omega, hj⟩ hl
  refine Or.inr ⟨q₉.1.1, fun r₉ c r0 r1₉ hc₉ => ?_, ⟨j₉, q₉.2.2.1⟩⟩
  by_cases e : r₉ = j₉
  · subst e; exact (q₉.2.2.2 c hc₉).1
  · rcases h with h | h
    · exact absurd hc₉ (h.2 r₉ c r0 (by omega))
    · have := h.2.1 r₉ c r0 (by omega) hc₉; omega
theorem leI_rg {S₉ : XS} {m j₉ : Int} (h : leI S₉ m j₉) : -1 ≤ m := by rcases h with h | h <;> omega
theorem leI_bot {S₉ : XS} {m u₉ : Int} (h : leI S₉ m 343) (hv : vS u₉ S₉) (hn : ∃ r₉ c, S₉ r₉ c) : botS S₉ m := by
  obtain ⟨r0, c0₉, h0⟩ := hn
  have hr := fun r₉ c (z₉ : S₉ r₉ c) => (hv r₉ c z₉).1
  rcases h with h | h
  · exact absurd h0 (h.2 r0 c0₉ (hr _ _ h0).1 (hr _ _ h0).2)
  · exact ⟨fun r₉ c z₉ => h.2.1 r₉ c (hr _ _ z₉).1 (hr _ _ z₉).2 z₉, h.2.2⟩
theorem cnI_dead {S₉ : XS} {m : Int} {j₉ : Nat} (h : cnI S₉ m j₉) (hn : ∀ c, ¬ S₉ j₉ c) : cnI S₉ m ((j₉ + 1 : Nat) : Int) := by
  obtain ⟨h0, f₉, h1, h2, h3⟩ := h
  refine ⟨h0, f₉, fun q₉ q0 q1₉ => ⟨(h1 q₉ q0 q1₉).1, by have := (h1 q₉ q0 q1₉).2; omega⟩, h2, fun r₉ c r0 r1₉ hc₉ => ?_⟩
  by_cases e : r₉ = j₉
  · subst e; exact absurd hc₉ (hn c)
  · exact h3 r₉ c r0 (by omega) hc₉
theorem cnI_new {S₉ : XS} {m c0₉ : Int} {j₉ : Nat} (h : cnI S₉ m j₉) (hs : S₉ j₉ c0₉) : cnI S₉ (m + 1) ((j₉ + 1 : Nat) : Int) := by
  obtain ⟨h0, f₉, h1, h2, h3⟩ := h
  refine ⟨by omega, up f₉ m j₉, fun q₉ q0 q1₉ => ?_, fun q₉ q' q0 q1₉ p0₉ p1₉ e => ?_, fun r₉ c r0 r1₉ hc₉ => ?_⟩
  · by_cases e : q₉ = m
    · subst e; rw [up_self]; exact ⟨⟨c0₉, hs⟩, by omega⟩
    · rw [up_ne _ _ e]
      have := h1 q₉ q0 (by omega)
      exact ⟨this.1, by omega⟩
  · by_cases e1₉ : q₉ = m
    · by_cases e2₉ : q' = m
      · omega
      · subst e1₉
        rw [up_self, up_ne _ _ e2₉] at e
        have := (h1 q' p0₉ (by omega)).2; omega
    · by_cases e2₉ : q' = m
      · subst e2₉
        rw [up_self, up_ne _ _ e1₉] at e
        have := (h1 q₉ q0 (by omega)).2; omega
      · rw [up_ne _ _ e1₉, up_ne _ _ e2₉] at e
        exact h2 q₉ q' q0 (by omega) p0₉ (by omega) e
  · by_cases e : r₉ = j₉
    · subst e; exact ⟨m, h0, by omega, up_self _ _ _⟩
    · obtain ⟨q₉, q0, q1₉, q2₉⟩ := h3 r₉ c r0 (by omega) hc₉
      exact ⟨q₉, q0, by omega, by rw [up_ne _ _ (by omega)]; exact q2₉⟩
theorem cnI_all {S₉ : XS} {m u₉ : Int} (h : cnI S₉ m 343) (hv : vS u₉ S₉) : cntS S₉ m := by
  obtain ⟨h0, f₉, h1, h2, h3⟩ := h
  exact ⟨h0, f₉, fun q₉ q0 q1₉ => (h1 q₉ q0 q1₉).1, h2, fun r₉ c hc₉ => h3 r₉ c (hv r₉ c hc₉).1.1 (hv r₉ c hc₉).1.2 hc₉⟩

set_option maxHeartbeats 4000000 in
set_option maxRecDepth 100000 in
theorem c_X11_mostTaken (E : En) (N : Nat) (σ : Nat → va_E) {un tl rz hi₉ mi ak rt cn : Int} {t₉ : Tr} {tk : Int → Int} (hN₉ : 120 ≤ N) (z101 : σ 94 = mOb E un (tLen t₉ : Int) tl rz hi₉ mi ak rt cn) (z119 : σ 112 = ai E 686 tk) (S₉ : XS) (B₉ u₉ : Int) (hB₉ : 0 ≤ B₉ ∧ B₉ ≤ 1000000000) (hS₉ : TK₉ tk S₉ B₉) (hvS : vS u₉ S₉) (hne : ∃ r₉ c, S₉ r₉ c) : CI E M_X11_mostTaken 1 [vr E 94] N σ (fun y₉ σ' => topS S₉ y₉ ∧ (0 ≤ y₉ ∧ y₉ ≤ max 0 B₉) ∧ ∀ q₉, q₉ < 120 → σ' q₉ = σ q₉) := by
  refine CT.of2 (own := RX11) (by decide) rfl (Nat.le_of_ble_eq_true rfl) ?_
  intro p e R s m args below meth c Q hF hr hlk hnm hz hR hQ
  refine go_iconst (pc := 0) hF dX11_mostTaken_0 ?_
  refine go_istore_n (pc := 1) hF [(1, vi 0), (0, vr E 94)] dX11_mostTaken_1 rfl (by decide) ?_
  refine go_iconst (pc := 2) hF dX11_mostTaken_2 ?_
  refine go_istore_n (pc := 3) hF [(2, vi 0), (1, vi 0), (0, vr E 94)] dX11_mostTaken_3 rfl (by decide) ?_
  have loop₉ : ∀ (n₉ : Nat) (j₉ : Nat) (mm : Int), j₉ + n₉ = 345 → (j₉ : Int) ≤ 343 → moI S₉ mm (j₉ : Int) ∧ mm ≤ max 0 B₉ → Go E p e R s m args below meth c Q 3 (0, 0) N σ [(2, vi (j₉ : Int)), (1, vi mm), (0, vr E 94)] [] 4 := by
    intro n₉
    induction n₉ with
    | zero => intro j₉ mm hfu hj hI; exfalso; omega
    | succ n₉ ih₉ =>
      intro j₉ mm hfu hj hI
      refine go_iload_n (pc := 4) hF dX11_mostTaken_4 0 rfl ?_
      refine go_sipush (pc := 5) hF dX11_mostTaken_5 (by decide) ?_
      refine go_icmp_ge (pc := 8) hF 38 dX11_mostTaken_8 (by decide) (by omega) ⟨by decide, by decide⟩ (fun bq8 => ?_) (fun bq8 => ?_)
      · refine go_iload_n (pc := 38) hF dX11_mostTaken_38 1 rfl ?_
        have ej : j₉ = 343 := by omega
        subst ej
        have q9₉ := moI_top hI.1 hS₉ hvS hne
        exact go_iretQ hF hr hlk hQ dX11_mostTaken_39 ⟨q9₉.1, q9₉.2, fun _ _ => rfl⟩
      · have tv := TK₉.val hS₉ (r₉ := (j₉ : Int)) ⟨by omega, by omega⟩
        have h0m := hI.1.1
        refine go_aload_n (pc := 11) hF dX11_mostTaken_11 2 rfl ?_
        refine go_get (pc := 12) hF fl_X11_62 dX11_mostTaken_12 (by omega) z101 rfl ?_
        refine go_iload_n (pc := 15) hF dX11_mostTaken_15 0 rfl ?_
        refine go_iald (pc := 16) hF dX11_mostTaken_16 (by omega) z119 (by omega)  ?_
        refine go_iload_n (pc := 17) hF dX11_mostTaken_17 1 rfl ?_
        refine go_icmp_le (pc := 18) hF 30 dX11_mostTaken_18 (by decide) (by omega) (by omega) (fun bq18 => ?_) (fun bq18 => ?_)
        · refine go_iload_n (pc := 30) hF dX11_mostTaken_30 1 rfl ?_
          refine go_istore_n (pc := 31) hF [(1, vi mm), (2, vi (j₉ : Int)), (0, vr E 94)] dX11_mostTaken_31 rfl (by decide) ?_
          refine go_iinc (pc := 32) hF [(2, vi ((j₉ : Int) + 1)), (1, vi mm), (0, vr E 94)] dX11_mostTaken_32 1 rfl rfl (by decide) ?_
          refine go_goto (pc := 35) hF 4 dX11_mostTaken_35 (by decide) ?_
          exact ih₉ (j₉ + 1) mm (by omega) (by omega) ⟨moI_keep hI.1 hS₉ (by omega) bq18, hI.2⟩
        · refine go_aload_n (pc := 21) hF dX11_mostTaken_21 2 rfl ?_
          refine go_get (pc := 22) hF fl_X11_62 dX11_mostTaken_22 (by omega) z101 rfl ?_
          refine go_iload_n (pc := 25) hF dX11_mostTaken_25 0 rfl ?_
          refine go_iald (pc := 26) hF dX11_mostTaken_26 (by omega) z119 (by omega)  ?_
          refine go_goto (pc := 27) hF 31 dX11_mostTaken_27 (by decide) ?_
          refine go_istore_n (pc := 31) hF [(1, vi (tk (j₉ : Int))), (2, vi (j₉ : Int)), (0, vr E 94)] dX11_mostTaken_31 rfl (by decide) ?_
          refine go_iinc (pc := 32) hF [(2, vi ((j₉ : Int) + 1)), (1, vi (tk (j₉ : Int))), (0, vr E 94)] dX11_mostTaken_32 1 rfl rfl (by decide) ?_
          refine go_goto (pc := 35) hF 4 dX11_mostTaken_35 (by decide) ?_
          exact ih₉ (j₉ + 1) _ (by omega) (by omega) ⟨moI_new hI.1 hS₉ (by omega) bq18, by omega⟩
  exact loop₉ 345 0 0 rfl (by omega) ⟨moI_0 S₉, by omega⟩ 
set_option maxHeartbeats 4000000 in
set_option maxRecDepth 100000 in
theorem c_X11_worst (E : En) (N : Nat) (σ : Nat → va_E) (r₉ u₉ kd pr : Int) (yr yw yk yp : Int → Int) (hs : Int) (tx : Int → Int) (tl : Int) (t₉ : Tr) (xb xn xf q1₉ q2₉ q3₉ : Int) (hN₉ : 120 ≤ N) (hO : okS r₉ u₉ kd pr yr yw yk yp hs tx tl t₉ xb xn xf q1₉ q2₉ q3₉) (hS₉ : mdS E σ r₉ u₉ kd pr yr yw yk yp hs tx tl t₉ xb xn xf q1₉ q2₉ q3₉) : CI E M_X11_worst 16 [vr E 94] N σ (fun y₉ σ' => topS (ex₉ u₉ kd pr t₉ (S0₉ r₉)) y₉ ∧ mdS E σ' r₉ u₉ kd pr yr yw yk yp hs tx tl t₉ xb xn xf q1₉ q2₉ q3₉ ∧ ∀ q₉, q₉ < 94 → σ' q₉ = σ q₉) := by
  refine CT.of2 (own := RX11) (by decide) rfl (Nat.le_of_ble_eq_true rfl) ?_
  intro p e R s m args below meth c Q hF hr hlk hnm hz hR hQ
  obtain ⟨nw, pa, rf, sn, eo, bo, rr, rz, hi₉, mi, ak, rt, cn, z101, z102, z103, z104, z105, z106, z107, z108, z126, ⟨⟨g109, z109⟩, ⟨g110, z110⟩, ⟨g111, z111⟩, ⟨g112, z112⟩, ⟨g113, z113⟩, ⟨g114, z114⟩, ⟨g115, z115⟩, ⟨g116, z116⟩, ⟨g117, z117⟩, ⟨g118, z118⟩, ⟨g119, z119⟩, ⟨g120, z120⟩, ⟨g121, z121⟩, ⟨g122, z122⟩, ⟨g123, z123⟩, ⟨g124, z124⟩, ⟨g125, z125⟩⟩, hnw, hpa, hrf, hrr, hMA⟩ := hS₉
  obtain ⟨⟨hrw, hu, hkd, hpr⟩, hhs, hyy, htl, htx, hxb, hxn, hxf, hq1, hq2, hq3, hwf, hdp3, hl80, hl24⟩ := hO
  have hrw3 := vrow_up hrw (show u₉ ≤ 3 by omega)
  have hrr0 := hrw.1
  obtain ⟨n0₉, n1₉, n2₉, n3₉, n4₉, n5₉, n6₉⟩ := id hnw
  have gl := mLong_rg r₉
  refine go_aload_n (pc := 0) hF dX11_worst_0 0 rfl ?_
  refine go_aload_n (pc := 1) hF dX11_worst_1 0 rfl ?_
  refine go_callVP (pc := 2) hF [] [vr E 94] mv_X11_127 dX11_worst_2 (by omega) z101 (c_X11_rowNow E N σ hN₉ z101 z102 hnw hrw3) rfl rfl (Nat.le_of_ble_eq_true rfl) (by decide) ⟨Nat.zero_le _, Nat.zero_le _⟩ ?_
  refine go_aload_n (pc := 5) hF dX11_worst_5 0 rfl ?_
  refine go_get (pc := 6) hF fl_X11_7 dX11_worst_6 (by omega) z101 rfl ?_
  refine go_iconst (pc := 9) hF dX11_worst_9 ?_
  refine go_iald (pc := 10) hF dX11_worst_10 (by omega) z102 (by omega)  ?_
  rw [n4₉]
  refine go_callVV (pc := 11) hF [vi r₉, vi u₉] [] mv_X11_252 dX11_worst_11 (by omega) z101 (c_X11_goes E N σ hN₉ z101 z102 z105 z106 z119 z120 z121 z122 z123 hwf hMA hl80 hdp3 r₉ u₉ kd pr n5₉ n6₉ hu hkd hpr hrw) rfl rfl (Nat.le_of_ble_eq_true rfl) (by decide) ⟨Nat.zero_le _, Nat.zero_le _⟩ (fun s1₉ h_s1 => ?_)
  obtain ⟨tk_s1, in_s1, fi_s1, ro_s1, ⟨w1_s1, ⟨nx_s1, w2_s1⟩, w3_s1, w4_s1, w5_s1, f_s1⟩, ht_s1⟩ := h_s1
  have hvS_s1 := vS_ex (pr := pr) hu hkd t₉ hwf (S0₉ r₉) (fun x₉ c h => by rw [h.1]; exact hrw)
  have hne_s1 := ex_ne (u₉ := u₉) (kd := kd) (pr := pr) t₉ hwf (S0₉ r₉) ⟨r₉, 0, rfl, rfl⟩
  have hcb := cB_max hwf hdp3 hl80
  have x_s1 := (f_s1 94 (by omega)).trans z101
  have nw_s1 := (f_s1 95 (by omega)).trans z102
  have pa_s1 := (f_s1 96 (by omega)).trans z103
  have rf_s1 := (f_s1 97 (by omega)).trans z104
  have sn_s1 := (f_s1 98 (by omega)).trans z105
  have eo_s1 := (f_s1 99 (by omega)).trans z106
  have bo_s1 := (f_s1 100 (by omega)).trans z107
  have tx_s1 := (f_s1 101 (by omega)).trans z108
  have rr_s1 := (f_s1 119 (by omega)).trans z126
  have readSign_s1 := (f_s1 102 (by omega)).trans z109
  have open_s1 := (f_s1 103 (by omega)).trans z110
  have isBarred_s1 := (f_s1 104 (by omega)).trans z111
  have ages_s1 := (f_s1 105 (by omega)).trans z112
  have entered_s1 := (f_s1 106 (by omega)).trans z113
  have first_s1 := (f_s1 107 (by omega)).trans z114
  have mustAt_s1 := (f_s1 108 (by omega)).trans z115
  have mayAt_s1 := (f_s1 109 (by omega)).trans z116
  have sums_s1 := (f_s1 110 (by omega)).trans z117
  have sumsFirst_s1 := (f_s1 111 (by omega)).trans z118
  have counts_s1 := (f_s1 117 (by omega)).trans z124
  have countsFirst_s1 := (f_s1 118 (by omega)).trans z125
  refine go_aload_n (pc := 14) hF dX11_worst_14 0 rfl ?_
  refine go_callVI (pc := 15) hF [] [] mv_X11_255 dX11_worst_15 (by omega) x_s1 (c_X11_mostTaken E N s1₉ hN₉ x_s1 w1_s1 (ex₉ u₉ kd pr t₉ (S0₉ r₉)) (cB₉ t₉ : Int) _ (by omega) ht_s1 hvS_s1 hne_s1) rfl rfl (Nat.le_of_ble_eq_true rfl) (by decide) ⟨Nat.zero_le _, Nat.zero_le _⟩ (fun r_s2 s2₉ h_s2 => ?_)
  obtain ⟨hy_s2, hz_s2, f_s2⟩ := h_s2
  have x_s2 := (f_s2 94 (by omega)).trans x_s1
  have nw_s2 := (f_s2 95 (by omega)).trans nw_s1
  have pa_s2 := (f_s2 96 (by omega)).trans pa_s1
  have rf_s2 := (f_s2 97 (by omega)).trans rf_s1
  have sn_s2 := (f_s2 98 (by omega)).trans sn_s1
  have eo_s2 := (f_s2 99 (by omega)).trans eo_s1
  have bo_s2 := (f_s2 100 (by omega)).trans bo_s1
  have tx_s2 := (f_s2 101 (by omega)).trans tx_s1
  have rr_s2 := (f_s2 119 (by omega)).trans rr_s1
  have readSign_s2 := (f_s2 102 (by omega)).trans readSign_s1
  have open_s2 := (f_s2 103 (by omega)).trans open_s1
  have isBarred_s2 := (f_s2 104 (by omega)).trans isBarred_s1
  have ages_s2 := (f_s2 105 (by omega)).trans ages_s1
  have entered_s2 := (f_s2 106 (by omega)).trans entered_s1
  have first_s2 := (f_s2 107 (by omega)).trans first_s1
  have mustAt_s2 := (f_s2 108 (by omega)).trans mustAt_s1
  have mayAt_s2 := (f_s2 109 (by omega)).trans mayAt_s1
  have sums_s2 := (f_s2 110 (by omega)).trans sums_s1
  have sumsFirst_s2 := (f_s2 111 (by omega)).trans sumsFirst_s1
  have took_s2 := (f_s2 112 (by omega)).trans w1_s1
  have next_s2 := (f_s2 113 (by omega)).trans w2_s1
  have inOf_s2 := (f_s2 114 (by omega)).trans w3_s1
  have firstOf_s2 := (f_s2 115 (by omega)).trans w4_s1
  have rounds_s2 := (f_s2 116 (by omega)).trans w5_s1
  have counts_s2 := (f_s2 117 (by omega)).trans counts_s1
  have countsFirst_s2 := (f_s2 118 (by omega)).trans countsFirst_s1
  exact go_iretQ hF hr hlk hQ dX11_worst_18 ⟨hy_s2, ⟨_, _, _, _, _, _, _, _, _, _, _, _, _, x_s2, nw_s2, pa_s2, rf_s2, sn_s2, eo_s2, bo_s2, tx_s2, rr_s2, ⟨⟨_, readSign_s2⟩, ⟨_, open_s2⟩, ⟨_, isBarred_s2⟩, ⟨_, ages_s2⟩, ⟨_, entered_s2⟩, ⟨_, first_s2⟩, ⟨_, mustAt_s2⟩, ⟨_, mayAt_s2⟩, ⟨_, sums_s2⟩, ⟨_, sumsFirst_s2⟩, ⟨_, took_s2⟩, ⟨_, next_s2⟩, ⟨_, inOf_s2⟩, ⟨_, firstOf_s2⟩, ⟨_, rounds_s2⟩, ⟨_, counts_s2⟩, ⟨_, countsFirst_s2⟩⟩, hnw, hpa, hrf, hrr, hMA⟩, (fun jj hjj => by rw [f_s2 jj (by omega), f_s1 jj (by omega)])⟩
set_option maxHeartbeats 4000000 in
set_option maxRecDepth 100000 in
theorem c_X11_best (E : En) (N : Nat) (σ : Nat → va_E) (r₉ u₉ kd pr : Int) (yr yw yk yp : Int → Int) (hs : Int) (tx : Int → Int) (tl : Int) (t₉ : Tr) (xb xn xf q1₉ q2₉ q3₉ : Int) (hN₉ : 120 ≤ N) (hO : okS r₉ u₉ kd pr yr yw yk yp hs tx tl t₉ xb xn xf q1₉ q2₉ q3₉) (hS₉ : mdS E σ r₉ u₉ kd pr yr yw yk yp hs tx tl t₉ xb xn xf q1₉ q2₉ q3₉) : CI E M_X11_best 16 [vr E 94] N σ (fun y₉ σ' => botS (ex₉ u₉ kd pr t₉ (S0₉ r₉)) y₉ ∧ mdS E σ' r₉ u₉ kd pr yr yw yk yp hs tx tl t₉ xb xn xf q1₉ q2₉ q3₉ ∧ ∀ q₉, q₉ < 94 → σ' q₉ = σ q₉) := by
  refine CT.of2 (own := RX11) (by decide) rfl (Nat.le_of_ble_eq_true rfl) ?_
  intro p e R s m args below meth c Q hF hr hlk hnm hz hR hQ
  obtain ⟨nw, pa, rf, sn, eo, bo, rr, rz, hi₉, mi, ak, rt, cn, z101, z102, z103, z104, z105, z106, z107, z108, z126, ⟨⟨g109, z109⟩, ⟨g110, z110⟩, ⟨g111, z111⟩, ⟨g112, z112⟩, ⟨g113, z113⟩, ⟨g114, z114⟩, ⟨g115, z115⟩, ⟨g116, z116⟩, ⟨g117, z117⟩, ⟨g118, z118⟩, ⟨g119, z119⟩, ⟨g120, z120⟩, ⟨g121, z121⟩, ⟨g122, z122⟩, ⟨g123, z123⟩, ⟨g124, z124⟩, ⟨g125, z125⟩⟩, hnw, hpa, hrf, hrr, hMA⟩ := hS₉
  obtain ⟨⟨hrw, hu, hkd, hpr⟩, hhs, hyy, htl, htx, hxb, hxn, hxf, hq1, hq2, hq3, hwf, hdp3, hl80, hl24⟩ := hO
  have hrw3 := vrow_up hrw (show u₉ ≤ 3 by omega)
  have hrr0 := hrw.1
  obtain ⟨n0₉, n1₉, n2₉, n3₉, n4₉, n5₉, n6₉⟩ := id hnw
  have gl := mLong_rg r₉
  refine go_aload_n (pc := 0) hF dX11_best_0 0 rfl ?_
  refine go_aload_n (pc := 1) hF dX11_best_1 0 rfl ?_
  refine go_callVP (pc := 2) hF [] [vr E 94] mv_X11_127 dX11_best_2 (by omega) z101 (c_X11_rowNow E N σ hN₉ z101 z102 hnw hrw3) rfl rfl (Nat.le_of_ble_eq_true rfl) (by decide) ⟨Nat.zero_le _, Nat.zero_le _⟩ ?_
  refine go_aload_n (pc := 5) hF dX11_best_5 0 rfl ?_
  refine go_get (pc := 6) hF fl_X11_7 dX11_best_6 (by omega) z101 rfl ?_
  refine go_iconst (pc := 9) hF dX11_best_9 ?_
  refine go_iald (pc := 10) hF dX11_best_10 (by omega) z102 (by omega)  ?_
  rw [n4₉]
  refine go_callVV (pc := 11) hF [vi r₉, vi u₉] [] mv_X11_252 dX11_best_11 (by omega) z101 (c_X11_goes E N σ hN₉ z101 z102 z105 z106 z119 z120 z121 z122 z123 hwf hMA hl80 hdp3 r₉ u₉ kd pr n5₉ n6₉ hu hkd hpr hrw) rfl rfl (Nat.le_of_ble_eq_true rfl) (by decide) ⟨Nat.zero_le _, Nat.zero_le _⟩ (fun s1₉ h_s1 => ?_)
  obtain ⟨tk_s1, in_s1, fi_s1, ro_s1, ⟨w1_s1, ⟨nx_s1, w2_s1⟩, w3_s1, w4_s1, w5_s1, f_s1⟩, ht_s1⟩ := h_s1
  have hvS_s1 := vS_ex (pr := pr) hu hkd t₉ hwf (S0₉ r₉) (fun x₉ c h => by rw [h.1]; exact hrw)
  have hne_s1 := ex_ne (u₉ := u₉) (kd := kd) (pr := pr) t₉ hwf (S0₉ r₉) ⟨r₉, 0, rfl, rfl⟩
  have hcb := cB_max hwf hdp3 hl80
  have x_s1 := (f_s1 94 (by omega)).trans z101
  have nw_s1 := (f_s1 95 (by omega)).trans z102
  have pa_s1 := (f_s1 96 (by omega)).trans z103
  have rf_s1 := (f_s1 97 (by omega)).trans z104
  have sn_s1 := (f_s1 98 (by omega)).trans z105
  have eo_s1 := (f_s1 99 (by omega)).trans z106
  have bo_s1 := (f_s1 100 (by omega)).trans z107
  have tx_s1 := (f_s1 101 (by omega)).trans z108
  have rr_s1 := (f_s1 119 (by omega)).trans z126
  have readSign_s1 := (f_s1 102 (by omega)).trans z109
  have open_s1 := (f_s1 103 (by omega)).trans z110
  have isBarred_s1 := (f_s1 104 (by omega)).trans z111
  have ages_s1 := (f_s1 105 (by omega)).trans z112
  have entered_s1 := (f_s1 106 (by omega)).trans z113
  have first_s1 := (f_s1 107 (by omega)).trans z114
  have mustAt_s1 := (f_s1 108 (by omega)).trans z115
  have mayAt_s1 := (f_s1 109 (by omega)).trans z116
  have sums_s1 := (f_s1 110 (by omega)).trans z117
  have sumsFirst_s1 := (f_s1 111 (by omega)).trans z118
  have counts_s1 := (f_s1 117 (by omega)).trans z124
  have countsFirst_s1 := (f_s1 118 (by omega)).trans z125
  refine go_iconst (pc := 14) hF dX11_best_14 ?_
  refine go_istore_n (pc := 15) hF [(1, vi (-1)), (0, vr E 94)] dX11_best_15 rfl (by decide) ?_
  refine go_iconst (pc := 16) hF dX11_best_16 ?_
  refine go_istore_n (pc := 17) hF [(2, vi 0), (1, vi (-1)), (0, vr E 94)] dX11_best_17 rfl (by decide) ?_
  have loop₉ : ∀ (n₉ : Nat) (j₉ : Nat) (mm : Int), j₉ + n₉ = 345 → (j₉ : Int) ≤ 343 → leI (ex₉ u₉ kd pr t₉ (S0₉ r₉)) mm (j₉ : Int) ∧ mm ≤ (cB₉ t₉ : Int) → Go E p e R s m args below meth c Q 4 (0, 0) N s1₉ [(2, vi (j₉ : Int)), (1, vi mm), (0, vr E 94)] [] 18 := by
    intro n₉
    induction n₉ with
    | zero => intro j₉ mm hfu hj hI; exfalso; omega
    | succ n₉ ih₉ =>
      intro j₉ mm hfu hj hI
      refine go_iload_n (pc := 18) hF dX11_best_18 0 rfl ?_
      refine go_sipush (pc := 19) hF dX11_best_19 (by decide) ?_
      refine go_icmp_ge (pc := 22) hF 84 dX11_best_22 (by decide) (by omega) ⟨by decide, by decide⟩ (fun bq22 => ?_) (fun bq22 => ?_)
      · refine go_iload_n (pc := 84) hF dX11_best_84 1 rfl ?_
        have ej : j₉ = 343 := by omega
        subst ej
        exact go_iretQ hF hr hlk hQ dX11_best_85 ⟨leI_bot hI.1 hvS_s1 hne_s1, ⟨_, _, _, _, _, _, _, _, _, _, _, _, _, x_s1, nw_s1, pa_s1, rf_s1, sn_s1, eo_s1, bo_s1, tx_s1, rr_s1, ⟨⟨_, readSign_s1⟩, ⟨_, open_s1⟩, ⟨_, isBarred_s1⟩, ⟨_, ages_s1⟩, ⟨_, entered_s1⟩, ⟨_, first_s1⟩, ⟨_, mustAt_s1⟩, ⟨_, mayAt_s1⟩, ⟨_, sums_s1⟩, ⟨_, sumsFirst_s1⟩, ⟨_, w1_s1⟩, ⟨_, w2_s1⟩, ⟨_, w3_s1⟩, ⟨_, w4_s1⟩, ⟨_, w5_s1⟩, ⟨_, counts_s1⟩, ⟨_, countsFirst_s1⟩⟩, hnw, hpa, hrf, hrr, hMA⟩, (fun jj hjj => by rw [f_s1 jj (by omega)])⟩
      · have hS₉ := ht_s1
        have tv := TK₉.val hS₉ (r₉ := (j₉ : Int)) ⟨by omega, by omega⟩
        have h0m := leI_rg hI.1
        refine go_aload_n (pc := 25) hF dX11_best_25 2 rfl ?_
        refine go_get (pc := 26) hF fl_X11_62 dX11_best_26 (by omega) x_s1 rfl ?_
        refine go_iload_n (pc := 29) hF dX11_best_29 0 rfl ?_
        refine go_iald (pc := 30) hF dX11_best_30 (by omega) w1_s1 (by omega)  ?_
        refine go_if_lt (pc := 31) hF 57 dX11_best_31 (by decide) (by omega) (fun bq31 => ?_) (fun bq31 => ?_)
        · refine go_iconst (pc := 57) hF dX11_best_57 ?_
          refine go_istore_n (pc := 58) hF [(3, vi 0), (2, vi (j₉ : Int)), (1, vi mm), (0, vr E 94)] dX11_best_58 rfl (by decide) ?_
          refine go_iload_n (pc := 59) hF dX11_best_59 0 rfl ?_
          refine go_if_eq (pc := 60) hF 76 dX11_best_60 (by decide) ⟨by decide, by decide⟩ (fun bq60 => ?_) (fun bq60 => ?_)
          · refine go_iload_n (pc := 76) hF dX11_best_76 2 rfl ?_
            refine go_istore_n (pc := 77) hF [(1, vi mm), (3, vi 0), (2, vi (j₉ : Int)), (0, vr E 94)] dX11_best_77 rfl (by decide) ?_
            refine go_iinc (pc := 78) hF [(2, vi ((j₉ : Int) + 1)), (1, vi mm), (3, vi 0), (0, vr E 94)] dX11_best_78 2 rfl rfl (by decide) ?_
            refine go_goto (pc := 81) hF 18 dX11_best_81 (by decide) ?_
            refine go_lv [(2, vi ((j₉ : Int) + 1)), (1, vi mm), (0, vr E 94)] [0, 1, 3] rfl ?_
            exact ih₉ (j₉ + 1) mm (by omega) (by omega) ⟨leI_dead hI.1 (TK_dead hS₉ ⟨by omega, by omega⟩ bq31), hI.2⟩
          · exact absurd bq60 (by decide)
        · refine go_iload_n (pc := 34) hF dX11_best_34 1 rfl ?_
          refine go_iconst (pc := 35) hF dX11_best_35 ?_
          refine go_icmp_eq (pc := 36) hF 53 dX11_best_36 (by decide) (by omega) ⟨by decide, by decide⟩ (fun bq36 => ?_) (fun bq36 => ?_)
          · refine go_iconst (pc := 53) hF dX11_best_53 ?_
            refine go_goto (pc := 54) hF 58 dX11_best_54 (by decide) ?_
            refine go_istore_n (pc := 58) hF [(3, vi 1), (2, vi (j₉ : Int)), (1, vi mm), (0, vr E 94)] dX11_best_58 rfl (by decide) ?_
            refine go_iload_n (pc := 59) hF dX11_best_59 0 rfl ?_
            refine go_if_eq (pc := 60) hF 76 dX11_best_60 (by decide) ⟨by decide, by decide⟩ (fun bq60 => ?_) (fun bq60 => ?_)
            · exact absurd bq60 (by decide)
            · refine go_aload_n (pc := 63) hF dX11_best_63 3 rfl ?_
              refine go_get (pc := 64) hF fl_X11_62 dX11_best_64 (by omega) x_s1 rfl ?_
              refine go_sipush (pc := 67) hF dX11_best_67 (by decide) ?_
              refine go_iload_n (pc := 70) hF dX11_best_70 1 rfl ?_
              refine go_iadd (pc := 71) hF dX11_best_71 ?_
              refine go_iald (pc := 72) hF dX11_best_72 (by omega) w1_s1 (by omega)  ?_
              refine go_goto (pc := 73) hF 77 dX11_best_73 (by decide) ?_
              refine go_istore_n (pc := 77) hF [(1, vi (tk_s1 (343 + (j₉ : Int)))), (3, vi 1), (2, vi (j₉ : Int)), (0, vr E 94)] dX11_best_77 rfl (by decide) ?_
              refine go_iinc (pc := 78) hF [(2, vi ((j₉ : Int) + 1)), (1, vi (tk_s1 (343 + (j₉ : Int)))), (3, vi 1), (0, vr E 94)] dX11_best_78 2 rfl rfl (by decide) ?_
              refine go_goto (pc := 81) hF 18 dX11_best_81 (by decide) ?_
              refine go_lv [(2, vi ((j₉ : Int) + 1)), (1, vi (tk_s1 (343 + (j₉ : Int)))), (0, vr E 94)] [0, 1, 3] rfl ?_
              exact ih₉ (j₉ + 1) _ (by omega) (by omega) ⟨leI_new hI.1 hS₉ (by omega) (by omega) (Or.inl bq36), by omega⟩
          · refine go_aload_n (pc := 39) hF dX11_best_39 2 rfl ?_
            refine go_get (pc := 40) hF fl_X11_62 dX11_best_40 (by omega) x_s1 rfl ?_
            refine go_sipush (pc := 43) hF dX11_best_43 (by decide) ?_
            refine go_iload_n (pc := 46) hF dX11_best_46 0 rfl ?_
            refine go_iadd (pc := 47) hF dX11_best_47 ?_
            refine go_iald (pc := 48) hF dX11_best_48 (by omega) w1_s1 (by omega)  ?_
            refine go_iload_n (pc := 49) hF dX11_best_49 1 rfl ?_
            refine go_icmp_ge (pc := 50) hF 57 dX11_best_50 (by decide) (by omega) (by omega) (fun bq50 => ?_) (fun bq50 => ?_)
            · refine go_iconst (pc := 57) hF dX11_best_57 ?_
              refine go_istore_n (pc := 58) hF [(3, vi 0), (2, vi (j₉ : Int)), (1, vi mm), (0, vr E 94)] dX11_best_58 rfl (by decide) ?_
              refine go_iload_n (pc := 59) hF dX11_best_59 0 rfl ?_
              refine go_if_eq (pc := 60) hF 76 dX11_best_60 (by decide) ⟨by decide, by decide⟩ (fun bq60 => ?_) (fun bq60 => ?_)
              · refine go_iload_n (pc := 76) hF dX11_best_76 2 rfl ?_
                refine go_istore_n (pc := 77) hF [(1, vi mm), (3, vi 0), (2, vi (j₉ : Int)), (0, vr E 94)] dX11_best_77 rfl (by decide) ?_
                refine go_iinc (pc := 78) hF [(2, vi ((j₉ : Int) + 1)), (1, vi mm), (3, vi 0), (0, vr E 94)] dX11_best_78 2 rfl rfl (by decide) ?_
                refine go_goto (pc := 81) hF 18 dX11_best_81 (by decide) ?_
                refine go_lv [(2, vi ((j₉ : Int) + 1)), (1, vi mm), (0, vr E 94)] [0, 1, 3] rfl ?_
                exact ih₉ (j₉ + 1) mm (by omega) (by omega) ⟨leI_keep hI.1 hS₉ (by omega) (by omega) bq36 bq50, hI.2⟩
              · exact absurd bq60 (by decide)
            · refine go_iconst (pc := 53) hF dX11_best_53 ?_
              refine go_goto (pc := 54) hF 58 dX11_best_54 (by decide) ?_
              refine go_istore_n (pc := 58) hF [(3, vi 1), (2, vi (j₉ : Int)), (1, vi mm), (0, vr E 94)] dX11_best_58 rfl (by decide) ?_
              refine go_iload_n (pc := 59) hF dX11_best_59 0 rfl ?_
              refine go_if_eq (pc := 60) hF 76 dX11_best_60 (by decide) ⟨by decide, by decide⟩ (fun bq60 => ?_) (fun bq60 => ?_)
              · exact absurd bq60 (by decide)
              · refine go_aload_n (pc := 63) hF dX11_best_63 3 rfl ?_
                refine go_get (pc := 64) hF fl_X11_62 dX11_best_64 (by omega) x_s1 rfl ?_
                refine go_sipush (pc := 67) hF dX11_best_67 (by decide) ?_
                refine go_iload_n (pc := 70) hF dX11_best_70 1 rfl ?_
                refine go_iadd (pc := 71) hF dX11_best_71 ?_
                refine go_iald (pc := 72) hF dX11_best_72 (by omega) w1_s1 (by omega)  ?_
                refine go_goto (pc := 73) hF 77 dX11_best_73 (by decide) ?_
                refine go_istore_n (pc := 77) hF [(1, vi (tk_s1 (343 + (j₉ : Int)))), (3, vi 1), (2, vi (j₉ : Int)), (0, vr E 94)] dX11_best_77 rfl (by decide) ?_
                refine go_iinc (pc := 78) hF [(2, vi ((j₉ : Int) + 1)), (1, vi (tk_s1 (343 + (j₉ : Int)))), (3, vi 1), (0, vr E 94)] dX11_best_78 2 rfl rfl (by decide) ?_
                refine go_goto (pc := 81) hF 18 dX11_best_81 (by decide) ?_
                refine go_lv [(2, vi ((j₉ : Int) + 1)), (1, vi (tk_s1 (343 + (j₉ : Int)))), (0, vr E 94)] [0, 1, 3] rfl ?_
                exact ih₉ (j₉ + 1) _ (by omega) (by omega) ⟨leI_new hI.1 hS₉ (by omega) (by omega) (Or.inr bq50), by omega⟩
  exact loop₉ 345 0 (-1) rfl (by omega) ⟨leI_0 _, by omega⟩ 
set_option maxHeartbeats 4000000 in
set_option maxRecDepth 100000 in
theorem c_X11_ends (E : En) (N : Nat) (σ : Nat → va_E) (r₉ u₉ kd pr : Int) (yr yw yk yp : Int → Int) (hs : Int) (tx : Int → Int) (tl : Int) (t₉ : Tr) (xb xn xf q1₉ q2₉ q3₉ : Int) (hN₉ : 120 ≤ N) (hO : okS r₉ u₉ kd pr yr yw yk yp hs tx tl t₉ xb xn xf q1₉ q2₉ q3₉) (hS₉ : mdS E σ r₉ u₉ kd pr yr yw yk yp hs tx tl t₉ xb xn xf q1₉ q2₉ q3₉) : CI E M_X11_ends 16 [vr E 94] N σ (fun y₉ σ' => cntS (ex₉ u₉ kd pr t₉ (S0₉ r₉)) y₉ ∧ mdS E σ' r₉ u₉ kd pr yr yw yk yp hs tx tl t₉ xb xn xf q1₉ q2₉ q3₉ ∧ ∀ q₉, q₉ < 94 → σ' q₉ = σ q₉) := by
  refine CT.of2 (own := RX11) (by decide) rfl (Nat.le_of_ble_eq_true rfl) ?_
  intro p e R s m args below meth c Q hF hr hlk hnm hz hR hQ
  obtain ⟨nw, pa, rf, sn, eo, bo, rr, rz, hi₉, mi, ak, rt, cn, z101, z102, z103, z104, z105, z106, z107, z108, z126, ⟨⟨g109, z109⟩, ⟨g110, z110⟩, ⟨g111, z111⟩, ⟨g112, z112⟩, ⟨g113, z113⟩, ⟨g114, z114⟩, ⟨g115, z115⟩, ⟨g116, z116⟩, ⟨g117, z117⟩, ⟨g118, z118⟩, ⟨g119, z119⟩, ⟨g120, z120⟩, ⟨g121, z121⟩, ⟨g122, z122⟩, ⟨g123, z123⟩, ⟨g124, z124⟩, ⟨g125, z125⟩⟩, hnw, hpa, hrf, hrr, hMA⟩ := hS₉
  obtain ⟨⟨hrw, hu, hkd, hpr⟩, hhs, hyy, htl, htx, hxb, hxn, hxf, hq1, hq2, hq3, hwf, hdp3, hl80, hl24⟩ := hO
  have hrw3 := vrow_up hrw (show u₉ ≤ 3 by omega)
  have hrr0 := hrw.1
  obtain ⟨n0₉, n1₉, n2₉, n3₉, n4₉, n5₉, n6₉⟩ := id hnw
  have gl := mLong_rg r₉
  refine go_aload_n (pc := 0) hF dX11_ends_0 0 rfl ?_
  refine go_aload_n (pc := 1) hF dX11_ends_1 0 rfl ?_
  refine go_callVP (pc := 2) hF [] [vr E 94] mv_X11_127 dX11_ends_2 (by omega) z101 (c_X11_rowNow E N σ hN₉ z101 z102 hnw hrw3) rfl rfl (Nat.le_of_ble_eq_true rfl) (by decide) ⟨Nat.zero_le _, Nat.zero_le _⟩ ?_
  refine go_aload_n (pc := 5) hF dX11_ends_5 0 rfl ?_
  refine go_get (pc := 6) hF fl_X11_7 dX11_ends_6 (by omega) z101 rfl ?_
  refine go_iconst (pc := 9) hF dX11_ends_9 ?_
  refine go_iald (pc := 10) hF dX11_ends_10 (by omega) z102 (by omega)  ?_
  rw [n4₉]
  refine go_callVV (pc := 11) hF [vi r₉, vi u₉] [] mv_X11_252 dX11_ends_11 (by omega) z101 (c_X11_goes E N σ hN₉ z101 z102 z105 z106 z119 z120 z121 z122 z123 hwf hMA hl80 hdp3 r₉ u₉ kd pr n5₉ n6₉ hu hkd hpr hrw) rfl rfl (Nat.le_of_ble_eq_true rfl) (by decide) ⟨Nat.zero_le _, Nat.zero_le _⟩ (fun s1₉ h_s1 => ?_)
  obtain ⟨tk_s1, in_s1, fi_s1, ro_s1, ⟨w1_s1, ⟨nx_s1, w2_s1⟩, w3_s1, w4_s1, w5_s1, f_s1⟩, ht_s1⟩ := h_s1
  have hvS_s1 := vS_ex (pr := pr) hu hkd t₉ hwf (S0₉ r₉) (fun x₉ c h => by rw [h.1]; exact hrw)
  have hne_s1 := ex_ne (u₉ := u₉) (kd := kd) (pr := pr) t₉ hwf (S0₉ r₉) ⟨r₉, 0, rfl, rfl⟩
  have hcb := cB_max hwf hdp3 hl80
  have x_s1 := (f_s1 94 (by omega)).trans z101
  have nw_s1 := (f_s1 95 (by omega)).trans z102
  have pa_s1 := (f_s1 96 (by omega)).trans z103
  have rf_s1 := (f_s1 97 (by omega)).trans z104
  have sn_s1 := (f_s1 98 (by omega)).trans z105
  have eo_s1 := (f_s1 99 (by omega)).trans z106
  have bo_s1 := (f_s1 100 (by omega)).trans z107
  have tx_s1 := (f_s1 101 (by omega)).trans z108
  have rr_s1 := (f_s1 119 (by omega)).trans z126
  have readSign_s1 := (f_s1 102 (by omega)).trans z109
  have open_s1 := (f_s1 103 (by omega)).trans z110
  have isBarred_s1 := (f_s1 104 (by omega)).trans z111
  have ages_s1 := (f_s1 105 (by omega)).trans z112
  have entered_s1 := (f_s1 106 (by omega)).trans z113
  have first_s1 := (f_s1 107 (by omega)).trans z114
  have mustAt_s1 := (f_s1 108 (by omega)).trans z115
  have mayAt_s1 := (f_s1 109 (by omega)).trans z116
  have sums_s1 := (f_s1 110 (by omega)).trans z117
  have sumsFirst_s1 := (f_s1 111 (by omega)).trans z118
  have counts_s1 := (f_s1 117 (by omega)).trans z124
  have countsFirst_s1 := (f_s1 118 (by omega)).trans z125
  refine go_iconst (pc := 14) hF dX11_ends_14 ?_
  refine go_istore_n (pc := 15) hF [(1, vi 0), (0, vr E 94)] dX11_ends_15 rfl (by decide) ?_
  refine go_iconst (pc := 16) hF dX11_ends_16 ?_
  refine go_istore_n (pc := 17) hF [(2, vi 0), (1, vi 0), (0, vr E 94)] dX11_ends_17 rfl (by decide) ?_
  have loop₉ : ∀ (n₉ : Nat) (j₉ : Nat) (mm : Int), j₉ + n₉ = 345 → (j₉ : Int) ≤ 343 → cnI (ex₉ u₉ kd pr t₉ (S0₉ r₉)) mm (j₉ : Int) → Go E p e R s m args below meth c Q 3 (0, 0) N s1₉ [(2, vi (j₉ : Int)), (1, vi mm), (0, vr E 94)] [] 18 := by
    intro n₉
    induction n₉ with
    | zero => intro j₉ mm hfu hj hI; exfalso; omega
    | succ n₉ ih₉ =>
      intro j₉ mm hfu hj hI
      refine go_iload_n (pc := 18) hF dX11_ends_18 0 rfl ?_
      refine go_sipush (pc := 19) hF dX11_ends_19 (by decide) ?_
      refine go_icmp_ge (pc := 22) hF 48 dX11_ends_22 (by decide) (by omega) ⟨by decide, by decide⟩ (fun bq22 => ?_) (fun bq22 => ?_)
      · refine go_iload_n (pc := 48) hF dX11_ends_48 1 rfl ?_
        have ej : j₉ = 343 := by omega
        subst ej
        exact go_iretQ hF hr hlk hQ dX11_ends_49 ⟨cnI_all hI hvS_s1, ⟨_, _, _, _, _, _, _, _, _, _, _, _, _, x_s1, nw_s1, pa_s1, rf_s1, sn_s1, eo_s1, bo_s1, tx_s1, rr_s1, ⟨⟨_, readSign_s1⟩, ⟨_, open_s1⟩, ⟨_, isBarred_s1⟩, ⟨_, ages_s1⟩, ⟨_, entered_s1⟩, ⟨_, first_s1⟩, ⟨_, mustAt_s1⟩, ⟨_, mayAt_s1⟩, ⟨_, sums_s1⟩, ⟨_, sumsFirst_s1⟩, ⟨_, w1_s1⟩, ⟨_, w2_s1⟩, ⟨_, w3_s1⟩, ⟨_, w4_s1⟩, ⟨_, w5_s1⟩, ⟨_, counts_s1⟩, ⟨_, countsFirst_s1⟩⟩, hnw, hpa, hrf, hrr, hMA⟩, (fun jj hjj => by rw [f_s1 jj (by omega)])⟩
      · have hS₉ := ht_s1
        have tv := TK₉.val hS₉ (r₉ := (j₉ : Int)) ⟨by omega, by omega⟩
        refine go_iload_n (pc := 25) hF dX11_ends_25 1 rfl ?_
        refine go_aload_n (pc := 26) hF dX11_ends_26 2 rfl ?_
        refine go_get (pc := 27) hF fl_X11_62 dX11_ends_27 (by omega) x_s1 rfl ?_
        refine go_iload_n (pc := 30) hF dX11_ends_30 0 rfl ?_
        refine go_iald (pc := 31) hF dX11_ends_31 (by omega) w1_s1 (by omega)  ?_
        refine go_if_lt (pc := 32) hF 39 dX11_ends_32 (by decide) (by omega) (fun bq32 => ?_) (fun bq32 => ?_)
        · refine go_iconst (pc := 39) hF dX11_ends_39 ?_
          refine go_iadd (pc := 40) hF dX11_ends_40 ?_
          refine go_istore_n (pc := 41) hF [(1, vi (mm + 0)), (2, vi (j₉ : Int)), (0, vr E 94)] dX11_ends_41 rfl (by decide) ?_
          refine go_lvE [(1, vi mm), (2, vi (j₉ : Int)), (0, vr E 94)] (by rw [show mm + 0 = mm by omega]) ?_
          refine go_iinc (pc := 42) hF [(2, vi ((j₉ : Int) + 1)), (1, vi mm), (0, vr E 94)] dX11_ends_42 1 rfl rfl (by decide) ?_
          refine go_goto (pc := 45) hF 18 dX11_ends_45 (by decide) ?_
          exact ih₉ (j₉ + 1) mm (by omega) (by omega) (cnI_dead hI (TK_dead hS₉ ⟨by omega, by omega⟩ bq32))
        · refine go_iconst (pc := 35) hF dX11_ends_35 ?_
          refine go_goto (pc := 36) hF 40 dX11_ends_36 (by decide) ?_
          refine go_iadd (pc := 40) hF dX11_ends_40 ?_
          refine go_istore_n (pc := 41) hF [(1, vi (mm + 1)), (2, vi (j₉ : Int)), (0, vr E 94)] dX11_ends_41 rfl (by decide) ?_
          refine go_iinc (pc := 42) hF [(2, vi ((j₉ : Int) + 1)), (1, vi (mm + 1)), (0, vr E 94)] dX11_ends_42 1 rfl rfl (by decide) ?_
          refine go_goto (pc := 45) hF 18 dX11_ends_45 (by decide) ?_
          exact ih₉ (j₉ + 1) _ (by omega) (by omega) (cnI_new hI (TK_live hS₉ ⟨by omega, by omega⟩ bq32).2.1)
  exact loop₉ 345 0 0 rfl (by omega) (cnI_0 _) 
set_option maxHeartbeats 4000000 in
set_option maxRecDepth 100000 in
theorem c_X11_worstWith (E : En) (N : Nat) (σ : Nat → va_E) (r₉ u₉ kd pr : Int) (yr yw yk yp : Int → Int) (hs : Int) (tx : Int → Int) (tl : Int) (t₉ : Tr) (xb xn xf q1₉ q2₉ q3₉ : Int) (hN₉ : 120 ≤ N) (hO : okS r₉ u₉ kd pr yr yw yk yp hs tx tl t₉ xb xn xf q1₉ q2₉ q3₉) (hS₉ : mdS E σ r₉ u₉ kd pr yr yw yk yp hs tx tl t₉ xb xn xf q1₉ q2₉ q3₉) (x₉ : Int) (hx : 1 ≤ x₉ ∧ x₉ ≤ 3) : CI E M_X11_worstWith 15 [vr E 94, vi x₉] N σ (fun y₉ σ' => (topS (ex₉ x₉ kd pr t₉ (S0₉ 0)) y₉ ∧ 0 ≤ y₉ ∧ y₉ ≤ cB₉ t₉) ∧ mdS E σ' r₉ u₉ kd pr yr yw yk yp hs tx tl t₉ xb xn xf q1₉ q2₉ q3₉ ∧ ∀ q₉, q₉ < 94 → σ' q₉ = σ q₉) := by
  refine CT.of2 (own := RX11) (by decide) rfl (Nat.le_of_ble_eq_true rfl) ?_
  intro p e R s m args below meth c Q hF hr hlk hnm hz hR hQ
  obtain ⟨nw, pa, rf, sn, eo, bo, rr, rz, hi₉, mi, ak, rt, cn, z101, z102, z103, z104, z105, z106, z107, z108, z126, ⟨⟨g109, z109⟩, ⟨g110, z110⟩, ⟨g111, z111⟩, ⟨g112, z112⟩, ⟨g113, z113⟩, ⟨g114, z114⟩, ⟨g115, z115⟩, ⟨g116, z116⟩, ⟨g117, z117⟩, ⟨g118, z118⟩, ⟨g119, z119⟩, ⟨g120, z120⟩, ⟨g121, z121⟩, ⟨g122, z122⟩, ⟨g123, z123⟩, ⟨g124, z124⟩, ⟨g125, z125⟩⟩, hnw, hpa, hrf, hrr, hMA⟩ := hS₉
  obtain ⟨⟨hrw, hu, hkd, hpr⟩, hhs, hyy, htl, htx, hxb, hxn, hxf, hq1, hq2, hq3, hwf, hdp3, hl80, hl24⟩ := hO
  have hrw3 := vrow_up hrw (show u₉ ≤ 3 by omega)
  have hrr0 := hrw.1
  obtain ⟨n0₉, n1₉, n2₉, n3₉, n4₉, n5₉, n6₉⟩ := id hnw
  have gl := mLong_rg r₉
  refine go_aload_n (pc := 0) hF dX11_worstWith_0 0 rfl ?_
  refine go_iconst (pc := 1) hF dX11_worstWith_1 ?_
  refine go_iload_n (pc := 2) hF dX11_worstWith_2 1 rfl ?_
  refine go_callVV (pc := 3) hF [vi 0, vi x₉] [] mv_X11_252 dX11_worstWith_3 (by omega) z101 (c_X11_goes E N σ hN₉ z101 z102 z105 z106 z119 z120 z121 z122 z123 hwf hMA hl80 hdp3 0 x₉ kd pr n5₉ n6₉ hx hkd hpr (vrow_0 _)) rfl rfl (Nat.le_of_ble_eq_true rfl) (by decide) ⟨Nat.zero_le _, Nat.zero_le _⟩ (fun s1₉ h_s1 => ?_)
  obtain ⟨tk_s1, in_s1, fi_s1, ro_s1, ⟨w1_s1, ⟨nx_s1, w2_s1⟩, w3_s1, w4_s1, w5_s1, f_s1⟩, ht_s1⟩ := h_s1
  have hvS_s1 := vS_ex (pr := pr) hx hkd t₉ hwf (S0₉ 0) (fun x₉ c h => by rw [h.1]; exact (vrow_0 _))
  have hne_s1 := ex_ne (u₉ := x₉) (kd := kd) (pr := pr) t₉ hwf (S0₉ 0) ⟨0, 0, rfl, rfl⟩
  have hcb := cB_max hwf hdp3 hl80
  have x_s1 := (f_s1 94 (by omega)).trans z101
  have nw_s1 := (f_s1 95 (by omega)).trans z102
  have pa_s1 := (f_s1 96 (by omega)).trans z103
  have rf_s1 := (f_s1 97 (by omega)).trans z104
  have sn_s1 := (f_s1 98 (by omega)).trans z105
  have eo_s1 := (f_s1 99 (by omega)).trans z106
  have bo_s1 := (f_s1 100 (by omega)).trans z107
  have tx_s1 := (f_s1 101 (by omega)).trans z108
  have rr_s1 := (f_s1 119 (by omega)).trans z126
  have readSign_s1 := (f_s1 102 (by omega)).trans z109
  have open_s1 := (f_s1 103 (by omega)).trans z110
  have isBarred_s1 := (f_s1 104 (by omega)).trans z111
  have ages_s1 := (f_s1 105 (by omega)).trans z112
  have entered_s1 := (f_s1 106 (by omega)).trans z113
  have first_s1 := (f_s1 107 (by omega)).trans z114
  have mustAt_s1 := (f_s1 108 (by omega)).trans z115
  have mayAt_s1 := (f_s1 109 (by omega)).trans z116
  have sums_s1 := (f_s1 110 (by omega)).trans z117
  have sumsFirst_s1 := (f_s1 111 (by omega)).trans z118
  have counts_s1 := (f_s1 117 (by omega)).trans z124
  have countsFirst_s1 := (f_s1 118 (by omega)).trans z125
  refine go_aload_n (pc := 6) hF dX11_worstWith_6 0 rfl ?_
  refine go_callVI (pc := 7) hF [] [] mv_X11_255 dX11_worstWith_7 (by omega) x_s1 (c_X11_mostTaken E N s1₉ hN₉ x_s1 w1_s1 (ex₉ x₉ kd pr t₉ (S0₉ 0)) (cB₉ t₉ : Int) _ (by omega) ht_s1 hvS_s1 hne_s1) rfl rfl (Nat.le_of_ble_eq_true rfl) (by decide) ⟨Nat.zero_le _, Nat.zero_le _⟩ (fun r_s2 s2₉ h_s2 => ?_)
  obtain ⟨hy_s2, hz_s2, f_s2⟩ := h_s2
  have x_s2 := (f_s2 94 (by omega)).trans x_s1
  have nw_s2 := (f_s2 95 (by omega)).trans nw_s1
  have pa_s2 := (f_s2 96 (by omega)).trans pa_s1
  have rf_s2 := (f_s2 97 (by omega)).trans rf_s1
  have sn_s2 := (f_s2 98 (by omega)).trans sn_s1
  have eo_s2 := (f_s2 99 (by omega)).trans eo_s1
  have bo_s2 := (f_s2 100 (by omega)).trans bo_s1
  have tx_s2 := (f_s2 101 (by omega)).trans tx_s1
  have rr_s2 := (f_s2 119 (by omega)).trans rr_s1
  have readSign_s2 := (f_s2 102 (by omega)).trans readSign_s1
  have open_s2 := (f_s2 103 (by omega)).trans open_s1
  have isBarred_s2 := (f_s2 104 (by omega)).trans isBarred_s1
  have ages_s2 := (f_s2 105 (by omega)).trans ages_s1
  have entered_s2 := (f_s2 106 (by omega)).trans entered_s1
  have first_s2 := (f_s2 107 (by omega)).trans first_s1
  have mustAt_s2 := (f_s2 108 (by omega)).trans mustAt_s1
  have mayAt_s2 := (f_s2 109 (by omega)).trans mayAt_s1
  have sums_s2 := (f_s2 110 (by omega)).trans sums_s1
  have sumsFirst_s2 := (f_s2 111 (by omega)).trans sumsFirst_s1
  have took_s2 := (f_s2 112 (by omega)).trans w1_s1
  have next_s2 := (f_s2 113 (by omega)).trans w2_s1
  have inOf_s2 := (f_s2 114 (by omega)).trans w3_s1
  have firstOf_s2 := (f_s2 115 (by omega)).trans w4_s1
  have rounds_s2 := (f_s2 116 (by omega)).trans w5_s1
  have counts_s2 := (f_s2 117 (by omega)).trans counts_s1
  have countsFirst_s2 := (f_s2 118 (by omega)).trans countsFirst_s1
  exact go_iretQ hF hr hlk hQ dX11_worstWith_10 ⟨⟨hy_s2, by omega⟩, ⟨_, _, _, _, _, _, _, _, _, _, _, _, _, x_s2, nw_s2, pa_s2, rf_s2, sn_s2, eo_s2, bo_s2, tx_s2, rr_s2, ⟨⟨_, readSign_s2⟩, ⟨_, open_s2⟩, ⟨_, isBarred_s2⟩, ⟨_, ages_s2⟩, ⟨_, entered_s2⟩, ⟨_, first_s2⟩, ⟨_, mustAt_s2⟩, ⟨_, mayAt_s2⟩, ⟨_, sums_s2⟩, ⟨_, sumsFirst_s2⟩, ⟨_, took_s2⟩, ⟨_, next_s2⟩, ⟨_, inOf_s2⟩, ⟨_, firstOf_s2⟩, ⟨_, rounds_s2⟩, ⟨_, counts_s2⟩, ⟨_, countsFirst_s2⟩⟩, hnw, hpa, hrf, hrr, hMA⟩, (fun jj hjj => by rw [f_s2 jj (by omega), f_s1 jj (by omega)])⟩
set_option maxHeartbeats 4000000 in
set_option maxRecDepth 100000 in
theorem c_X11_worstBy_bad (E : En) (N : Nat) (σ : Nat → va_E) (r₉ u₉ kd pr : Int) (yr yw yk yp : Int → Int) (hs : Int) (tx : Int → Int) (tl : Int) (t₉ : Tr) (xb xn xf q1₉ q2₉ q3₉ : Int) (hN₉ : 120 ≤ N) (hO : okS r₉ u₉ kd pr yr yw yk yp hs tx tl t₉ xb xn xf q1₉ q2₉ q3₉) (hS₉ : mdS E σ r₉ u₉ kd pr yr yw yk yp hs tx tl t₉ xb xn xf q1₉ q2₉ q3₉) (k9 x₉ : Int) (hk9 : rg k9) (hx : rg x₉) (hno : ¬ (0 ≤ k9 ∧ k9 ≤ 1) ∨ (k9 = 0 ∧ ¬ (1 ≤ x₉ ∧ x₉ ≤ 3))) : CI E M_X11_worstBy 16 [vr E 94, vi k9, vi x₉] N σ (fun y₉ σ' => y₉ = (-2) ∧ mdS E σ' r₉ u₉ kd pr yr yw yk yp hs tx tl t₉ (wr₉ (xb + 1)) xn xf q1₉ q2₉ q3₉ ∧ ∀ q₉, q₉ < 94 → σ' q₉ = σ q₉) := by
  refine CT.of2 (own := RX11) (by decide) rfl (Nat.le_of_ble_eq_true rfl) ?_
  intro p e R s m args below meth c Q hF hr hlk hnm hz hR hQ
  obtain ⟨nw, pa, rf, sn, eo, bo, rr, rz, hi₉, mi, ak, rt, cn, z101, z102, z103, z104, z105, z106, z107, z108, z126, ⟨⟨g109, z109⟩, ⟨g110, z110⟩, ⟨g111, z111⟩, ⟨g112, z112⟩, ⟨g113, z113⟩, ⟨g114, z114⟩, ⟨g115, z115⟩, ⟨g116, z116⟩, ⟨g117, z117⟩, ⟨g118, z118⟩, ⟨g119, z119⟩, ⟨g120, z120⟩, ⟨g121, z121⟩, ⟨g122, z122⟩, ⟨g123, z123⟩, ⟨g124, z124⟩, ⟨g125, z125⟩⟩, hnw, hpa, hrf, hrr, hMA⟩ := hS₉
  obtain ⟨⟨hrw, hu, hkd, hpr⟩, hhs, hyy, htl, htx, hxb, hxn, hxf, hq1, hq2, hq3, hwf, hdp3, hl80, hl24⟩ := hO
  have hrw3 := vrow_up hrw (show u₉ ≤ 3 by omega)
  have hrr0 := hrw.1
  obtain ⟨n0₉, n1₉, n2₉, n3₉, n4₉, n5₉, n6₉⟩ := id hnw
  have gl := mLong_rg r₉
  refine go_iload_n (pc := 0) hF dX11_worstBy_0 1 rfl ?_
  refine go_i2l (pc := 1) hF dX11_worstBy_1 (by omega) ?_
  refine go_lconst (pc := 2) (v := 0) hF dX11_worstBy_2 (by decide) ?_
  refine go_lconst (pc := 3) (v := 1) hF dX11_worstBy_3 (by decide) ?_
  refine go_callSP (pc := 4) hF [vl k9, vl 0, vl 1] [] ms_X11_89 dX11_worstBy_4 (c_X11_in E N σ k9 0 1 (by omega) ⟨by decide, by decide⟩ ⟨by decide, by decide⟩) rfl rfl (Nat.le_of_ble_eq_true rfl) (by decide) ⟨Nat.zero_le _, Nat.zero_le _⟩ ?_
  refine go_if_eq (pc := 7) hF 26 dX11_worstBy_7 (by decide) (bI_rg _) (fun bq7 => ?_) (fun bq7 => ?_)
  · refine go_aload_n (pc := 26) hF dX11_worstBy_26 0 rfl ?_
    refine go_callVI (pc := 27) hF [] [] mv_X11_120 dX11_worstBy_27 (by omega) z101 (c_X11_bad E N σ hN₉ z101 z104) rfl rfl (Nat.le_of_ble_eq_true rfl) (by decide) ⟨Nat.zero_le _, Nat.zero_le _⟩ (fun r_s1 s1₉ h_s1 => ?_)
    obtain ⟨e_s1, u_s1, f_s1⟩ := h_s1
    subst e_s1
    have x_s1 := (f_s1 94 (by omega)).trans z101
    have nw_s1 := (f_s1 95 (by omega)).trans z102
    have pa_s1 := (f_s1 96 (by omega)).trans z103
    have sn_s1 := (f_s1 98 (by omega)).trans z105
    have eo_s1 := (f_s1 99 (by omega)).trans z106
    have bo_s1 := (f_s1 100 (by omega)).trans z107
    have tx_s1 := (f_s1 101 (by omega)).trans z108
    have rr_s1 := (f_s1 119 (by omega)).trans z126
    have readSign_s1 := (f_s1 102 (by omega)).trans z109
    have open_s1 := (f_s1 103 (by omega)).trans z110
    have isBarred_s1 := (f_s1 104 (by omega)).trans z111
    have ages_s1 := (f_s1 105 (by omega)).trans z112
    have entered_s1 := (f_s1 106 (by omega)).trans z113
    have first_s1 := (f_s1 107 (by omega)).trans z114
    have mustAt_s1 := (f_s1 108 (by omega)).trans z115
    have mayAt_s1 := (f_s1 109 (by omega)).trans z116
    have sums_s1 := (f_s1 110 (by omega)).trans z117
    have sumsFirst_s1 := (f_s1 111 (by omega)).trans z118
    have took_s1 := (f_s1 112 (by omega)).trans z119
    have next_s1 := (f_s1 113 (by omega)).trans z120
    have inOf_s1 := (f_s1 114 (by omega)).trans z121
    have firstOf_s1 := (f_s1 115 (by omega)).trans z122
    have rounds_s1 := (f_s1 116 (by omega)).trans z123
    have counts_s1 := (f_s1 117 (by omega)).trans z124
    have countsFirst_s1 := (f_s1 118 (by omega)).trans z125
    exact go_iretQ hF hr hlk hQ dX11_worstBy_30 ⟨rfl, ⟨_, _, _, _, _, _, _, _, _, _, _, _, _, x_s1, nw_s1, pa_s1, u_s1, sn_s1, eo_s1, bo_s1, tx_s1, rr_s1, ⟨⟨_, readSign_s1⟩, ⟨_, open_s1⟩, ⟨_, isBarred_s1⟩, ⟨_, ages_s1⟩, ⟨_, entered_s1⟩, ⟨_, first_s1⟩, ⟨_, mustAt_s1⟩, ⟨_, mayAt_s1⟩, ⟨_, sums_s1⟩, ⟨_, sumsFirst_s1⟩, ⟨_, took_s1⟩, ⟨_, next_s1⟩, ⟨_, inOf_s1⟩, ⟨_, firstOf_s1⟩, ⟨_, rounds_s1⟩, ⟨_, counts_s1⟩, ⟨_, countsFirst_s1⟩⟩, hnw, hpa, ⟨by rw [badF_at, hrf.1], by rw [badF_ne (by decide) (by rw [hrf.2.1]; exact hxn)]; exact hrf.2.1, by rw [badF_ne (by decide) (by rw [hrf.2.2]; exact hxf)]; exact hrf.2.2⟩, hrr, hMA⟩, (fun jj hjj => by rw [f_s1 jj (by omega)])⟩
  · refine go_iload_n (pc := 10) hF dX11_worstBy_10 1 rfl ?_
    refine go_if_ne (pc := 11) hF 31 dX11_worstBy_11 (by decide) (by omega) (fun bq11 => ?_) (fun bq11 => ?_)
    · exfalso
      rcases hno with hno | hno
      · exact hno (Decidable.not_not.mp (fun z₉ => bq7 ((bI_0 _).mpr z₉)))
      · exact bq11 hno.1
    · refine go_iload_n (pc := 14) hF dX11_worstBy_14 2 rfl ?_
      refine go_i2l (pc := 15) hF dX11_worstBy_15 (by omega) ?_
      refine go_lconst (pc := 16) (v := 1) hF dX11_worstBy_16 (by decide) ?_
      refine go_ldc2 (pc := 17) hF kc_X11_118 dX11_worstBy_17 ?_
      refine go_callSP (pc := 20) hF [vl x₉, vl 1, vl 3] [] ms_X11_89 dX11_worstBy_20 (c_X11_in E N σ x₉ 1 3 (by omega) ⟨by decide, by decide⟩ ⟨by decide, by decide⟩) rfl rfl (Nat.le_of_ble_eq_true rfl) (by decide) ⟨Nat.zero_le _, Nat.zero_le _⟩ ?_
      refine go_if_ne (pc := 23) hF 31 dX11_worstBy_23 (by decide) (bI_rg _) (fun bq23 => ?_) (fun bq23 => ?_)
      · exfalso
        rcases hno with hno | hno
        · exact hno (Decidable.not_not.mp (fun z₉ => bq7 ((bI_0 _).mpr z₉)))
        · exact hno.2 (Decidable.not_not.mp (fun z₉ => bq23 ((bI_0 _).mpr z₉)))
      · refine go_aload_n (pc := 26) hF dX11_worstBy_26 0 rfl ?_
        refine go_callVI (pc := 27) hF [] [] mv_X11_120 dX11_worstBy_27 (by omega) z101 (c_X11_bad E N σ hN₉ z101 z104) rfl rfl (Nat.le_of_ble_eq_true rfl) (by decide) ⟨Nat.zero_le _, Nat.zero_le _⟩ (fun r_s2 s2₉ h_s2 => ?_)
        obtain ⟨e_s2, u_s2, f_s2⟩ := h_s2
        subst e_s2
        have x_s2 := (f_s2 94 (by omega)).trans z101
        have nw_s2 := (f_s2 95 (by omega)).trans z102
        have pa_s2 := (f_s2 96 (by omega)).trans z103
        have sn_s2 := (f_s2 98 (by omega)).trans z105
        have eo_s2 := (f_s2 99 (by omega)).trans z106
        have bo_s2 := (f_s2 100 (by omega)).trans z107
        have tx_s2 := (f_s2 101 (by omega)).trans z108
        have rr_s2 := (f_s2 119 (by omega)).trans z126
        have readSign_s2 := (f_s2 102 (by omega)).trans z109
        have open_s2 := (f_s2 103 (by omega)).trans z110
        have isBarred_s2 := (f_s2 104 (by omega)).trans z111
        have ages_s2 := (f_s2 105 (by omega)).trans z112
        have entered_s2 := (f_s2 106 (by omega)).trans z113
        have first_s2 := (f_s2 107 (by omega)).trans z114
        have mustAt_s2 := (f_s2 108 (by omega)).trans z115
        have mayAt_s2 := (f_s2 109 (by omega)).trans z116
        have sums_s2 := (f_s2 110 (by omega)).trans z117
        have sumsFirst_s2 := (f_s2 111 (by omega)).trans z118
        have took_s2 := (f_s2 112 (by omega)).trans z119
        have next_s2 := (f_s2 113 (by omega)).trans z120
        have inOf_s2 := (f_s2 114 (by omega)).trans z121
        have firstOf_s2 := (f_s2 115 (by omega)).trans z122
        have rounds_s2 := (f_s2 116 (by omega)).trans z123
        have counts_s2 := (f_s2 117 (by omega)).trans z124
        have countsFirst_s2 := (f_s2 118 (by omega)).trans z125
        exact go_iretQ hF hr hlk hQ dX11_worstBy_30 ⟨rfl, ⟨_, _, _, _, _, _, _, _, _, _, _, _, _, x_s2, nw_s2, pa_s2, u_s2, sn_s2, eo_s2, bo_s2, tx_s2, rr_s2, ⟨⟨_, readSign_s2⟩, ⟨_, open_s2⟩, ⟨_, isBarred_s2⟩, ⟨_, ages_s2⟩, ⟨_, entered_s2⟩, ⟨_, first_s2⟩, ⟨_, mustAt_s2⟩, ⟨_, mayAt_s2⟩, ⟨_, sums_s2⟩, ⟨_, sumsFirst_s2⟩, ⟨_, took_s2⟩, ⟨_, next_s2⟩, ⟨_, inOf_s2⟩, ⟨_, firstOf_s2⟩, ⟨_, rounds_s2⟩, ⟨_, counts_s2⟩, ⟨_, countsFirst_s2⟩⟩, hnw, hpa, ⟨by rw [badF_at, hrf.1], by rw [badF_ne (by decide) (by rw [hrf.2.1]; exact hxn)]; exact hrf.2.1, by rw [badF_ne (by decide) (by rw [hrf.2.2]; exact hxf)]; exact hrf.2.2⟩, hrr, hMA⟩, (fun jj hjj => by rw [f_s2 jj (by omega)])⟩
set_option maxHeartbeats 4000000 in
set_option maxRecDepth 100000 in
theorem c_X11_worstBy_0 (E : En) (N : Nat) (σ : Nat → va_E) (r₉ u₉ kd pr : Int) (yr yw yk yp : Int → Int) (hs : Int) (tx : Int → Int) (tl : Int) (t₉ : Tr) (xb xn xf q1₉ q2₉ q3₉ : Int) (hN₉ : 120 ≤ N) (hO : okS r₉ u₉ kd pr yr yw yk yp hs tx tl t₉ xb xn xf q1₉ q2₉ q3₉) (hS₉ : mdS E σ r₉ u₉ kd pr yr yw yk yp hs tx tl t₉ xb xn xf q1₉ q2₉ q3₉) (k9 x₉ : Int) (hk9 : k9 = 0) (hx : 1 ≤ x₉ ∧ x₉ ≤ 3) : CI E M_X11_worstBy 16 [vr E 94, vi k9, vi x₉] N σ (fun y₉ σ' => topS (ex₉ x₉ kd pr t₉ (S0₉ 0)) y₉ ∧ mdS E σ' r₉ u₉ kd pr yr yw yk yp hs tx tl t₉ xb xn xf q1₉ q2₉ q3₉ ∧ ∀ q₉, q₉ < 94 → σ' q₉ = σ q₉) := by
  refine CT.of2 (own := RX11) (by decide) rfl (Nat.le_of_ble_eq_true rfl) ?_
  intro p e R s m args below meth c Q hF hr hlk hnm hz hR hQ
  obtain ⟨_, _, _, _, _, _, _, _, _, _, _, _, _, hob, -⟩ := id hS₉
  refine go_iload_n (pc := 0) hF dX11_worstBy_0 1 rfl ?_
  refine go_i2l (pc := 1) hF dX11_worstBy_1 (by omega) ?_
  refine go_lconst (pc := 2) (v := 0) hF dX11_worstBy_2 (by decide) ?_
  refine go_lconst (pc := 3) (v := 1) hF dX11_worstBy_3 (by decide) ?_
  refine go_callSP (pc := 4) hF [vl k9, vl 0, vl 1] [] ms_X11_89 dX11_worstBy_4 (c_X11_in E N σ k9 0 1 (by omega) ⟨by decide, by decide⟩ ⟨by decide, by decide⟩) rfl rfl (Nat.le_of_ble_eq_true rfl) (by decide) ⟨Nat.zero_le _, Nat.zero_le _⟩ ?_
  refine go_if_eq (pc := 7) hF 26 dX11_worstBy_7 (by decide) (bI_rg _) (fun bq7 => ?_) (fun bq7 => ?_)
  · exact absurd ((bI_0 _).mp bq7) (by omega)
  · refine go_iload_n (pc := 10) hF dX11_worstBy_10 1 rfl ?_
    refine go_if_ne (pc := 11) hF 31 dX11_worstBy_11 (by decide) (by omega) (fun bq11 => ?_) (fun bq11 => ?_)
    · exact absurd hk9 bq11
    · refine go_iload_n (pc := 14) hF dX11_worstBy_14 2 rfl ?_
      refine go_i2l (pc := 15) hF dX11_worstBy_15 (by omega) ?_
      refine go_lconst (pc := 16) (v := 1) hF dX11_worstBy_16 (by decide) ?_
      refine go_ldc2 (pc := 17) hF kc_X11_118 dX11_worstBy_17 ?_
      refine go_callSP (pc := 20) hF [vl x₉, vl 1, vl 3] [] ms_X11_89 dX11_worstBy_20 (c_X11_in E N σ x₉ 1 3 (by omega) ⟨by decide, by decide⟩ ⟨by decide, by decide⟩) rfl rfl (Nat.le_of_ble_eq_true rfl) (by decide) ⟨Nat.zero_le _, Nat.zero_le _⟩ ?_
      refine go_if_ne (pc := 23) hF 31 dX11_worstBy_23 (by decide) (bI_rg _) (fun bq23 => ?_) (fun bq23 => ?_)
      · refine go_iload_n (pc := 31) hF dX11_worstBy_31 1 rfl ?_
        refine go_if_ne (pc := 32) hF 41 dX11_worstBy_32 (by decide) (by omega) (fun bq32 => ?_) (fun bq32 => ?_)
        · exact absurd hk9 bq32
        · refine go_aload_n (pc := 35) hF dX11_worstBy_35 0 rfl ?_
          refine go_iload_n (pc := 36) hF dX11_worstBy_36 2 rfl ?_
          refine go_callVI (pc := 37) hF [vi x₉] [] mv_X11_268 dX11_worstBy_37 (by omega) hob (c_X11_worstWith E N σ r₉ u₉ kd pr yr yw yk yp hs tx tl t₉ xb xn xf q1₉ q2₉ q3₉ hN₉ hO hS₉ x₉ hx) rfl rfl (Nat.le_of_ble_eq_true rfl) (by decide) ⟨Nat.zero_le _, Nat.zero_le _⟩ (fun yq1 gq1 hq1 => ?_)
          obtain ⟨⟨htq1, hrq1⟩, hSq1, hfq1⟩ := hq1
          obtain ⟨_, _, _, _, _, _, _, _, _, _, _, _, _, hobq1, -⟩ := id hSq1
          exact go_iretQ hF hr hlk hQ dX11_worstBy_40 ⟨htq1, hSq1, (fun jj hjj => by rw [hfq1 jj hjj])⟩
      · exact absurd ((bI_0 _).mp bq23) (by omega)
set_option maxHeartbeats 4000000 in
set_option maxRecDepth 100000 in
theorem c_X11_worstBy_1 (E : En) (N : Nat) (σ : Nat → va_E) (r₉ u₉ kd pr : Int) (yr yw yk yp : Int → Int) (hs : Int) (tx : Int → Int) (tl : Int) (t₉ : Tr) (xb xn xf q1₉ q2₉ q3₉ : Int) (hN₉ : 120 ≤ N) (hO : okS r₉ u₉ kd pr yr yw yk yp hs tx tl t₉ xb xn xf q1₉ q2₉ q3₉) (hS₉ : mdS E σ r₉ u₉ kd pr yr yw yk yp hs tx tl t₉ xb xn xf q1₉ q2₉ q3₉) (k9 x₉ : Int) (hk9 : k9 = 1) (hx : rg x₉) : CI E M_X11_worstBy 16 [vr E 94, vi k9, vi x₉] N σ (fun y₉ σ' => (∃ y1 y2 y3, topS (ex₉ 1 kd pr t₉ (S0₉ 0)) y1 ∧ topS (ex₉ 2 kd pr t₉ (S0₉ 0)) y2 ∧ topS (ex₉ 3 kd pr t₉ (S0₉ 0)) y3 ∧ y₉ = wbA y1 y2 y3) ∧ mdS E σ' r₉ u₉ kd pr yr yw yk yp hs tx tl t₉ xb xn xf q1₉ q2₉ q3₉ ∧ ∀ q₉, q₉ < 94 → σ' q₉ = σ q₉) := by
  refine CT.of2 (own := RX11) (by decide) rfl (Nat.le_of_ble_eq_true rfl) ?_
  intro p e R s m args below meth c Q hF hr hlk hnm hz hR hQ
  obtain ⟨_, _, _, _, _, _, _, _, _, _, _, _, _, hob, -⟩ := id hS₉
  have hcb9 := cB_max hO.2.2.2.2.2.2.2.2.2.2.2.1 hO.2.2.2.2.2.2.2.2.2.2.2.2.1 hO.2.2.2.2.2.2.2.2.2.2.2.2.2.1
  refine go_iload_n (pc := 0) hF dX11_worstBy_0 1 rfl ?_
  refine go_i2l (pc := 1) hF dX11_worstBy_1 (by omega) ?_
  refine go_lconst (pc := 2) (v := 0) hF dX11_worstBy_2 (by decide) ?_
  refine go_lconst (pc := 3) (v := 1) hF dX11_worstBy_3 (by decide) ?_
  refine go_callSP (pc := 4) hF [vl k9, vl 0, vl 1] [] ms_X11_89 dX11_worstBy_4 (c_X11_in E N σ k9 0 1 (by omega) ⟨by decide, by decide⟩ ⟨by decide, by decide⟩) rfl rfl (Nat.le_of_ble_eq_true rfl) (by decide) ⟨Nat.zero_le _, Nat.zero_le _⟩ ?_
  refine go_if_eq (pc := 7) hF 26 dX11_worstBy_7 (by decide) (bI_rg _) (fun bq7 => ?_) (fun bq7 => ?_)
  · exact absurd ((bI_0 _).mp bq7) (by omega)
  · refine go_iload_n (pc := 10) hF dX11_worstBy_10 1 rfl ?_
    refine go_if_ne (pc := 11) hF 31 dX11_worstBy_11 (by decide) (by omega) (fun bq11 => ?_) (fun bq11 => ?_)
    · refine go_iload_n (pc := 31) hF dX11_worstBy_31 1 rfl ?_
      refine go_if_ne (pc := 32) hF 41 dX11_worstBy_32 (by decide) (by omega) (fun bq32 => ?_) (fun bq32 => ?_)
      · refine go_iconst (pc := 41) hF dX11_worstBy_41 ?_
        refine go_istore_n (pc := 42) hF [(3, vi 1), (0, vr E 94), (1, vi k9), (2, vi x₉)] dX11_worstBy_42 rfl (by decide) ?_
        refine go_aload_n (pc := 43) hF dX11_worstBy_43 1 rfl ?_
        refine go_iconst (pc := 44) hF dX11_worstBy_44 ?_
        refine go_callVI (pc := 45) hF [vi 1] [] mv_X11_268 dX11_worstBy_45 (by omega) hob (c_X11_worstWith E N σ r₉ u₉ kd pr yr yw yk yp hs tx tl t₉ xb xn xf q1₉ q2₉ q3₉ hN₉ hO hS₉ 1 (by omega)) rfl rfl (Nat.le_of_ble_eq_true rfl) (by decide) ⟨Nat.zero_le _, Nat.zero_le _⟩ (fun yq1 gq1 hq1 => ?_)
        obtain ⟨⟨htq1, hrq1⟩, hSq1, hfq1⟩ := hq1
        obtain ⟨_, _, _, _, _, _, _, _, _, _, _, _, _, hobq1, -⟩ := id hSq1
        refine go_istore (pc := 48) hF [(4, vi yq1), (3, vi 1), (0, vr E 94), (1, vi k9), (2, vi x₉)] dX11_worstBy_48 rfl (by decide) ?_
        refine go_iconst (pc := 50) hF dX11_worstBy_50 ?_
        refine go_istore (pc := 51) hF [(5, vi 2), (4, vi yq1), (3, vi 1), (0, vr E 94), (1, vi k9), (2, vi x₉)] dX11_worstBy_51 rfl (by decide) ?_
        refine go_iload (pc := 53) hF dX11_worstBy_53 0 rfl ?_
        refine go_iconst (pc := 55) hF dX11_worstBy_55 ?_
        refine go_icmp_gt (pc := 56) hF 103 dX11_worstBy_56 (by decide) ⟨by decide, by decide⟩ ⟨by decide, by decide⟩ (fun bq56 => ?_) (fun bq56 => ?_)
        · exact absurd bq56 (by decide)
        · refine go_aload_n (pc := 59) hF dX11_worstBy_59 3 rfl ?_
          refine go_iload (pc := 60) hF dX11_worstBy_60 0 rfl ?_
          refine go_callVI (pc := 62) hF [vi 2] [] mv_X11_268 dX11_worstBy_62 (by omega) hobq1 (c_X11_worstWith E N gq1 r₉ u₉ kd pr yr yw yk yp hs tx tl t₉ xb xn xf q1₉ q2₉ q3₉ hN₉ hO hSq1 2 (by omega)) rfl rfl (Nat.le_of_ble_eq_true rfl) (by decide) ⟨Nat.zero_le _, Nat.zero_le _⟩ (fun yq2 gq2 hq2 => ?_)
          obtain ⟨⟨htq2, hrq2⟩, hSq2, hfq2⟩ := hq2
          obtain ⟨_, _, _, _, _, _, _, _, _, _, _, _, _, hobq2, -⟩ := id hSq2
          refine go_istore (pc := 65) hF [(6, vi yq2), (5, vi 2), (4, vi yq1), (3, vi 1), (0, vr E 94), (1, vi k9), (2, vi x₉)] dX11_worstBy_65 rfl (by decide) ?_
          refine go_iload (pc := 67) hF dX11_worstBy_67 0 rfl ?_
          refine go_iload (pc := 69) hF dX11_worstBy_69 2 rfl ?_
          refine go_icmp_ge (pc := 71) hF 79 dX11_worstBy_71 (by decide) (by omega) (by omega) (fun bq71 => ?_) (fun bq71 => ?_)
          · refine go_iload_n (pc := 79) hF dX11_worstBy_79 3 rfl ?_
            refine go_istore_n (pc := 80) hF [(3, vi 1), (6, vi yq2), (5, vi 2), (4, vi yq1), (0, vr E 94), (1, vi k9), (2, vi x₉)] dX11_worstBy_80 rfl (by decide) ?_
            refine go_iload (pc := 81) hF dX11_worstBy_81 1 rfl ?_
            refine go_iload (pc := 83) hF dX11_worstBy_83 3 rfl ?_
            refine go_icmp_ge (pc := 85) hF 93 dX11_worstBy_85 (by decide) (by omega) (by omega) (fun bq85 => ?_) (fun bq85 => ?_)
            · refine go_iload (pc := 93) hF dX11_worstBy_93 3 rfl ?_
              refine go_istore (pc := 95) hF [(4, vi yq1), (3, vi 1), (6, vi yq2), (5, vi 2), (0, vr E 94), (1, vi k9), (2, vi x₉)] dX11_worstBy_95 rfl (by decide) ?_
              refine go_iinc (pc := 97) hF [(5, vi 3), (4, vi yq1), (3, vi 1), (6, vi yq2), (0, vr E 94), (1, vi k9), (2, vi x₉)] dX11_worstBy_97 3 rfl rfl (by decide) ?_
              refine go_goto (pc := 100) hF 53 dX11_worstBy_100 (by decide) ?_
              refine go_iload (pc := 53) hF dX11_worstBy_53 0 rfl ?_
              refine go_iconst (pc := 55) hF dX11_worstBy_55 ?_
              refine go_icmp_gt (pc := 56) hF 103 dX11_worstBy_56 (by decide) ⟨by decide, by decide⟩ ⟨by decide, by decide⟩ (fun bq56 => ?_) (fun bq56 => ?_)
              · exact absurd bq56 (by decide)
              · refine go_aload_n (pc := 59) hF dX11_worstBy_59 4 rfl ?_
                refine go_iload (pc := 60) hF dX11_worstBy_60 0 rfl ?_
                refine go_callVI (pc := 62) hF [vi 3] [] mv_X11_268 dX11_worstBy_62 (by omega) hobq2 (c_X11_worstWith E N gq2 r₉ u₉ kd pr yr yw yk yp hs tx tl t₉ xb xn xf q1₉ q2₉ q3₉ hN₉ hO hSq2 3 (by omega)) rfl rfl (Nat.le_of_ble_eq_true rfl) (by decide) ⟨Nat.zero_le _, Nat.zero_le _⟩ (fun yq3 gq3 hq3 => ?_)
                obtain ⟨⟨htq3, hrq3⟩, hSq3, hfq3⟩ := hq3
                obtain ⟨_, _, _, _, _, _, _, _, _, _, _, _, _, hobq3, -⟩ := id hSq3
                refine go_istore (pc := 65) hF [(6, vi yq3), (5, vi 3), (4, vi yq1), (3, vi 1), (0, vr E 94), (1, vi k9), (2, vi x₉)] dX11_worstBy_65 rfl (by decide) ?_
                refine go_iload (pc := 67) hF dX11_worstBy_67 0 rfl ?_
                refine go_iload (pc := 69) hF dX11_worstBy_69 2 rfl ?_
                refine go_icmp_ge (pc := 71) hF 79 dX11_worstBy_71 (by decide) (by omega) (by omega) (fun bq71 => ?_) (fun bq71 => ?_)
                · refine go_iload_n (pc := 79) hF dX11_worstBy_79 3 rfl ?_
                  refine go_istore_n (pc := 80) hF [(3, vi 1), (6, vi yq3), (5, vi 3), (4, vi yq1), (0, vr E 94), (1, vi k9), (2, vi x₉)] dX11_worstBy_80 rfl (by decide) ?_
                  refine go_iload (pc := 81) hF dX11_worstBy_81 1 rfl ?_
                  refine go_iload (pc := 83) hF dX11_worstBy_83 3 rfl ?_
                  refine go_icmp_ge (pc := 85) hF 93 dX11_worstBy_85 (by decide) (by omega) (by omega) (fun bq85 => ?_) (fun bq85 => ?_)
                  · refine go_iload (pc := 93) hF dX11_worstBy_93 3 rfl ?_
                    refine go_istore (pc := 95) hF [(4, vi yq1), (3, vi 1), (6, vi yq3), (5, vi 3), (0, vr E 94), (1, vi k9), (2, vi x₉)] dX11_worstBy_95 rfl (by decide) ?_
                    refine go_iinc (pc := 97) hF [(5, vi 4), (4, vi yq1), (3, vi 1), (6, vi yq3), (0, vr E 94), (1, vi k9), (2, vi x₉)] dX11_worstBy_97 3 rfl rfl (by decide) ?_
                    refine go_goto (pc := 100) hF 53 dX11_worstBy_100 (by decide) ?_
                    refine go_iload (pc := 53) hF dX11_worstBy_53 0 rfl ?_
                    refine go_iconst (pc := 55) hF dX11_worstBy_55 ?_
                    refine go_icmp_gt (pc := 56) hF 103 dX11_worstBy_56 (by decide) ⟨by decide, by decide⟩ ⟨by decide, by decide⟩ (fun bq56 => ?_) (fun bq56 => ?_)
                    · refine go_iload_n (pc := 103) hF dX11_worstBy_103 2 rfl ?_
                      refine go_iretQ hF hr hlk hQ dX11_worstBy_104 ⟨⟨yq1, yq2, yq3, htq1, htq2, htq3, ?_⟩, hSq3, (fun jj hjj => by rw [hfq3 jj hjj, hfq2 jj hjj, hfq1 jj hjj])⟩
                      unfold wbA
                      repeat (first | rfl | omega | (rw [if_pos (by omega)]) | (rw [if_neg (by omega)]))
                    · exact absurd bq56 (by decide)
                  · exact absurd bq85 (by omega)
                · refine go_iload (pc := 74) hF dX11_worstBy_74 1 rfl ?_
                  refine go_goto (pc := 76) hF 80 dX11_worstBy_76 (by decide) ?_
                  refine go_istore_n (pc := 80) hF [(3, vi 3), (6, vi yq3), (5, vi 3), (4, vi yq1), (0, vr E 94), (1, vi k9), (2, vi x₉)] dX11_worstBy_80 rfl (by decide) ?_
                  refine go_iload (pc := 81) hF dX11_worstBy_81 1 rfl ?_
                  refine go_iload (pc := 83) hF dX11_worstBy_83 3 rfl ?_
                  refine go_icmp_ge (pc := 85) hF 93 dX11_worstBy_85 (by decide) (by omega) (by omega) (fun bq85 => ?_) (fun bq85 => ?_)
                  · exact absurd bq85 (by omega)
                  · refine go_iload (pc := 88) hF dX11_worstBy_88 1 rfl ?_
                    refine go_goto (pc := 90) hF 95 dX11_worstBy_90 (by decide) ?_
                    refine go_istore (pc := 95) hF [(4, vi yq3), (3, vi 3), (6, vi yq3), (5, vi 3), (0, vr E 94), (1, vi k9), (2, vi x₉)] dX11_worstBy_95 rfl (by decide) ?_
                    refine go_iinc (pc := 97) hF [(5, vi 4), (4, vi yq3), (3, vi 3), (6, vi yq3), (0, vr E 94), (1, vi k9), (2, vi x₉)] dX11_worstBy_97 3 rfl rfl (by decide) ?_
                    refine go_goto (pc := 100) hF 53 dX11_worstBy_100 (by decide) ?_
                    refine go_iload (pc := 53) hF dX11_worstBy_53 0 rfl ?_
                    refine go_iconst (pc := 55) hF dX11_worstBy_55 ?_
                    refine go_icmp_gt (pc := 56) hF 103 dX11_worstBy_56 (by decide) ⟨by decide, by decide⟩ ⟨by decide, by decide⟩ (fun bq56 => ?_) (fun bq56 => ?_)
                    · refine go_iload_n (pc := 103) hF dX11_worstBy_103 2 rfl ?_
                      refine go_iretQ hF hr hlk hQ dX11_worstBy_104 ⟨⟨yq1, yq2, yq3, htq1, htq2, htq3, ?_⟩, hSq3, (fun jj hjj => by rw [hfq3 jj hjj, hfq2 jj hjj, hfq1 jj hjj])⟩
                      unfold wbA
                      repeat (first | rfl | omega | (rw [if_pos (by omega)]) | (rw [if_neg (by omega)]))
                    · exact absurd bq56 (by decide)
            · exact absurd bq85 (by omega)
          · refine go_iload (pc := 74) hF dX11_worstBy_74 1 rfl ?_
            refine go_goto (pc := 76) hF 80 dX11_worstBy_76 (by decide) ?_
            refine go_istore_n (pc := 80) hF [(3, vi 2), (6, vi yq2), (5, vi 2), (4, vi yq1), (0, vr E 94), (1, vi k9), (2, vi x₉)] dX11_worstBy_80 rfl (by decide) ?_
            refine go_iload (pc := 81) hF dX11_worstBy_81 1 rfl ?_
            refine go_iload (pc := 83) hF dX11_worstBy_83 3 rfl ?_
            refine go_icmp_ge (pc := 85) hF 93 dX11_worstBy_85 (by decide) (by omega) (by omega) (fun bq85 => ?_) (fun bq85 => ?_)
            · exact absurd bq85 (by omega)
            · refine go_iload (pc := 88) hF dX11_worstBy_88 1 rfl ?_
              refine go_goto (pc := 90) hF 95 dX11_worstBy_90 (by decide) ?_
              refine go_istore (pc := 95) hF [(4, vi yq2), (3, vi 2), (6, vi yq2), (5, vi 2), (0, vr E 94), (1, vi k9), (2, vi x₉)] dX11_worstBy_95 rfl (by decide) ?_
              refine go_iinc (pc := 97) hF [(5, vi 3), (4, vi yq2), (3, vi 2), (6, vi yq2), (0, vr E 94), (1, vi k9), (2, vi x₉)] dX11_worstBy_97 3 rfl rfl (by decide) ?_
              refine go_goto (pc := 100) hF 53 dX11_worstBy_100 (by decide) ?_
              refine go_iload (pc := 53) hF dX11_worstBy_53 0 rfl ?_
              refine go_iconst (pc := 55) hF dX11_worstBy_55 ?_
              refine go_icmp_gt (pc := 56) hF 103 dX11_worstBy_56 (by decide) ⟨by decide, by decide⟩ ⟨by decide, by decide⟩ (fun bq56 => ?_) (fun bq56 => ?_)
              · exact absurd bq56 (by decide)
              · refine go_aload_n (pc := 59) hF dX11_worstBy_59 4 rfl ?_
                refine go_iload (pc := 60) hF dX11_worstBy_60 0 rfl ?_
                refine go_callVI (pc := 62) hF [vi 3] [] mv_X11_268 dX11_worstBy_62 (by omega) hobq2 (c_X11_worstWith E N gq2 r₉ u₉ kd pr yr yw yk yp hs tx tl t₉ xb xn xf q1₉ q2₉ q3₉ hN₉ hO hSq2 3 (by omega)) rfl rfl (Nat.le_of_ble_eq_true rfl) (by decide) ⟨Nat.zero_le _, Nat.zero_le _⟩ (fun yq3 gq3 hq3 => ?_)
                obtain ⟨⟨htq3, hrq3⟩, hSq3, hfq3⟩ := hq3
                obtain ⟨_, _, _, _, _, _, _, _, _, _, _, _, _, hobq3, -⟩ := id hSq3
                refine go_istore (pc := 65) hF [(6, vi yq3), (5, vi 3), (4, vi yq2), (3, vi 2), (0, vr E 94), (1, vi k9), (2, vi x₉)] dX11_worstBy_65 rfl (by decide) ?_
                refine go_iload (pc := 67) hF dX11_worstBy_67 0 rfl ?_
                refine go_iload (pc := 69) hF dX11_worstBy_69 2 rfl ?_
                refine go_icmp_ge (pc := 71) hF 79 dX11_worstBy_71 (by decide) (by omega) (by omega) (fun bq71 => ?_) (fun bq71 => ?_)
                · refine go_iload_n (pc := 79) hF dX11_worstBy_79 3 rfl ?_
                  refine go_istore_n (pc := 80) hF [(3, vi 2), (6, vi yq3), (5, vi 3), (4, vi yq2), (0, vr E 94), (1, vi k9), (2, vi x₉)] dX11_worstBy_80 rfl (by decide) ?_
                  refine go_iload (pc := 81) hF dX11_worstBy_81 1 rfl ?_
                  refine go_iload (pc := 83) hF dX11_worstBy_83 3 rfl ?_
                  refine go_icmp_ge (pc := 85) hF 93 dX11_worstBy_85 (by decide) (by omega) (by omega) (fun bq85 => ?_) (fun bq85 => ?_)
                  · refine go_iload (pc := 93) hF dX11_worstBy_93 3 rfl ?_
                    refine go_istore (pc := 95) hF [(4, vi yq2), (3, vi 2), (6, vi yq3), (5, vi 3), (0, vr E 94), (1, vi k9), (2, vi x₉)] dX11_worstBy_95 rfl (by decide) ?_
                    refine go_iinc (pc := 97) hF [(5, vi 4), (4, vi yq2), (3, vi 2), (6, vi yq3), (0, vr E 94), (1, vi k9), (2, vi x₉)] dX11_worstBy_97 3 rfl rfl (by decide) ?_
                    refine go_goto (pc := 100) hF 53 dX11_worstBy_100 (by decide) ?_
                    refine go_iload (pc := 53) hF dX11_worstBy_53 0 rfl ?_
                    refine go_iconst (pc := 55) hF dX11_worstBy_55 ?_
                    refine go_icmp_gt (pc := 56) hF 103 dX11_worstBy_56 (by decide) ⟨by decide, by decide⟩ ⟨by decide, by decide⟩ (fun bq56 => ?_) (fun bq56 => ?_)
                    · refine go_iload_n (pc := 103) hF dX11_worstBy_103 2 rfl ?_
                      refine go_iretQ hF hr hlk hQ dX11_worstBy_104 ⟨⟨yq1, yq2, yq3, htq1, htq2, htq3, ?_⟩, hSq3, (fun jj hjj => by rw [hfq3 jj hjj, hfq2 jj hjj, hfq1 jj hjj])⟩
                      unfold wbA
                      repeat (first | rfl | omega | (rw [if_pos (by omega)]) | (rw [if_neg (by omega)]))
                    · exact absurd bq56 (by decide)
                  · exact absurd bq85 (by omega)
                · refine go_iload (pc := 74) hF dX11_worstBy_74 1 rfl ?_
                  refine go_goto (pc := 76) hF 80 dX11_worstBy_76 (by decide) ?_
                  refine go_istore_n (pc := 80) hF [(3, vi 3), (6, vi yq3), (5, vi 3), (4, vi yq2), (0, vr E 94), (1, vi k9), (2, vi x₉)] dX11_worstBy_80 rfl (by decide) ?_
                  refine go_iload (pc := 81) hF dX11_worstBy_81 1 rfl ?_
                  refine go_iload (pc := 83) hF dX11_worstBy_83 3 rfl ?_
                  refine go_icmp_ge (pc := 85) hF 93 dX11_worstBy_85 (by decide) (by omega) (by omega) (fun bq85 => ?_) (fun bq85 => ?_)
                  · exact absurd bq85 (by omega)
                  · refine go_iload (pc := 88) hF dX11_worstBy_88 1 rfl ?_
                    refine go_goto (pc := 90) hF 95 dX11_worstBy_90 (by decide) ?_
                    refine go_istore (pc := 95) hF [(4, vi yq3), (3, vi 3), (6, vi yq3), (5, vi 3), (0, vr E 94), (1, vi k9), (2, vi x₉)] dX11_worstBy_95 rfl (by decide) ?_
                    refine go_iinc (pc := 97) hF [(5, vi 4), (4, vi yq3), (3, vi 3), (6, vi yq3), (0, vr E 94), (1, vi k9), (2, vi x₉)] dX11_worstBy_97 3 rfl rfl (by decide) ?_
                    refine go_goto (pc := 100) hF 53 dX11_worstBy_100 (by decide) ?_
                    refine go_iload (pc := 53) hF dX11_worstBy_53 0 rfl ?_
                    refine go_iconst (pc := 55) hF dX11_worstBy_55 ?_
                    refine go_icmp_gt (pc := 56) hF 103 dX11_worstBy_56 (by decide) ⟨by decide, by decide⟩ ⟨by decide, by decide⟩ (fun bq56 => ?_) (fun bq56 => ?_)
                    · refine go_iload_n (pc := 103) hF dX11_worstBy_103 2 rfl ?_
                      refine go_iretQ hF hr hlk hQ dX11_worstBy_104 ⟨⟨yq1, yq2, yq3, htq1, htq2, htq3, ?_⟩, hSq3, (fun jj hjj => by rw [hfq3 jj hjj, hfq2 jj hjj, hfq1 jj hjj])⟩
                      unfold wbA
                      repeat (first | rfl | omega | (rw [if_pos (by omega)]) | (rw [if_neg (by omega)]))
                    · exact absurd bq56 (by decide)
      · exact absurd bq32 (by omega)
    · exact absurd bq11 (by omega)
