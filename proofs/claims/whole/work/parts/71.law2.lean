/-! The law's loop₉. -/
theorem txr {tx : Int → Int} {tl x₉ : Int} (h : ∀ z₉ : Int, 0 ≤ z₉ → z₉ < tl → 0 ≤ tx z₉ ∧ tx z₉ ≤ 127) (hx : 0 ≤ x₉ ∧ x₉ ≤ 127) : ∀ z₉ : Int, 0 ≤ z₉ → z₉ < tl + 1 → 0 ≤ up tx tl x₉ z₉ ∧ up tx tl x₉ z₉ ≤ 127 := by
  intro z₉ z0 z1
  by_cases e : z₉ = tl
  · subst e; rw [up_self]; exact hx
  · rw [up_ne _ _ e]; exact h z₉ z0 (by omega)
set_option maxHeartbeats 4000000 in
set_option maxRecDepth 100000 in
theorem law_loop {E : En} {p : Program} {e : Env} {s : State} {m : MethodId} {below : List Frame} {meth : Method} {c : Code} {b₉ L₉ : Nat} {xs : Nat → Int32} (hE : ez E = s.heap.size) (hF : Fx E cL_law 4 RL 20 p room_1 s m #[Value.ref b₉] c) (hX : va_X b₉ L₉ xs s s.heap) (hbl : b₉ < s.heap.size) (hL : L₉ ≤ 1536) (hr : meth.sig.returnType = ret) (hlocks : meth.locks = false) : ∀ (n₉ i₉ : Nat) (r₉ u₉ kd pr : Int) (yr yw yk yp : Int → Int) (hs : Int) (tx : Int → Int) (tl : Int) (t₉ : Tr) (xb xn xf q1₉ q2₉ q3₉ : Int) (τ : Nat → va_E), (L₉ : Int) < i₉ + n₉ → i₉ ≤ L₉ + 3 → okS r₉ u₉ kd pr yr yw yk yp hs tx tl t₉ xb xn xf q1₉ q2₉ q3₉ → clS E τ r₉ u₉ kd pr yr yw yk yp hs tx tl t₉ xb xn xf q1₉ q2₉ q3₉ → mdS E τ r₉ u₉ kd pr yr yw yk yp hs tx tl t₉ xb xn xf q1₉ q2₉ q3₉ → Go E p e room_1 s m #[Value.ref b₉] below meth c (lw_Z below #[Value.ref b₉] s) 4 (120, 16863) 120 τ [(3, vi (i₉ : Int)), (2, vr E 94), (1, vr E 0), (0, .ref b₉)] [] 18 := by
  have hbA : ¬ eA E b₉ := by show ¬ ez E ≤ b₉; omega
  intro n₉
  induction n₉ with
  | zero =>
    intro i₉ r₉ u₉ kd pr yr yw yk yp hs tx tl t₉ xb xn xf q1₉ q2₉ q3₉ τ hfu hi3 hO hS₉ hM₉
    obtain ⟨⟨hrw, hu, hkd, hpr⟩, hhs, hyy, htl, htx, hxb, hxn, hxf, hq1, hq2, hq3, hwf, hdp3, hl80, hl24⟩ := id hO
    refine go_iload_n (pc := 18) hF dL_law_18 0 rfl ?_
    refine go_aloadR (pc := 19) hF dL_law_19 3 rfl ?_
    refine go_slen (pc := 20) hF hX hbl hbA dL_law_20 ?_
    refine go_iconst (pc := 21) hF dL_law_21 ?_
    refine go_isub (pc := 22) hF dL_law_22 ?_
    refine go_icmp_gt (pc := 23) hF 687 dL_law_23 (by decide) (by omega) (by omega) (fun bq23 => ?_) (fun bq23 => ?_)
    · refine go_iconst (pc := 687) hF dL_law_687 ?_
      exact go_lawret hE hF.1 hF.2.1 hr hlocks (Nat.le_of_ble_eq_true rfl) (Nat.le_of_ble_eq_true rfl) dL_law_688
    · exact absurd bq23 (by omega)
  | succ n₉ ih₉ =>
    intro i₉ r₉ u₉ kd pr yr yw yk yp hs tx tl t₉ xb xn xf q1₉ q2₉ q3₉ τ hfu hi3 hO hS₉ hM₉
    obtain ⟨⟨hrw, hu, hkd, hpr⟩, hhs, hyy, htl, htx, hxb, hxn, hxf, hq1, hq2, hq3, hwf, hdp3, hl80, hl24⟩ := id hO
    refine go_iload_n (pc := 18) hF dL_law_18 0 rfl ?_
    refine go_aloadR (pc := 19) hF dL_law_19 3 rfl ?_
    refine go_slen (pc := 20) hF hX hbl hbA dL_law_20 ?_
    refine go_iconst (pc := 21) hF dL_law_21 ?_
    refine go_isub (pc := 22) hF dL_law_22 ?_
    refine go_icmp_gt (pc := 23) hF 687 dL_law_23 (by decide) (by omega) (by omega) (fun bq23 => ?_) (fun bq23 => ?_)
    · refine go_iconst (pc := 687) hF dL_law_687 ?_
      exact go_lawret hE hF.1 hF.2.1 hr hlocks (Nat.le_of_ble_eq_true rfl) (Nat.le_of_ble_eq_true rfl) dL_law_688
    · obtain ⟨x0₉, hx0⟩ : ∃ x0₉, x0₉ = (xs ((i₉ : Int)).toNat).toInt := ⟨_, rfl⟩
      have rx0 : rg x0₉ := by rw [hx0]; exact iI_rg _
      obtain ⟨x1₉, hx1⟩ : ∃ x1₉, x1₉ = (xs ((i₉ : Int) + 1).toNat).toInt := ⟨_, rfl⟩
      have rx1 : rg x1₉ := by rw [hx1]; exact iI_rg _
      obtain ⟨x2₉, hx2⟩ : ∃ x2₉, x2₉ = (xs ((i₉ : Int) + 2).toNat).toInt := ⟨_, rfl⟩
      have rx2 : rg x2₉ := by rw [hx2]; exact iI_rg _
      refine go_aloadR (pc := 26) hF dL_law_26 3 rfl ?_
      refine go_iload_n (pc := 27) hF dL_law_27 0 rfl ?_
      refine go_sld (pc := 28) hF hX hbl hbA ⟨by omega, by omega⟩ (by omega) dL_law_28 ?_
      rw [← hx0]
      refine go_bipush (pc := 29) hF dL_law_29 (by decide) ?_
      refine go_iand (pc := 31) hF (x0₉ % 32) (and31 rx0) dL_law_31 ?_
      obtain hv | hv | hv | hv | hv | hv | hv | hv | hv | hv | hv | hv | hv | hv | hv | hv | hv | hv | hv | hv | hv | hv | hv | hv | hv | hv | hv | hv | hv | hv | hv | hv : x0₉ % 32 = 0 ∨ x0₉ % 32 = 1 ∨ x0₉ % 32 = 2 ∨ x0₉ % 32 = 3 ∨ x0₉ % 32 = 4 ∨ x0₉ % 32 = 5 ∨ x0₉ % 32 = 6 ∨ x0₉ % 32 = 7 ∨ x0₉ % 32 = 8 ∨ x0₉ % 32 = 9 ∨ x0₉ % 32 = 10 ∨ x0₉ % 32 = 11 ∨ x0₉ % 32 = 12 ∨ x0₉ % 32 = 13 ∨ x0₉ % 32 = 14 ∨ x0₉ % 32 = 15 ∨ x0₉ % 32 = 16 ∨ x0₉ % 32 = 17 ∨ x0₉ % 32 = 18 ∨ x0₉ % 32 = 19 ∨ x0₉ % 32 = 20 ∨ x0₉ % 32 = 21 ∨ x0₉ % 32 = 22 ∨ x0₉ % 32 = 23 ∨ x0₉ % 32 = 24 ∨ x0₉ % 32 = 25 ∨ x0₉ % 32 = 26 ∨ x0₉ % 32 = 27 ∨ x0₉ % 32 = 28 ∨ x0₉ % 32 = 29 ∨ x0₉ % 32 = 30 ∨ x0₉ % 32 = 31 := by omega
      · rw [hv]
        refine go_tableIn (pc := 32) hF 152 dL_law_32 ⟨by decide, by decide⟩ (by decide) rfl (by decide) ?_
        rcases (show (1 ≤ x1₉ ∧ x1₉ ≤ 3) ∨ ¬ (1 ≤ x1₉ ∧ x1₉ ≤ 3) by omega) with hc₉ | hc₉
        · refine go_aload_n (pc := 152) hF dL_law_152 2 rfl ?_
          refine go_aloadR (pc := 153) hF dL_law_153 3 rfl ?_
          refine go_iload_n (pc := 154) hF dL_law_154 0 rfl ?_
          refine go_iconst (pc := 155) hF dL_law_155 ?_
          refine go_iadd (pc := 156) hF dL_law_156 ?_
          refine go_sld (pc := 157) hF hX hbl hbA ⟨by omega, by omega⟩ (by omega) dL_law_157 ?_
          rw [← hx1]
          refine go_callVI (pc := 158) hF [vi x1₉] [] mv_L_13 dL_law_158 (by decide) hS₉.1 (c_X10_ways_ok E 120 τ r₉ u₉ kd pr yr yw yk yp hs tx tl t₉ xb xn xf q1₉ q2₉ q3₉ (by decide) hO hS₉ x1₉ hc₉) rfl rfl (Nat.le_of_ble_eq_true rfl) (by decide) ⟨Nat.le_of_ble_eq_true rfl, Nat.le_of_ble_eq_true rfl⟩ (fun y1 s1₉ h1 => ?_)
          obtain ⟨e1₉, hS1, f1₉⟩ := h1
          have hM1 := hM₉.keep (fun q₉ h1 _ => f1₉ q₉ h1)
          obtain ⟨_, _, _, _, _, _, _, _, _, _, _, _, _, zq, -⟩ := id hM1
          refine go_aload_n (pc := 161) hF dL_law_161 1 rfl ?_
          refine go_aloadR (pc := 162) hF dL_law_162 3 rfl ?_
          refine go_iload_n (pc := 163) hF dL_law_163 0 rfl ?_
          refine go_iconst (pc := 164) hF dL_law_164 ?_
          refine go_iadd (pc := 165) hF dL_law_165 ?_
          refine go_sld (pc := 166) hF hX hbl hbA ⟨by omega, by omega⟩ (by omega) dL_law_166 ?_
          rw [← hx1]
          refine go_callVI (pc := 167) hF [vi x1₉] [vi y1] mv_L_17 dL_law_167 (by decide) zq (c_X11_ways_ok E 120 s1₉ r₉ u₉ kd pr yr yw yk yp hs tx tl t₉ xb xn xf q1₉ q2₉ q3₉ (by decide) hO hM1 x1₉ hc₉) rfl rfl (Nat.le_of_ble_eq_true rfl) (by decide) ⟨Nat.le_of_ble_eq_true rfl, Nat.le_of_ble_eq_true rfl⟩ (fun y2 s2₉ h2 => ?_)
          obtain ⟨e2₉, hM2, f2₉⟩ := h2
          have hS2 := hS1.keep (fun q₉ hq => f2₉ q₉ hq)
          have ey : y1 = y2 := e1₉.trans e2₉.symm
          rw [← ey]
          refine go_same (pc := 170) hF 681 dL_law_170 (by decide) ?_
          refine go_iinc (pc := 681) hF [(3, vi ((i₉ : Int) + 3)), (2, vr E 94), (1, vr E 0), (0, .ref b₉)] dL_law_681 0 rfl rfl (by decide) ?_
          refine go_goto (pc := 684) hF 18 dL_law_684 (by decide) ?_
          refine go_lvE [(3, vi ((i₉ + 3 : Nat) : Int)), (2, vr E 94), (1, vr E 0), (0, .ref b₉)] (by rw [show (i₉ : Int) + 3 = ((i₉ + 3 : Nat) : Int) by omega]) ?_
          exact ih₉ (i₉ + 3) (mCut r₉ x1₉) x1₉ kd pr (psh yr r₉) (psh yw u₉) (psh yk kd) (psh yp pr) (min (hs + 1) 8) tx tl t₉ xb xn xf q1₉ q2₉ q3₉ s2₉ (by omega) (by omega) (okS_new hO ⟨(en_ok (vrow_up hrw (by omega)) hc₉).2.2, hc₉, hkd, hpr⟩) hS2 hM2
        · refine go_aload_n (pc := 152) hF dL_law_152 2 rfl ?_
          refine go_aloadR (pc := 153) hF dL_law_153 3 rfl ?_
          refine go_iload_n (pc := 154) hF dL_law_154 0 rfl ?_
          refine go_iconst (pc := 155) hF dL_law_155 ?_
          refine go_iadd (pc := 156) hF dL_law_156 ?_
          refine go_sld (pc := 157) hF hX hbl hbA ⟨by omega, by omega⟩ (by omega) dL_law_157 ?_
          rw [← hx1]
          refine go_callVI (pc := 158) hF [vi x1₉] [] mv_L_13 dL_law_158 (by decide) hS₉.1 (c_X10_ways_bad E 120 τ r₉ u₉ kd pr yr yw yk yp hs tx tl t₉ xb xn xf q1₉ q2₉ q3₉ (by decide) hO hS₉ x1₉ rx1 hc₉) rfl rfl (Nat.le_of_ble_eq_true rfl) (by decide) ⟨Nat.le_of_ble_eq_true rfl, Nat.le_of_ble_eq_true rfl⟩ (fun y1 s1₉ h1 => ?_)
          obtain ⟨e1₉, hS1, f1₉⟩ := h1
          have hM1 := hM₉.keep (fun q₉ h1 _ => f1₉ q₉ h1)
          obtain ⟨_, _, _, _, _, _, _, _, _, _, _, _, _, zq, -⟩ := id hM1
          refine go_aload_n (pc := 161) hF dL_law_161 1 rfl ?_
          refine go_aloadR (pc := 162) hF dL_law_162 3 rfl ?_
          refine go_iload_n (pc := 163) hF dL_law_163 0 rfl ?_
          refine go_iconst (pc := 164) hF dL_law_164 ?_
          refine go_iadd (pc := 165) hF dL_law_165 ?_
          refine go_sld (pc := 166) hF hX hbl hbA ⟨by omega, by omega⟩ (by omega) dL_law_166 ?_
          rw [← hx1]
          refine go_callVI (pc := 167) hF [vi x1₉] [vi y1] mv_L_17 dL_law_167 (by decide) zq (c_X11_ways_bad E 120 s1₉ r₉ u₉ kd pr yr yw yk yp hs tx tl t₉ xb xn xf q1₉ q2₉ q3₉ (by decide) hO hM1 x1₉ rx1 hc₉) rfl rfl (Nat.le_of_ble_eq_true rfl) (by decide) ⟨Nat.le_of_ble_eq_true rfl, Nat.le_of_ble_eq_true rfl⟩ (fun y2 s2₉ h2 => ?_)
          obtain ⟨e2₉, hM2, f2₉⟩ := h2
          have hS2 := hS1.keep (fun q₉ hq => f2₉ q₉ hq)
          have ey : y1 = y2 := e1₉.trans e2₉.symm
          rw [← ey]
          refine go_same (pc := 170) hF 681 dL_law_170 (by decide) ?_
          refine go_iinc (pc := 681) hF [(3, vi ((i₉ : Int) + 3)), (2, vr E 94), (1, vr E 0), (0, .ref b₉)] dL_law_681 0 rfl rfl (by decide) ?_
          refine go_goto (pc := 684) hF 18 dL_law_684 (by decide) ?_
          refine go_lvE [(3, vi ((i₉ + 3 : Nat) : Int)), (2, vr E 94), (1, vr E 0), (0, .ref b₉)] (by rw [show (i₉ : Int) + 3 = ((i₉ + 3 : Nat) : Int) by omega]) ?_
          exact ih₉ (i₉ + 3) r₉ u₉ kd pr yr yw yk yp hs tx tl t₉ (wr₉ (xb + 1)) xn xf q1₉ q2₉ q3₉ s2₉ (by omega) (by omega) ⟨⟨hrw, hu, hkd, hpr⟩, hhs, hyy, htl, htx, wr_rg _, hxn, hxf, hq1, hq2, hq3, hwf, hdp3, hl80, hl24⟩ hS2 hM2
      · rw [hv]
        refine go_tableIn (pc := 32) hF 175 dL_law_32 ⟨by decide, by decide⟩ (by decide) rfl (by decide) ?_
        rcases (show (0 ≤ x1₉ ∧ x1₉ ≤ 3) ∨ ¬ (0 ≤ x1₉ ∧ x1₉ ≤ 3) by omega) with hc₉ | hc₉
        · refine go_aload_n (pc := 175) hF dL_law_175 2 rfl ?_
          refine go_aloadR (pc := 176) hF dL_law_176 3 rfl ?_
          refine go_iload_n (pc := 177) hF dL_law_177 0 rfl ?_
          refine go_iconst (pc := 178) hF dL_law_178 ?_
          refine go_iadd (pc := 179) hF dL_law_179 ?_
          refine go_sld (pc := 180) hF hX hbl hbA ⟨by omega, by omega⟩ (by omega) dL_law_180 ?_
          rw [← hx1]
          refine go_callVI (pc := 181) hF [vi x1₉] [] mv_L_18 dL_law_181 (by decide) hS₉.1 (c_X10_kind_ok E 120 τ r₉ u₉ kd pr yr yw yk yp hs tx tl t₉ xb xn xf q1₉ q2₉ q3₉ (by decide) hO hS₉ x1₉ hc₉) rfl rfl (Nat.le_of_ble_eq_true rfl) (by decide) ⟨Nat.le_of_ble_eq_true rfl, Nat.le_of_ble_eq_true rfl⟩ (fun y1 s1₉ h1 => ?_)
          obtain ⟨e1₉, hS1, f1₉⟩ := h1
          have hM1 := hM₉.keep (fun q₉ h1 _ => f1₉ q₉ h1)
          obtain ⟨_, _, _, _, _, _, _, _, _, _, _, _, _, zq, -⟩ := id hM1
          refine go_aload_n (pc := 184) hF dL_law_184 1 rfl ?_
          refine go_aloadR (pc := 185) hF dL_law_185 3 rfl ?_
          refine go_iload_n (pc := 186) hF dL_law_186 0 rfl ?_
          refine go_iconst (pc := 187) hF dL_law_187 ?_
          refine go_iadd (pc := 188) hF dL_law_188 ?_
          refine go_sld (pc := 189) hF hX hbl hbA ⟨by omega, by omega⟩ (by omega) dL_law_189 ?_
          rw [← hx1]
          refine go_callVI (pc := 190) hF [vi x1₉] [vi y1] mv_L_21 dL_law_190 (by decide) zq (c_X11_kind_ok E 120 s1₉ r₉ u₉ kd pr yr yw yk yp hs tx tl t₉ xb xn xf q1₉ q2₉ q3₉ (by decide) hO hM1 x1₉ hc₉) rfl rfl (Nat.le_of_ble_eq_true rfl) (by decide) ⟨Nat.le_of_ble_eq_true rfl, Nat.le_of_ble_eq_true rfl⟩ (fun y2 s2₉ h2 => ?_)
          obtain ⟨e2₉, hM2, f2₉⟩ := h2
          have hS2 := hS1.keep (fun q₉ hq => f2₉ q₉ hq)
          have ey : y1 = y2 := e1₉.trans e2₉.symm
          rw [← ey]
          refine go_same (pc := 193) hF 681 dL_law_193 (by decide) ?_
          refine go_iinc (pc := 681) hF [(3, vi ((i₉ : Int) + 3)), (2, vr E 94), (1, vr E 0), (0, .ref b₉)] dL_law_681 0 rfl rfl (by decide) ?_
          refine go_goto (pc := 684) hF 18 dL_law_684 (by decide) ?_
          refine go_lvE [(3, vi ((i₉ + 3 : Nat) : Int)), (2, vr E 94), (1, vr E 0), (0, .ref b₉)] (by rw [show (i₉ : Int) + 3 = ((i₉ + 3 : Nat) : Int) by omega]) ?_
          exact ih₉ (i₉ + 3) r₉ u₉ x1₉ pr (psh yr r₉) (psh yw u₉) (psh yk kd) (psh yp pr) (min (hs + 1) 8) tx tl t₉ xb xn xf q1₉ q2₉ q3₉ s2₉ (by omega) (by omega) (okS_new hO ⟨hrw, hu, hc₉, hpr⟩) hS2 hM2
        · refine go_aload_n (pc := 175) hF dL_law_175 2 rfl ?_
          refine go_aloadR (pc := 176) hF dL_law_176 3 rfl ?_
          refine go_iload_n (pc := 177) hF dL_law_177 0 rfl ?_
          refine go_iconst (pc := 178) hF dL_law_178 ?_
          refine go_iadd (pc := 179) hF dL_law_179 ?_
          refine go_sld (pc := 180) hF hX hbl hbA ⟨by omega, by omega⟩ (by omega) dL_law_180 ?_
          rw [← hx1]
          refine go_callVI (pc := 181) hF [vi x1₉] [] mv_L_18 dL_law_181 (by decide) hS₉.1 (c_X10_kind_bad E 120 τ r₉ u₉ kd pr yr yw yk yp hs tx tl t₉ xb xn xf q1₉ q2₉ q3₉ (by decide) hO hS₉ x1₉ rx1 hc₉) rfl rfl (Nat.le_of_ble_eq_true rfl) (by decide) ⟨Nat.le_of_ble_eq_true rfl, Nat.le_of_ble_eq_true rfl⟩ (fun y1 s1₉ h1 => ?_)
          obtain ⟨e1₉, hS1, f1₉⟩ := h1
          have hM1 := hM₉.keep (fun q₉ h1 _ => f1₉ q₉ h1)
          obtain ⟨_, _, _, _, _, _, _, _, _, _, _, _, _, zq, -⟩ := id hM1
          refine go_aload_n (pc := 184) hF dL_law_184 1 rfl ?_
          refine go_aloadR (pc := 185) hF dL_law_185 3 rfl ?_
          refine go_iload_n (pc := 186) hF dL_law_186 0 rfl ?_
          refine go_iconst (pc := 187) hF dL_law_187 ?_
          refine go_iadd (pc := 188) hF dL_law_188 ?_
          refine go_sld (pc := 189) hF hX hbl hbA ⟨by omega, by omega⟩ (by omega) dL_law_189 ?_
          rw [← hx1]
          refine go_callVI (pc := 190) hF [vi x1₉] [vi y1] mv_L_21 dL_law_190 (by decide) zq (c_X11_kind_bad E 120 s1₉ r₉ u₉ kd pr yr yw yk yp hs tx tl t₉ xb xn xf q1₉ q2₉ q3₉ (by decide) hO hM1 x1₉ rx1 hc₉) rfl rfl (Nat.le_of_ble_eq_true rfl) (by decide) ⟨Nat.le_of_ble_eq_true rfl, Nat.le_of_ble_eq_true rfl⟩ (fun y2 s2₉ h2 => ?_)
          obtain ⟨e2₉, hM2, f2₉⟩ := h2
          have hS2 := hS1.keep (fun q₉ hq => f2₉ q₉ hq)
          have ey : y1 = y2 := e1₉.trans e2₉.symm
          rw [← ey]
          refine go_same (pc := 193) hF 681 dL_law_193 (by decide) ?_
          refine go_iinc (pc := 681) hF [(3, vi ((i₉ : Int) + 3)), (2, vr E 94), (1, vr E 0), (0, .ref b₉)] dL_law_681 0 rfl rfl (by decide) ?_
          refine go_goto (pc := 684) hF 18 dL_law_684 (by decide) ?_
          refine go_lvE [(3, vi ((i₉ + 3 : Nat) : Int)), (2, vr E 94), (1, vr E 0), (0, .ref b₉)] (by rw [show (i₉ : Int) + 3 = ((i₉ + 3 : Nat) : Int) by omega]) ?_
          exact ih₉ (i₉ + 3) r₉ u₉ kd pr yr yw yk yp hs tx tl t₉ (wr₉ (xb + 1)) xn xf q1₉ q2₉ q3₉ s2₉ (by omega) (by omega) ⟨⟨hrw, hu, hkd, hpr⟩, hhs, hyy, htl, htx, wr_rg _, hxn, hxf, hq1, hq2, hq3, hwf, hdp3, hl80, hl24⟩ hS2 hM2
      · rw [hv]
        refine go_tableIn (pc := 32) hF 198 dL_law_32 ⟨by decide, by decide⟩ (by decide) rfl (by decide) ?_
        rcases (show (2 ≤ x1₉ ∧ x1₉ ≤ 99) ∨ ¬ (2 ≤ x1₉ ∧ x1₉ ≤ 99) by omega) with hc₉ | hc₉
        · refine go_aload_n (pc := 198) hF dL_law_198 2 rfl ?_
          refine go_aloadR (pc := 199) hF dL_law_199 3 rfl ?_
          refine go_iload_n (pc := 200) hF dL_law_200 0 rfl ?_
          refine go_iconst (pc := 201) hF dL_law_201 ?_
          refine go_iadd (pc := 202) hF dL_law_202 ?_
          refine go_sld (pc := 203) hF hX hbl hbA ⟨by omega, by omega⟩ (by omega) dL_law_203 ?_
          rw [← hx1]
          refine go_callVI (pc := 204) hF [vi x1₉] [] mv_L_22 dL_law_204 (by decide) hS₉.1 (c_X10_price_ok E 120 τ r₉ u₉ kd pr yr yw yk yp hs tx tl t₉ xb xn xf q1₉ q2₉ q3₉ (by decide) hO hS₉ x1₉ hc₉) rfl rfl (Nat.le_of_ble_eq_true rfl) (by decide) ⟨Nat.le_of_ble_eq_true rfl, Nat.le_of_ble_eq_true rfl⟩ (fun y1 s1₉ h1 => ?_)
          obtain ⟨e1₉, hS1, f1₉⟩ := h1
          have hM1 := hM₉.keep (fun q₉ h1 _ => f1₉ q₉ h1)
          obtain ⟨_, _, _, _, _, _, _, _, _, _, _, _, _, zq, -⟩ := id hM1
          refine go_aload_n (pc := 207) hF dL_law_207 1 rfl ?_
          refine go_aloadR (pc := 208) hF dL_law_208 3 rfl ?_
          refine go_iload_n (pc := 209) hF dL_law_209 0 rfl ?_
          refine go_iconst (pc := 210) hF dL_law_210 ?_
          refine go_iadd (pc := 211) hF dL_law_211 ?_
          refine go_sld (pc := 212) hF hX hbl hbA ⟨by omega, by omega⟩ (by omega) dL_law_212 ?_
          rw [← hx1]
          refine go_callVI (pc := 213) hF [vi x1₉] [vi y1] mv_L_25 dL_law_213 (by decide) zq (c_X11_price_ok E 120 s1₉ r₉ u₉ kd pr yr yw yk yp hs tx tl t₉ xb xn xf q1₉ q2₉ q3₉ (by decide) hO hM1 x1₉ hc₉) rfl rfl (Nat.le_of_ble_eq_true rfl) (by decide) ⟨Nat.le_of_ble_eq_true rfl, Nat.le_of_ble_eq_true rfl⟩ (fun y2 s2₉ h2 => ?_)
          obtain ⟨e2₉, hM2, f2₉⟩ := h2
          have hS2 := hS1.keep (fun q₉ hq => f2₉ q₉ hq)
          have ey : y1 = y2 := e1₉.trans e2₉.symm
          rw [← ey]
          refine go_same (pc := 216) hF 681 dL_law_216 (by decide) ?_
          refine go_iinc (pc := 681) hF [(3, vi ((i₉ : Int) + 3)), (2, vr E 94), (1, vr E 0), (0, .ref b₉)] dL_law_681 0 rfl rfl (by decide) ?_
          refine go_goto (pc := 684) hF 18 dL_law_684 (by decide) ?_
          refine go_lvE [(3, vi ((i₉ + 3 : Nat) : Int)), (2, vr E 94), (1, vr E 0), (0, .ref b₉)] (by rw [show (i₉ : Int) + 3 = ((i₉ + 3 : Nat) : Int) by omega]) ?_
          exact ih₉ (i₉ + 3) r₉ u₉ kd x1₉ (psh yr r₉) (psh yw u₉) (psh yk kd) (psh yp pr) (min (hs + 1) 8) tx tl t₉ xb xn xf q1₉ q2₉ q3₉ s2₉ (by omega) (by omega) (okS_new hO ⟨hrw, hu, hkd, hc₉⟩) hS2 hM2
        · refine go_aload_n (pc := 198) hF dL_law_198 2 rfl ?_
          refine go_aloadR (pc := 199) hF dL_law_199 3 rfl ?_
          refine go_iload_n (pc := 200) hF dL_law_200 0 rfl ?_
          refine go_iconst (pc := 201) hF dL_law_201 ?_
          refine go_iadd (pc := 202) hF dL_law_202 ?_
          refine go_sld (pc := 203) hF hX hbl hbA ⟨by omega, by omega⟩ (by omega) dL_law_203 ?_
          rw [← hx1]
          refine go_callVI (pc := 204) hF [vi x1₉] [] mv_L_22 dL_law_204 (by decide) hS₉.1 (c_X10_price_bad E 120 τ r₉ u₉ kd pr yr yw yk yp hs tx tl t₉ xb xn xf q1₉ q2₉ q3₉ (by decide) hO hS₉ x1₉ rx1 hc₉) rfl rfl (Nat.le_of_ble_eq_true rfl) (by decide) ⟨Nat.le_of_ble_eq_true rfl, Nat.le_of_ble_eq_true rfl⟩ (fun y1 s1₉ h1 => ?_)
          obtain ⟨e1₉, hS1, f1₉⟩ := h1
          have hM1 := hM₉.keep (fun q₉ h1 _ => f1₉ q₉ h1)
          obtain ⟨_, _, _, _, _, _, _, _, _, _, _, _, _, zq, -⟩ := id hM1
          refine go_aload_n (pc := 207) hF dL_law_207 1 rfl ?_
          refine go_aloadR (pc := 208) hF dL_law_208 3 rfl ?_
          refine go_iload_n (pc := 209) hF dL_law_209 0 rfl ?_
          refine go_iconst (pc := 210) hF dL_law_210 ?_
          refine go_iadd (pc := 211) hF dL_law_211 ?_
          refine go_sld (pc := 212) hF hX hbl hbA ⟨by omega, by omega⟩ (by omega) dL_law_212 ?_
          rw [← hx1]
          refine go_callVI (pc := 213) hF [vi x1₉] [vi y1] mv_L_25 dL_law_213 (by decide) zq (c_X11_price_bad E 120 s1₉ r₉ u₉ kd pr yr yw yk yp hs tx tl t₉ xb xn xf q1₉ q2₉ q3₉ (by decide) hO hM1 x1₉ rx1 hc₉) rfl rfl (Nat.le_of_ble_eq_true rfl) (by decide) ⟨Nat.le_of_ble_eq_true rfl, Nat.le_of_ble_eq_true rfl⟩ (fun y2 s2₉ h2 => ?_)
          obtain ⟨e2₉, hM2, f2₉⟩ := h2
          have hS2 := hS1.keep (fun q₉ hq => f2₉ q₉ hq)
          have ey : y1 = y2 := e1₉.trans e2₉.symm
          rw [← ey]
          refine go_same (pc := 216) hF 681 dL_law_216 (by decide) ?_
          refine go_iinc (pc := 681) hF [(3, vi ((i₉ : Int) + 3)), (2, vr E 94), (1, vr E 0), (0, .ref b₉)] dL_law_681 0 rfl rfl (by decide) ?_
          refine go_goto (pc := 684) hF 18 dL_law_684 (by decide) ?_
          refine go_lvE [(3, vi ((i₉ + 3 : Nat) : Int)), (2, vr E 94), (1, vr E 0), (0, .ref b₉)] (by rw [show (i₉ : Int) + 3 = ((i₉ + 3 : Nat) : Int) by omega]) ?_
          exact ih₉ (i₉ + 3) r₉ u₉ kd pr yr yw yk yp hs tx tl t₉ (wr₉ (xb + 1)) xn xf q1₉ q2₉ q3₉ s2₉ (by omega) (by omega) ⟨⟨hrw, hu, hkd, hpr⟩, hhs, hyy, htl, htx, wr_rg _, hxn, hxf, hq1, hq2, hq3, hwf, hdp3, hl80, hl24⟩ hS2 hM2
      · rw [hv]
        refine go_tableIn (pc := 32) hF 221 dL_law_32 ⟨by decide, by decide⟩ (by decide) rfl (by decide) ?_
        refine go_aload_n (pc := 221) hF dL_law_221 2 rfl ?_
        refine go_callVI (pc := 222) hF [] [] mv_L_26 dL_law_222 (by decide) hS₉.1 (c_X10_empties E 120 τ r₉ u₉ kd pr yr yw yk yp hs tx tl t₉ xb xn xf q1₉ q2₉ q3₉ (by decide) hO hS₉ ) rfl rfl (Nat.le_of_ble_eq_true rfl) (by decide) ⟨Nat.le_of_ble_eq_true rfl, Nat.le_of_ble_eq_true rfl⟩ (fun y1 s1₉ h1 => ?_)
        obtain ⟨e1₉, hS1, f1₉⟩ := h1
        have hM1 := hM₉.keep (fun q₉ h1 _ => f1₉ q₉ h1)
        obtain ⟨_, _, _, _, _, _, _, _, _, _, _, _, _, zq, -⟩ := id hM1
        refine go_aload_n (pc := 225) hF dL_law_225 1 rfl ?_
        refine go_callVI (pc := 226) hF [] [vi y1] mv_L_30 dL_law_226 (by decide) zq (c_X11_empties E 120 s1₉ r₉ u₉ kd pr yr yw yk yp hs tx tl t₉ xb xn xf q1₉ q2₉ q3₉ (by decide) hO hM1 ) rfl rfl (Nat.le_of_ble_eq_true rfl) (by decide) ⟨Nat.le_of_ble_eq_true rfl, Nat.le_of_ble_eq_true rfl⟩ (fun y2 s2₉ h2 => ?_)
        obtain ⟨e2₉, hM2, f2₉⟩ := h2
        have hS2 := hS1.keep (fun q₉ hq => f2₉ q₉ hq)
        have ey : y1 = y2 := e1₉.trans e2₉.symm
        rw [← ey]
        refine go_same (pc := 229) hF 681 dL_law_229 (by decide) ?_
        refine go_iinc (pc := 681) hF [(3, vi ((i₉ : Int) + 3)), (2, vr E 94), (1, vr E 0), (0, .ref b₉)] dL_law_681 0 rfl rfl (by decide) ?_
        refine go_goto (pc := 684) hF 18 dL_law_684 (by decide) ?_
        refine go_lvE [(3, vi ((i₉ + 3 : Nat) : Int)), (2, vr E 94), (1, vr E 0), (0, .ref b₉)] (by rw [show (i₉ : Int) + 3 = ((i₉ + 3 : Nat) : Int) by omega]) ?_
        exact ih₉ (i₉ + 3) 0 u₉ kd pr (psh yr r₉) (psh yw u₉) (psh yk kd) (psh yp pr) (min (hs + 1) 8) tx tl t₉ xb xn xf q1₉ q2₉ q3₉ s2₉ (by omega) (by omega) (okS_new hO ⟨vrow_0 _, hu, hkd, hpr⟩) hS2 hM2
      · rw [hv]
        refine go_tableIn (pc := 32) hF 234 dL_law_32 ⟨by decide, by decide⟩ (by decide) rfl (by decide) ?_
        rcases (show (0 ≤ x1₉ ∧ x1₉ ≤ 5) ∨ ¬ (0 ≤ x1₉ ∧ x1₉ ≤ 5) by omega) with hc₉ | hc₉
        · refine go_aload_n (pc := 234) hF dL_law_234 2 rfl ?_
          refine go_aloadR (pc := 235) hF dL_law_235 3 rfl ?_
          refine go_iload_n (pc := 236) hF dL_law_236 0 rfl ?_
          refine go_iconst (pc := 237) hF dL_law_237 ?_
          refine go_iadd (pc := 238) hF dL_law_238 ?_
          refine go_sld (pc := 239) hF hX hbl hbA ⟨by omega, by omega⟩ (by omega) dL_law_239 ?_
          rw [← hx1]
          refine go_callVI (pc := 240) hF [vi x1₉] [] mv_L_31 dL_law_240 (by decide) hS₉.1 (c_X10_look_ok E 120 τ r₉ u₉ kd pr yr yw yk yp hs tx tl t₉ xb xn xf q1₉ q2₉ q3₉ (by decide) hO hS₉ x1₉ hc₉) rfl rfl (Nat.le_of_ble_eq_true rfl) (by decide) ⟨Nat.le_of_ble_eq_true rfl, Nat.le_of_ble_eq_true rfl⟩ (fun y1 s1₉ h1 => ?_)
          obtain ⟨e1₉, hS1, f1₉⟩ := h1
          have hM1 := hM₉.keep (fun q₉ h1 _ => f1₉ q₉ h1)
          obtain ⟨_, _, _, _, _, _, _, _, _, _, _, _, _, zq, -⟩ := id hM1
          refine go_aload_n (pc := 243) hF dL_law_243 1 rfl ?_
          refine go_aloadR (pc := 244) hF dL_law_244 3 rfl ?_
          refine go_iload_n (pc := 245) hF dL_law_245 0 rfl ?_
          refine go_iconst (pc := 246) hF dL_law_246 ?_
          refine go_iadd (pc := 247) hF dL_law_247 ?_
          refine go_sld (pc := 248) hF hX hbl hbA ⟨by omega, by omega⟩ (by omega) dL_law_248 ?_
          rw [← hx1]
          refine go_callVI (pc := 249) hF [vi x1₉] [vi y1] mv_L_34 dL_law_249 (by decide) zq (c_X11_look_ok E 120 s1₉ r₉ u₉ kd pr yr yw yk yp hs tx tl t₉ xb xn xf q1₉ q2₉ q3₉ (by decide) hO hM1 x1₉ hc₉) rfl rfl (Nat.le_of_ble_eq_true rfl) (by decide) ⟨Nat.le_of_ble_eq_true rfl, Nat.le_of_ble_eq_true rfl⟩ (fun y2 s2₉ h2 => ?_)
          obtain ⟨e2₉, hM2, f2₉⟩ := h2
          have hS2 := hS1.keep (fun q₉ hq => f2₉ q₉ hq)
          have ey : y1 = y2 := e1₉.trans e2₉.symm
          rw [← ey]
          refine go_same (pc := 252) hF 681 dL_law_252 (by decide) ?_
          refine go_iinc (pc := 681) hF [(3, vi ((i₉ : Int) + 3)), (2, vr E 94), (1, vr E 0), (0, .ref b₉)] dL_law_681 0 rfl rfl (by decide) ?_
          refine go_goto (pc := 684) hF 18 dL_law_684 (by decide) ?_
          refine go_lvE [(3, vi ((i₉ + 3 : Nat) : Int)), (2, vr E 94), (1, vr E 0), (0, .ref b₉)] (by rw [show (i₉ : Int) + 3 = ((i₉ + 3 : Nat) : Int) by omega]) ?_
          exact ih₉ (i₉ + 3) (mAfter r₉ x1₉ u₉ kd) u₉ kd pr (psh yr r₉) (psh yw u₉) (psh yk kd) (psh yp pr) (min (hs + 1) 8) tx tl t₉ xb xn xf q1₉ q2₉ q3₉ s2₉ (by omega) (by omega) (okS_new hO ⟨(row_ok hrw hc₉ hu hkd).2.2, hu, hkd, hpr⟩) hS2 hM2
        · refine go_aload_n (pc := 234) hF dL_law_234 2 rfl ?_
          refine go_aloadR (pc := 235) hF dL_law_235 3 rfl ?_
          refine go_iload_n (pc := 236) hF dL_law_236 0 rfl ?_
          refine go_iconst (pc := 237) hF dL_law_237 ?_
          refine go_iadd (pc := 238) hF dL_law_238 ?_
          refine go_sld (pc := 239) hF hX hbl hbA ⟨by omega, by omega⟩ (by omega) dL_law_239 ?_
          rw [← hx1]
          refine go_callVI (pc := 240) hF [vi x1₉] [] mv_L_31 dL_law_240 (by decide) hS₉.1 (c_X10_look_bad E 120 τ r₉ u₉ kd pr yr yw yk yp hs tx tl t₉ xb xn xf q1₉ q2₉ q3₉ (by decide) hO hS₉ x1₉ rx1 hc₉) rfl rfl (Nat.le_of_ble_eq_true rfl) (by decide) ⟨Nat.le_of_ble_eq_true rfl, Nat.le_of_ble_eq_true rfl⟩ (fun y1 s1₉ h1 => ?_)
          obtain ⟨e1₉, hS1, f1₉⟩ := h1
          have hM1 := hM₉.keep (fun q₉ h1 _ => f1₉ q₉ h1)
          obtain ⟨_, _, _, _, _, _, _, _, _, _, _, _, _, zq, -⟩ := id hM1
          refine go_aload_n (pc := 243) hF dL_law_243 1 rfl ?_
          refine go_aloadR (pc := 244) hF dL_law_244 3 rfl ?_
          refine go_iload_n (pc := 245) hF dL_law_245 0 rfl ?_
          refine go_iconst (pc := 246) hF dL_law_246 ?_
          refine go_iadd (pc := 247) hF dL_law_247 ?_
          refine go_sld (pc := 248) hF hX hbl hbA ⟨by omega, by omega⟩ (by omega) dL_law_248 ?_
          rw [← hx1]
          refine go_callVI (pc := 249) hF [vi x1₉] [vi y1] mv_L_34 dL_law_249 (by decide) zq (c_X11_look_bad E 120 s1₉ r₉ u₉ kd pr yr yw yk yp hs tx tl t₉ xb xn xf q1₉ q2₉ q3₉ (by decide) hO hM1 x1₉ rx1 hc₉) rfl rfl (Nat.le_of_ble_eq_true rfl) (by decide) ⟨Nat.le_of_ble_eq_true rfl, Nat.le_of_ble_eq_true rfl⟩ (fun y2 s2₉ h2 => ?_)
          obtain ⟨e2₉, hM2, f2₉⟩ := h2
          have hS2 := hS1.keep (fun q₉ hq => f2₉ q₉ hq)
          have ey : y1 = y2 := e1₉.trans e2₉.symm
          rw [← ey]
          refine go_same (pc := 252) hF 681 dL_law_252 (by decide) ?_
          refine go_iinc (pc := 681) hF [(3, vi ((i₉ : Int) + 3)), (2, vr E 94), (1, vr E 0), (0, .ref b₉)] dL_law_681 0 rfl rfl (by decide) ?_
          refine go_goto (pc := 684) hF 18 dL_law_684 (by decide) ?_
          refine go_lvE [(3, vi ((i₉ + 3 : Nat) : Int)), (2, vr E 94), (1, vr E 0), (0, .ref b₉)] (by rw [show (i₉ : Int) + 3 = ((i₉ + 3 : Nat) : Int) by omega]) ?_
          exact ih₉ (i₉ + 3) r₉ u₉ kd pr yr yw yk yp hs tx tl t₉ (wr₉ (xb + 1)) xn xf q1₉ q2₉ q3₉ s2₉ (by omega) (by omega) ⟨⟨hrw, hu, hkd, hpr⟩, hhs, hyy, htl, htx, wr_rg _, hxn, hxf, hq1, hq2, hq3, hwf, hdp3, hl80, hl24⟩ hS2 hM2
      · rw [hv]
        refine go_tableIn (pc := 32) hF 257 dL_law_32 ⟨by decide, by decide⟩ (by decide) rfl (by decide) ?_
        rcases (show 0 ≤ x1₉ ∨ x1₉ < 0 by omega) with hc₉ | hc₉
        · refine go_aload_n (pc := 257) hF dL_law_257 2 rfl ?_
          refine go_aloadR (pc := 258) hF dL_law_258 3 rfl ?_
          refine go_iload_n (pc := 259) hF dL_law_259 0 rfl ?_
          refine go_iconst (pc := 260) hF dL_law_260 ?_
          refine go_iadd (pc := 261) hF dL_law_261 ?_
          refine go_sld (pc := 262) hF hX hbl hbA ⟨by omega, by omega⟩ (by omega) dL_law_262 ?_
          rw [← hx1]
          refine go_callVI (pc := 263) hF [vi x1₉] [] mv_L_35 dL_law_263 (by decide) hS₉.1 (c_X10_held_ok E 120 τ r₉ u₉ kd pr yr yw yk yp hs tx tl t₉ xb xn xf q1₉ q2₉ q3₉ (by decide) hO hS₉ x1₉ rx1 hc₉) rfl rfl (Nat.le_of_ble_eq_true rfl) (by decide) ⟨Nat.le_of_ble_eq_true rfl, Nat.le_of_ble_eq_true rfl⟩ (fun y1 s1₉ h1 => ?_)
          obtain ⟨e1₉, hS1, f1₉⟩ := h1
          have hM1 := hM₉.keep (fun q₉ h1 _ => f1₉ q₉ h1)
          obtain ⟨_, _, _, _, _, _, _, _, _, _, _, _, _, zq, -⟩ := id hM1
          refine go_aload_n (pc := 266) hF dL_law_266 1 rfl ?_
          refine go_aloadR (pc := 267) hF dL_law_267 3 rfl ?_
          refine go_iload_n (pc := 268) hF dL_law_268 0 rfl ?_
          refine go_iconst (pc := 269) hF dL_law_269 ?_
          refine go_iadd (pc := 270) hF dL_law_270 ?_
          refine go_sld (pc := 271) hF hX hbl hbA ⟨by omega, by omega⟩ (by omega) dL_law_271 ?_
          rw [← hx1]
          refine go_callVI (pc := 272) hF [vi x1₉] [vi y1] mv_L_38 dL_law_272 (by decide) zq (c_X11_held_ok E 120 s1₉ r₉ u₉ kd pr yr yw yk yp hs tx tl t₉ xb xn xf q1₉ q2₉ q3₉ (by decide) hO hM1 x1₉ rx1 hc₉) rfl rfl (Nat.le_of_ble_eq_true rfl) (by decide) ⟨Nat.le_of_ble_eq_true rfl, Nat.le_of_ble_eq_true rfl⟩ (fun y2 s2₉ h2 => ?_)
          obtain ⟨e2₉, hM2, f2₉⟩ := h2
          have hS2 := hS1.keep (fun q₉ hq => f2₉ q₉ hq)
          have ey : y1 = y2 := e1₉.trans e2₉.symm
          rw [← ey]
          refine go_same (pc := 275) hF 681 dL_law_275 (by decide) ?_
          refine go_iinc (pc := 681) hF [(3, vi ((i₉ : Int) + 3)), (2, vr E 94), (1, vr E 0), (0, .ref b₉)] dL_law_681 0 rfl rfl (by decide) ?_
          refine go_goto (pc := 684) hF 18 dL_law_684 (by decide) ?_
          refine go_lvE [(3, vi ((i₉ + 3 : Nat) : Int)), (2, vr E 94), (1, vr E 0), (0, .ref b₉)] (by rw [show (i₉ : Int) + 3 = ((i₉ + 3 : Nat) : Int) by omega]) ?_
          exact ih₉ (i₉ + 3) r₉ u₉ kd pr yr yw yk yp hs tx tl t₉ xb xn xf q1₉ q2₉ q3₉ s2₉ (by omega) (by omega) hO hS2 hM2
        · refine go_aload_n (pc := 257) hF dL_law_257 2 rfl ?_
          refine go_aloadR (pc := 258) hF dL_law_258 3 rfl ?_
          refine go_iload_n (pc := 259) hF dL_law_259 0 rfl ?_
          refine go_iconst (pc := 260) hF dL_law_260 ?_
          refine go_iadd (pc := 261) hF dL_law_261 ?_
          refine go_sld (pc := 262) hF hX hbl hbA ⟨by omega, by omega⟩ (by omega) dL_law_262 ?_
          rw [← hx1]
          refine go_callVI (pc := 263) hF [vi x1₉] [] mv_L_35 dL_law_263 (by decide) hS₉.1 (c_X10_held_bad E 120 τ r₉ u₉ kd pr yr yw yk yp hs tx tl t₉ xb xn xf q1₉ q2₉ q3₉ (by decide) hO hS₉ x1₉ rx1 hc₉) rfl rfl (Nat.le_of_ble_eq_true rfl) (by decide) ⟨Nat.le_of_ble_eq_true rfl, Nat.le_of_ble_eq_true rfl⟩ (fun y1 s1₉ h1 => ?_)
          obtain ⟨e1₉, hS1, f1₉⟩ := h1
          have hM1 := hM₉.keep (fun q₉ h1 _ => f1₉ q₉ h1)
          obtain ⟨_, _, _, _, _, _, _, _, _, _, _, _, _, zq, -⟩ := id hM1
          refine go_aload_n (pc := 266) hF dL_law_266 1 rfl ?_
          refine go_aloadR (pc := 267) hF dL_law_267 3 rfl ?_
          refine go_iload_n (pc := 268) hF dL_law_268 0 rfl ?_
          refine go_iconst (pc := 269) hF dL_law_269 ?_
          refine go_iadd (pc := 270) hF dL_law_270 ?_
          refine go_sld (pc := 271) hF hX hbl hbA ⟨by omega, by omega⟩ (by omega) dL_law_271 ?_
          rw [← hx1]
          refine go_callVI (pc := 272) hF [vi x1₉] [vi y1] mv_L_38 dL_law_272 (by decide) zq (c_X11_held_bad E 120 s1₉ r₉ u₉ kd pr yr yw yk yp hs tx tl t₉ xb xn xf q1₉ q2₉ q3₉ (by decide) hO hM1 x1₉ rx1 hc₉) rfl rfl (Nat.le_of_ble_eq_true rfl) (by decide) ⟨Nat.le_of_ble_eq_true rfl, Nat.le_of_ble_eq_true rfl⟩ (fun y2 s2₉ h2 => ?_)
          obtain ⟨e2₉, hM2, f2₉⟩ := h2
          have hS2 := hS1.keep (fun q₉ hq => f2₉ q₉ hq)
          have ey : y1 = y2 := e1₉.trans e2₉.symm
          rw [← ey]
          refine go_same (pc := 275) hF 681 dL_law_275 (by decide) ?_
          refine go_iinc (pc := 681) hF [(3, vi ((i₉ : Int) + 3)), (2, vr E 94), (1, vr E 0), (0, .ref b₉)] dL_law_681 0 rfl rfl (by decide) ?_
          refine go_goto (pc := 684) hF 18 dL_law_684 (by decide) ?_
          refine go_lvE [(3, vi ((i₉ + 3 : Nat) : Int)), (2, vr E 94), (1, vr E 0), (0, .ref b₉)] (by rw [show (i₉ : Int) + 3 = ((i₉ + 3 : Nat) : Int) by omega]) ?_
          exact ih₉ (i₉ + 3) r₉ u₉ kd pr yr yw yk yp hs tx tl t₉ (wr₉ (xb + 1)) xn xf q1₉ q2₉ q3₉ s2₉ (by omega) (by omega) ⟨⟨hrw, hu, hkd, hpr⟩, hhs, hyy, htl, htx, wr_rg _, hxn, hxf, hq1, hq2, hq3, hwf, hdp3, hl80, hl24⟩ hS2 hM2
      · rw [hv]
        refine go_tableIn (pc := 32) hF 280 dL_law_32 ⟨by decide, by decide⟩ (by decide) rfl (by decide) ?_
        rcases (show ((0 ≤ x1₉ ∧ x1₉ ≤ 127) ∧ tl < 80) ∨ ((0 ≤ x1₉ ∧ x1₉ ≤ 127) ∧ tl = 80) ∨ ¬ (0 ≤ x1₉ ∧ x1₉ ≤ 127) by omega) with hc₉ | hc₉ | hc₉
        · refine go_aload_n (pc := 280) hF dL_law_280 2 rfl ?_
          refine go_aloadR (pc := 281) hF dL_law_281 3 rfl ?_
          refine go_iload_n (pc := 282) hF dL_law_282 0 rfl ?_
          refine go_iconst (pc := 283) hF dL_law_283 ?_
          refine go_iadd (pc := 284) hF dL_law_284 ?_
          refine go_sld (pc := 285) hF hX hbl hbA ⟨by omega, by omega⟩ (by omega) dL_law_285 ?_
          rw [← hx1]
          refine go_callVI (pc := 286) hF [vi x1₉] [] mv_L_39 dL_law_286 (by decide) hS₉.1 (c_X10_type_ok E 120 τ r₉ u₉ kd pr yr yw yk yp hs tx tl t₉ xb xn xf q1₉ q2₉ q3₉ (by decide) hO hS₉ x1₉ hc₉.1 hc₉.2) rfl rfl (Nat.le_of_ble_eq_true rfl) (by decide) ⟨Nat.le_of_ble_eq_true rfl, Nat.le_of_ble_eq_true rfl⟩ (fun y1 s1₉ h1 => ?_)
          obtain ⟨e1₉, hS1, f1₉⟩ := h1
          have hM1 := hM₉.keep (fun q₉ h1 _ => f1₉ q₉ h1)
          obtain ⟨_, _, _, _, _, _, _, _, _, _, _, _, _, zq, -⟩ := id hM1
          refine go_aload_n (pc := 289) hF dL_law_289 1 rfl ?_
          refine go_aloadR (pc := 290) hF dL_law_290 3 rfl ?_
          refine go_iload_n (pc := 291) hF dL_law_291 0 rfl ?_
          refine go_iconst (pc := 292) hF dL_law_292 ?_
          refine go_iadd (pc := 293) hF dL_law_293 ?_
          refine go_sld (pc := 294) hF hX hbl hbA ⟨by omega, by omega⟩ (by omega) dL_law_294 ?_
          rw [← hx1]
          refine go_callVI (pc := 295) hF [vi x1₉] [vi y1] mv_L_42 dL_law_295 (by decide) zq (c_X11_type_ok E 120 s1₉ r₉ u₉ kd pr yr yw yk yp hs tx tl t₉ xb xn xf q1₉ q2₉ q3₉ (by decide) hO hM1 x1₉ hc₉.1 hc₉.2) rfl rfl (Nat.le_of_ble_eq_true rfl) (by decide) ⟨Nat.le_of_ble_eq_true rfl, Nat.le_of_ble_eq_true rfl⟩ (fun y2 s2₉ h2 => ?_)
          obtain ⟨e2₉, hM2, f2₉⟩ := h2
          have hS2 := hS1.keep (fun q₉ hq => f2₉ q₉ hq)
          have ey : y1 = y2 := e1₉.trans e2₉.symm
          rw [← ey]
          refine go_same (pc := 298) hF 681 dL_law_298 (by decide) ?_
          refine go_iinc (pc := 681) hF [(3, vi ((i₉ : Int) + 3)), (2, vr E 94), (1, vr E 0), (0, .ref b₉)] dL_law_681 0 rfl rfl (by decide) ?_
          refine go_goto (pc := 684) hF 18 dL_law_684 (by decide) ?_
          refine go_lvE [(3, vi ((i₉ + 3 : Nat) : Int)), (2, vr E 94), (1, vr E 0), (0, .ref b₉)] (by rw [show (i₉ : Int) + 3 = ((i₉ + 3 : Nat) : Int) by omega]) ?_
          exact ih₉ (i₉ + 3) r₉ u₉ kd pr yr yw yk yp hs (up tx tl x1₉) (tl + 1) t₉ xb xn xf q1₉ q2₉ q3₉ s2₉ (by omega) (by omega) ⟨⟨hrw, hu, hkd, hpr⟩, hhs, hyy, by omega, txr htx hc₉.1, hxb, hxn, hxf, hq1, hq2, hq3, hwf, hdp3, hl80, hl24⟩ hS2 hM2
        · refine go_aload_n (pc := 280) hF dL_law_280 2 rfl ?_
          refine go_aloadR (pc := 281) hF dL_law_281 3 rfl ?_
          refine go_iload_n (pc := 282) hF dL_law_282 0 rfl ?_
          refine go_iconst (pc := 283) hF dL_law_283 ?_
          refine go_iadd (pc := 284) hF dL_law_284 ?_
          refine go_sld (pc := 285) hF hX hbl hbA ⟨by omega, by omega⟩ (by omega) dL_law_285 ?_
          rw [← hx1]
          refine go_callVI (pc := 286) hF [vi x1₉] [] mv_L_39 dL_law_286 (by decide) hS₉.1 (c_X10_type_full E 120 τ r₉ u₉ kd pr yr yw yk yp hs tx tl t₉ xb xn xf q1₉ q2₉ q3₉ (by decide) hO hS₉ x1₉ hc₉.1 hc₉.2) rfl rfl (Nat.le_of_ble_eq_true rfl) (by decide) ⟨Nat.le_of_ble_eq_true rfl, Nat.le_of_ble_eq_true rfl⟩ (fun y1 s1₉ h1 => ?_)
          obtain ⟨e1₉, hS1, f1₉⟩ := h1
          have hM1 := hM₉.keep (fun q₉ h1 _ => f1₉ q₉ h1)
          obtain ⟨_, _, _, _, _, _, _, _, _, _, _, _, _, zq, -⟩ := id hM1
          refine go_aload_n (pc := 289) hF dL_law_289 1 rfl ?_
          refine go_aloadR (pc := 290) hF dL_law_290 3 rfl ?_
          refine go_iload_n (pc := 291) hF dL_law_291 0 rfl ?_
          refine go_iconst (pc := 292) hF dL_law_292 ?_
          refine go_iadd (pc := 293) hF dL_law_293 ?_
          refine go_sld (pc := 294) hF hX hbl hbA ⟨by omega, by omega⟩ (by omega) dL_law_294 ?_
          rw [← hx1]
          refine go_callVI (pc := 295) hF [vi x1₉] [vi y1] mv_L_42 dL_law_295 (by decide) zq (c_X11_type_full E 120 s1₉ r₉ u₉ kd pr yr yw yk yp hs tx tl t₉ xb xn xf q1₉ q2₉ q3₉ (by decide) hO hM1 x1₉ hc₉.1 hc₉.2) rfl rfl (Nat.le_of_ble_eq_true rfl) (by decide) ⟨Nat.le_of_ble_eq_true rfl, Nat.le_of_ble_eq_true rfl⟩ (fun y2 s2₉ h2 => ?_)
          obtain ⟨e2₉, hM2, f2₉⟩ := h2
          have hS2 := hS1.keep (fun q₉ hq => f2₉ q₉ hq)
          have ey : y1 = y2 := e1₉.trans e2₉.symm
          rw [← ey]
          refine go_same (pc := 298) hF 681 dL_law_298 (by decide) ?_
          refine go_iinc (pc := 681) hF [(3, vi ((i₉ : Int) + 3)), (2, vr E 94), (1, vr E 0), (0, .ref b₉)] dL_law_681 0 rfl rfl (by decide) ?_
          refine go_goto (pc := 684) hF 18 dL_law_684 (by decide) ?_
          refine go_lvE [(3, vi ((i₉ + 3 : Nat) : Int)), (2, vr E 94), (1, vr E 0), (0, .ref b₉)] (by rw [show (i₉ : Int) + 3 = ((i₉ + 3 : Nat) : Int) by omega]) ?_
          exact ih₉ (i₉ + 3) r₉ u₉ kd pr yr yw yk yp hs tx tl t₉ xb xn (wr₉ (xf + 1)) q1₉ q2₉ q3₉ s2₉ (by omega) (by omega) ⟨⟨hrw, hu, hkd, hpr⟩, hhs, hyy, htl, htx, hxb, hxn, wr_rg _, hq1, hq2, hq3, hwf, hdp3, hl80, hl24⟩ hS2 hM2
        · refine go_aload_n (pc := 280) hF dL_law_280 2 rfl ?_
          refine go_aloadR (pc := 281) hF dL_law_281 3 rfl ?_
          refine go_iload_n (pc := 282) hF dL_law_282 0 rfl ?_
          refine go_iconst (pc := 283) hF dL_law_283 ?_
          refine go_iadd (pc := 284) hF dL_law_284 ?_
          refine go_sld (pc := 285) hF hX hbl hbA ⟨by omega, by omega⟩ (by omega) dL_law_285 ?_
          rw [← hx1]
          refine go_callVI (pc := 286) hF [vi x1₉] [] mv_L_39 dL_law_286 (by decide) hS₉.1 (c_X10_type_bad E 120 τ r₉ u₉ kd pr yr yw yk yp hs tx tl t₉ xb xn xf q1₉ q2₉ q3₉ (by decide) hO hS₉ x1₉ rx1 hc₉) rfl rfl (Nat.le_of_ble_eq_true rfl) (by decide) ⟨Nat.le_of_ble_eq_true rfl, Nat.le_of_ble_eq_true rfl⟩ (fun y1 s1₉ h1 => ?_)
          obtain ⟨e1₉, hS1, f1₉⟩ := h1
          have hM1 := hM₉.keep (fun q₉ h1 _ => f1₉ q₉ h1)
          obtain ⟨_, _, _, _, _, _, _, _, _, _, _, _, _, zq, -⟩ := id hM1
          refine go_aload_n (pc := 289) hF dL_law_289 1 rfl ?_
          refine go_aloadR (pc := 290) hF dL_law_290 3 rfl ?_
          refine go_iload_n (pc := 291) hF dL_law_291 0 rfl ?_
          refine go_iconst (pc := 292) hF dL_law_292 ?_
          refine go_iadd (pc := 293) hF dL_law_293 ?_
          refine go_sld (pc := 294) hF hX hbl hbA ⟨by omega, by omega⟩ (by omega) dL_law_294 ?_
          rw [← hx1]
          refine go_callVI (pc := 295) hF [vi x1₉] [vi y1] mv_L_42 dL_law_295 (by decide) zq (c_X11_type_bad E 120 s1₉ r₉ u₉ kd pr yr yw yk yp hs tx tl t₉ xb xn xf q1₉ q2₉ q3₉ (by decide) hO hM1 x1₉ rx1 hc₉) rfl rfl (Nat.le_of_ble_eq_true rfl) (by decide) ⟨Nat.le_of_ble_eq_true rfl, Nat.le_of_ble_eq_true rfl⟩ (fun y2 s2₉ h2 => ?_)
          obtain ⟨e2₉, hM2, f2₉⟩ := h2
          have hS2 := hS1.keep (fun q₉ hq => f2₉ q₉ hq)
          have ey : y1 = y2 := e1₉.trans e2₉.symm
          rw [← ey]
          refine go_same (pc := 298) hF 681 dL_law_298 (by decide) ?_
          refine go_iinc (pc := 681) hF [(3, vi ((i₉ : Int) + 3)), (2, vr E 94), (1, vr E 0), (0, .ref b₉)] dL_law_681 0 rfl rfl (by decide) ?_
          refine go_goto (pc := 684) hF 18 dL_law_684 (by decide) ?_
          refine go_lvE [(3, vi ((i₉ + 3 : Nat) : Int)), (2, vr E 94), (1, vr E 0), (0, .ref b₉)] (by rw [show (i₉ : Int) + 3 = ((i₉ + 3 : Nat) : Int) by omega]) ?_
          exact ih₉ (i₉ + 3) r₉ u₉ kd pr yr yw yk yp hs tx tl t₉ (wr₉ (xb + 1)) xn xf q1₉ q2₉ q3₉ s2₉ (by omega) (by omega) ⟨⟨hrw, hu, hkd, hpr⟩, hhs, hyy, htl, htx, wr_rg _, hxn, hxf, hq1, hq2, hq3, hwf, hdp3, hl80, hl24⟩ hS2 hM2
      · rw [hv]
        refine go_tableIn (pc := 32) hF 303 dL_law_32 ⟨by decide, by decide⟩ (by decide) rfl (by decide) ?_
        refine go_aload_n (pc := 303) hF dL_law_303 2 rfl ?_
        refine go_callVI (pc := 304) hF [] [] mv_L_43 dL_law_304 (by decide) hS₉.1 (c_X10_clear E 120 τ r₉ u₉ kd pr yr yw yk yp hs tx tl t₉ xb xn xf q1₉ q2₉ q3₉ (by decide) hO hS₉ ) rfl rfl (Nat.le_of_ble_eq_true rfl) (by decide) ⟨Nat.le_of_ble_eq_true rfl, Nat.le_of_ble_eq_true rfl⟩ (fun y1 s1₉ h1 => ?_)
        obtain ⟨e1₉, hS1, f1₉⟩ := h1
        have hM1 := hM₉.keep (fun q₉ h1 _ => f1₉ q₉ h1)
        obtain ⟨_, _, _, _, _, _, _, _, _, _, _, _, _, zq, -⟩ := id hM1
        refine go_aload_n (pc := 307) hF dL_law_307 1 rfl ?_
        refine go_callVI (pc := 308) hF [] [vi y1] mv_L_46 dL_law_308 (by decide) zq (c_X11_clear E 120 s1₉ r₉ u₉ kd pr yr yw yk yp hs tx tl t₉ xb xn xf q1₉ q2₉ q3₉ (by decide) hO hM1 ) rfl rfl (Nat.le_of_ble_eq_true rfl) (by decide) ⟨Nat.le_of_ble_eq_true rfl, Nat.le_of_ble_eq_true rfl⟩ (fun y2 s2₉ h2 => ?_)
        obtain ⟨e2₉, hM2, f2₉⟩ := h2
        have hS2 := hS1.keep (fun q₉ hq => f2₉ q₉ hq)
        have ey : y1 = y2 := e1₉.trans e2₉.symm
        rw [← ey]
        refine go_same (pc := 311) hF 681 dL_law_311 (by decide) ?_
        refine go_iinc (pc := 681) hF [(3, vi ((i₉ : Int) + 3)), (2, vr E 94), (1, vr E 0), (0, .ref b₉)] dL_law_681 0 rfl rfl (by decide) ?_
        refine go_goto (pc := 684) hF 18 dL_law_684 (by decide) ?_
        refine go_lvE [(3, vi ((i₉ + 3 : Nat) : Int)), (2, vr E 94), (1, vr E 0), (0, .ref b₉)] (by rw [show (i₉ : Int) + 3 = ((i₉ + 3 : Nat) : Int) by omega]) ?_
        exact ih₉ (i₉ + 3) r₉ u₉ kd pr yr yw yk yp hs tx 0 t₉ xb xn xf q1₉ q2₉ q3₉ s2₉ (by omega) (by omega) ⟨⟨hrw, hu, hkd, hpr⟩, hhs, hyy, by omega, fun z₉ z0 z1 => absurd z1 (by omega), hxb, hxn, hxf, hq1, hq2, hq3, hwf, hdp3, hl80, hl24⟩ hS2 hM2
      · rw [hv]
        refine go_tableIn (pc := 32) hF 316 dL_law_32 ⟨by decide, by decide⟩ (by decide) rfl (by decide) ?_
        rcases (show zEnd tx tl = -1 ∨ zEnd tx tl ≠ -1 by omega) with hc₉ | hc₉
        · refine go_aload_n (pc := 316) hF dL_law_316 2 rfl ?_
          obtain ⟨t9, hz9⟩ := zEnd_yes htl.1 hc₉
          refine go_callVI (pc := 317) hF [] [] mv_L_47 dL_law_317 (by decide) hS₉.1 (c_X10_reads_yes E 120 τ r₉ u₉ kd pr yr yw yk yp hs tx tl t₉ xb xn xf q1₉ q2₉ q3₉ (by decide) hO hS₉ t9 hz9 hc₉) rfl rfl (Nat.le_of_ble_eq_true rfl) (by decide) ⟨Nat.le_of_ble_eq_true rfl, Nat.le_of_ble_eq_true rfl⟩ (fun y1 s1₉ h1 => ?_)
          obtain ⟨e1₉, hS1, f1₉⟩ := h1
          have hM1 := hM₉.keep (fun q₉ h1 _ => f1₉ q₉ h1)
          obtain ⟨_, _, _, _, _, _, _, _, _, _, _, _, _, zq, -⟩ := id hM1
          have ht9 := hS1.tree
          refine go_aload_n (pc := 320) hF dL_law_320 1 rfl ?_
          refine go_callVI (pc := 321) hF [] [vi y1] mv_L_50 dL_law_321 (by decide) zq (c_X11_reads_yes E 120 s1₉ r₉ u₉ kd pr yr yw yk yp hs tx tl t₉ xb xn xf q1₉ q2₉ q3₉ (by decide) hO hM1 t9 hz9 hc₉ ht9.1 ht9.2.1 ht9.2.2.1) rfl rfl (Nat.le_of_ble_eq_true rfl) (by decide) ⟨Nat.le_of_ble_eq_true rfl, Nat.le_of_ble_eq_true rfl⟩ (fun y2 s2₉ h2 => ?_)
          obtain ⟨e2₉, hM2, f2₉⟩ := h2
          have hS2 := hS1.keep (fun q₉ hq => f2₉ q₉ hq)
          have ey : y1 = y2 := e1₉.trans e2₉.symm
          rw [← ey]
          refine go_same (pc := 324) hF 681 dL_law_324 (by decide) ?_
          refine go_iinc (pc := 681) hF [(3, vi ((i₉ : Int) + 3)), (2, vr E 94), (1, vr E 0), (0, .ref b₉)] dL_law_681 0 rfl rfl (by decide) ?_
          refine go_goto (pc := 684) hF 18 dL_law_684 (by decide) ?_
          refine go_lvE [(3, vi ((i₉ + 3 : Nat) : Int)), (2, vr E 94), (1, vr E 0), (0, .ref b₉)] (by rw [show (i₉ : Int) + 3 = ((i₉ + 3 : Nat) : Int) by omega]) ?_
          exact ih₉ (i₉ + 3) r₉ u₉ kd pr yr yw yk yp hs tx tl t9 xb xn xf q1₉ q2₉ q3₉ s2₉ (by omega) (by omega) ⟨⟨hrw, hu, hkd, hpr⟩, hhs, hyy, htl, htx, hxb, hxn, hxf, hq1, hq2, hq3, ht9.1, ht9.2.1, ht9.2.2.1, ht9.2.2.2⟩ hS2 hM2
        · refine go_aload_n (pc := 316) hF dL_law_316 2 rfl ?_
          refine go_callVI (pc := 317) hF [] [] mv_L_47 dL_law_317 (by decide) hS₉.1 (c_X10_reads_no E 120 τ r₉ u₉ kd pr yr yw yk yp hs tx tl t₉ xb xn xf q1₉ q2₉ q3₉ (by decide) hO hS₉ hc₉) rfl rfl (Nat.le_of_ble_eq_true rfl) (by decide) ⟨Nat.le_of_ble_eq_true rfl, Nat.le_of_ble_eq_true rfl⟩ (fun y1 s1₉ h1 => ?_)
          obtain ⟨e1₉, hS1, f1₉⟩ := h1
          have hM1 := hM₉.keep (fun q₉ h1 _ => f1₉ q₉ h1)
          obtain ⟨_, _, _, _, _, _, _, _, _, _, _, _, _, zq, -⟩ := id hM1
          refine go_aload_n (pc := 320) hF dL_law_320 1 rfl ?_
          refine go_callVI (pc := 321) hF [] [vi y1] mv_L_50 dL_law_321 (by decide) zq (c_X11_reads_no E 120 s1₉ r₉ u₉ kd pr yr yw yk yp hs tx tl t₉ xb xn xf q1₉ q2₉ q3₉ (by decide) hO hM1 hc₉) rfl rfl (Nat.le_of_ble_eq_true rfl) (by decide) ⟨Nat.le_of_ble_eq_true rfl, Nat.le_of_ble_eq_true rfl⟩ (fun y2 s2₉ h2 => ?_)
          obtain ⟨e2₉, hM2, f2₉⟩ := h2
          have hS2 := hS1.keep (fun q₉ hq => f2₉ q₉ hq)
          have ey : y1 = y2 := e1₉.trans e2₉.symm
          rw [← ey]
          refine go_same (pc := 324) hF 681 dL_law_324 (by decide) ?_
          refine go_iinc (pc := 681) hF [(3, vi ((i₉ : Int) + 3)), (2, vr E 94), (1, vr E 0), (0, .ref b₉)] dL_law_681 0 rfl rfl (by decide) ?_
          refine go_goto (pc := 684) hF 18 dL_law_684 (by decide) ?_
          refine go_lvE [(3, vi ((i₉ + 3 : Nat) : Int)), (2, vr E 94), (1, vr E 0), (0, .ref b₉)] (by rw [show (i₉ : Int) + 3 = ((i₉ + 3 : Nat) : Int) by omega]) ?_
          exact ih₉ (i₉ + 3) r₉ u₉ kd pr yr yw yk yp hs tx tl t₉ xb xn xf q1₉ q2₉ q3₉ s2₉ (by omega) (by omega) hO hS2 hM2
      · rw [hv]
        refine go_tableIn (pc := 32) hF 329 dL_law_32 ⟨by decide, by decide⟩ (by decide) rfl (by decide) ?_
        rcases (show (0 ≤ x1₉ ∧ x1₉ ≤ 4) ∨ ¬ (0 ≤ x1₉ ∧ x1₉ ≤ 4) by omega) with hc₉ | hc₉
        · refine go_aload_n (pc := 329) hF dL_law_329 2 rfl ?_
          refine go_aloadR (pc := 330) hF dL_law_330 3 rfl ?_
          refine go_iload_n (pc := 331) hF dL_law_331 0 rfl ?_
          refine go_iconst (pc := 332) hF dL_law_332 ?_
          refine go_iadd (pc := 333) hF dL_law_333 ?_
          refine go_sld (pc := 334) hF hX hbl hbA ⟨by omega, by omega⟩ (by omega) dL_law_334 ?_
          rw [← hx1]
          refine go_callVI (pc := 335) hF [vi x1₉] [] mv_L_51 dL_law_335 (by decide) hS₉.1 (c_X10_told_ok E 120 τ r₉ u₉ kd pr yr yw yk yp hs tx tl t₉ xb xn xf q1₉ q2₉ q3₉ (by decide) hO hS₉ x1₉ hc₉) rfl rfl (Nat.le_of_ble_eq_true rfl) (by decide) ⟨Nat.le_of_ble_eq_true rfl, Nat.le_of_ble_eq_true rfl⟩ (fun y1 s1₉ h1 => ?_)
          obtain ⟨e1₉, hS1, f1₉⟩ := h1
          have hM1 := hM₉.keep (fun q₉ h1 _ => f1₉ q₉ h1)
          obtain ⟨_, _, _, _, _, _, _, _, _, _, _, _, _, zq, -⟩ := id hM1
          refine go_aload_n (pc := 338) hF dL_law_338 1 rfl ?_
          refine go_aloadR (pc := 339) hF dL_law_339 3 rfl ?_
          refine go_iload_n (pc := 340) hF dL_law_340 0 rfl ?_
          refine go_iconst (pc := 341) hF dL_law_341 ?_
          refine go_iadd (pc := 342) hF dL_law_342 ?_
          refine go_sld (pc := 343) hF hX hbl hbA ⟨by omega, by omega⟩ (by omega) dL_law_343 ?_
          rw [← hx1]
          refine go_callVI (pc := 344) hF [vi x1₉] [vi y1] mv_L_54 dL_law_344 (by decide) zq (c_X11_told_ok E 120 s1₉ r₉ u₉ kd pr yr yw yk yp hs tx tl t₉ xb xn xf q1₉ q2₉ q3₉ (by decide) hO hM1 x1₉ hc₉) rfl rfl (Nat.le_of_ble_eq_true rfl) (by decide) ⟨Nat.le_of_ble_eq_true rfl, Nat.le_of_ble_eq_true rfl⟩ (fun y2 s2₉ h2 => ?_)
          obtain ⟨e2₉, hM2, f2₉⟩ := h2
          have hS2 := hS1.keep (fun q₉ hq => f2₉ q₉ hq)
          have ey : y1 = y2 := e1₉.trans e2₉.symm
          rw [← ey]
          refine go_same (pc := 347) hF 681 dL_law_347 (by decide) ?_
          refine go_iinc (pc := 681) hF [(3, vi ((i₉ : Int) + 3)), (2, vr E 94), (1, vr E 0), (0, .ref b₉)] dL_law_681 0 rfl rfl (by decide) ?_
          refine go_goto (pc := 684) hF 18 dL_law_684 (by decide) ?_
          refine go_lvE [(3, vi ((i₉ + 3 : Nat) : Int)), (2, vr E 94), (1, vr E 0), (0, .ref b₉)] (by rw [show (i₉ : Int) + 3 = ((i₉ + 3 : Nat) : Int) by omega]) ?_
          exact ih₉ (i₉ + 3) r₉ u₉ kd pr yr yw yk yp hs tx tl t₉ xb xn xf q1₉ q2₉ q3₉ s2₉ (by omega) (by omega) hO hS2 hM2
        · refine go_aload_n (pc := 329) hF dL_law_329 2 rfl ?_
          refine go_aloadR (pc := 330) hF dL_law_330 3 rfl ?_
          refine go_iload_n (pc := 331) hF dL_law_331 0 rfl ?_
          refine go_iconst (pc := 332) hF dL_law_332 ?_
          refine go_iadd (pc := 333) hF dL_law_333 ?_
          refine go_sld (pc := 334) hF hX hbl hbA ⟨by omega, by omega⟩ (by omega) dL_law_334 ?_
          rw [← hx1]
          refine go_callVI (pc := 335) hF [vi x1₉] [] mv_L_51 dL_law_335 (by decide) hS₉.1 (c_X10_told_bad E 120 τ r₉ u₉ kd pr yr yw yk yp hs tx tl t₉ xb xn xf q1₉ q2₉ q3₉ (by decide) hO hS₉ x1₉ rx1 hc₉) rfl rfl (Nat.le_of_ble_eq_true rfl) (by decide) ⟨Nat.le_of_ble_eq_true rfl, Nat.le_of_ble_eq_true rfl⟩ (fun y1 s1₉ h1 => ?_)
          obtain ⟨e1₉, hS1, f1₉⟩ := h1
          have hM1 := hM₉.keep (fun q₉ h1 _ => f1₉ q₉ h1)
          obtain ⟨_, _, _, _, _, _, _, _, _, _, _, _, _, zq, -⟩ := id hM1
          refine go_aload_n (pc := 338) hF dL_law_338 1 rfl ?_
          refine go_aloadR (pc := 339) hF dL_law_339 3 rfl ?_
          refine go_iload_n (pc := 340) hF dL_law_340 0 rfl ?_
          refine go_iconst (pc := 341) hF dL_law_341 ?_
          refine go_iadd (pc := 342) hF dL_law_342 ?_
          refine go_sld (pc := 343) hF hX hbl hbA ⟨by omega, by omega⟩ (by omega) dL_law_343 ?_
          rw [← hx1]
          refine go_callVI (pc := 344) hF [vi x1₉] [vi y1] mv_L_54 dL_law_344 (by decide) zq (c_X11_told_bad E 120 s1₉ r₉ u₉ kd pr yr yw yk yp hs tx tl t₉ xb xn xf q1₉ q2₉ q3₉ (by decide) hO hM1 x1₉ rx1 hc₉) rfl rfl (Nat.le_of_ble_eq_true rfl) (by decide) ⟨Nat.le_of_ble_eq_true rfl, Nat.le_of_ble_eq_true rfl⟩ (fun y2 s2₉ h2 => ?_)
          obtain ⟨e2₉, hM2, f2₉⟩ := h2
          have hS2 := hS1.keep (fun q₉ hq => f2₉ q₉ hq)
          have ey : y1 = y2 := e1₉.trans e2₉.symm
          rw [← ey]
          refine go_same (pc := 347) hF 681 dL_law_347 (by decide) ?_
          refine go_iinc (pc := 681) hF [(3, vi ((i₉ : Int) + 3)), (2, vr E 94), (1, vr E 0), (0, .ref b₉)] dL_law_681 0 rfl rfl (by decide) ?_
          refine go_goto (pc := 684) hF 18 dL_law_684 (by decide) ?_
          refine go_lvE [(3, vi ((i₉ + 3 : Nat) : Int)), (2, vr E 94), (1, vr E 0), (0, .ref b₉)] (by rw [show (i₉ : Int) + 3 = ((i₉ + 3 : Nat) : Int) by omega]) ?_
          exact ih₉ (i₉ + 3) r₉ u₉ kd pr yr yw yk yp hs tx tl t₉ (wr₉ (xb + 1)) xn xf q1₉ q2₉ q3₉ s2₉ (by omega) (by omega) ⟨⟨hrw, hu, hkd, hpr⟩, hhs, hyy, htl, htx, wr_rg _, hxn, hxf, hq1, hq2, hq3, hwf, hdp3, hl80, hl24⟩ hS2 hM2
      · rw [hv]
        refine go_tableIn (pc := 32) hF 352 dL_law_32 ⟨by decide, by decide⟩ (by decide) rfl (by decide) ?_
        rcases (show ((0 ≤ x1₉ ∧ x1₉ ≤ tLks t₉ - 1) ∧ 0 ≤ x2₉ ∧ x2₉ ≤ 5) ∨ ¬ ((0 ≤ x1₉ ∧ x1₉ ≤ tLks t₉ - 1) ∧ 0 ≤ x2₉ ∧ x2₉ ≤ 5) by omega) with hc₉ | hc₉
        · refine go_aload_n (pc := 352) hF dL_law_352 2 rfl ?_
          refine go_aloadR (pc := 353) hF dL_law_353 3 rfl ?_
          refine go_iload_n (pc := 354) hF dL_law_354 0 rfl ?_
          refine go_iconst (pc := 355) hF dL_law_355 ?_
          refine go_iadd (pc := 356) hF dL_law_356 ?_
          refine go_sld (pc := 357) hF hX hbl hbA ⟨by omega, by omega⟩ (by omega) dL_law_357 ?_
          rw [← hx1]
          refine go_aloadR (pc := 358) hF dL_law_358 3 rfl ?_
          refine go_iload_n (pc := 359) hF dL_law_359 0 rfl ?_
          refine go_iconst (pc := 360) hF dL_law_360 ?_
          refine go_iadd (pc := 361) hF dL_law_361 ?_
          refine go_sld (pc := 362) hF hX hbl hbA ⟨by omega, by omega⟩ (by omega) dL_law_362 ?_
          rw [← hx2]
          refine go_callVI (pc := 363) hF [vi x1₉, vi x2₉] [] mv_L_55 dL_law_363 (by decide) hS₉.1 (c_X10_of_ok E 120 τ r₉ u₉ kd pr yr yw yk yp hs tx tl t₉ xb xn xf q1₉ q2₉ q3₉ (by decide) hO hS₉ x1₉ x2₉ hc₉.1 hc₉.2) rfl rfl (Nat.le_of_ble_eq_true rfl) (by decide) ⟨Nat.le_of_ble_eq_true rfl, Nat.le_of_ble_eq_true rfl⟩ (fun y1 s1₉ h1 => ?_)
          obtain ⟨e1₉, hS1, f1₉⟩ := h1
          have hM1 := hM₉.keep (fun q₉ h1 _ => f1₉ q₉ h1)
          obtain ⟨_, _, _, _, _, _, _, _, _, _, _, _, _, zq, -⟩ := id hM1
          refine go_aload_n (pc := 366) hF dL_law_366 1 rfl ?_
          refine go_aloadR (pc := 367) hF dL_law_367 3 rfl ?_
          refine go_iload_n (pc := 368) hF dL_law_368 0 rfl ?_
          refine go_iconst (pc := 369) hF dL_law_369 ?_
          refine go_iadd (pc := 370) hF dL_law_370 ?_
          refine go_sld (pc := 371) hF hX hbl hbA ⟨by omega, by omega⟩ (by omega) dL_law_371 ?_
          rw [← hx1]
          refine go_aloadR (pc := 372) hF dL_law_372 3 rfl ?_
          refine go_iload_n (pc := 373) hF dL_law_373 0 rfl ?_
          refine go_iconst (pc := 374) hF dL_law_374 ?_
          refine go_iadd (pc := 375) hF dL_law_375 ?_
          refine go_sld (pc := 376) hF hX hbl hbA ⟨by omega, by omega⟩ (by omega) dL_law_376 ?_
          rw [← hx2]
          refine go_callVI (pc := 377) hF [vi x1₉, vi x2₉] [vi y1] mv_L_59 dL_law_377 (by decide) zq (c_X11_of_ok E 120 s1₉ r₉ u₉ kd pr yr yw yk yp hs tx tl t₉ xb xn xf q1₉ q2₉ q3₉ (by decide) hO hM1 x1₉ x2₉ hc₉.1 hc₉.2) rfl rfl (Nat.le_of_ble_eq_true rfl) (by decide) ⟨Nat.le_of_ble_eq_true rfl, Nat.le_of_ble_eq_true rfl⟩ (fun y2 s2₉ h2 => ?_)
          obtain ⟨e2₉, hM2, f2₉⟩ := h2
          have hS2 := hS1.keep (fun q₉ hq => f2₉ q₉ hq)
          have ey : y1 = y2 := e1₉.trans e2₉.symm
          rw [← ey]
          refine go_same (pc := 380) hF 681 dL_law_380 (by decide) ?_
          refine go_iinc (pc := 681) hF [(3, vi ((i₉ : Int) + 3)), (2, vr E 94), (1, vr E 0), (0, .ref b₉)] dL_law_681 0 rfl rfl (by decide) ?_
          refine go_goto (pc := 684) hF 18 dL_law_684 (by decide) ?_
          refine go_lvE [(3, vi ((i₉ + 3 : Nat) : Int)), (2, vr E 94), (1, vr E 0), (0, .ref b₉)] (by rw [show (i₉ : Int) + 3 = ((i₉ + 3 : Nat) : Int) by omega]) ?_
          exact ih₉ (i₉ + 3) r₉ u₉ kd pr yr yw yk yp hs tx tl t₉ xb xn xf q1₉ q2₉ q3₉ s2₉ (by omega) (by omega) hO hS2 hM2
        · refine go_aload_n (pc := 352) hF dL_law_352 2 rfl ?_
          refine go_aloadR (pc := 353) hF dL_law_353 3 rfl ?_
          refine go_iload_n (pc := 354) hF dL_law_354 0 rfl ?_
          refine go_iconst (pc := 355) hF dL_law_355 ?_
          refine go_iadd (pc := 356) hF dL_law_356 ?_
          refine go_sld (pc := 357) hF hX hbl hbA ⟨by omega, by omega⟩ (by omega) dL_law_357 ?_
          rw [← hx1]
          refine go_aloadR (pc := 358) hF dL_law_358 3 rfl ?_
          refine go_iload_n (pc := 359) hF dL_law_359 0 rfl ?_
          refine go_iconst (pc := 360) hF dL_law_360 ?_
          refine go_iadd (pc := 361) hF dL_law_361 ?_
          refine go_sld (pc := 362) hF hX hbl hbA ⟨by omega, by omega⟩ (by omega) dL_law_362 ?_
          rw [← hx2]
          refine go_callVI (pc := 363) hF [vi x1₉, vi x2₉] [] mv_L_55 dL_law_363 (by decide) hS₉.1 (c_X10_of_bad E 120 τ r₉ u₉ kd pr yr yw yk yp hs tx tl t₉ xb xn xf q1₉ q2₉ q3₉ (by decide) hO hS₉ x1₉ x2₉ rx1 rx2 hc₉) rfl rfl (Nat.le_of_ble_eq_true rfl) (by decide) ⟨Nat.le_of_ble_eq_true rfl, Nat.le_of_ble_eq_true rfl⟩ (fun y1 s1₉ h1 => ?_)
          obtain ⟨e1₉, hS1, f1₉⟩ := h1
          have hM1 := hM₉.keep (fun q₉ h1 _ => f1₉ q₉ h1)
          obtain ⟨_, _, _, _, _, _, _, _, _, _, _, _, _, zq, -⟩ := id hM1
          refine go_aload_n (pc := 366) hF dL_law_366 1 rfl ?_
          refine go_aloadR (pc := 367) hF dL_law_367 3 rfl ?_
          refine go_iload_n (pc := 368) hF dL_law_368 0 rfl ?_
          refine go_iconst (pc := 369) hF dL_law_369 ?_
          refine go_iadd (pc := 370) hF dL_law_370 ?_
          refine go_sld (pc := 371) hF hX hbl hbA ⟨by omega, by omega⟩ (by omega) dL_law_371 ?_
          rw [← hx1]
          refine go_aloadR (pc := 372) hF dL_law_372 3 rfl ?_
          refine go_iload_n (pc := 373) hF dL_law_373 0 rfl ?_
          refine go_iconst (pc := 374) hF dL_law_374 ?_
          refine go_iadd (pc := 375) hF dL_law_375 ?_
          refine go_sld (pc := 376) hF hX hbl hbA ⟨by omega, by omega⟩ (by omega) dL_law_376 ?_
          rw [← hx2]
          refine go_callVI (pc := 377) hF [vi x1₉, vi x2₉] [vi y1] mv_L_59 dL_law_377 (by decide) zq (c_X11_of_bad E 120 s1₉ r₉ u₉ kd pr yr yw yk yp hs tx tl t₉ xb xn xf q1₉ q2₉ q3₉ (by decide) hO hM1 x1₉ x2₉ rx1 rx2 hc₉) rfl rfl (Nat.le_of_ble_eq_true rfl) (by decide) ⟨Nat.le_of_ble_eq_true rfl, Nat.le_of_ble_eq_true rfl⟩ (fun y2 s2₉ h2 => ?_)
          obtain ⟨e2₉, hM2, f2₉⟩ := h2
          have hS2 := hS1.keep (fun q₉ hq => f2₉ q₉ hq)
          have ey : y1 = y2 := e1₉.trans e2₉.symm
          rw [← ey]
          refine go_same (pc := 380) hF 681 dL_law_380 (by decide) ?_
          refine go_iinc (pc := 681) hF [(3, vi ((i₉ : Int) + 3)), (2, vr E 94), (1, vr E 0), (0, .ref b₉)] dL_law_681 0 rfl rfl (by decide) ?_
          refine go_goto (pc := 684) hF 18 dL_law_684 (by decide) ?_
          refine go_lvE [(3, vi ((i₉ + 3 : Nat) : Int)), (2, vr E 94), (1, vr E 0), (0, .ref b₉)] (by rw [show (i₉ : Int) + 3 = ((i₉ + 3 : Nat) : Int) by omega]) ?_
          exact ih₉ (i₉ + 3) r₉ u₉ kd pr yr yw yk yp hs tx tl t₉ (wr₉ (xb + 1)) xn xf q1₉ q2₉ q3₉ s2₉ (by omega) (by omega) ⟨⟨hrw, hu, hkd, hpr⟩, hhs, hyy, htl, htx, wr_rg _, hxn, hxf, hq1, hq2, hq3, hwf, hdp3, hl80, hl24⟩ hS2 hM2
      · rw [hv]
        refine go_tableIn (pc := 32) hF 385 dL_law_32 ⟨by decide, by decide⟩ (by decide) rfl (by decide) ?_
        rcases (show (0 ≤ x1₉ ∧ x1₉ ≤ 3) ∨ ¬ (0 ≤ x1₉ ∧ x1₉ ≤ 3) by omega) with hc₉ | hc₉
        · refine go_aload_n (pc := 385) hF dL_law_385 2 rfl ?_
          refine go_aloadR (pc := 386) hF dL_law_386 3 rfl ?_
          refine go_iload_n (pc := 387) hF dL_law_387 0 rfl ?_
          refine go_iconst (pc := 388) hF dL_law_388 ?_
          refine go_iadd (pc := 389) hF dL_law_389 ?_
          refine go_sld (pc := 390) hF hX hbl hbA ⟨by omega, by omega⟩ (by omega) dL_law_390 ?_
          rw [← hx1]
          refine go_callVI (pc := 391) hF [vi x1₉] [] mv_L_60 dL_law_391 (by decide) hS₉.1 (c_X10_sure_ok E 120 τ r₉ u₉ kd pr yr yw yk yp hs tx tl t₉ xb xn xf q1₉ q2₉ q3₉ (by decide) hO hS₉ x1₉ hc₉) rfl rfl (Nat.le_of_ble_eq_true rfl) (by decide) ⟨Nat.le_of_ble_eq_true rfl, Nat.le_of_ble_eq_true rfl⟩ (fun y1 s1₉ h1 => ?_)
          obtain ⟨e1₉, hS1, f1₉⟩ := h1
          have hM1 := hM₉.keep (fun q₉ h1 _ => f1₉ q₉ h1)
          obtain ⟨_, _, _, _, _, _, _, _, _, _, _, _, _, zq, -⟩ := id hM1
          refine go_aload_n (pc := 394) hF dL_law_394 1 rfl ?_
          refine go_aloadR (pc := 395) hF dL_law_395 3 rfl ?_
          refine go_iload_n (pc := 396) hF dL_law_396 0 rfl ?_
          refine go_iconst (pc := 397) hF dL_law_397 ?_
          refine go_iadd (pc := 398) hF dL_law_398 ?_
          refine go_sld (pc := 399) hF hX hbl hbA ⟨by omega, by omega⟩ (by omega) dL_law_399 ?_
          rw [← hx1]
          refine go_callVI (pc := 400) hF [vi x1₉] [vi y1] mv_L_63 dL_law_400 (by decide) zq (c_X11_sure_ok E 120 s1₉ r₉ u₉ kd pr yr yw yk yp hs tx tl t₉ xb xn xf q1₉ q2₉ q3₉ (by decide) hO hM1 x1₉ hc₉) rfl rfl (Nat.le_of_ble_eq_true rfl) (by decide) ⟨Nat.le_of_ble_eq_true rfl, Nat.le_of_ble_eq_true rfl⟩ (fun y2 s2₉ h2 => ?_)
          obtain ⟨e2₉, hM2, f2₉⟩ := h2
          have hS2 := hS1.keep (fun q₉ hq => f2₉ q₉ hq)
          have ey : y1 = y2 := e1₉.trans e2₉.symm
          rw [← ey]
          refine go_same (pc := 403) hF 681 dL_law_403 (by decide) ?_
          refine go_iinc (pc := 681) hF [(3, vi ((i₉ : Int) + 3)), (2, vr E 94), (1, vr E 0), (0, .ref b₉)] dL_law_681 0 rfl rfl (by decide) ?_
          refine go_goto (pc := 684) hF 18 dL_law_684 (by decide) ?_
          refine go_lvE [(3, vi ((i₉ + 3 : Nat) : Int)), (2, vr E 94), (1, vr E 0), (0, .ref b₉)] (by rw [show (i₉ : Int) + 3 = ((i₉ + 3 : Nat) : Int) by omega]) ?_
          exact ih₉ (i₉ + 3) r₉ u₉ kd pr yr yw yk yp hs tx tl t₉ xb xn xf q1₉ q2₉ q3₉ s2₉ (by omega) (by omega) hO hS2 hM2
        · refine go_aload_n (pc := 385) hF dL_law_385 2 rfl ?_
          refine go_aloadR (pc := 386) hF dL_law_386 3 rfl ?_
          refine go_iload_n (pc := 387) hF dL_law_387 0 rfl ?_
          refine go_iconst (pc := 388) hF dL_law_388 ?_
          refine go_iadd (pc := 389) hF dL_law_389 ?_
          refine go_sld (pc := 390) hF hX hbl hbA ⟨by omega, by omega⟩ (by omega) dL_law_390 ?_
          rw [← hx1]
          refine go_callVI (pc := 391) hF [vi x1₉] [] mv_L_60 dL_law_391 (by decide) hS₉.1 (c_X10_sure_bad E 120 τ r₉ u₉ kd pr yr yw yk yp hs tx tl t₉ xb xn xf q1₉ q2₉ q3₉ (by decide) hO hS₉ x1₉ rx1 hc₉) rfl rfl (Nat.le_of_ble_eq_true rfl) (by decide) ⟨Nat.le_of_ble_eq_true rfl, Nat.le_of_ble_eq_true rfl⟩ (fun y1 s1₉ h1 => ?_)
          obtain ⟨e1₉, hS1, f1₉⟩ := h1
          have hM1 := hM₉.keep (fun q₉ h1 _ => f1₉ q₉ h1)
          obtain ⟨_, _, _, _, _, _, _, _, _, _, _, _, _, zq, -⟩ := id hM1
          refine go_aload_n (pc := 394) hF dL_law_394 1 rfl ?_
          refine go_aloadR (pc := 395) hF dL_law_395 3 rfl ?_
          refine go_iload_n (pc := 396) hF dL_law_396 0 rfl ?_
          refine go_iconst (pc := 397) hF dL_law_397 ?_
          refine go_iadd (pc := 398) hF dL_law_398 ?_
          refine go_sld (pc := 399) hF hX hbl hbA ⟨by omega, by omega⟩ (by omega) dL_law_399 ?_
          rw [← hx1]
          refine go_callVI (pc := 400) hF [vi x1₉] [vi y1] mv_L_63 dL_law_400 (by decide) zq (c_X11_sure_bad E 120 s1₉ r₉ u₉ kd pr yr yw yk yp hs tx tl t₉ xb xn xf q1₉ q2₉ q3₉ (by decide) hO hM1 x1₉ rx1 hc₉) rfl rfl (Nat.le_of_ble_eq_true rfl) (by decide) ⟨Nat.le_of_ble_eq_true rfl, Nat.le_of_ble_eq_true rfl⟩ (fun y2 s2₉ h2 => ?_)
          obtain ⟨e2₉, hM2, f2₉⟩ := h2
          have hS2 := hS1.keep (fun q₉ hq => f2₉ q₉ hq)
          have ey : y1 = y2 := e1₉.trans e2₉.symm
          rw [← ey]
          refine go_same (pc := 403) hF 681 dL_law_403 (by decide) ?_
          refine go_iinc (pc := 681) hF [(3, vi ((i₉ : Int) + 3)), (2, vr E 94), (1, vr E 0), (0, .ref b₉)] dL_law_681 0 rfl rfl (by decide) ?_
          refine go_goto (pc := 684) hF 18 dL_law_684 (by decide) ?_
          refine go_lvE [(3, vi ((i₉ + 3 : Nat) : Int)), (2, vr E 94), (1, vr E 0), (0, .ref b₉)] (by rw [show (i₉ : Int) + 3 = ((i₉ + 3 : Nat) : Int) by omega]) ?_
          exact ih₉ (i₉ + 3) r₉ u₉ kd pr yr yw yk yp hs tx tl t₉ (wr₉ (xb + 1)) xn xf q1₉ q2₉ q3₉ s2₉ (by omega) (by omega) ⟨⟨hrw, hu, hkd, hpr⟩, hhs, hyy, htl, htx, wr_rg _, hxn, hxf, hq1, hq2, hq3, hwf, hdp3, hl80, hl24⟩ hS2 hM2
      · rw [hv]
        refine go_tableIn (pc := 32) hF 408 dL_law_32 ⟨by decide, by decide⟩ (by decide) rfl (by decide) ?_
        rcases (show ((0 ≤ x1₉ ∧ x1₉ ≤ 1) ∧ 0 ≤ x2₉ ∧ x2₉ ≤ 5) ∨ ¬ ((0 ≤ x1₉ ∧ x1₉ ≤ 1) ∧ 0 ≤ x2₉ ∧ x2₉ ≤ 5) by omega) with hc₉ | hc₉
        · refine go_aload_n (pc := 408) hF dL_law_408 2 rfl ?_
          refine go_aloadR (pc := 409) hF dL_law_409 3 rfl ?_
          refine go_iload_n (pc := 410) hF dL_law_410 0 rfl ?_
          refine go_iconst (pc := 411) hF dL_law_411 ?_
          refine go_iadd (pc := 412) hF dL_law_412 ?_
          refine go_sld (pc := 413) hF hX hbl hbA ⟨by omega, by omega⟩ (by omega) dL_law_413 ?_
          rw [← hx1]
          refine go_aloadR (pc := 414) hF dL_law_414 3 rfl ?_
          refine go_iload_n (pc := 415) hF dL_law_415 0 rfl ?_
          refine go_iconst (pc := 416) hF dL_law_416 ?_
          refine go_iadd (pc := 417) hF dL_law_417 ?_
          refine go_sld (pc := 418) hF hX hbl hbA ⟨by omega, by omega⟩ (by omega) dL_law_418 ?_
          rw [← hx2]
          refine go_callVI (pc := 419) hF [vi x1₉, vi x2₉] [] mv_L_64 dL_law_419 (by decide) hS₉.1 (c_X10_behind_ok E 120 τ r₉ u₉ kd pr yr yw yk yp hs tx tl t₉ xb xn xf q1₉ q2₉ q3₉ (by decide) hO hS₉ x1₉ x2₉ hc₉.1 hc₉.2) rfl rfl (Nat.le_of_ble_eq_true rfl) (by decide) ⟨Nat.le_of_ble_eq_true rfl, Nat.le_of_ble_eq_true rfl⟩ (fun y1 s1₉ h1 => ?_)
          obtain ⟨e1₉, hS1, f1₉⟩ := h1
          have hM1 := hM₉.keep (fun q₉ h1 _ => f1₉ q₉ h1)
          obtain ⟨_, _, _, _, _, _, _, _, _, _, _, _, _, zq, -⟩ := id hM1
          refine go_aload_n (pc := 422) hF dL_law_422 1 rfl ?_
          refine go_aloadR (pc := 423) hF dL_law_423 3 rfl ?_
          refine go_iload_n (pc := 424) hF dL_law_424 0 rfl ?_
          refine go_iconst (pc := 425) hF dL_law_425 ?_
          refine go_iadd (pc := 426) hF dL_law_426 ?_
          refine go_sld (pc := 427) hF hX hbl hbA ⟨by omega, by omega⟩ (by omega) dL_law_427 ?_
          rw [← hx1]
          refine go_aloadR (pc := 428) hF dL_law_428 3 rfl ?_
          refine go_iload_n (pc := 429) hF dL_law_429 0 rfl ?_
          refine go_iconst (pc := 430) hF dL_law_430 ?_
          refine go_iadd (pc := 431) hF dL_law_431 ?_
          refine go_sld (pc := 432) hF hX hbl hbA ⟨by omega, by omega⟩ (by omega) dL_law_432 ?_
          rw [← hx2]
          refine go_callVI (pc := 433) hF [vi x1₉, vi x2₉] [vi y1] mv_L_67 dL_law_433 (by decide) zq (c_X11_behind_ok E 120 s1₉ r₉ u₉ kd pr yr yw yk yp hs tx tl t₉ xb xn xf q1₉ q2₉ q3₉ (by decide) hO hM1 x1₉ x2₉ hc₉.1 hc₉.2) rfl rfl (Nat.le_of_ble_eq_true rfl) (by decide) ⟨Nat.le_of_ble_eq_true rfl, Nat.le_of_ble_eq_true rfl⟩ (fun y2 s2₉ h2 => ?_)
          obtain ⟨e2₉, hM2, f2₉⟩ := h2
          have hS2 := hS1.keep (fun q₉ hq => f2₉ q₉ hq)
          have ey : y1 = y2 := e1₉.trans e2₉.symm
          rw [← ey]
          refine go_same (pc := 436) hF 681 dL_law_436 (by decide) ?_
          refine go_iinc (pc := 681) hF [(3, vi ((i₉ : Int) + 3)), (2, vr E 94), (1, vr E 0), (0, .ref b₉)] dL_law_681 0 rfl rfl (by decide) ?_
          refine go_goto (pc := 684) hF 18 dL_law_684 (by decide) ?_
          refine go_lvE [(3, vi ((i₉ + 3 : Nat) : Int)), (2, vr E 94), (1, vr E 0), (0, .ref b₉)] (by rw [show (i₉ : Int) + 3 = ((i₉ + 3 : Nat) : Int) by omega]) ?_
          exact ih₉ (i₉ + 3) r₉ u₉ kd pr yr yw yk yp hs tx tl t₉ xb xn xf q1₉ q2₉ q3₉ s2₉ (by omega) (by omega) hO hS2 hM2
        · refine go_aload_n (pc := 408) hF dL_law_408 2 rfl ?_
          refine go_aloadR (pc := 409) hF dL_law_409 3 rfl ?_
          refine go_iload_n (pc := 410) hF dL_law_410 0 rfl ?_
          refine go_iconst (pc := 411) hF dL_law_411 ?_
          refine go_iadd (pc := 412) hF dL_law_412 ?_
          refine go_sld (pc := 413) hF hX hbl hbA ⟨by omega, by omega⟩ (by omega) dL_law_413 ?_
          rw [← hx1]
          refine go_aloadR (pc := 414) hF dL_law_414 3 rfl ?_
          refine go_iload_n (pc := 415) hF dL_law_415 0 rfl ?_
          refine go_iconst (pc := 416) hF dL_law_416 ?_
          refine go_iadd (pc := 417) hF dL_law_417 ?_
          refine go_sld (pc := 418) hF hX hbl hbA ⟨by omega, by omega⟩ (by omega) dL_law_418 ?_
          rw [← hx2]
          refine go_callVI (pc := 419) hF [vi x1₉, vi x2₉] [] mv_L_64 dL_law_419 (by decide) hS₉.1 (c_X10_behind_bad E 120 τ r₉ u₉ kd pr yr yw yk yp hs tx tl t₉ xb xn xf q1₉ q2₉ q3₉ (by decide) hO hS₉ x1₉ x2₉ rx1 rx2 hc₉) rfl rfl (Nat.le_of_ble_eq_true rfl) (by decide) ⟨Nat.le_of_ble_eq_true rfl, Nat.le_of_ble_eq_true rfl⟩ (fun y1 s1₉ h1 => ?_)
          obtain ⟨e1₉, hS1, f1₉⟩ := h1
          have hM1 := hM₉.keep (fun q₉ h1 _ => f1₉ q₉ h1)
          obtain ⟨_, _, _, _, _, _, _, _, _, _, _, _, _, zq, -⟩ := id hM1
          refine go_aload_n (pc := 422) hF dL_law_422 1 rfl ?_
          refine go_aloadR (pc := 423) hF dL_law_423 3 rfl ?_
          refine go_iload_n (pc := 424) hF dL_law_424 0 rfl ?_
          refine go_iconst (pc := 425) hF dL_law_425 ?_
          refine go_iadd (pc := 426) hF dL_law_426 ?_
          refine go_sld (pc := 427) hF hX hbl hbA ⟨by omega, by omega⟩ (by omega) dL_law_427 ?_
          rw [← hx1]
          refine go_aloadR (pc := 428) hF dL_law_428 3 rfl ?_
          refine go_iload_n (pc := 429) hF dL_law_429 0 rfl ?_
          refine go_iconst (pc := 430) hF dL_law_430 ?_
          refine go_iadd (pc := 431) hF dL_law_431 ?_
          refine go_sld (pc := 432) hF hX hbl hbA ⟨by omega, by omega⟩ (by omega) dL_law_432 ?_
          rw [← hx2]
          refine go_callVI (pc := 433) hF [vi x1₉, vi x2₉] [vi y1] mv_L_67 dL_law_433 (by decide) zq (c_X11_behind_bad E 120 s1₉ r₉ u₉ kd pr yr yw yk yp hs tx tl t₉ xb xn xf q1₉ q2₉ q3₉ (by decide) hO hM1 x1₉ x2₉ rx1 rx2 hc₉) rfl rfl (Nat.le_of_ble_eq_true rfl) (by decide) ⟨Nat.le_of_ble_eq_true rfl, Nat.le_of_ble_eq_true rfl⟩ (fun y2 s2₉ h2 => ?_)
          obtain ⟨e2₉, hM2, f2₉⟩ := h2
          have hS2 := hS1.keep (fun q₉ hq => f2₉ q₉ hq)
          have ey : y1 = y2 := e1₉.trans e2₉.symm
          rw [← ey]
          refine go_same (pc := 436) hF 681 dL_law_436 (by decide) ?_
          refine go_iinc (pc := 681) hF [(3, vi ((i₉ : Int) + 3)), (2, vr E 94), (1, vr E 0), (0, .ref b₉)] dL_law_681 0 rfl rfl (by decide) ?_
          refine go_goto (pc := 684) hF 18 dL_law_684 (by decide) ?_
          refine go_lvE [(3, vi ((i₉ + 3 : Nat) : Int)), (2, vr E 94), (1, vr E 0), (0, .ref b₉)] (by rw [show (i₉ : Int) + 3 = ((i₉ + 3 : Nat) : Int) by omega]) ?_
          exact ih₉ (i₉ + 3) r₉ u₉ kd pr yr yw yk yp hs tx tl t₉ (wr₉ (xb + 1)) xn xf q1₉ q2₉ q3₉ s2₉ (by omega) (by omega) ⟨⟨hrw, hu, hkd, hpr⟩, hhs, hyy, htl, htx, wr_rg _, hxn, hxf, hq1, hq2, hq3, hwf, hdp3, hl80, hl24⟩ hS2 hM2
      · rw [hv]
        refine go_tableIn (pc := 32) hF 441 dL_law_32 ⟨by decide, by decide⟩ (by decide) rfl (by decide) ?_
        refine go_aload_n (pc := 441) hF dL_law_441 2 rfl ?_
        refine go_callVI (pc := 442) hF [] [] mv_L_68 dL_law_442 (by decide) hS₉.1 (c_X10_upper E 120 τ r₉ u₉ kd pr yr yw yk yp hs tx tl t₉ xb xn xf q1₉ q2₉ q3₉ (by decide) hO hS₉ ) rfl rfl (Nat.le_of_ble_eq_true rfl) (by decide) ⟨Nat.le_of_ble_eq_true rfl, Nat.le_of_ble_eq_true rfl⟩ (fun y1 s1₉ h1 => ?_)
        obtain ⟨e1₉, hS1, f1₉⟩ := h1
        have hM1 := hM₉.keep (fun q₉ h1 _ => f1₉ q₉ h1)
        obtain ⟨_, _, _, _, _, _, _, _, _, _, _, _, _, zq, -⟩ := id hM1
        refine go_aload_n (pc := 445) hF dL_law_445 1 rfl ?_
        refine go_callVI (pc := 446) hF [] [vi y1] mv_L_71 dL_law_446 (by decide) zq (c_X11_upper E 120 s1₉ r₉ u₉ kd pr yr yw yk yp hs tx tl t₉ xb xn xf q1₉ q2₉ q3₉ (by decide) hO hM1 ) rfl rfl (Nat.le_of_ble_eq_true rfl) (by decide) ⟨Nat.le_of_ble_eq_true rfl, Nat.le_of_ble_eq_true rfl⟩ (fun y2 s2₉ h2 => ?_)
        obtain ⟨e2₉, hM2, f2₉⟩ := h2
        have hS2 := hS1.keep (fun q₉ hq => f2₉ q₉ hq)
        have ey : y1 = y2 := e1₉.trans e2₉.symm
        rw [← ey]
        refine go_same (pc := 449) hF 681 dL_law_449 (by decide) ?_
        refine go_iinc (pc := 681) hF [(3, vi ((i₉ : Int) + 3)), (2, vr E 94), (1, vr E 0), (0, .ref b₉)] dL_law_681 0 rfl rfl (by decide) ?_
        refine go_goto (pc := 684) hF 18 dL_law_684 (by decide) ?_
        refine go_lvE [(3, vi ((i₉ + 3 : Nat) : Int)), (2, vr E 94), (1, vr E 0), (0, .ref b₉)] (by rw [show (i₉ : Int) + 3 = ((i₉ + 3 : Nat) : Int) by omega]) ?_
        exact ih₉ (i₉ + 3) r₉ u₉ kd pr yr yw yk yp hs tx tl t₉ xb xn xf q1₉ q2₉ q3₉ s2₉ (by omega) (by omega) hO hS2 hM2
      · rw [hv]
        refine go_tableIn (pc := 32) hF 454 dL_law_32 ⟨by decide, by decide⟩ (by decide) rfl (by decide) ?_
        refine go_aload_n (pc := 454) hF dL_law_454 2 rfl ?_
        refine go_callVI (pc := 455) hF [] [] mv_L_72 dL_law_455 (by decide) hS₉.1 (c_X10_lower E 120 τ r₉ u₉ kd pr yr yw yk yp hs tx tl t₉ xb xn xf q1₉ q2₉ q3₉ (by decide) hO hS₉ ) rfl rfl (Nat.le_of_ble_eq_true rfl) (by decide) ⟨Nat.le_of_ble_eq_true rfl, Nat.le_of_ble_eq_true rfl⟩ (fun y1 s1₉ h1 => ?_)
        obtain ⟨e1₉, hS1, f1₉⟩ := h1
        have hM1 := hM₉.keep (fun q₉ h1 _ => f1₉ q₉ h1)
        obtain ⟨_, _, _, _, _, _, _, _, _, _, _, _, _, zq, -⟩ := id hM1
        refine go_aload_n (pc := 458) hF dL_law_458 1 rfl ?_
        refine go_callVI (pc := 459) hF [] [vi y1] mv_L_75 dL_law_459 (by decide) zq (c_X11_lower E 120 s1₉ r₉ u₉ kd pr yr yw yk yp hs tx tl t₉ xb xn xf q1₉ q2₉ q3₉ (by decide) hO hM1 ) rfl rfl (Nat.le_of_ble_eq_true rfl) (by decide) ⟨Nat.le_of_ble_eq_true rfl, Nat.le_of_ble_eq_true rfl⟩ (fun y2 s2₉ h2 => ?_)
        obtain ⟨e2₉, hM2, f2₉⟩ := h2
        have hS2 := hS1.keep (fun q₉ hq => f2₉ q₉ hq)
        have ey : y1 = y2 := e1₉.trans e2₉.symm
        rw [← ey]
        refine go_same (pc := 462) hF 681 dL_law_462 (by decide) ?_
        refine go_iinc (pc := 681) hF [(3, vi ((i₉ : Int) + 3)), (2, vr E 94), (1, vr E 0), (0, .ref b₉)] dL_law_681 0 rfl rfl (by decide) ?_
        refine go_goto (pc := 684) hF 18 dL_law_684 (by decide) ?_
        refine go_lvE [(3, vi ((i₉ + 3 : Nat) : Int)), (2, vr E 94), (1, vr E 0), (0, .ref b₉)] (by rw [show (i₉ : Int) + 3 = ((i₉ + 3 : Nat) : Int) by omega]) ?_
        exact ih₉ (i₉ + 3) r₉ u₉ kd pr yr yw yk yp hs tx tl t₉ xb xn xf q1₉ q2₉ q3₉ s2₉ (by omega) (by omega) hO hS2 hM2
      · rw [hv]
        refine go_tableIn (pc := 32) hF 467 dL_law_32 ⟨by decide, by decide⟩ (by decide) rfl (by decide) ?_
        refine go_aload_n (pc := 467) hF dL_law_467 2 rfl ?_
        refine go_callVI (pc := 468) hF [] [] mv_L_76 dL_law_468 (by decide) hS₉.1 (c_X10_worst E 120 τ r₉ u₉ kd pr yr yw yk yp hs tx tl t₉ xb xn xf q1₉ q2₉ q3₉ (by decide) hO hS₉ ) rfl rfl (Nat.le_of_ble_eq_true rfl) (by decide) ⟨Nat.le_of_ble_eq_true rfl, Nat.le_of_ble_eq_true rfl⟩ (fun y1 s1₉ h1 => ?_)
        obtain ⟨e1₉, hS1, f1₉⟩ := h1
        have hM1 := hM₉.keep (fun q₉ h1 _ => f1₉ q₉ h1)
        obtain ⟨_, _, _, _, _, _, _, _, _, _, _, _, _, zq, -⟩ := id hM1
        refine go_aload_n (pc := 471) hF dL_law_471 1 rfl ?_
        refine go_callVI (pc := 472) hF [] [vi y1] mv_L_79 dL_law_472 (by decide) zq (c_X11_worst E 120 s1₉ r₉ u₉ kd pr yr yw yk yp hs tx tl t₉ xb xn xf q1₉ q2₉ q3₉ (by decide) hO hM1 ) rfl rfl (Nat.le_of_ble_eq_true rfl) (by decide) ⟨Nat.le_of_ble_eq_true rfl, Nat.le_of_ble_eq_true rfl⟩ (fun y2 s2₉ h2 => ?_)
        obtain ⟨e2₉, hM2, f2₉⟩ := h2
        have hS2 := hS1.keep (fun q₉ hq => f2₉ q₉ hq)
        have ey : y1 = y2 := top_eq e1₉ e2₉
        rw [← ey]
        refine go_same (pc := 475) hF 681 dL_law_475 (by decide) ?_
        refine go_iinc (pc := 681) hF [(3, vi ((i₉ : Int) + 3)), (2, vr E 94), (1, vr E 0), (0, .ref b₉)] dL_law_681 0 rfl rfl (by decide) ?_
        refine go_goto (pc := 684) hF 18 dL_law_684 (by decide) ?_
        refine go_lvE [(3, vi ((i₉ + 3 : Nat) : Int)), (2, vr E 94), (1, vr E 0), (0, .ref b₉)] (by rw [show (i₉ : Int) + 3 = ((i₉ + 3 : Nat) : Int) by omega]) ?_
        exact ih₉ (i₉ + 3) r₉ u₉ kd pr yr yw yk yp hs tx tl t₉ xb xn xf q1₉ q2₉ q3₉ s2₉ (by omega) (by omega) hO hS2 hM2
      · rw [hv]
        refine go_tableIn (pc := 32) hF 480 dL_law_32 ⟨by decide, by decide⟩ (by decide) rfl (by decide) ?_
        refine go_aload_n (pc := 480) hF dL_law_480 2 rfl ?_
        refine go_callVI (pc := 481) hF [] [] mv_L_80 dL_law_481 (by decide) hS₉.1 (c_X10_best E 120 τ r₉ u₉ kd pr yr yw yk yp hs tx tl t₉ xb xn xf q1₉ q2₉ q3₉ (by decide) hO hS₉ ) rfl rfl (Nat.le_of_ble_eq_true rfl) (by decide) ⟨Nat.le_of_ble_eq_true rfl, Nat.le_of_ble_eq_true rfl⟩ (fun y1 s1₉ h1 => ?_)
        obtain ⟨e1₉, hS1, f1₉⟩ := h1
        have hM1 := hM₉.keep (fun q₉ h1 _ => f1₉ q₉ h1)
        obtain ⟨_, _, _, _, _, _, _, _, _, _, _, _, _, zq, -⟩ := id hM1
        refine go_aload_n (pc := 484) hF dL_law_484 1 rfl ?_
        refine go_callVI (pc := 485) hF [] [vi y1] mv_L_83 dL_law_485 (by decide) zq (c_X11_best E 120 s1₉ r₉ u₉ kd pr yr yw yk yp hs tx tl t₉ xb xn xf q1₉ q2₉ q3₉ (by decide) hO hM1 ) rfl rfl (Nat.le_of_ble_eq_true rfl) (by decide) ⟨Nat.le_of_ble_eq_true rfl, Nat.le_of_ble_eq_true rfl⟩ (fun y2 s2₉ h2 => ?_)
        obtain ⟨e2₉, hM2, f2₉⟩ := h2
        have hS2 := hS1.keep (fun q₉ hq => f2₉ q₉ hq)
        have ey : y1 = y2 := bot_eq e1₉ e2₉
        rw [← ey]
        refine go_same (pc := 488) hF 681 dL_law_488 (by decide) ?_
        refine go_iinc (pc := 681) hF [(3, vi ((i₉ : Int) + 3)), (2, vr E 94), (1, vr E 0), (0, .ref b₉)] dL_law_681 0 rfl rfl (by decide) ?_
        refine go_goto (pc := 684) hF 18 dL_law_684 (by decide) ?_
        refine go_lvE [(3, vi ((i₉ + 3 : Nat) : Int)), (2, vr E 94), (1, vr E 0), (0, .ref b₉)] (by rw [show (i₉ : Int) + 3 = ((i₉ + 3 : Nat) : Int) by omega]) ?_
        exact ih₉ (i₉ + 3) r₉ u₉ kd pr yr yw yk yp hs tx tl t₉ xb xn xf q1₉ q2₉ q3₉ s2₉ (by omega) (by omega) hO hS2 hM2
      · rw [hv]
        refine go_tableIn (pc := 32) hF 493 dL_law_32 ⟨by decide, by decide⟩ (by decide) rfl (by decide) ?_
        refine go_aload_n (pc := 493) hF dL_law_493 2 rfl ?_
        refine go_callVI (pc := 494) hF [] [] mv_L_84 dL_law_494 (by decide) hS₉.1 (c_X10_ends E 120 τ r₉ u₉ kd pr yr yw yk yp hs tx tl t₉ xb xn xf q1₉ q2₉ q3₉ (by decide) hO hS₉ ) rfl rfl (Nat.le_of_ble_eq_true rfl) (by decide) ⟨Nat.le_of_ble_eq_true rfl, Nat.le_of_ble_eq_true rfl⟩ (fun y1 s1₉ h1 => ?_)
        obtain ⟨e1₉, hS1, f1₉⟩ := h1
        have hM1 := hM₉.keep (fun q₉ h1 _ => f1₉ q₉ h1)
        obtain ⟨_, _, _, _, _, _, _, _, _, _, _, _, _, zq, -⟩ := id hM1
        refine go_aload_n (pc := 497) hF dL_law_497 1 rfl ?_
        refine go_callVI (pc := 498) hF [] [vi y1] mv_L_87 dL_law_498 (by decide) zq (c_X11_ends E 120 s1₉ r₉ u₉ kd pr yr yw yk yp hs tx tl t₉ xb xn xf q1₉ q2₉ q3₉ (by decide) hO hM1 ) rfl rfl (Nat.le_of_ble_eq_true rfl) (by decide) ⟨Nat.le_of_ble_eq_true rfl, Nat.le_of_ble_eq_true rfl⟩ (fun y2 s2₉ h2 => ?_)
        obtain ⟨e2₉, hM2, f2₉⟩ := h2
        have hS2 := hS1.keep (fun q₉ hq => f2₉ q₉ hq)
        have ey : y1 = y2 := cnt_eq e1₉ e2₉
        rw [← ey]
        refine go_same (pc := 501) hF 681 dL_law_501 (by decide) ?_
        refine go_iinc (pc := 681) hF [(3, vi ((i₉ : Int) + 3)), (2, vr E 94), (1, vr E 0), (0, .ref b₉)] dL_law_681 0 rfl rfl (by decide) ?_
        refine go_goto (pc := 684) hF 18 dL_law_684 (by decide) ?_
        refine go_lvE [(3, vi ((i₉ + 3 : Nat) : Int)), (2, vr E 94), (1, vr E 0), (0, .ref b₉)] (by rw [show (i₉ : Int) + 3 = ((i₉ + 3 : Nat) : Int) by omega]) ?_
        exact ih₉ (i₉ + 3) r₉ u₉ kd pr yr yw yk yp hs tx tl t₉ xb xn xf q1₉ q2₉ q3₉ s2₉ (by omega) (by omega) hO hS2 hM2
      · rw [hv]
        refine go_tableIn (pc := 32) hF 506 dL_law_32 ⟨by decide, by decide⟩ (by decide) rfl (by decide) ?_
        refine go_aload_n (pc := 506) hF dL_law_506 2 rfl ?_
        refine go_callVI (pc := 507) hF [] [] mv_L_88 dL_law_507 (by decide) hS₉.1 (c_X10_many E 120 τ r₉ u₉ kd pr yr yw yk yp hs tx tl t₉ xb xn xf q1₉ q2₉ q3₉ (by decide) hO hS₉ ) rfl rfl (Nat.le_of_ble_eq_true rfl) (by decide) ⟨Nat.le_of_ble_eq_true rfl, Nat.le_of_ble_eq_true rfl⟩ (fun y1 s1₉ h1 => ?_)
        obtain ⟨e1₉, hS1, f1₉⟩ := h1
        have hM1 := hM₉.keep (fun q₉ h1 _ => f1₉ q₉ h1)
        obtain ⟨_, _, _, _, _, _, _, _, _, _, _, _, _, zq, -⟩ := id hM1
        refine go_aload_n (pc := 510) hF dL_law_510 1 rfl ?_
        refine go_callVI (pc := 511) hF [] [vi y1] mv_L_91 dL_law_511 (by decide) zq (c_X11_many E 120 s1₉ r₉ u₉ kd pr yr yw yk yp hs tx tl t₉ xb xn xf q1₉ q2₉ q3₉ (by decide) hO hM1 ) rfl rfl (Nat.le_of_ble_eq_true rfl) (by decide) ⟨Nat.le_of_ble_eq_true rfl, Nat.le_of_ble_eq_true rfl⟩ (fun y2 s2₉ h2 => ?_)
        obtain ⟨e2₉, hM2, f2₉⟩ := h2
        have hS2 := hS1.keep (fun q₉ hq => f2₉ q₉ hq)
        have ey : y1 = y2 := e1₉.trans e2₉.symm
        rw [← ey]
        refine go_same (pc := 514) hF 681 dL_law_514 (by decide) ?_
        refine go_iinc (pc := 681) hF [(3, vi ((i₉ : Int) + 3)), (2, vr E 94), (1, vr E 0), (0, .ref b₉)] dL_law_681 0 rfl rfl (by decide) ?_
        refine go_goto (pc := 684) hF 18 dL_law_684 (by decide) ?_
        refine go_lvE [(3, vi ((i₉ + 3 : Nat) : Int)), (2, vr E 94), (1, vr E 0), (0, .ref b₉)] (by rw [show (i₉ : Int) + 3 = ((i₉ + 3 : Nat) : Int) by omega]) ?_
        exact ih₉ (i₉ + 3) r₉ u₉ kd pr yr yw yk yp hs tx tl t₉ xb xn xf q1₉ q2₉ q3₉ s2₉ (by omega) (by omega) hO hS2 hM2
      · rw [hv]
        refine go_tableIn (pc := 32) hF 519 dL_law_32 ⟨by decide, by decide⟩ (by decide) rfl (by decide) ?_
        rcases (show (x1₉ = 0 ∧ 1 ≤ x2₉ ∧ x2₉ ≤ 3) ∨ x1₉ = 1 ∨ (¬ (0 ≤ x1₉ ∧ x1₉ ≤ 1) ∨ (x1₉ = 0 ∧ ¬ (1 ≤ x2₉ ∧ x2₉ ≤ 3))) by omega) with hc₉ | hc₉ | hc₉
        · refine go_aload_n (pc := 519) hF dL_law_519 2 rfl ?_
          refine go_aloadR (pc := 520) hF dL_law_520 3 rfl ?_
          refine go_iload_n (pc := 521) hF dL_law_521 0 rfl ?_
          refine go_iconst (pc := 522) hF dL_law_522 ?_
          refine go_iadd (pc := 523) hF dL_law_523 ?_
          refine go_sld (pc := 524) hF hX hbl hbA ⟨by omega, by omega⟩ (by omega) dL_law_524 ?_
          rw [← hx1]
          refine go_aloadR (pc := 525) hF dL_law_525 3 rfl ?_
          refine go_iload_n (pc := 526) hF dL_law_526 0 rfl ?_
          refine go_iconst (pc := 527) hF dL_law_527 ?_
          refine go_iadd (pc := 528) hF dL_law_528 ?_
          refine go_sld (pc := 529) hF hX hbl hbA ⟨by omega, by omega⟩ (by omega) dL_law_529 ?_
          rw [← hx2]
          refine go_callVI (pc := 530) hF [vi x1₉, vi x2₉] [] mv_L_92 dL_law_530 (by decide) hS₉.1 (c_X10_worstBy_0 E 120 τ r₉ u₉ kd pr yr yw yk yp hs tx tl t₉ xb xn xf q1₉ q2₉ q3₉ (by decide) hO hS₉ x1₉ x2₉ hc₉.1 hc₉.2) rfl rfl (Nat.le_of_ble_eq_true rfl) (by decide) ⟨Nat.le_of_ble_eq_true rfl, Nat.le_of_ble_eq_true rfl⟩ (fun y1 s1₉ h1 => ?_)
          obtain ⟨e1₉, hS1, f1₉⟩ := h1
          have hM1 := hM₉.keep (fun q₉ h1 _ => f1₉ q₉ h1)
          obtain ⟨_, _, _, _, _, _, _, _, _, _, _, _, _, zq, -⟩ := id hM1
          refine go_aload_n (pc := 533) hF dL_law_533 1 rfl ?_
          refine go_aloadR (pc := 534) hF dL_law_534 3 rfl ?_
          refine go_iload_n (pc := 535) hF dL_law_535 0 rfl ?_
          refine go_iconst (pc := 536) hF dL_law_536 ?_
          refine go_iadd (pc := 537) hF dL_law_537 ?_
          refine go_sld (pc := 538) hF hX hbl hbA ⟨by omega, by omega⟩ (by omega) dL_law_538 ?_
          rw [← hx1]
          refine go_aloadR (pc := 539) hF dL_law_539 3 rfl ?_
          refine go_iload_n (pc := 540) hF dL_law_540 0 rfl ?_
          refine go_iconst (pc := 541) hF dL_law_541 ?_
          refine go_iadd (pc := 542) hF dL_law_542 ?_
          refine go_sld (pc := 543) hF hX hbl hbA ⟨by omega, by omega⟩ (by omega) dL_law_543 ?_
          rw [← hx2]
          refine go_callVI (pc := 544) hF [vi x1₉, vi x2₉] [vi y1] mv_L_95 dL_law_544 (by decide) zq (c_X11_worstBy_0 E 120 s1₉ r₉ u₉ kd pr yr yw yk yp hs tx tl t₉ xb xn xf q1₉ q2₉ q3₉ (by decide) hO hM1 x1₉ x2₉ hc₉.1 hc₉.2) rfl rfl (Nat.le_of_ble_eq_true rfl) (by decide) ⟨Nat.le_of_ble_eq_true rfl, Nat.le_of_ble_eq_true rfl⟩ (fun y2 s2₉ h2 => ?_)
          obtain ⟨e2₉, hM2, f2₉⟩ := h2
          have hS2 := hS1.keep (fun q₉ hq => f2₉ q₉ hq)
          have ey : y1 = y2 := top_eq e1₉ e2₉
          rw [← ey]
          refine go_same (pc := 547) hF 681 dL_law_547 (by decide) ?_
          refine go_iinc (pc := 681) hF [(3, vi ((i₉ : Int) + 3)), (2, vr E 94), (1, vr E 0), (0, .ref b₉)] dL_law_681 0 rfl rfl (by decide) ?_
          refine go_goto (pc := 684) hF 18 dL_law_684 (by decide) ?_
          refine go_lvE [(3, vi ((i₉ + 3 : Nat) : Int)), (2, vr E 94), (1, vr E 0), (0, .ref b₉)] (by rw [show (i₉ : Int) + 3 = ((i₉ + 3 : Nat) : Int) by omega]) ?_
          exact ih₉ (i₉ + 3) r₉ u₉ kd pr yr yw yk yp hs tx tl t₉ xb xn xf q1₉ q2₉ q3₉ s2₉ (by omega) (by omega) hO hS2 hM2
        · refine go_aload_n (pc := 519) hF dL_law_519 2 rfl ?_
          refine go_aloadR (pc := 520) hF dL_law_520 3 rfl ?_
          refine go_iload_n (pc := 521) hF dL_law_521 0 rfl ?_
          refine go_iconst (pc := 522) hF dL_law_522 ?_
          refine go_iadd (pc := 523) hF dL_law_523 ?_
          refine go_sld (pc := 524) hF hX hbl hbA ⟨by omega, by omega⟩ (by omega) dL_law_524 ?_
          rw [← hx1]
          refine go_aloadR (pc := 525) hF dL_law_525 3 rfl ?_
          refine go_iload_n (pc := 526) hF dL_law_526 0 rfl ?_
          refine go_iconst (pc := 527) hF dL_law_527 ?_
          refine go_iadd (pc := 528) hF dL_law_528 ?_
          refine go_sld (pc := 529) hF hX hbl hbA ⟨by omega, by omega⟩ (by omega) dL_law_529 ?_
          rw [← hx2]
          refine go_callVI (pc := 530) hF [vi x1₉, vi x2₉] [] mv_L_92 dL_law_530 (by decide) hS₉.1 (c_X10_worstBy_1 E 120 τ r₉ u₉ kd pr yr yw yk yp hs tx tl t₉ xb xn xf q1₉ q2₉ q3₉ (by decide) hO hS₉ x1₉ x2₉ hc₉ rx2) rfl rfl (Nat.le_of_ble_eq_true rfl) (by decide) ⟨Nat.le_of_ble_eq_true rfl, Nat.le_of_ble_eq_true rfl⟩ (fun y1 s1₉ h1 => ?_)
          obtain ⟨e1₉, hS1, f1₉⟩ := h1
          have hM1 := hM₉.keep (fun q₉ h1 _ => f1₉ q₉ h1)
          obtain ⟨_, _, _, _, _, _, _, _, _, _, _, _, _, zq, -⟩ := id hM1
          refine go_aload_n (pc := 533) hF dL_law_533 1 rfl ?_
          refine go_aloadR (pc := 534) hF dL_law_534 3 rfl ?_
          refine go_iload_n (pc := 535) hF dL_law_535 0 rfl ?_
          refine go_iconst (pc := 536) hF dL_law_536 ?_
          refine go_iadd (pc := 537) hF dL_law_537 ?_
          refine go_sld (pc := 538) hF hX hbl hbA ⟨by omega, by omega⟩ (by omega) dL_law_538 ?_
          rw [← hx1]
          refine go_aloadR (pc := 539) hF dL_law_539 3 rfl ?_
          refine go_iload_n (pc := 540) hF dL_law_540 0 rfl ?_
          refine go_iconst (pc := 541) hF dL_law_541 ?_
          refine go_iadd (pc := 542) hF dL_law_542 ?_
          refine go_sld (pc := 543) hF hX hbl hbA ⟨by omega, by omega⟩ (by omega) dL_law_543 ?_
          rw [← hx2]
          refine go_callVI (pc := 544) hF [vi x1₉, vi x2₉] [vi y1] mv_L_95 dL_law_544 (by decide) zq (c_X11_worstBy_1 E 120 s1₉ r₉ u₉ kd pr yr yw yk yp hs tx tl t₉ xb xn xf q1₉ q2₉ q3₉ (by decide) hO hM1 x1₉ x2₉ hc₉ rx2) rfl rfl (Nat.le_of_ble_eq_true rfl) (by decide) ⟨Nat.le_of_ble_eq_true rfl, Nat.le_of_ble_eq_true rfl⟩ (fun y2 s2₉ h2 => ?_)
          obtain ⟨e2₉, hM2, f2₉⟩ := h2
          have hS2 := hS1.keep (fun q₉ hq => f2₉ q₉ hq)
          have ey : y1 = y2 := by
            obtain ⟨a1₉, a2, a3, t1₉, t2₉, t3₉, e1₉⟩ := e1₉
            obtain ⟨b1, b2, b3, v1₉, v2, v3, e2₉⟩ := e2₉
            rw [e1₉, e2₉, top_eq t1₉ v1₉, top_eq t2₉ v2, top_eq t3₉ v3]
          rw [← ey]
          refine go_same (pc := 547) hF 681 dL_law_547 (by decide) ?_
          refine go_iinc (pc := 681) hF [(3, vi ((i₉ : Int) + 3)), (2, vr E 94), (1, vr E 0), (0, .ref b₉)] dL_law_681 0 rfl rfl (by decide) ?_
          refine go_goto (pc := 684) hF 18 dL_law_684 (by decide) ?_
          refine go_lvE [(3, vi ((i₉ + 3 : Nat) : Int)), (2, vr E 94), (1, vr E 0), (0, .ref b₉)] (by rw [show (i₉ : Int) + 3 = ((i₉ + 3 : Nat) : Int) by omega]) ?_
          exact ih₉ (i₉ + 3) r₉ u₉ kd pr yr yw yk yp hs tx tl t₉ xb xn xf q1₉ q2₉ q3₉ s2₉ (by omega) (by omega) hO hS2 hM2
        · refine go_aload_n (pc := 519) hF dL_law_519 2 rfl ?_
          refine go_aloadR (pc := 520) hF dL_law_520 3 rfl ?_
          refine go_iload_n (pc := 521) hF dL_law_521 0 rfl ?_
          refine go_iconst (pc := 522) hF dL_law_522 ?_
          refine go_iadd (pc := 523) hF dL_law_523 ?_
          refine go_sld (pc := 524) hF hX hbl hbA ⟨by omega, by omega⟩ (by omega) dL_law_524 ?_
          rw [← hx1]
          refine go_aloadR (pc := 525) hF dL_law_525 3 rfl ?_
          refine go_iload_n (pc := 526) hF dL_law_526 0 rfl ?_
          refine go_iconst (pc := 527) hF dL_law_527 ?_
          refine go_iadd (pc := 528) hF dL_law_528 ?_
          refine go_sld (pc := 529) hF hX hbl hbA ⟨by omega, by omega⟩ (by omega) dL_law_529 ?_
          rw [← hx2]
          refine go_callVI (pc := 530) hF [vi x1₉, vi x2₉] [] mv_L_92 dL_law_530 (by decide) hS₉.1 (c_X10_worstBy_bad E 120 τ r₉ u₉ kd pr yr yw yk yp hs tx tl t₉ xb xn xf q1₉ q2₉ q3₉ (by decide) hO hS₉ x1₉ x2₉ rx1 rx2 hc₉) rfl rfl (Nat.le_of_ble_eq_true rfl) (by decide) ⟨Nat.le_of_ble_eq_true rfl, Nat.le_of_ble_eq_true rfl⟩ (fun y1 s1₉ h1 => ?_)
          obtain ⟨e1₉, hS1, f1₉⟩ := h1
          have hM1 := hM₉.keep (fun q₉ h1 _ => f1₉ q₉ h1)
          obtain ⟨_, _, _, _, _, _, _, _, _, _, _, _, _, zq, -⟩ := id hM1
          refine go_aload_n (pc := 533) hF dL_law_533 1 rfl ?_
          refine go_aloadR (pc := 534) hF dL_law_534 3 rfl ?_
          refine go_iload_n (pc := 535) hF dL_law_535 0 rfl ?_
          refine go_iconst (pc := 536) hF dL_law_536 ?_
          refine go_iadd (pc := 537) hF dL_law_537 ?_
          refine go_sld (pc := 538) hF hX hbl hbA ⟨by omega, by omega⟩ (by omega) dL_law_538 ?_
          rw [← hx1]
          refine go_aloadR (pc := 539) hF dL_law_539 3 rfl ?_
          refine go_iload_n (pc := 540) hF dL_law_540 0 rfl ?_
          refine go_iconst (pc := 541) hF dL_law_541 ?_
          refine go_iadd (pc := 542) hF dL_law_542 ?_
          refine go_sld (pc := 543) hF hX hbl hbA ⟨by omega, by omega⟩ (by omega) dL_law_543 ?_
          rw [← hx2]
          refine go_callVI (pc := 544) hF [vi x1₉, vi x2₉] [vi y1] mv_L_95 dL_law_544 (by decide) zq (c_X11_worstBy_bad E 120 s1₉ r₉ u₉ kd pr yr yw yk yp hs tx tl t₉ xb xn xf q1₉ q2₉ q3₉ (by decide) hO hM1 x1₉ x2₉ rx1 rx2 hc₉) rfl rfl (Nat.le_of_ble_eq_true rfl) (by decide) ⟨Nat.le_of_ble_eq_true rfl, Nat.le_of_ble_eq_true rfl⟩ (fun y2 s2₉ h2 => ?_)
          obtain ⟨e2₉, hM2, f2₉⟩ := h2
          have hS2 := hS1.keep (fun q₉ hq => f2₉ q₉ hq)
          have ey : y1 = y2 := e1₉.trans e2₉.symm
          rw [← ey]
          refine go_same (pc := 547) hF 681 dL_law_547 (by decide) ?_
          refine go_iinc (pc := 681) hF [(3, vi ((i₉ : Int) + 3)), (2, vr E 94), (1, vr E 0), (0, .ref b₉)] dL_law_681 0 rfl rfl (by decide) ?_
          refine go_goto (pc := 684) hF 18 dL_law_684 (by decide) ?_
          refine go_lvE [(3, vi ((i₉ + 3 : Nat) : Int)), (2, vr E 94), (1, vr E 0), (0, .ref b₉)] (by rw [show (i₉ : Int) + 3 = ((i₉ + 3 : Nat) : Int) by omega]) ?_
          exact ih₉ (i₉ + 3) r₉ u₉ kd pr yr yw yk yp hs tx tl t₉ (wr₉ (xb + 1)) xn xf q1₉ q2₉ q3₉ s2₉ (by omega) (by omega) ⟨⟨hrw, hu, hkd, hpr⟩, hhs, hyy, htl, htx, wr_rg _, hxn, hxf, hq1, hq2, hq3, hwf, hdp3, hl80, hl24⟩ hS2 hM2
      · rw [hv]
        refine go_tableIn (pc := 32) hF 552 dL_law_32 ⟨by decide, by decide⟩ (by decide) rfl (by decide) ?_
        rcases (show (0 ≤ x1₉ ∧ x1₉ ≤ 1048575) ∨ ¬ (0 ≤ x1₉ ∧ x1₉ ≤ 1048575) by omega) with hc₉ | hc₉
        · refine go_aload_n (pc := 552) hF dL_law_552 2 rfl ?_
          refine go_aloadR (pc := 553) hF dL_law_553 3 rfl ?_
          refine go_iload_n (pc := 554) hF dL_law_554 0 rfl ?_
          refine go_iconst (pc := 555) hF dL_law_555 ?_
          refine go_iadd (pc := 556) hF dL_law_556 ?_
          refine go_sld (pc := 557) hF hX hbl hbA ⟨by omega, by omega⟩ (by omega) dL_law_557 ?_
          rw [← hx1]
          refine go_callVI (pc := 558) hF [vi x1₉] [] mv_L_96 dL_law_558 (by decide) hS₉.1 (c_X10_runs_ok E 120 τ r₉ u₉ kd pr yr yw yk yp hs tx tl t₉ xb xn xf q1₉ q2₉ q3₉ (by decide) hO hS₉ x1₉ hc₉) rfl rfl (Nat.le_of_ble_eq_true rfl) (by decide) ⟨Nat.le_of_ble_eq_true rfl, Nat.le_of_ble_eq_true rfl⟩ (fun y1 s1₉ h1 => ?_)
          obtain ⟨e1₉, hS1, f1₉⟩ := h1
          have hM1 := hM₉.keep (fun q₉ h1 _ => f1₉ q₉ h1)
          obtain ⟨_, _, _, _, _, _, _, _, _, _, _, _, _, zq, -⟩ := id hM1
          refine go_aload_n (pc := 561) hF dL_law_561 1 rfl ?_
          refine go_aloadR (pc := 562) hF dL_law_562 3 rfl ?_
          refine go_iload_n (pc := 563) hF dL_law_563 0 rfl ?_
          refine go_iconst (pc := 564) hF dL_law_564 ?_
          refine go_iadd (pc := 565) hF dL_law_565 ?_
          refine go_sld (pc := 566) hF hX hbl hbA ⟨by omega, by omega⟩ (by omega) dL_law_566 ?_
          rw [← hx1]
          refine go_callVI (pc := 567) hF [vi x1₉] [vi y1] mv_L_99 dL_law_567 (by decide) zq (c_X11_runs_ok E 120 s1₉ r₉ u₉ kd pr yr yw yk yp hs tx tl t₉ xb xn xf q1₉ q2₉ q3₉ (by decide) hO hM1 x1₉ hc₉) rfl rfl (Nat.le_of_ble_eq_true rfl) (by decide) ⟨Nat.le_of_ble_eq_true rfl, Nat.le_of_ble_eq_true rfl⟩ (fun y2 s2₉ h2 => ?_)
          obtain ⟨e2₉, hM2, f2₉⟩ := h2
          have hS2 := hS1.keep (fun q₉ hq => f2₉ q₉ hq)
          have ey : y1 = y2 := e1₉.trans e2₉.symm
          rw [← ey]
          refine go_same (pc := 570) hF 681 dL_law_570 (by decide) ?_
          refine go_iinc (pc := 681) hF [(3, vi ((i₉ : Int) + 3)), (2, vr E 94), (1, vr E 0), (0, .ref b₉)] dL_law_681 0 rfl rfl (by decide) ?_
          refine go_goto (pc := 684) hF 18 dL_law_684 (by decide) ?_
          refine go_lvE [(3, vi ((i₉ + 3 : Nat) : Int)), (2, vr E 94), (1, vr E 0), (0, .ref b₉)] (by rw [show (i₉ : Int) + 3 = ((i₉ + 3 : Nat) : Int) by omega]) ?_
          exact ih₉ (i₉ + 3) ((rn u₉ kd pr x1₉ t₉ (r₉, 0, 0, 0, 0)).1) u₉ kd pr (psh yr r₉) (psh yw u₉) (psh yk kd) (psh yp pr) (min (hs + 1) 8) tx tl t₉ xb xn xf (wr₉ (rn u₉ kd pr x1₉ t₉ (r₉, 0, 0, 0, 0)).2.2.1) (wr₉ (rn u₉ kd pr x1₉ t₉ (r₉, 0, 0, 0, 0)).2.2.2.1) (wr₉ (rn u₉ kd pr x1₉ t₉ (r₉, 0, 0, 0, 0)).2.2.2.2) s2₉ (by omega) (by omega) (let o9 := okS_new hO ⟨rn_row hu hkd t₉ hwf (r₉, 0, 0, 0, 0) hrw, hu, hkd, hpr⟩; ⟨o9.1, o9.2.1, o9.2.2.1, htl, htx, hxb, hxn, hxf, wr_rg _, wr_rg _, wr_rg _, hwf, hdp3, hl80, hl24⟩) hS2 hM2
        · refine go_aload_n (pc := 552) hF dL_law_552 2 rfl ?_
          refine go_aloadR (pc := 553) hF dL_law_553 3 rfl ?_
          refine go_iload_n (pc := 554) hF dL_law_554 0 rfl ?_
          refine go_iconst (pc := 555) hF dL_law_555 ?_
          refine go_iadd (pc := 556) hF dL_law_556 ?_
          refine go_sld (pc := 557) hF hX hbl hbA ⟨by omega, by omega⟩ (by omega) dL_law_557 ?_
          rw [← hx1]
          refine go_callVI (pc := 558) hF [vi x1₉] [] mv_L_96 dL_law_558 (by decide) hS₉.1 (c_X10_runs_bad E 120 τ r₉ u₉ kd pr yr yw yk yp hs tx tl t₉ xb xn xf q1₉ q2₉ q3₉ (by decide) hO hS₉ x1₉ rx1 hc₉) rfl rfl (Nat.le_of_ble_eq_true rfl) (by decide) ⟨Nat.le_of_ble_eq_true rfl, Nat.le_of_ble_eq_true rfl⟩ (fun y1 s1₉ h1 => ?_)
          obtain ⟨e1₉, hS1, f1₉⟩ := h1
          have hM1 := hM₉.keep (fun q₉ h1 _ => f1₉ q₉ h1)
          obtain ⟨_, _, _, _, _, _, _, _, _, _, _, _, _, zq, -⟩ := id hM1
          refine go_aload_n (pc := 561) hF dL_law_561 1 rfl ?_
          refine go_aloadR (pc := 562) hF dL_law_562 3 rfl ?_
          refine go_iload_n (pc := 563) hF dL_law_563 0 rfl ?_
          refine go_iconst (pc := 564) hF dL_law_564 ?_
          refine go_iadd (pc := 565) hF dL_law_565 ?_
          refine go_sld (pc := 566) hF hX hbl hbA ⟨by omega, by omega⟩ (by omega) dL_law_566 ?_
          rw [← hx1]
          refine go_callVI (pc := 567) hF [vi x1₉] [vi y1] mv_L_99 dL_law_567 (by decide) zq (c_X11_runs_bad E 120 s1₉ r₉ u₉ kd pr yr yw yk yp hs tx tl t₉ xb xn xf q1₉ q2₉ q3₉ (by decide) hO hM1 x1₉ rx1 hc₉) rfl rfl (Nat.le_of_ble_eq_true rfl) (by decide) ⟨Nat.le_of_ble_eq_true rfl, Nat.le_of_ble_eq_true rfl⟩ (fun y2 s2₉ h2 => ?_)
          obtain ⟨e2₉, hM2, f2₉⟩ := h2
          have hS2 := hS1.keep (fun q₉ hq => f2₉ q₉ hq)
          have ey : y1 = y2 := e1₉.trans e2₉.symm
          rw [← ey]
          refine go_same (pc := 570) hF 681 dL_law_570 (by decide) ?_
          refine go_iinc (pc := 681) hF [(3, vi ((i₉ : Int) + 3)), (2, vr E 94), (1, vr E 0), (0, .ref b₉)] dL_law_681 0 rfl rfl (by decide) ?_
          refine go_goto (pc := 684) hF 18 dL_law_684 (by decide) ?_
          refine go_lvE [(3, vi ((i₉ + 3 : Nat) : Int)), (2, vr E 94), (1, vr E 0), (0, .ref b₉)] (by rw [show (i₉ : Int) + 3 = ((i₉ + 3 : Nat) : Int) by omega]) ?_
          exact ih₉ (i₉ + 3) r₉ u₉ kd pr yr yw yk yp hs tx tl t₉ (wr₉ (xb + 1)) xn xf q1₉ q2₉ q3₉ s2₉ (by omega) (by omega) ⟨⟨hrw, hu, hkd, hpr⟩, hhs, hyy, htl, htx, wr_rg _, hxn, hxf, hq1, hq2, hq3, hwf, hdp3, hl80, hl24⟩ hS2 hM2
      · rw [hv]
        refine go_tableIn (pc := 32) hF 575 dL_law_32 ⟨by decide, by decide⟩ (by decide) rfl (by decide) ?_
        rcases (show (0 ≤ x1₉ ∧ x1₉ ≤ 2) ∨ ¬ (0 ≤ x1₉ ∧ x1₉ ≤ 2) by omega) with hc₉ | hc₉
        · refine go_aload_n (pc := 575) hF dL_law_575 2 rfl ?_
          refine go_aloadR (pc := 576) hF dL_law_576 3 rfl ?_
          refine go_iload_n (pc := 577) hF dL_law_577 0 rfl ?_
          refine go_iconst (pc := 578) hF dL_law_578 ?_
          refine go_iadd (pc := 579) hF dL_law_579 ?_
          refine go_sld (pc := 580) hF hX hbl hbA ⟨by omega, by omega⟩ (by omega) dL_law_580 ?_
          rw [← hx1]
          refine go_callVI (pc := 581) hF [vi x1₉] [] mv_L_100 dL_law_581 (by decide) hS₉.1 (c_X10_ran_ok E 120 τ r₉ u₉ kd pr yr yw yk yp hs tx tl t₉ xb xn xf q1₉ q2₉ q3₉ (by decide) hO hS₉ x1₉ hc₉) rfl rfl (Nat.le_of_ble_eq_true rfl) (by decide) ⟨Nat.le_of_ble_eq_true rfl, Nat.le_of_ble_eq_true rfl⟩ (fun y1 s1₉ h1 => ?_)
          obtain ⟨e1₉, hS1, f1₉⟩ := h1
          have hM1 := hM₉.keep (fun q₉ h1 _ => f1₉ q₉ h1)
          obtain ⟨_, _, _, _, _, _, _, _, _, _, _, _, _, zq, -⟩ := id hM1
          refine go_aload_n (pc := 584) hF dL_law_584 1 rfl ?_
          refine go_aloadR (pc := 585) hF dL_law_585 3 rfl ?_
          refine go_iload_n (pc := 586) hF dL_law_586 0 rfl ?_
          refine go_iconst (pc := 587) hF dL_law_587 ?_
          refine go_iadd (pc := 588) hF dL_law_588 ?_
          refine go_sld (pc := 589) hF hX hbl hbA ⟨by omega, by omega⟩ (by omega) dL_law_589 ?_
          rw [← hx1]
          refine go_callVI (pc := 590) hF [vi x1₉] [vi y1] mv_L_103 dL_law_590 (by decide) zq (c_X11_ran_ok E 120 s1₉ r₉ u₉ kd pr yr yw yk yp hs tx tl t₉ xb xn xf q1₉ q2₉ q3₉ (by decide) hO hM1 x1₉ hc₉) rfl rfl (Nat.le_of_ble_eq_true rfl) (by decide) ⟨Nat.le_of_ble_eq_true rfl, Nat.le_of_ble_eq_true rfl⟩ (fun y2 s2₉ h2 => ?_)
          obtain ⟨e2₉, hM2, f2₉⟩ := h2
          have hS2 := hS1.keep (fun q₉ hq => f2₉ q₉ hq)
          have ey : y1 = y2 := e1₉.trans e2₉.symm
          rw [← ey]
          refine go_same (pc := 593) hF 681 dL_law_593 (by decide) ?_
          refine go_iinc (pc := 681) hF [(3, vi ((i₉ : Int) + 3)), (2, vr E 94), (1, vr E 0), (0, .ref b₉)] dL_law_681 0 rfl rfl (by decide) ?_
          refine go_goto (pc := 684) hF 18 dL_law_684 (by decide) ?_
          refine go_lvE [(3, vi ((i₉ + 3 : Nat) : Int)), (2, vr E 94), (1, vr E 0), (0, .ref b₉)] (by rw [show (i₉ : Int) + 3 = ((i₉ + 3 : Nat) : Int) by omega]) ?_
          exact ih₉ (i₉ + 3) r₉ u₉ kd pr yr yw yk yp hs tx tl t₉ xb xn xf q1₉ q2₉ q3₉ s2₉ (by omega) (by omega) hO hS2 hM2
        · refine go_aload_n (pc := 575) hF dL_law_575 2 rfl ?_
          refine go_aloadR (pc := 576) hF dL_law_576 3 rfl ?_
          refine go_iload_n (pc := 577) hF dL_law_577 0 rfl ?_
          refine go_iconst (pc := 578) hF dL_law_578 ?_
          refine go_iadd (pc := 579) hF dL_law_579 ?_
          refine go_sld (pc := 580) hF hX hbl hbA ⟨by omega, by omega⟩ (by omega) dL_law_580 ?_
          rw [← hx1]
          refine go_callVI (pc := 581) hF [vi x1₉] [] mv_L_100 dL_law_581 (by decide) hS₉.1 (c_X10_ran_bad E 120 τ r₉ u₉ kd pr yr yw yk yp hs tx tl t₉ xb xn xf q1₉ q2₉ q3₉ (by decide) hO hS₉ x1₉ rx1 hc₉) rfl rfl (Nat.le_of_ble_eq_true rfl) (by decide) ⟨Nat.le_of_ble_eq_true rfl, Nat.le_of_ble_eq_true rfl⟩ (fun y1 s1₉ h1 => ?_)
          obtain ⟨e1₉, hS1, f1₉⟩ := h1
          have hM1 := hM₉.keep (fun q₉ h1 _ => f1₉ q₉ h1)
          obtain ⟨_, _, _, _, _, _, _, _, _, _, _, _, _, zq, -⟩ := id hM1
          refine go_aload_n (pc := 584) hF dL_law_584 1 rfl ?_
          refine go_aloadR (pc := 585) hF dL_law_585 3 rfl ?_
          refine go_iload_n (pc := 586) hF dL_law_586 0 rfl ?_
          refine go_iconst (pc := 587) hF dL_law_587 ?_
          refine go_iadd (pc := 588) hF dL_law_588 ?_
          refine go_sld (pc := 589) hF hX hbl hbA ⟨by omega, by omega⟩ (by omega) dL_law_589 ?_
          rw [← hx1]
          refine go_callVI (pc := 590) hF [vi x1₉] [vi y1] mv_L_103 dL_law_590 (by decide) zq (c_X11_ran_bad E 120 s1₉ r₉ u₉ kd pr yr yw yk yp hs tx tl t₉ xb xn xf q1₉ q2₉ q3₉ (by decide) hO hM1 x1₉ rx1 hc₉) rfl rfl (Nat.le_of_ble_eq_true rfl) (by decide) ⟨Nat.le_of_ble_eq_true rfl, Nat.le_of_ble_eq_true rfl⟩ (fun y2 s2₉ h2 => ?_)
          obtain ⟨e2₉, hM2, f2₉⟩ := h2
          have hS2 := hS1.keep (fun q₉ hq => f2₉ q₉ hq)
          have ey : y1 = y2 := e1₉.trans e2₉.symm
          rw [← ey]
          refine go_same (pc := 593) hF 681 dL_law_593 (by decide) ?_
          refine go_iinc (pc := 681) hF [(3, vi ((i₉ : Int) + 3)), (2, vr E 94), (1, vr E 0), (0, .ref b₉)] dL_law_681 0 rfl rfl (by decide) ?_
          refine go_goto (pc := 684) hF 18 dL_law_684 (by decide) ?_
          refine go_lvE [(3, vi ((i₉ + 3 : Nat) : Int)), (2, vr E 94), (1, vr E 0), (0, .ref b₉)] (by rw [show (i₉ : Int) + 3 = ((i₉ + 3 : Nat) : Int) by omega]) ?_
          exact ih₉ (i₉ + 3) r₉ u₉ kd pr yr yw yk yp hs tx tl t₉ (wr₉ (xb + 1)) xn xf q1₉ q2₉ q3₉ s2₉ (by omega) (by omega) ⟨⟨hrw, hu, hkd, hpr⟩, hhs, hyy, htl, htx, wr_rg _, hxn, hxf, hq1, hq2, hq3, hwf, hdp3, hl80, hl24⟩ hS2 hM2
      · rw [hv]
        refine go_tableIn (pc := 32) hF 598 dL_law_32 ⟨by decide, by decide⟩ (by decide) rfl (by decide) ?_
        rcases (show hs = 0 ∨ 0 < hs by omega) with hc₉ | hc₉
        · refine go_aload_n (pc := 598) hF dL_law_598 2 rfl ?_
          refine go_callVI (pc := 599) hF [] [] mv_L_104 dL_law_599 (by decide) hS₉.1 (c_X10_undo_no E 120 τ r₉ u₉ kd pr yr yw yk yp hs tx tl t₉ xb xn xf q1₉ q2₉ q3₉ (by decide) hO hS₉ hc₉) rfl rfl (Nat.le_of_ble_eq_true rfl) (by decide) ⟨Nat.le_of_ble_eq_true rfl, Nat.le_of_ble_eq_true rfl⟩ (fun y1 s1₉ h1 => ?_)
          obtain ⟨e1₉, hS1, f1₉⟩ := h1
          have hM1 := hM₉.keep (fun q₉ h1 _ => f1₉ q₉ h1)
          obtain ⟨_, _, _, _, _, _, _, _, _, _, _, _, _, zq, -⟩ := id hM1
          refine go_aload_n (pc := 602) hF dL_law_602 1 rfl ?_
          refine go_callVI (pc := 603) hF [] [vi y1] mv_L_107 dL_law_603 (by decide) zq (c_X11_undo_no E 120 s1₉ r₉ u₉ kd pr yr yw yk yp hs tx tl t₉ xb xn xf q1₉ q2₉ q3₉ (by decide) hO hM1 hc₉) rfl rfl (Nat.le_of_ble_eq_true rfl) (by decide) ⟨Nat.le_of_ble_eq_true rfl, Nat.le_of_ble_eq_true rfl⟩ (fun y2 s2₉ h2 => ?_)
          obtain ⟨e2₉, hM2, f2₉⟩ := h2
          have hS2 := hS1.keep (fun q₉ hq => f2₉ q₉ hq)
          have ey : y1 = y2 := e1₉.trans e2₉.symm
          rw [← ey]
          refine go_same (pc := 606) hF 681 dL_law_606 (by decide) ?_
          refine go_iinc (pc := 681) hF [(3, vi ((i₉ : Int) + 3)), (2, vr E 94), (1, vr E 0), (0, .ref b₉)] dL_law_681 0 rfl rfl (by decide) ?_
          refine go_goto (pc := 684) hF 18 dL_law_684 (by decide) ?_
          refine go_lvE [(3, vi ((i₉ + 3 : Nat) : Int)), (2, vr E 94), (1, vr E 0), (0, .ref b₉)] (by rw [show (i₉ : Int) + 3 = ((i₉ + 3 : Nat) : Int) by omega]) ?_
          exact ih₉ (i₉ + 3) r₉ u₉ kd pr yr yw yk yp hs tx tl t₉ xb (wr₉ (xn + 1)) xf q1₉ q2₉ q3₉ s2₉ (by omega) (by omega) ⟨⟨hrw, hu, hkd, hpr⟩, hhs, hyy, htl, htx, hxb, wr_rg _, hxf, hq1, hq2, hq3, hwf, hdp3, hl80, hl24⟩ hS2 hM2
        · refine go_aload_n (pc := 598) hF dL_law_598 2 rfl ?_
          refine go_callVI (pc := 599) hF [] [] mv_L_104 dL_law_599 (by decide) hS₉.1 (c_X10_undo_ok E 120 τ r₉ u₉ kd pr yr yw yk yp hs tx tl t₉ xb xn xf q1₉ q2₉ q3₉ (by decide) hO hS₉ hc₉) rfl rfl (Nat.le_of_ble_eq_true rfl) (by decide) ⟨Nat.le_of_ble_eq_true rfl, Nat.le_of_ble_eq_true rfl⟩ (fun y1 s1₉ h1 => ?_)
          obtain ⟨e1₉, hS1, f1₉⟩ := h1
          have hM1 := hM₉.keep (fun q₉ h1 _ => f1₉ q₉ h1)
          obtain ⟨_, _, _, _, _, _, _, _, _, _, _, _, _, zq, -⟩ := id hM1
          refine go_aload_n (pc := 602) hF dL_law_602 1 rfl ?_
          refine go_callVI (pc := 603) hF [] [vi y1] mv_L_107 dL_law_603 (by decide) zq (c_X11_undo_ok E 120 s1₉ r₉ u₉ kd pr yr yw yk yp hs tx tl t₉ xb xn xf q1₉ q2₉ q3₉ (by decide) hO hM1 hc₉) rfl rfl (Nat.le_of_ble_eq_true rfl) (by decide) ⟨Nat.le_of_ble_eq_true rfl, Nat.le_of_ble_eq_true rfl⟩ (fun y2 s2₉ h2 => ?_)
          obtain ⟨e2₉, hM2, f2₉⟩ := h2
          have hS2 := hS1.keep (fun q₉ hq => f2₉ q₉ hq)
          have ey : y1 = y2 := e1₉.trans e2₉.symm
          rw [← ey]
          refine go_same (pc := 606) hF 681 dL_law_606 (by decide) ?_
          refine go_iinc (pc := 681) hF [(3, vi ((i₉ : Int) + 3)), (2, vr E 94), (1, vr E 0), (0, .ref b₉)] dL_law_681 0 rfl rfl (by decide) ?_
          refine go_goto (pc := 684) hF 18 dL_law_684 (by decide) ?_
          refine go_lvE [(3, vi ((i₉ + 3 : Nat) : Int)), (2, vr E 94), (1, vr E 0), (0, .ref b₉)] (by rw [show (i₉ : Int) + 3 = ((i₉ + 3 : Nat) : Int) by omega]) ?_
          exact ih₉ (i₉ + 3) (yr 0) (yw 0) (yk 0) (yp 0) (fun i₉ => yr (i₉ + 1)) (fun i₉ => yw (i₉ + 1)) (fun i₉ => yk (i₉ + 1)) (fun i₉ => yp (i₉ + 1)) (hs - 1) tx tl t₉ xb xn xf q1₉ q2₉ q3₉ s2₉ (by omega) (by omega) ⟨hyy 0 (by omega) (by omega), by omega, fun i₉ i0₉ i1₉ => hyy (i₉ + 1) (by omega) (by omega), htl, htx, hxb, hxn, hxf, hq1, hq2, hq3, hwf, hdp3, hl80, hl24⟩ hS2 hM2
      · rw [hv]
        refine go_tableIn (pc := 32) hF 611 dL_law_32 ⟨by decide, by decide⟩ (by decide) rfl (by decide) ?_
        rcases (show ((0 ≤ x1₉ ∧ x1₉ ≤ 999999) ∧ 0 ≤ x2₉ ∧ x2₉ ≤ 20) ∨ ¬ ((0 ≤ x1₉ ∧ x1₉ ≤ 999999) ∧ 0 ≤ x2₉ ∧ x2₉ ≤ 20) by omega) with hc₉ | hc₉
        · refine go_aload_n (pc := 611) hF dL_law_611 2 rfl ?_
          refine go_aloadR (pc := 612) hF dL_law_612 3 rfl ?_
          refine go_iload_n (pc := 613) hF dL_law_613 0 rfl ?_
          refine go_iconst (pc := 614) hF dL_law_614 ?_
          refine go_iadd (pc := 615) hF dL_law_615 ?_
          refine go_sld (pc := 616) hF hX hbl hbA ⟨by omega, by omega⟩ (by omega) dL_law_616 ?_
          rw [← hx1]
          refine go_aloadR (pc := 617) hF dL_law_617 3 rfl ?_
          refine go_iload_n (pc := 618) hF dL_law_618 0 rfl ?_
          refine go_iconst (pc := 619) hF dL_law_619 ?_
          refine go_iadd (pc := 620) hF dL_law_620 ?_
          refine go_sld (pc := 621) hF hX hbl hbA ⟨by omega, by omega⟩ (by omega) dL_law_621 ?_
          rw [← hx2]
          refine go_callVI (pc := 622) hF [vi x1₉, vi x2₉] [] mv_L_108 dL_law_622 (by decide) hS₉.1 (c_X10_draws_ok E 120 τ r₉ u₉ kd pr yr yw yk yp hs tx tl t₉ xb xn xf q1₉ q2₉ q3₉ (by decide) hO hS₉ x1₉ x2₉ hc₉.1 hc₉.2) rfl rfl (Nat.le_of_ble_eq_true rfl) (by decide) ⟨Nat.le_of_ble_eq_true rfl, Nat.le_of_ble_eq_true rfl⟩ (fun y1 s1₉ h1 => ?_)
          obtain ⟨e1₉, hS1, f1₉⟩ := h1
          have hM1 := hM₉.keep (fun q₉ h1 _ => f1₉ q₉ h1)
          obtain ⟨_, _, _, _, _, _, _, _, _, _, _, _, _, zq, -⟩ := id hM1
          refine go_aload_n (pc := 625) hF dL_law_625 1 rfl ?_
          refine go_aloadR (pc := 626) hF dL_law_626 3 rfl ?_
          refine go_iload_n (pc := 627) hF dL_law_627 0 rfl ?_
          refine go_iconst (pc := 628) hF dL_law_628 ?_
          refine go_iadd (pc := 629) hF dL_law_629 ?_
          refine go_sld (pc := 630) hF hX hbl hbA ⟨by omega, by omega⟩ (by omega) dL_law_630 ?_
          rw [← hx1]
          refine go_aloadR (pc := 631) hF dL_law_631 3 rfl ?_
          refine go_iload_n (pc := 632) hF dL_law_632 0 rfl ?_
          refine go_iconst (pc := 633) hF dL_law_633 ?_
          refine go_iadd (pc := 634) hF dL_law_634 ?_
          refine go_sld (pc := 635) hF hX hbl hbA ⟨by omega, by omega⟩ (by omega) dL_law_635 ?_
          rw [← hx2]
          refine go_callVI (pc := 636) hF [vi x1₉, vi x2₉] [vi y1] mv_L_111 dL_law_636 (by decide) zq (c_X11_draws_ok E 120 s1₉ r₉ u₉ kd pr yr yw yk yp hs tx tl t₉ xb xn xf q1₉ q2₉ q3₉ (by decide) hO hM1 x1₉ x2₉ hc₉.1 hc₉.2) rfl rfl (Nat.le_of_ble_eq_true rfl) (by decide) ⟨Nat.le_of_ble_eq_true rfl, Nat.le_of_ble_eq_true rfl⟩ (fun y2 s2₉ h2 => ?_)
          obtain ⟨e2₉, hM2, f2₉⟩ := h2
          have hS2 := hS1.keep (fun q₉ hq => f2₉ q₉ hq)
          have ey : y1 = y2 := e1₉.trans e2₉.symm
          rw [← ey]
          refine go_same (pc := 639) hF 681 dL_law_639 (by decide) ?_
          refine go_iinc (pc := 681) hF [(3, vi ((i₉ : Int) + 3)), (2, vr E 94), (1, vr E 0), (0, .ref b₉)] dL_law_681 0 rfl rfl (by decide) ?_
          refine go_goto (pc := 684) hF 18 dL_law_684 (by decide) ?_
          refine go_lvE [(3, vi ((i₉ + 3 : Nat) : Int)), (2, vr E 94), (1, vr E 0), (0, .ref b₉)] (by rw [show (i₉ : Int) + 3 = ((i₉ + 3 : Nat) : Int) by omega]) ?_
          exact ih₉ (i₉ + 3) r₉ u₉ kd pr yr yw yk yp hs tx tl t₉ xb xn xf q1₉ q2₉ q3₉ s2₉ (by omega) (by omega) hO hS2 hM2
        · refine go_aload_n (pc := 611) hF dL_law_611 2 rfl ?_
          refine go_aloadR (pc := 612) hF dL_law_612 3 rfl ?_
          refine go_iload_n (pc := 613) hF dL_law_613 0 rfl ?_
          refine go_iconst (pc := 614) hF dL_law_614 ?_
          refine go_iadd (pc := 615) hF dL_law_615 ?_
          refine go_sld (pc := 616) hF hX hbl hbA ⟨by omega, by omega⟩ (by omega) dL_law_616 ?_
          rw [← hx1]
          refine go_aloadR (pc := 617) hF dL_law_617 3 rfl ?_
          refine go_iload_n (pc := 618) hF dL_law_618 0 rfl ?_
          refine go_iconst (pc := 619) hF dL_law_619 ?_
          refine go_iadd (pc := 620) hF dL_law_620 ?_
          refine go_sld (pc := 621) hF hX hbl hbA ⟨by omega, by omega⟩ (by omega) dL_law_621 ?_
          rw [← hx2]
          refine go_callVI (pc := 622) hF [vi x1₉, vi x2₉] [] mv_L_108 dL_law_622 (by decide) hS₉.1 (c_X10_draws_bad E 120 τ r₉ u₉ kd pr yr yw yk yp hs tx tl t₉ xb xn xf q1₉ q2₉ q3₉ (by decide) hO hS₉ x1₉ x2₉ rx1 rx2 hc₉) rfl rfl (Nat.le_of_ble_eq_true rfl) (by decide) ⟨Nat.le_of_ble_eq_true rfl, Nat.le_of_ble_eq_true rfl⟩ (fun y1 s1₉ h1 => ?_)
          obtain ⟨e1₉, hS1, f1₉⟩ := h1
          have hM1 := hM₉.keep (fun q₉ h1 _ => f1₉ q₉ h1)
          obtain ⟨_, _, _, _, _, _, _, _, _, _, _, _, _, zq, -⟩ := id hM1
          refine go_aload_n (pc := 625) hF dL_law_625 1 rfl ?_
          refine go_aloadR (pc := 626) hF dL_law_626 3 rfl ?_
          refine go_iload_n (pc := 627) hF dL_law_627 0 rfl ?_
          refine go_iconst (pc := 628) hF dL_law_628 ?_
          refine go_iadd (pc := 629) hF dL_law_629 ?_
          refine go_sld (pc := 630) hF hX hbl hbA ⟨by omega, by omega⟩ (by omega) dL_law_630 ?_
          rw [← hx1]
          refine go_aloadR (pc := 631) hF dL_law_631 3 rfl ?_
          refine go_iload_n (pc := 632) hF dL_law_632 0 rfl ?_
          refine go_iconst (pc := 633) hF dL_law_633 ?_
          refine go_iadd (pc := 634) hF dL_law_634 ?_
          refine go_sld (pc := 635) hF hX hbl hbA ⟨by omega, by omega⟩ (by omega) dL_law_635 ?_
          rw [← hx2]
          refine go_callVI (pc := 636) hF [vi x1₉, vi x2₉] [vi y1] mv_L_111 dL_law_636 (by decide) zq (c_X11_draws_bad E 120 s1₉ r₉ u₉ kd pr yr yw yk yp hs tx tl t₉ xb xn xf q1₉ q2₉ q3₉ (by decide) hO hM1 x1₉ x2₉ rx1 rx2 hc₉) rfl rfl (Nat.le_of_ble_eq_true rfl) (by decide) ⟨Nat.le_of_ble_eq_true rfl, Nat.le_of_ble_eq_true rfl⟩ (fun y2 s2₉ h2 => ?_)
          obtain ⟨e2₉, hM2, f2₉⟩ := h2
          have hS2 := hS1.keep (fun q₉ hq => f2₉ q₉ hq)
          have ey : y1 = y2 := e1₉.trans e2₉.symm
          rw [← ey]
          refine go_same (pc := 639) hF 681 dL_law_639 (by decide) ?_
          refine go_iinc (pc := 681) hF [(3, vi ((i₉ : Int) + 3)), (2, vr E 94), (1, vr E 0), (0, .ref b₉)] dL_law_681 0 rfl rfl (by decide) ?_
          refine go_goto (pc := 684) hF 18 dL_law_684 (by decide) ?_
          refine go_lvE [(3, vi ((i₉ + 3 : Nat) : Int)), (2, vr E 94), (1, vr E 0), (0, .ref b₉)] (by rw [show (i₉ : Int) + 3 = ((i₉ + 3 : Nat) : Int) by omega]) ?_
          exact ih₉ (i₉ + 3) r₉ u₉ kd pr yr yw yk yp hs tx tl t₉ (wr₉ (xb + 1)) xn xf q1₉ q2₉ q3₉ s2₉ (by omega) (by omega) ⟨⟨hrw, hu, hkd, hpr⟩, hhs, hyy, htl, htx, wr_rg _, hxn, hxf, hq1, hq2, hq3, hwf, hdp3, hl80, hl24⟩ hS2 hM2
      · rw [hv]
        refine go_tableIn (pc := 32) hF 644 dL_law_32 ⟨by decide, by decide⟩ (by decide) rfl (by decide) ?_
        rcases (show (0 ≤ x1₉ ∧ x1₉ ≤ 8) ∨ ¬ (0 ≤ x1₉ ∧ x1₉ ≤ 8) by omega) with hc₉ | hc₉
        · refine go_aload_n (pc := 644) hF dL_law_644 2 rfl ?_
          refine go_aloadR (pc := 645) hF dL_law_645 3 rfl ?_
          refine go_iload_n (pc := 646) hF dL_law_646 0 rfl ?_
          refine go_iconst (pc := 647) hF dL_law_647 ?_
          refine go_iadd (pc := 648) hF dL_law_648 ?_
          refine go_sld (pc := 649) hF hX hbl hbA ⟨by omega, by omega⟩ (by omega) dL_law_649 ?_
          rw [← hx1]
          refine go_callVI (pc := 650) hF [vi x1₉] [] mv_L_112 dL_law_650 (by decide) hS₉.1 (c_X10_count_ok E 120 τ r₉ u₉ kd pr yr yw yk yp hs tx tl t₉ xb xn xf q1₉ q2₉ q3₉ (by decide) hO hS₉ x1₉ hc₉) rfl rfl (Nat.le_of_ble_eq_true rfl) (by decide) ⟨Nat.le_of_ble_eq_true rfl, Nat.le_of_ble_eq_true rfl⟩ (fun y1 s1₉ h1 => ?_)
          obtain ⟨e1₉, hS1, f1₉⟩ := h1
          have hM1 := hM₉.keep (fun q₉ h1 _ => f1₉ q₉ h1)
          obtain ⟨_, _, _, _, _, _, _, _, _, _, _, _, _, zq, -⟩ := id hM1
          refine go_aload_n (pc := 653) hF dL_law_653 1 rfl ?_
          refine go_aloadR (pc := 654) hF dL_law_654 3 rfl ?_
          refine go_iload_n (pc := 655) hF dL_law_655 0 rfl ?_
          refine go_iconst (pc := 656) hF dL_law_656 ?_
          refine go_iadd (pc := 657) hF dL_law_657 ?_
          refine go_sld (pc := 658) hF hX hbl hbA ⟨by omega, by omega⟩ (by omega) dL_law_658 ?_
          rw [← hx1]
          refine go_callVI (pc := 659) hF [vi x1₉] [vi y1] mv_L_115 dL_law_659 (by decide) zq (c_X11_count_ok E 120 s1₉ r₉ u₉ kd pr yr yw yk yp hs tx tl t₉ xb xn xf q1₉ q2₉ q3₉ (by decide) hO hM1 x1₉ hc₉) rfl rfl (Nat.le_of_ble_eq_true rfl) (by decide) ⟨Nat.le_of_ble_eq_true rfl, Nat.le_of_ble_eq_true rfl⟩ (fun y2 s2₉ h2 => ?_)
          obtain ⟨e2₉, hM2, f2₉⟩ := h2
          have hS2 := hS1.keep (fun q₉ hq => f2₉ q₉ hq)
          have ey : y1 = y2 := e1₉.trans e2₉.symm
          rw [← ey]
          refine go_same (pc := 662) hF 681 dL_law_662 (by decide) ?_
          refine go_iinc (pc := 681) hF [(3, vi ((i₉ : Int) + 3)), (2, vr E 94), (1, vr E 0), (0, .ref b₉)] dL_law_681 0 rfl rfl (by decide) ?_
          refine go_goto (pc := 684) hF 18 dL_law_684 (by decide) ?_
          refine go_lvE [(3, vi ((i₉ + 3 : Nat) : Int)), (2, vr E 94), (1, vr E 0), (0, .ref b₉)] (by rw [show (i₉ : Int) + 3 = ((i₉ + 3 : Nat) : Int) by omega]) ?_
          exact ih₉ (i₉ + 3) r₉ u₉ kd pr yr yw yk yp hs tx tl t₉ xb xn xf q1₉ q2₉ q3₉ s2₉ (by omega) (by omega) hO hS2 hM2
        · refine go_aload_n (pc := 644) hF dL_law_644 2 rfl ?_
          refine go_aloadR (pc := 645) hF dL_law_645 3 rfl ?_
          refine go_iload_n (pc := 646) hF dL_law_646 0 rfl ?_
          refine go_iconst (pc := 647) hF dL_law_647 ?_
          refine go_iadd (pc := 648) hF dL_law_648 ?_
          refine go_sld (pc := 649) hF hX hbl hbA ⟨by omega, by omega⟩ (by omega) dL_law_649 ?_
          rw [← hx1]
          refine go_callVI (pc := 650) hF [vi x1₉] [] mv_L_112 dL_law_650 (by decide) hS₉.1 (c_X10_count_bad E 120 τ r₉ u₉ kd pr yr yw yk yp hs tx tl t₉ xb xn xf q1₉ q2₉ q3₉ (by decide) hO hS₉ x1₉ rx1 hc₉) rfl rfl (Nat.le_of_ble_eq_true rfl) (by decide) ⟨Nat.le_of_ble_eq_true rfl, Nat.le_of_ble_eq_true rfl⟩ (fun y1 s1₉ h1 => ?_)
          obtain ⟨e1₉, hS1, f1₉⟩ := h1
          have hM1 := hM₉.keep (fun q₉ h1 _ => f1₉ q₉ h1)
          obtain ⟨_, _, _, _, _, _, _, _, _, _, _, _, _, zq, -⟩ := id hM1
          refine go_aload_n (pc := 653) hF dL_law_653 1 rfl ?_
          refine go_aloadR (pc := 654) hF dL_law_654 3 rfl ?_
          refine go_iload_n (pc := 655) hF dL_law_655 0 rfl ?_
          refine go_iconst (pc := 656) hF dL_law_656 ?_
          refine go_iadd (pc := 657) hF dL_law_657 ?_
          refine go_sld (pc := 658) hF hX hbl hbA ⟨by omega, by omega⟩ (by omega) dL_law_658 ?_
          rw [← hx1]
          refine go_callVI (pc := 659) hF [vi x1₉] [vi y1] mv_L_115 dL_law_659 (by decide) zq (c_X11_count_bad E 120 s1₉ r₉ u₉ kd pr yr yw yk yp hs tx tl t₉ xb xn xf q1₉ q2₉ q3₉ (by decide) hO hM1 x1₉ rx1 hc₉) rfl rfl (Nat.le_of_ble_eq_true rfl) (by decide) ⟨Nat.le_of_ble_eq_true rfl, Nat.le_of_ble_eq_true rfl⟩ (fun y2 s2₉ h2 => ?_)
          obtain ⟨e2₉, hM2, f2₉⟩ := h2
          have hS2 := hS1.keep (fun q₉ hq => f2₉ q₉ hq)
          have ey : y1 = y2 := e1₉.trans e2₉.symm
          rw [← ey]
          refine go_same (pc := 662) hF 681 dL_law_662 (by decide) ?_
          refine go_iinc (pc := 681) hF [(3, vi ((i₉ : Int) + 3)), (2, vr E 94), (1, vr E 0), (0, .ref b₉)] dL_law_681 0 rfl rfl (by decide) ?_
          refine go_goto (pc := 684) hF 18 dL_law_684 (by decide) ?_
          refine go_lvE [(3, vi ((i₉ + 3 : Nat) : Int)), (2, vr E 94), (1, vr E 0), (0, .ref b₉)] (by rw [show (i₉ : Int) + 3 = ((i₉ + 3 : Nat) : Int) by omega]) ?_
          exact ih₉ (i₉ + 3) r₉ u₉ kd pr yr yw yk yp hs tx tl t₉ (wr₉ (xb + 1)) xn xf q1₉ q2₉ q3₉ s2₉ (by omega) (by omega) ⟨⟨hrw, hu, hkd, hpr⟩, hhs, hyy, htl, htx, wr_rg _, hxn, hxf, hq1, hq2, hq3, hwf, hdp3, hl80, hl24⟩ hS2 hM2
      · rw [hv]
        refine go_tableIn (pc := 32) hF 667 dL_law_32 ⟨by decide, by decide⟩ (by decide) rfl (by decide) ?_
        refine go_aload_n (pc := 667) hF dL_law_667 2 rfl ?_
        refine go_callVL (pc := 668) hF [] [] mv_L_116 dL_law_668 (by decide) hS₉.1 (c_X10_digest E 120 τ r₉ u₉ kd pr yr yw yk yp hs tx tl t₉ xb xn xf q1₉ q2₉ q3₉ (by decide) hO hS₉ ) rfl rfl (Nat.le_of_ble_eq_true rfl) (by decide) ⟨Nat.le_of_ble_eq_true rfl, Nat.le_of_ble_eq_true rfl⟩ (fun y1 s1₉ h1 => ?_)
        obtain ⟨e1₉, hS1, f1₉⟩ := h1
        have hM1 := hM₉.keep (fun q₉ h1 _ => f1₉ q₉ h1)
        obtain ⟨_, _, _, _, _, _, _, _, _, _, _, _, _, zq, -⟩ := id hM1
        refine go_aload_n (pc := 671) hF dL_law_671 1 rfl ?_
        refine go_callVL (pc := 672) hF [] [vl y1] mv_L_120 dL_law_672 (by decide) zq (c_X11_digest E 120 s1₉ r₉ u₉ kd pr yr yw yk yp hs tx tl t₉ xb xn xf q1₉ q2₉ q3₉ (by decide) hO hM1 ) rfl rfl (Nat.le_of_ble_eq_true rfl) (by decide) ⟨Nat.le_of_ble_eq_true rfl, Nat.le_of_ble_eq_true rfl⟩ (fun y2 s2₉ h2 => ?_)
        obtain ⟨e2₉, hM2, f2₉⟩ := h2
        have hS2 := hS1.keep (fun q₉ hq => f2₉ q₉ hq)
        have ey : y1 = y2 := e1₉.trans e2₉.symm
        rw [← ey]
        refine go_lsame (pc := 675) hF dL_law_675 ?_
        refine go_if_eq (pc := 676) hF 681 dL_law_676 (by decide) ⟨by decide, by decide⟩ (fun bq676 => ?_) (fun bq676 => ?_)
        · refine go_iinc (pc := 681) hF [(3, vi ((i₉ : Int) + 3)), (2, vr E 94), (1, vr E 0), (0, .ref b₉)] dL_law_681 0 rfl rfl (by decide) ?_
          refine go_goto (pc := 684) hF 18 dL_law_684 (by decide) ?_
          refine go_lvE [(3, vi ((i₉ + 3 : Nat) : Int)), (2, vr E 94), (1, vr E 0), (0, .ref b₉)] (by rw [show (i₉ : Int) + 3 = ((i₉ + 3 : Nat) : Int) by omega]) ?_
          exact ih₉ (i₉ + 3) r₉ u₉ kd pr yr yw yk yp hs tx tl t₉ xb xn xf q1₉ q2₉ q3₉ s2₉ (by omega) (by omega) hO hS2 hM2
        · exact absurd bq676 (by decide)
      · rw [hv]
        refine go_tableOut (pc := 32) hF 681 dL_law_32 ⟨by decide, by decide⟩ (by decide) (by decide) ?_
        refine go_iinc (pc := 681) hF [(3, vi ((i₉ : Int) + 3)), (2, vr E 94), (1, vr E 0), (0, .ref b₉)] dL_law_681 0 rfl rfl (by decide) ?_
        refine go_goto (pc := 684) hF 18 dL_law_684 (by decide) ?_
        refine go_lvE [(3, vi ((i₉ + 3 : Nat) : Int)), (2, vr E 94), (1, vr E 0), (0, .ref b₉)] (by rw [show (i₉ : Int) + 3 = ((i₉ + 3 : Nat) : Int) by omega]) ?_
        exact ih₉ (i₉ + 3) r₉ u₉ kd pr yr yw yk yp hs tx tl t₉ xb xn xf q1₉ q2₉ q3₉ τ (by omega) (by omega) hO hS₉ hM₉
      · rw [hv]
        refine go_tableOut (pc := 32) hF 681 dL_law_32 ⟨by decide, by decide⟩ (by decide) (by decide) ?_
        refine go_iinc (pc := 681) hF [(3, vi ((i₉ : Int) + 3)), (2, vr E 94), (1, vr E 0), (0, .ref b₉)] dL_law_681 0 rfl rfl (by decide) ?_
        refine go_goto (pc := 684) hF 18 dL_law_684 (by decide) ?_
        refine go_lvE [(3, vi ((i₉ + 3 : Nat) : Int)), (2, vr E 94), (1, vr E 0), (0, .ref b₉)] (by rw [show (i₉ : Int) + 3 = ((i₉ + 3 : Nat) : Int) by omega]) ?_
        exact ih₉ (i₉ + 3) r₉ u₉ kd pr yr yw yk yp hs tx tl t₉ xb xn xf q1₉ q2₉ q3₉ τ (by omega) (by omega) hO hS₉ hM₉
      · rw [hv]
        refine go_tableOut (pc := 32) hF 681 dL_law_32 ⟨by decide, by decide⟩ (by decide) (by decide) ?_
        refine go_iinc (pc := 681) hF [(3, vi ((i₉ : Int) + 3)), (2, vr E 94), (1, vr E 0), (0, .ref b₉)] dL_law_681 0 rfl rfl (by decide) ?_
        refine go_goto (pc := 684) hF 18 dL_law_684 (by decide) ?_
        refine go_lvE [(3, vi ((i₉ + 3 : Nat) : Int)), (2, vr E 94), (1, vr E 0), (0, .ref b₉)] (by rw [show (i₉ : Int) + 3 = ((i₉ + 3 : Nat) : Int) by omega]) ?_
        exact ih₉ (i₉ + 3) r₉ u₉ kd pr yr yw yk yp hs tx tl t₉ xb xn xf q1₉ q2₉ q3₉ τ (by omega) (by omega) hO hS₉ hM₉
      · rw [hv]
        refine go_tableOut (pc := 32) hF 681 dL_law_32 ⟨by decide, by decide⟩ (by decide) (by decide) ?_
        refine go_iinc (pc := 681) hF [(3, vi ((i₉ : Int) + 3)), (2, vr E 94), (1, vr E 0), (0, .ref b₉)] dL_law_681 0 rfl rfl (by decide) ?_
        refine go_goto (pc := 684) hF 18 dL_law_684 (by decide) ?_
        refine go_lvE [(3, vi ((i₉ + 3 : Nat) : Int)), (2, vr E 94), (1, vr E 0), (0, .ref b₉)] (by rw [show (i₉ : Int) + 3 = ((i₉ + 3 : Nat) : Int) by omega]) ?_
        exact ih₉ (i₉ + 3) r₉ u₉ kd pr yr yw yk yp hs tx tl t₉ xb xn xf q1₉ q2₉ q3₉ τ (by omega) (by omega) hO hS₉ hM₉
      · rw [hv]
        refine go_tableOut (pc := 32) hF 681 dL_law_32 ⟨by decide, by decide⟩ (by decide) (by decide) ?_
        refine go_iinc (pc := 681) hF [(3, vi ((i₉ : Int) + 3)), (2, vr E 94), (1, vr E 0), (0, .ref b₉)] dL_law_681 0 rfl rfl (by decide) ?_
        refine go_goto (pc := 684) hF 18 dL_law_684 (by decide) ?_
        refine go_lvE [(3, vi ((i₉ + 3 : Nat) : Int)), (2, vr E 94), (1, vr E 0), (0, .ref b₉)] (by rw [show (i₉ : Int) + 3 = ((i₉ + 3 : Nat) : Int) by omega]) ?_
        exact ih₉ (i₉ + 3) r₉ u₉ kd pr yr yw yk yp hs tx tl t₉ xb xn xf q1₉ q2₉ q3₉ τ (by omega) (by omega) hO hS₉ hM₉
      · rw [hv]
        refine go_tableOut (pc := 32) hF 681 dL_law_32 ⟨by decide, by decide⟩ (by decide) (by decide) ?_
        refine go_iinc (pc := 681) hF [(3, vi ((i₉ : Int) + 3)), (2, vr E 94), (1, vr E 0), (0, .ref b₉)] dL_law_681 0 rfl rfl (by decide) ?_
        refine go_goto (pc := 684) hF 18 dL_law_684 (by decide) ?_
        refine go_lvE [(3, vi ((i₉ + 3 : Nat) : Int)), (2, vr E 94), (1, vr E 0), (0, .ref b₉)] (by rw [show (i₉ : Int) + 3 = ((i₉ + 3 : Nat) : Int) by omega]) ?_
        exact ih₉ (i₉ + 3) r₉ u₉ kd pr yr yw yk yp hs tx tl t₉ xb xn xf q1₉ q2₉ q3₉ τ (by omega) (by omega) hO hS₉ hM₉
