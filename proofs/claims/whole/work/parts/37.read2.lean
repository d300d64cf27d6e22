/-! Reader₉: a₉ whole₉ text₉. -/
def zR (tx : Int → Int) : Nat → Int ⊕ (Zs × Tr × Int)
  | 0 => .inr ([], .nil, 0)
  | i₉ + 1 => match zR tx i₉ with
    | .inl f₉ => .inl f₉
    | .inr z₉ => match zst (tx i₉) z₉.1 z₉.2.1 z₉.2.2 with
      | none => .inl i₉
      | some z' => .inr z'
theorem zR_no {tx : Int → Int} {i₉ : Nat} {s : Zs} {u₉ : Tr} {fg : Int} (h : zR tx i₉ = .inr (s, u₉, fg)) (h1 : zst (tx i₉) s u₉ fg = none) : zR tx (i₉ + 1) = .inl (i₉ : Int) := by
  simp only [zR, h, h1]
theorem zR_yes {tx : Int → Int} {i₉ : Nat} {s : Zs} {u₉ : Tr} {fg : Int} {z₉ : Zs × Tr × Int} (h : zR tx i₉ = .inr (s, u₉, fg)) (h1 : zst (tx i₉) s u₉ fg = some z₉) : zR tx (i₉ + 1) = .inr z₉ := by
  simp only [zR, h, h1]
theorem zR_stuck {tx : Int → Int} {i₉ : Nat} {f₉ : Int} (h : zR tx i₉ = .inl f₉) : ∀ j₉ : Nat, zR tx (i₉ + j₉) = .inl f₉
  | 0 => h
  | j₉ + 1 => by
    show zR tx ((i₉ + j₉) + 1) = .inl f₉
    simp only [zR, zR_stuck h j₉]
/-- the place₉ of₉ the fault, -1 where there₉ is₉ none -/
def zEnd (tx : Int → Int) (tl : Int) : Int := match zR tx tl.toNat with
  | .inl f₉ => f₉
  | .inr z₉ => if z₉.1.length = 0 ∧ z₉.2.2 = 0 then -1 else tl
theorem zEnd_no {tx : Int → Int} {tl : Int} {i₉ : Nat} {s : Zs} {u₉ : Tr} {fg : Int} (h : zR tx i₉ = .inr (s, u₉, fg)) (h1 : zst (tx i₉) s u₉ fg = none) (hi₉ : (i₉ : Int) < tl) : zEnd tx tl = i₉ := by
  have h2 := zR_stuck (zR_no h h1) (tl.toNat - (i₉ + 1))
  rw [show i₉ + 1 + (tl.toNat - (i₉ + 1)) = tl.toNat by omega] at h2
  simp only [zEnd, h2]
theorem zEnd_at {tx : Int → Int} {tl : Int} {s : Zs} {u₉ : Tr} {fg : Int} (h : zR tx tl.toNat = .inr (s, u₉, fg)) : zEnd tx tl = if s.length = 0 ∧ fg = 0 then -1 else tl := by
  simp only [zEnd, h]
/-- a₉ program's arrays₉ and numbers₉ are a₉ tree's -/
def prT (t₉ : Tr) (sg vl mt₉ lw ll la : Int → Int) (sz₉ lk₉ ch₉ lp dp ln : Int) : Prop := wf t₉ ∧ tDep t₉ ≤ 3 ∧ PA₉ sg vl mt₉ lw ll la t₉ 0 0 (-1) ∧ (tLen t₉ : Int) = sz₉ ∧ (tLks t₉ : Int) = lk₉ ∧ ch₉ = tChs t₉ ∧ lp = tLps t₉ ∧ dp = tDep t₉ ∧ ln = tMsk t₉ 0 ∧ okP sg vl mt₉ lw ll la sz₉ lk₉ ch₉ lp dp ln
theorem RC.done {op₉ sg vl mt₉ lw ll la : Int → Int} {d₉ sz₉ lk₉ ch₉ lp dp ln : Int} {u₉ : Tr} (h : RC op₉ d₉ sg vl mt₉ lw ll la sz₉ lk₉ ch₉ lp dp ln [] u₉) : prT u₉ sg vl mt₉ lw ll la sz₉ lk₉ ch₉ lp dp ln := by
  obtain ⟨ho, hd₉, hW, hop, hC, hB₉, hu, hpa, hsz, hlk, hch, hlp, hdp, hln, h3⟩ := h
  have e1₉ : zO [] = 0 := rfl
  have e2₉ : zK [] = 0 := rfl
  have e3₉ : zCh [] = 0 := rfl
  have e4₉ : zLp [] = 0 := rfl
  have e5₉ : zDp [] = 0 := rfl
  have e6₉ : ([] : Zs).length = 0 := rfl
  rw [e6₉] at hdp
  have hm₉ := PA_msk (k0₉ := 0) u₉ hu 0 0 (-1) hpa
  have b5 := ho.2.2.2.2.1
  refine ⟨hu, by omega, hpa, by omega, by omega, by omega, by omega, by omega, ?_, ho⟩
  rw [hln, show lk₉.toNat = 0 + tLks u₉ by omega, ← hm₉]
  rfl
theorem RC.start {op₉ sg vl mt₉ lw ll la : Int → Int} {sz₉ lk₉ ch₉ lp dp ln : Int} (ho : okP sg vl mt₉ lw ll la sz₉ lk₉ ch₉ lp dp ln) : RC op₉ 0 sg vl mt₉ lw ll la 0 0 0 0 0 0 [] .nil :=
  ⟨⟨by omega, by omega, by omega, by omega, by omega, by omega, ho.2.2.2.2.2.2⟩, rfl, trivial, trivial, trivial, trivial, trivial, trivial, rfl, rfl, rfl, rfl, rfl, rfl, by decide⟩

set_option maxHeartbeats 4000000 in
set_option maxRecDepth 100000 in
theorem c_X7_read (E : En) (N : Nat) (σ : Nat → va_E) {op₉ sg vl mt₉ lw ll la : Int → Int} {d₉ fg sz₉ lk₉ ch₉ lp dp ln : Int} {tx : Int → Int} {tl : Int} (hN₉ : 101 ≤ N) (hR0 : isR E σ op₉ d₉ fg sg vl mt₉ lw ll la sz₉ lk₉ ch₉ lp dp ln) (ho : okP sg vl mt₉ lw ll la sz₉ lk₉ ch₉ lp dp ln) (htx : σ 13 = ai E 80 tx) (htl : 0 ≤ tl ∧ tl ≤ 80) (hch9 : ∀ z₉ : Int, 0 ≤ z₉ → z₉ < tl → 0 ≤ tx z₉ ∧ tx z₉ ≤ 127) : CI E M_X7_read 7 [vr E 14, vr E 13, vi tl] N σ (fun y₉ σ' => y₉ = zEnd tx tl ∧ (∀ q₉, (q₉ < 14 ∨ 22 < q₉) → σ' q₉ = σ q₉) ∧ ∃ (op₉ sg vl mt₉ lw ll la : Int → Int) (d₉ fg sz₉ lk₉ ch₉ lp dp ln : Int), isR E σ' op₉ d₉ fg sg vl mt₉ lw ll la sz₉ lk₉ ch₉ lp dp ln ∧ okP sg vl mt₉ lw ll la sz₉ lk₉ ch₉ lp dp ln ∧ (y₉ = -1 → ∃ t₉, zR tx tl.toNat = .inr ([], t₉, 0) ∧ prT t₉ sg vl mt₉ lw ll la sz₉ lk₉ ch₉ lp dp ln)) := by
  refine CT.of2 (own := RX7) (by decide) rfl (Nat.le_of_ble_eq_true rfl) ?_
  intro p e R s m args below meth c Q hF hr hlk hnm hz hR hQ
  refine go_aload_n (pc := 0) hF dX7_read_0 0 rfl ?_
  refine go_get (pc := 1) hF fl_X7_25 dX7_read_1 (by omega) hR0.1 rfl ?_
  refine go_callVV (pc := 4) hF [] [] mv_X7_29 dX7_read_4 (by omega) hR0.2.2.1 (c_X6_wipe E N σ 16 (by omega) hR0.2.2) rfl rfl (Nat.le_of_ble_eq_true rfl) (by decide) ⟨Nat.zero_le _, Nat.zero_le _⟩ (fun s1₉ h_s1 => ?_)
  obtain ⟨ip, f_s1⟩ := h_s1
  have rd_s1 := (f_s1 14 (by omega)).trans hR0.1
  have op_s1 := (f_s1 15 (by omega)).trans hR0.2.1
  have tx_s1 := (f_s1 13 (by omega)).trans htx
  refine go_aload_n (pc := 7) hF dX7_read_7 0 rfl ?_
  refine go_iconst (pc := 8) hF dX7_read_8 ?_
  refine go_put (pc := 9) hF [vr E 15, vi 0, vi fg, vr E 16] fl_X7_15 dX7_read_9 (by omega) rd_s1 rfl rfl rfl (Nat.le_of_ble_eq_true rfl) (fun s2₉ u_s2 f_s2 => ?_)
  have op_s2 := (f_s2 15 (show 15 ≠ 14 by omega)).trans op_s1
  have tx_s2 := (f_s2 13 (show 13 ≠ 14 by omega)).trans tx_s1
  have dr_s2 := ip.keep (fun jj h1 h2 => f_s2 jj (by omega))
  refine go_aload_n (pc := 12) hF dX7_read_12 0 rfl ?_
  refine go_iconst (pc := 13) hF dX7_read_13 ?_
  refine go_put (pc := 14) hF [vr E 15, vi 0, vi 0, vr E 16] fl_X7_19 dX7_read_14 (by omega) u_s2 rfl rfl rfl (Nat.le_of_ble_eq_true rfl) (fun s3₉ u_s3 f_s3 => ?_)
  have op_s3 := (f_s3 15 (show 15 ≠ 14 by omega)).trans op_s2
  have tx_s3 := (f_s3 13 (show 13 ≠ 14 by omega)).trans tx_s2
  have dr_s3 := dr_s2.keep (fun jj h1 h2 => f_s3 jj (by omega))
  refine go_iconst (pc := 17) hF dX7_read_17 ?_
  refine go_istore_n (pc := 18) hF [(3, vi 0), (0, vr E 14), (1, vr E 13), (2, vi tl)] dX7_read_18 rfl (by decide) ?_
  have loop₉ : ∀ (n₉ : Nat) (j₉ : Nat) (op2 : Int → Int) (sg2₉ : Int → Int) (vl2 : Int → Int) (mt2 : Int → Int) (lw2 : Int → Int) (ll2 : Int → Int) (la2 : Int → Int) (d2₉ : Int) (fg2 : Int) (sz2 : Int) (lk2 : Int) (ch2 : Int) (lp2 : Int) (dp2 : Int) (ln2 : Int) (s2_ : Zs) (u2₉ : Tr) (τ : Nat → va_E), j₉ + n₉ = 82 → (j₉ : Int) ≤ tl → zR tx j₉ = .inr (s2_, u2₉, fg2) → isR E τ op2 d2₉ fg2 sg2₉ vl2 mt2 lw2 ll2 la2 sz2 lk2 ch2 lp2 dp2 ln2 → RC op2 d2₉ sg2₉ vl2 mt2 lw2 ll2 la2 sz2 lk2 ch2 lp2 dp2 ln2 s2_ u2₉ → sz2 + (if fg2 = 0 then 0 else 1) ≤ j₉ → (0 ≤ fg2 ∧ fg2 ≤ 9) → (fg2 ≠ 0 → d2₉ < 3) → (∀ jj : Nat, (jj < 14 ∨ 22 < jj) → τ jj = s3₉ jj) → Go E p e R s m args below meth c Q 4 (0, 0) N τ [(3, vi (j₉ : Int)), (0, vr E 14), (1, vr E 13), (2, vi tl)] [] 19 := by
    intro n₉
    induction n₉ with
    | zero => intro j₉ op2 sg2₉ vl2 mt2 lw2 ll2 la2 d2₉ fg2 sz2 lk2 ch2 lp2 dp2 ln2 s2_ u2₉ τ hfu hj hzl hRl hCl hszl hfg hf3 fr_loop; exfalso; omega
    | succ n₉ ih₉ =>
      intro j₉ op2 sg2₉ vl2 mt2 lw2 ll2 la2 d2₉ fg2 sz2 lk2 ch2 lp2 dp2 ln2 s2_ u2₉ τ hfu hj hzl hRl hCl hszl hfg hf3 fr_loop
      have tx_loop := (fr_loop 13 (by omega)).trans tx_s3
      refine go_iload_n (pc := 19) hF dX7_read_19 0 rfl ?_
      refine go_iload_n (pc := 20) hF dX7_read_20 3 rfl ?_
      refine go_icmp_ge (pc := 21) hF 56 dX7_read_21 (by decide) (by omega) (by omega) (fun bq21 => ?_) (fun bq21 => ?_)
      · have dd2 := hCl.2.1
        have dd3 := hCl.2.2.2.2.2.2.2.2.2.2.2.2.2.2
        refine go_aload_n (pc := 56) hF dX7_read_56 1 rfl ?_
        refine go_get (pc := 57) hF fl_X7_15 dX7_read_57 (by omega) hRl.1 rfl ?_
        refine go_if_ne (pc := 60) hF 74 dX7_read_60 (by decide) (by omega) (fun bq60 => ?_) (fun bq60 => ?_)
        · refine go_iload_n (pc := 74) hF dX7_read_74 3 rfl ?_
          have ej : j₉ = tl.toNat := by omega
          subst ej
          exact go_iretQ hF hr hlk hQ dX7_read_75 ⟨((zEnd_at hzl).trans (if_neg (fun q₉ => by have := hCl.2.1; omega))).symm, (fun jj hjj => by rw [fr_loop jj (by omega), f_s3 jj (by omega), f_s2 jj (by omega), f_s1 jj (by omega)]), op2, sg2₉, vl2, mt2, lw2, ll2, la2, d2₉, fg2, sz2, lk2, ch2, lp2, dp2, ln2, hRl, hCl.1, fun q₉ => absurd q₉ (by omega)⟩
        · refine go_aload_n (pc := 63) hF dX7_read_63 1 rfl ?_
          refine go_get (pc := 64) hF fl_X7_19 dX7_read_64 (by omega) hRl.1 rfl ?_
          refine go_if_ne (pc := 67) hF 74 dX7_read_67 (by decide) (by omega) (fun bq67 => ?_) (fun bq67 => ?_)
          · refine go_iload_n (pc := 74) hF dX7_read_74 3 rfl ?_
            have ej : j₉ = tl.toNat := by omega
            subst ej
            exact go_iretQ hF hr hlk hQ dX7_read_75 ⟨((zEnd_at hzl).trans (if_neg (fun q₉ => by have := hCl.2.1; omega))).symm, (fun jj hjj => by rw [fr_loop jj (by omega), f_s3 jj (by omega), f_s2 jj (by omega), f_s1 jj (by omega)]), op2, sg2₉, vl2, mt2, lw2, ll2, la2, d2₉, fg2, sz2, lk2, ch2, lp2, dp2, ln2, hRl, hCl.1, fun q₉ => absurd q₉ (by omega)⟩
          · refine go_iconst (pc := 70) hF dX7_read_70 ?_
            refine go_goto (pc := 71) hF 75 dX7_read_71 (by decide) ?_
            have ej : j₉ = tl.toNat := by omega
            subst ej
            have es : s2_ = [] := by have := hCl.2.1; exact List.length_eq_zero_iff.mp (by omega)
            subst es
            have ef : fg2 = 0 := by omega
            subst ef
            exact go_iretQ hF hr hlk hQ dX7_read_75 ⟨((zEnd_at hzl).trans (if_pos ⟨rfl, rfl⟩)).symm, (fun jj hjj => by rw [fr_loop jj (by omega), f_s3 jj (by omega), f_s2 jj (by omega), f_s1 jj (by omega)]), op2, sg2₉, vl2, mt2, lw2, ll2, la2, d2₉, 0, sz2, lk2, ch2, lp2, dp2, ln2, hRl, hCl.1, fun _ => ⟨u2₉, hzl, hCl.done⟩⟩
      · refine go_iload_n (pc := 24) hF dX7_read_24 0 rfl ?_
        refine go_aload_n (pc := 25) hF dX7_read_25 2 rfl ?_
        refine go_alen (pc := 26) hF dX7_read_26 (by omega) tx_loop ?_
        refine go_icmp_ge (pc := 27) hF 56 dX7_read_27 (by decide) (by omega) ⟨by decide, by decide⟩ (fun bq27 => ?_) (fun bq27 => ?_)
        · exact absurd bq27 (by omega)
        · refine go_aload_n (pc := 30) hF dX7_read_30 2 rfl ?_
          refine go_iload_n (pc := 31) hF dX7_read_31 0 rfl ?_
          have cj0 := hch9 j₉ (by omega) (by omega)
          refine go_iald (pc := 32) hF dX7_read_32 (by omega) tx_loop (by omega) ?_
          refine go_bipush (pc := 33) hF dX7_read_33 (by decide) ?_
          refine go_icmp_eq (pc := 35) hF 50 dX7_read_35 (by decide) (by omega) ⟨by decide, by decide⟩ (fun bq35 => ?_) (fun bq35 => ?_)
          · refine go_iinc (pc := 50) hF [(3, vi ((j₉ : Int) + 1)), (0, vr E 14), (1, vr E 13), (2, vi tl)] dX7_read_50 0 rfl rfl (by decide) ?_
            refine go_goto (pc := 53) hF 19 dX7_read_53 (by decide) ?_
            exact ih₉ (j₉ + 1) op2 sg2₉ vl2 mt2 lw2 ll2 la2 d2₉ fg2 sz2 lk2 ch2 lp2 dp2 ln2 s2_ u2₉ τ (by omega) (by omega) (zR_yes hzl (show zst (tx (j₉ : Int)) s2_ u2₉ fg2 = some (s2_, u2₉, fg2) by unfold zst; rw [if_pos bq35])) hRl hCl (by omega) hfg hf3  (fun jj hjj => by rw [fr_loop jj (by omega)])
          · refine go_aload_n (pc := 38) hF dX7_read_38 1 rfl ?_
            refine go_aload_n (pc := 39) hF dX7_read_39 2 rfl ?_
            refine go_iload_n (pc := 40) hF dX7_read_40 0 rfl ?_
            refine go_iald (pc := 41) hF dX7_read_41 (by omega) tx_loop (by omega) ?_
            have cj := hch9 j₉ (by omega) (by omega)
            refine go_callVI (pc := 42) hF [vi (tx (j₉ : Int))] [] mv_X7_32 dX7_read_42 (by omega) hRl.1 (c_X7_takes E N τ (tx (j₉ : Int)) hN₉ hRl hCl hfg hf3 (by split at hszl <;> omega) ⟨by omega, bq35⟩) rfl rfl (Nat.le_of_ble_eq_true rfl) (by decide) ⟨Nat.zero_le _, Nat.zero_le _⟩ (fun r_s4 s4₉ h_s4 => ?_)
            obtain ⟨f_s4, hor⟩ := h_s4
            rcases hor with ⟨rfl, hz, rfl⟩ | ⟨rfl, s', u', fg', op', sg', vl', mt', lw', ll', la', d', sz', lk', ch', lp', dp', ln', hz, hR', hC', hszz, hfg', hf3'⟩
            · refine go_if_ne (pc := 45) hF 50 dX7_read_45 (by decide) ⟨by decide, by decide⟩ (fun bq45 => ?_) (fun bq45 => ?_)
              · exact absurd bq45 (by decide)
              · refine go_iload_n (pc := 48) hF dX7_read_48 0 rfl ?_
                exact go_iretQ hF hr hlk hQ dX7_read_49 ⟨(zEnd_no hzl hz (by omega)).symm, (fun jj hjj => by rw [fr_loop jj (by omega), f_s3 jj (by omega), f_s2 jj (by omega), f_s1 jj (by omega)]), op2, sg2₉, vl2, mt2, lw2, ll2, la2, d2₉, fg2, sz2, lk2, ch2, lp2, dp2, ln2, hRl, hCl.1, fun q₉ => absurd q₉ (by omega)⟩
            · have txx := (f_s4 13 (by omega)).trans tx_loop
              refine go_if_ne (pc := 45) hF 50 dX7_read_45 (by decide) ⟨by decide, by decide⟩ (fun bq45 => ?_) (fun bq45 => ?_)
              · refine go_iinc (pc := 50) hF [(3, vi ((j₉ : Int) + 1)), (0, vr E 14), (1, vr E 13), (2, vi tl)] dX7_read_50 0 rfl rfl (by decide) ?_
                refine go_goto (pc := 53) hF 19 dX7_read_53 (by decide) ?_
                exact ih₉ (j₉ + 1) op' sg' vl' mt' lw' ll' la' d' fg' sz' lk' ch' lp' dp' ln' s' u' s4₉ (by omega) (by omega) (zR_yes hzl hz) hR' hC' (by omega) hfg' hf3'  (fun jj hjj => by rw [f_s4 jj (by omega), fr_loop jj (by omega)])
              · exact absurd bq45 (by decide)
  exact loop₉ 82 0 op₉ sg vl mt₉ lw ll la 0 0 0 0 0 0 0 0 [] .nil s3₉ rfl (by omega) rfl ⟨u_s3, op_s3, dr_s3⟩ (RC.start ho) (by rw [if_pos rfl]; decide) (by decide) (fun q₉ => absurd rfl q₉)  (fun _ _ => rfl)
