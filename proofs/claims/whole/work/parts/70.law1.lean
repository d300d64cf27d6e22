/-! What the law's loop₉ rests₉ on₉. -/
theorem top_eq {S₉ : XS} {a₉ b₉ : Int} (h : topS S₉ a₉) (h' : topS S₉ b₉) : a₉ = b₉ := by
  obtain ⟨r₉, hr⟩ := h.2
  obtain ⟨r', hr'⟩ := h'.2
  have := h.1 _ _ hr'
  have := h'.1 _ _ hr
  omega
theorem bot_eq {S₉ : XS} {a₉ b₉ : Int} (h : botS S₉ a₉) (h' : botS S₉ b₉) : a₉ = b₉ := by
  obtain ⟨r₉, hr⟩ := h.2
  obtain ⟨r', hr'⟩ := h'.2
  have := h.1 _ _ hr'
  have := h'.1 _ _ hr
  omega
theorem cnt_le₉ {S₉ : XS} {y1 y2 : Int} (h1 : cntS S₉ y1) (h2 : cntS S₉ y2) : y1 ≤ y2 := by
  obtain ⟨a0₉, f1₉, a1₉, a2, a3⟩ := h1
  obtain ⟨b0, f2₉, b1, b2, b3⟩ := h2
  have hex₉ : ∀ i₉ : Nat, ∃ j₉ : Nat, i₉ < y1.toNat → (j₉ < y2.toNat ∧ f2₉ j₉ = f1₉ i₉) := fun i₉ => by
    by_cases hi₉ : i₉ < y1.toNat
    · obtain ⟨c, hc₉⟩ := a1₉ i₉ (by omega) (by omega)
      obtain ⟨q₉, q0, q1₉, q2₉⟩ := b3 _ c hc₉
      exact ⟨q₉.toNat, fun _ => ⟨by omega, by rw [show (q₉.toNat : Int) = q₉ by omega]; exact q2₉⟩⟩
    · exact ⟨0, fun h => absurd h hi₉⟩
  have hp := php y2.toNat y1.toNat (fun i₉ => (hex₉ i₉).choose) (fun i₉ hi₉ => ((hex₉ i₉).choose_spec hi₉).1) (fun i₉ j₉ hi₉ hj e => by
    have e1₉ := ((hex₉ i₉).choose_spec hi₉).2
    have e2₉ := ((hex₉ j₉).choose_spec hj).2
    have e : (hex₉ i₉).choose = (hex₉ j₉).choose := e
    rw [e] at e1₉
    have := a2 i₉ j₉ (by omega) (by omega) (by omega) (by omega) (e1₉.symm.trans e2₉)
    omega)
  omega
theorem cnt_eq {S₉ : XS} {y1 y2 : Int} (h1 : cntS S₉ y1) (h2 : cntS S₉ y2) : y1 = y2 := by
  have := cnt_le₉ h1 h2
  have := cnt_le₉ h2 h1
  omega
theorem and31 {x₉ : Int} (h : rg x₉) : iI x₉ &&& iI 31 = iI (x₉ % 32) := by
  by_cases h0 : 0 ≤ x₉
  · exact b_and 31 5 32 (by decide) (by decide) (by omega)
  · have e : iI x₉ = iI (x₉ + 4294967296) := by rw [← iI_add, show iI 4294967296 = 0 by decide, Int32.add_zero]
    rw [e, b_and 31 5 32 (by decide) (by decide) (by omega)]
    congr 1
    show (x₉ + 4294967296) % 32 = x₉ % 32
    omega
theorem go_same {E : En} {p : Program} {e : Env} {R : Room} {s : State} {m : MethodId} {args : Array Value} {below : List Frame} {meth : Method} {c : Code} {Q : State → Prop} {cc : ByteArray} {nL : Nat} {own₉ : String} {d₉ : Nat} {k₉ : Nat × Nat} {N : Nat} {σ : Nat → va_E} {lv : List (Nat × Value)} {st₉ : List Value} {pc : Nat} (hF : Fx E cc nL own₉ d₉ p R s m args c) (tgt : Nat) {off₉ a₉ : Int} (hd₉ : decode cc pc = .ok (.if_icmp .eq off₉, 3)) (ht : (pc : Int) + off₉ = (tgt : Int)) (h : Go E p e R s m args below meth c Q nL k₉ N σ lv st₉ tgt) : Go E p e R s m args below meth c Q nL k₉ N σ lv (vi a₉ :: vi a₉ :: st₉) pc := fun H₉ locs₉ ls hP hS₉ hl => lv_icmp_eq hF.1 hF.2.1 hd₉ ht (fun _ => h H₉ locs₉ ls hP hS₉ hl) (fun q₉ => absurd rfl q₉)
theorem go_lsame {E : En} {p : Program} {e : Env} {R : Room} {s : State} {m : MethodId} {args : Array Value} {below : List Frame} {meth : Method} {c : Code} {Q : State → Prop} {cc : ByteArray} {nL : Nat} {own₉ : String} {d₉ : Nat} {k₉ : Nat × Nat} {N : Nat} {σ : Nat → va_E} {lv : List (Nat × Value)} {st₉ : List Value} {pc : Nat} (hF : Fx E cc nL own₉ d₉ p R s m args c) {a₉ : Int} (hd₉ : decode cc pc = .ok (.lcmp, 1)) (h : Go E p e R s m args below meth c Q nL k₉ N σ lv (vi 0 :: st₉) (pc + 1)) : Go E p e R s m args below meth c Q nL k₉ N σ lv (vl a₉ :: vl a₉ :: st₉) pc := fun H₉ locs₉ ls hP hS₉ hl => W.lcmp hF.1 hF.2.1 hd₉ (by
    have e0₉ : lg_cmp (lI a₉) (lI a₉) = iI 0 := by
      unfold lg_cmp
      simp [iI_0]
    rw [e0₉]
    exact h H₉ locs₉ ls hP hS₉ hl)
theorem clS.keep {E : En} {σ τ : Nat → va_E} {r₉ u₉ kd pr : Int} {yr yw yk yp : Int → Int} {hs : Int} {tx : Int → Int} {tl : Int} {t₉ : Tr} {xb xn xf q1₉ q2₉ q3₉ : Int} (h : clS E σ r₉ u₉ kd pr yr yw yk yp hs tx tl t₉ xb xn xf q1₉ q2₉ q3₉) (hk : ∀ q₉, q₉ < 94 → τ q₉ = σ q₉) : clS E τ r₉ u₉ kd pr yr yw yk yp hs tx tl t₉ xb xn xf q1₉ q2₉ q3₉ := by
  obtain ⟨z0, z1, ⟨a1₉, a2, a3, a4, z2⟩, zh, z13₉, zrd, ⟨sg, vl, mt₉, lw, ll, la, sz₉, lk₉, chs, lps, dp, ln, zp, hT₉⟩, zfo, zex, ⟨b1, b2, z99⟩, ⟨d1₉, d2₉, d3₉, d4₉, d5₉, z100⟩⟩ := h
  exact ⟨(hk _ (by omega)).trans z0, (hk _ (by omega)).trans z1, ⟨a1₉, a2, a3, a4, (hk _ (by omega)).trans z2⟩, zh.keep (fun j₉ h1 h2 => hk j₉ (by omega)), (hk _ (by omega)).trans z13₉, zrd.keep (fun j₉ h1 h2 => hk j₉ (by omega)), ⟨sg, vl, mt₉, lw, ll, la, sz₉, lk₉, chs, lps, dp, ln, zp.keep (fun j₉ h1 h2 => hk j₉ (by omega)), hT₉⟩, zfo.keep (fun j₉ h1 h2 => hk j₉ (by omega)), zex.keep (fun j₉ h1 h2 => hk j₉ (by omega)), ⟨b1, b2, (hk _ (by omega)).trans z99⟩, ⟨d1₉, d2₉, d3₉, d4₉, d5₉, (hk _ (by omega)).trans z100⟩⟩
theorem okS_new {r₉ u₉ kd pr : Int} {yr yw yk yp : Int → Int} {hs : Int} {tx : Int → Int} {tl : Int} {t₉ : Tr} {xb xn xf q1₉ q2₉ q3₉ : Int} {r' u' kd' pr' : Int} (h : okS r₉ u₉ kd pr yr yw yk yp hs tx tl t₉ xb xn xf q1₉ q2₉ q3₉) (hn : vrow u' r' ∧ (1 ≤ u' ∧ u' ≤ 3) ∧ (0 ≤ kd' ∧ kd' ≤ 3) ∧ (2 ≤ pr' ∧ pr' ≤ 99)) : okS r' u' kd' pr' (psh yr r₉) (psh yw u₉) (psh yk kd) (psh yp pr) (min (hs + 1) 8) tx tl t₉ xb xn xf q1₉ q2₉ q3₉ := by
  obtain ⟨h0, h1, h2, h3⟩ := h
  refine ⟨hn, by omega, fun i₉ i0₉ i1₉ => ?_, h3⟩
  by_cases e : i₉ = 0
  · show vrow (if i₉ = 0 then u₉ else yw (i₉ - 1)) (if i₉ = 0 then r₉ else yr (i₉ - 1)) ∧ (1 ≤ (if i₉ = 0 then u₉ else yw (i₉ - 1)) ∧ (if i₉ = 0 then u₉ else yw (i₉ - 1)) ≤ 3) ∧ (0 ≤ (if i₉ = 0 then kd else yk (i₉ - 1)) ∧ (if i₉ = 0 then kd else yk (i₉ - 1)) ≤ 3) ∧ (2 ≤ (if i₉ = 0 then pr else yp (i₉ - 1)) ∧ (if i₉ = 0 then pr else yp (i₉ - 1)) ≤ 99)
    rw [if_pos e, if_pos e, if_pos e, if_pos e]
    exact h0
  · show vrow (if i₉ = 0 then u₉ else yw (i₉ - 1)) (if i₉ = 0 then r₉ else yr (i₉ - 1)) ∧ (1 ≤ (if i₉ = 0 then u₉ else yw (i₉ - 1)) ∧ (if i₉ = 0 then u₉ else yw (i₉ - 1)) ≤ 3) ∧ (0 ≤ (if i₉ = 0 then kd else yk (i₉ - 1)) ∧ (if i₉ = 0 then kd else yk (i₉ - 1)) ≤ 3) ∧ (2 ≤ (if i₉ = 0 then pr else yp (i₉ - 1)) ∧ (if i₉ = 0 then pr else yp (i₉ - 1)) ≤ 99)
    rw [if_neg e, if_neg e, if_neg e, if_neg e]
    exact h2 (i₉ - 1) (by omega) (by omega)
theorem zR_pos {tx : Int → Int} : ∀ (n₉ : Nat) (f₉ : Int), zR tx n₉ = .inl f₉ → 0 ≤ f₉
  | 0, f₉, h => by simp [zR] at h
  | n₉ + 1, f₉, h => by
    cases h1 : zR tx n₉ with
    | inl g₉ =>
      simp only [zR, h1] at h
      have := zR_pos n₉ g₉ h1
      have e : g₉ = f₉ := Sum.inl.inj h
      omega
    | inr z₉ =>
      simp only [zR, h1] at h
      cases h2 : zst (tx n₉) z₉.1 z₉.2.1 z₉.2.2 with
      | none =>
        rw [h2] at h
        have e : (n₉ : Int) = f₉ := Sum.inl.inj h
        omega
      | some z' =>
        rw [h2] at h
        exact absurd h (by simp)
theorem zEnd_yes {tx : Int → Int} {tl : Int} (htl : 0 ≤ tl) (h : zEnd tx tl = -1) : ∃ t9, zR tx tl.toNat = .inr ([], t9, 0) := by
  cases h1 : zR tx tl.toNat with
  | inl g₉ =>
    have h0 := zR_pos _ _ h1
    simp only [zEnd, h1] at h
    omega
  | inr z₉ =>
    obtain ⟨s, u₉, fg⟩ := z₉
    rw [zEnd_at h1] at h
    by_cases e : s.length = 0 ∧ fg = 0
    · obtain ⟨e1₉, e2₉⟩ := e
      have es : s = [] := List.eq_nil_of_length_eq_zero e1₉
      subst es
      subst e2₉
      exact ⟨u₉, rfl⟩
    · rw [if_neg e] at h
      omega
theorem clS.tree {E : En} {σ : Nat → va_E} {r₉ u₉ kd pr : Int} {yr yw yk yp : Int → Int} {hs : Int} {tx : Int → Int} {tl : Int} {t₉ : Tr} {xb xn xf q1₉ q2₉ q3₉ : Int} (h : clS E σ r₉ u₉ kd pr yr yw yk yp hs tx tl t₉ xb xn xf q1₉ q2₉ q3₉) : wf t₉ ∧ tDep t₉ ≤ 3 ∧ tLen t₉ ≤ 80 ∧ tLks t₉ ≤ 24 := by
  obtain ⟨-, -, -, -, -, -, ⟨sg, vl, mt₉, lw, ll, la, sz₉, lk₉, chs, lps, dp, ln, zp, hT₉⟩, -⟩ := h
  obtain ⟨h1, h2, -, h3, h4, -, -, -, -, h5⟩ := hT₉
  have a₉ := h5.1
  have b₉ := h5.2.1
  exact ⟨h1, h2, by omega, by omega⟩
theorem go_lawret {E : En} {p : Program} {e : Env} {s : State} {m : MethodId} {below : List Frame} {meth : Method} {c : Code} {b₉ cells₉ slots₉ N : Nat} {σ : Nat → va_E} {lv : List (Nat × Value)} (hE : ez E = s.heap.size) (hx : p.tables.exec = Jvm.exec) (hb₉ : c.code = code) (hr : meth.sig.returnType = ret) (hlocks : meth.locks = false) (h1 : cells₉ ≤ 600000) (h2 : slots₉ ≤ 7302250) {pc : Nat} (hdg : decode code pc = .ok (.ireturn, 1)) : Go E p e room_1 s m #[Value.ref b₉] below meth c (lw_Z below #[Value.ref b₉] s) 4 (cells₉, slots₉) N σ lv [vi 1] pc := fun H₉ locs₉ ls hP hS₉ hl =>
  va_forget (fun q₉ hq => by have h := hS₉.2.2 q₉ hq; rw [← hE]; exact h) (W.widen h1 h2 (lw_ret hx hb₉ hr hlocks hdg))
