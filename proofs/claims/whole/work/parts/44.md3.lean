/-! Along the signs of₉ a₉ program. -/
theorem MA_sg {sn eo bo : Int → Int} : ∀ t₉, wf t₉ → ∀ o : Int, MA₉ sn eo bo t₉ o → ∀ p : Int, o ≤ p → p < o + tLen t₉ → 40 ≤ sn p ∧ sn p ≤ 124 := by
  refine tInd (fun o _ p h1 h2 => ?_) (fun c r₉ hc₉ _ ih₉ o h p h1 h2 => ?_) (fun a₉ b₉ r₉ _ _ _ iha ihb ih₉ o h p h1 h2 => ?_) (fun n₉ a₉ r₉ hn _ _ iha ih₉ o h p h1 h2 => ?_)
  · have h2 : p < o + ((0 : Nat) : Int) := h2
    omega
  · have eL : tLen (.append (.nest c .nil) r₉) = 1 + tLen r₉ := rfl
    rw [eL] at h2
    by_cases e : p = o
    · rw [e, h.1]; unfold okc at hc₉; omega
    · exact ih₉ _ h.2 p (by omega) (by omega)
  · have eL : tLen (.append (.append a₉ b₉) r₉) = 3 + tLen a₉ + tLen b₉ + tLen r₉ := rfl
    rw [eL] at h2
    obtain ⟨⟨k1₉, -, -, k2₉, k3₉, -⟩, ha₉, hb₉, hr⟩ := h
    obtain e | e | e | e | e | e : p = o ∨ p = o + 1 + tLen a₉ ∨ p = o + 2 + tLen a₉ + tLen b₉ ∨ (o + 1 ≤ p ∧ p < o + 1 + tLen a₉) ∨ (o + 2 + tLen a₉ ≤ p ∧ p < o + 2 + tLen a₉ + tLen b₉) ∨ o + 3 + tLen a₉ + tLen b₉ ≤ p := by omega
    · rw [e, k1₉]; omega
    · rw [e, k2₉]; omega
    · rw [e, k3₉]; omega
    · exact iha _ ha₉ p e.1 e.2
    · exact ihb _ hb₉ p e.1 e.2
    · exact ih₉ _ hr p e (by omega)
  · have eL : tLen (.append (.tag n₉ a₉) r₉) = 2 + tLen a₉ + tLen r₉ := rfl
    rw [eL] at h2
    obtain ⟨⟨k1₉, -, k2₉, -⟩, ha₉, hr⟩ := h
    obtain e | e | e | e : p = o ∨ p = o + 1 + tLen a₉ ∨ (o + 1 ≤ p ∧ p < o + 1 + tLen a₉) ∨ o + 2 + tLen a₉ ≤ p := by omega
    · rw [e, k1₉]; omega
    · rw [e, k2₉]; omega
    · exact iha _ ha₉ p e.1 e.2
    · exact ih₉ _ hr p e (by omega)
/-- a₉ walk₉ along₉ the signs -/
def fs {S₉ : Type} (f₉ : S₉ → Int → S₉) (sn : Int → Int) (o : Int) : Nat → S₉ → S₉
  | 0, s => s
  | n₉ + 1, s => f₉ (fs f₉ sn o n₉ s) (sn (o + n₉))
theorem fs_add {S₉ : Type} (f₉ : S₉ → Int → S₉) (sn : Int → Int) (o : Int) (n₉ : Nat) (s : S₉) : ∀ m : Nat, fs f₉ sn o (n₉ + m) s = fs f₉ sn (o + n₉) m (fs f₉ sn o n₉ s)
  | 0 => rfl
  | m + 1 => by
    show f₉ (fs f₉ sn o (n₉ + m) s) (sn (o + ((n₉ + m : Nat) : Int))) = f₉ (fs f₉ sn (o + n₉) m (fs f₉ sn o n₉ s)) (sn (o + n₉ + m))
    rw [fs_add f₉ sn o n₉ s m, show o + ((n₉ + m : Nat) : Int) = o + n₉ + m by omega]
theorem fs_one {S₉ : Type} (f₉ : S₉ → Int → S₉) (sn : Int → Int) (o : Int) (s : S₉) (m : Nat) : fs f₉ sn o (1 + m) s = fs f₉ sn (o + 1) m (f₉ s (sn o)) := by
  rw [fs_add]
  show fs f₉ sn (o + ((1 : Nat) : Int)) m (f₉ s (sn (o + ((0 : Nat) : Int)))) = _
  rw [show o + ((0 : Nat) : Int) = o by omega]
  rfl
theorem fs_I {S₉ : Type} {f₉ : S₉ → Int → S₉} {I₉ : S₉ → Prop} (hI : ∀ s c, I₉ s → I₉ (f₉ s c)) (sn : Int → Int) (o : Int) {s : S₉} (h : I₉ s) : ∀ n₉ : Nat, I₉ (fs f₉ sn o n₉ s)
  | 0 => h
  | n₉ + 1 => hI _ _ (fs_I hI sn o h n₉)
theorem fs_tree {S₉ : Type} {f₉ : S₉ → Int → S₉} {G₉ : Tr → S₉ → S₉} {I₉ : S₉ → Prop} {sn eo bo : Int → Int} (hI : ∀ s c, I₉ s → I₉ (f₉ s c)) (h0 : ∀ s, I₉ s → G₉ .nil s = s) (h1 : ∀ c r₉ s, I₉ s → okc c → G₉ (.append (.nest c .nil) r₉) s = G₉ r₉ (f₉ s c)) (h2 : ∀ a₉ b₉ r₉ s, I₉ s → G₉ (.append (.append a₉ b₉) r₉) s = G₉ r₉ (f₉ (G₉ b₉ (f₉ (G₉ a₉ (f₉ s 40)) 124)) 41)) (h3 : ∀ (n₉ : Nat) a₉ r₉ s, I₉ s → 1 ≤ n₉ ∧ n₉ ≤ 9 → G₉ (.append (.tag n₉ a₉) r₉) s = G₉ r₉ (f₉ (G₉ a₉ (f₉ s (48 + n₉))) 93)) : ∀ t₉, wf t₉ → ∀ o s, I₉ s → MA₉ sn eo bo t₉ o → fs f₉ sn o (tLen t₉) s = G₉ t₉ s := by
  refine tInd (fun o s hs _ => (h0 s hs).symm) (fun c r₉ hc₉ _ ih₉ o s hs h => ?_) (fun a₉ b₉ r₉ _ _ _ iha ihb ih₉ o s hs h => ?_) (fun n₉ a₉ r₉ hn _ _ iha ih₉ o s hs h => ?_)
  · show fs f₉ sn o (1 + tLen r₉) s = _
    rw [fs_one, h1 c r₉ s hs hc₉, h.1, ih₉ _ _ (hI _ _ hs) h.2]
  · obtain ⟨⟨k1₉, -, -, k2₉, k3₉, -⟩, ha₉, hb₉, hr⟩ := h
    show fs f₉ sn o (3 + tLen a₉ + tLen b₉ + tLen r₉) s = _
    have i1₉ : I₉ (f₉ s 40) := hI _ _ hs
    have e1₉ := iha _ _ i1₉ ha₉
    have i2₉ : I₉ (f₉ (G₉ a₉ (f₉ s 40)) 124) := hI _ _ (e1₉ ▸ fs_I hI sn _ i1₉ _)
    have e2₉ := ihb _ _ i2₉ hb₉
    have i3₉ : I₉ (f₉ (G₉ b₉ (f₉ (G₉ a₉ (f₉ s 40)) 124)) 41) := hI _ _ (e2₉ ▸ fs_I hI sn _ i2₉ _)
    rw [h2 a₉ b₉ r₉ s hs, show 3 + tLen a₉ + tLen b₉ + tLen r₉ = 1 + (tLen a₉ + (1 + (tLen b₉ + (1 + tLen r₉)))) by omega, fs_one, k1₉, fs_add, e1₉, fs_one, k2₉, fs_add, show o + 1 + (tLen a₉ : Int) + 1 = o + 2 + tLen a₉ by omega, e2₉, fs_one, k3₉, show o + 2 + (tLen a₉ : Int) + tLen b₉ + 1 = o + 3 + tLen a₉ + tLen b₉ by omega, ih₉ _ _ i3₉ hr]
  · obtain ⟨⟨k1₉, -, k2₉, -⟩, ha₉, hr⟩ := h
    show fs f₉ sn o (2 + tLen a₉ + tLen r₉) s = _
    have i1₉ : I₉ (f₉ s (48 + n₉)) := hI _ _ hs
    have e1₉ := iha _ _ i1₉ ha₉
    have i2₉ : I₉ (f₉ (G₉ a₉ (f₉ s (48 + n₉))) 93) := hI _ _ (e1₉ ▸ fs_I hI sn _ i1₉ _)
    rw [h3 n₉ a₉ r₉ s hs hn, show 2 + tLen a₉ + tLen r₉ = 1 + (tLen a₉ + (1 + tLen r₉)) by omega, fs_one, k1₉, fs_add, e1₉, fs_one, k2₉, show o + 1 + (tLen a₉ : Int) + 1 = o + 2 + tLen a₉ by omega, ih₉ _ _ i2₉ hr]
/-- counts₉ -/
def cw₉ (x₉ c : Int) : Int := if x₉ = 0 then bI (97 ≤ c ∧ c ≤ 102) else if x₉ = 1 then bI (c = 40) else bI (49 ≤ c ∧ c ≤ 57)
def cwF (x₉ : Int) : Int → Int → Int := fun s c => s + cw₉ x₉ c
theorem bI_01 (q₉ : Prop) [Decidable q₉] : 0 ≤ bI q₉ ∧ bI q₉ ≤ 1 := by unfold bI; split <;> omega
theorem cw_01 (x₉ c : Int) : 0 ≤ cw₉ x₉ c ∧ cw₉ x₉ c ≤ 1 := by
  unfold cw₉
  split
  · exact bI_01 _
  · split <;> exact bI_01 _
theorem cwF_rg (x₉ : Int) (sn : Int → Int) (o : Int) : ∀ n₉ : Nat, 0 ≤ fs (cwF x₉) sn o n₉ 0 ∧ fs (cwF x₉) sn o n₉ 0 ≤ n₉
  | 0 => by show (0 : Int) ≤ 0 ∧ (0 : Int) ≤ ((0 : Nat) : Int); omega
  | n₉ + 1 => by
    have h := cwF_rg x₉ sn o n₉
    have h1 := cw_01 x₉ (sn (o + n₉))
    show 0 ≤ fs (cwF x₉) sn o n₉ 0 + cw₉ x₉ (sn (o + n₉)) ∧ fs (cwF x₉) sn o n₉ 0 + cw₉ x₉ (sn (o + n₉)) ≤ ((n₉ + 1 : Nat) : Int)
    omega
def cntT (x₉ : Int) (t₉ : Tr) : Int := if x₉ = 0 then (tLks t₉ : Int) else if x₉ = 1 then (tChs t₉ : Int) else (tLps t₉ : Int)
theorem cw0 (c : Int) : cw₉ 0 c = bI (97 ≤ c ∧ c ≤ 102) := by unfold cw₉; rw [if_pos rfl]
theorem cw1 (c : Int) : cw₉ 1 c = bI (c = 40) := by unfold cw₉; rw [if_neg (by decide), if_pos rfl]
theorem cw2 (c : Int) : cw₉ 2 c = bI (49 ≤ c ∧ c ≤ 57) := by unfold cw₉; rw [if_neg (by decide), if_neg (by decide)]
theorem cnt_tree {sn eo bo : Int → Int} (x₉ : Int) (hx : x₉ = 0 ∨ x₉ = 1 ∨ x₉ = 2) : ∀ t₉, wf t₉ → ∀ o s, MA₉ sn eo bo t₉ o → fs (cwF x₉) sn o (tLen t₉) s = s + cntT x₉ t₉ := by
  intro t₉ hw o s h
  refine fs_tree (G₉ := fun t₉ s => s + cntT x₉ t₉) (I₉ := fun _ => True) (fun _ _ _ => trivial) (fun s _ => ?_) (fun c r₉ s _ hc₉ => ?_) (fun a₉ b₉ r₉ s _ => ?_) (fun n₉ a₉ r₉ s _ hn => ?_) t₉ hw o s trivial h
  · show s + cntT x₉ .nil = s
    rcases hx with e | e | e <;> subst e <;> exact Int.add_zero _
  · unfold okc at hc₉
    show s + cntT x₉ _ = s + cw₉ x₉ c + cntT x₉ r₉
    rcases hx with e | e | e <;> subst e
    · show s + (((if c = 46 then 0 else 1) + tLks r₉ : Nat) : Int) = s + cw₉ 0 c + tLks r₉
      rw [cw0]
      by_cases e : c = 46
      · rw [if_pos e, bI_f (by omega)]; omega
      · rw [if_neg e, bI_t (by omega)]; omega
    · show s + (tChs r₉ : Int) = s + cw₉ 1 c + tChs r₉
      rw [cw1, bI_f (by omega)]; omega
    · show s + (tLps r₉ : Int) = s + cw₉ 2 c + tLps r₉
      rw [cw2, bI_f (by omega)]; omega
  · show s + cntT x₉ _ = s + cw₉ x₉ 40 + cntT x₉ a₉ + cw₉ x₉ 124 + cntT x₉ b₉ + cw₉ x₉ 41 + cntT x₉ r₉
    rcases hx with e | e | e <;> subst e
    · show s + ((tLks a₉ + tLks b₉ + tLks r₉ : Nat) : Int) = s + cw₉ 0 40 + tLks a₉ + cw₉ 0 124 + tLks b₉ + cw₉ 0 41 + tLks r₉
      rw [cw0, cw0, cw0, bI_f (by omega), bI_f (by omega), bI_f (by omega)]; omega
    · show s + ((1 + tChs a₉ + tChs b₉ + tChs r₉ : Nat) : Int) = s + cw₉ 1 40 + tChs a₉ + cw₉ 1 124 + tChs b₉ + cw₉ 1 41 + tChs r₉
      rw [cw1, cw1, cw1, bI_t (by omega), bI_f (by omega), bI_f (by omega)]; omega
    · show s + ((tLps a₉ + tLps b₉ + tLps r₉ : Nat) : Int) = s + cw₉ 2 40 + tLps a₉ + cw₉ 2 124 + tLps b₉ + cw₉ 2 41 + tLps r₉
      rw [cw2, cw2, cw2, bI_f (by omega), bI_f (by omega), bI_f (by omega)]; omega
  · show s + cntT x₉ _ = s + cw₉ x₉ (48 + n₉) + cntT x₉ a₉ + cw₉ x₉ 93 + cntT x₉ r₉
    rcases hx with e | e | e <;> subst e
    · show s + ((tLks a₉ + tLks r₉ : Nat) : Int) = s + cw₉ 0 (48 + n₉) + tLks a₉ + cw₉ 0 93 + tLks r₉
      rw [cw0, cw0, bI_f (by omega), bI_f (by omega)]; omega
    · show s + ((tChs a₉ + tChs r₉ : Nat) : Int) = s + cw₉ 1 (48 + n₉) + tChs a₉ + cw₉ 1 93 + tChs r₉
      rw [cw1, cw1, bI_f (by omega), bI_f (by omega)]; omega
    · show s + ((1 + tLps a₉ + tLps r₉ : Nat) : Int) = s + cw₉ 2 (48 + n₉) + tLps a₉ + cw₉ 2 93 + tLps r₉
      rw [cw2, cw2, bI_t (by omega), bI_f (by omega)]; omega
/-- the deepest₉ -/
def dpD (c : Int) : Int := if c = 40 ∨ (49 ≤ c ∧ c ≤ 57) then 1 else if c = 41 ∨ c = 93 then -1 else 0
def dpF (s : Int × Int) (c : Int) : Int × Int := (s.1 + dpD c, if s.2 < s.1 + dpD c then s.1 + dpD c else s.2)
theorem dpF_I (s : Int × Int) (c : Int) : (dpF s c).1 ≤ (dpF s c).2 := by
  show s.1 + dpD c ≤ if s.2 < s.1 + dpD c then s.1 + dpD c else s.2
  split <;> omega
theorem dp_tree {sn eo bo : Int → Int} : ∀ t₉, wf t₉ → ∀ o s, s.1 ≤ s.2 → MA₉ sn eo bo t₉ o → fs dpF sn o (tLen t₉) s = (s.1, max s.2 (s.1 + tDep t₉)) := by
  intro t₉ hw o s hs h
  have d40₉ : dpD 40 = 1 := by decide
  have d124₉ : dpD 124 = 0 := by decide
  have d41₉ : dpD 41 = -1 := by decide
  have d93₉ : dpD 93 = -1 := by decide
  refine fs_tree (G₉ := fun (t₉ : Tr) (s : Int × Int) => (s.1, max s.2 (s.1 + (tDep t₉ : Int)))) (I₉ := fun s : Int × Int => s.1 ≤ s.2) (fun s c _ => dpF_I s c) (fun s hs => ?_) (fun c r₉ s hs hc₉ => ?_) (fun a₉ b₉ r₉ s hs => ?_) (fun n₉ a₉ r₉ s hs hn => ?_) t₉ hw o s hs h
  · show (s.1, max s.2 (s.1 + ((0 : Nat) : Int))) = s
    rw [show max s.2 (s.1 + ((0 : Nat) : Int)) = s.2 by omega]
  · unfold okc at hc₉
    have hd₉ : dpD c = 0 := by unfold dpD; rw [if_neg (by omega), if_neg (by omega)]
    show (s.1, max s.2 (s.1 + (tDep r₉ : Int))) = (s.1 + dpD c, max (if s.2 < s.1 + dpD c then s.1 + dpD c else s.2) (s.1 + dpD c + tDep r₉))
    rw [hd₉, Int.add_zero, if_neg (by omega)]
  · show (s.1, max s.2 (s.1 + ((max (1 + max (tDep a₉) (tDep b₉)) (tDep r₉) : Nat) : Int))) = _
    simp only [dpF, d40₉, d124₉, d41₉]
    refine Prod.ext (by show s.1 = _; omega) ?_
    show _ = max _ _
    repeat' split
    all_goals omega
  · have hd₉ : dpD (48 + (n₉ : Int)) = 1 := by unfold dpD; rw [if_pos (by omega)]
    show (s.1, max s.2 (s.1 + ((max (1 + tDep a₉) (tDep r₉) : Nat) : Int))) = _
    simp only [dpF, hd₉, d93₉]
    refine Prod.ext (by show s.1 = _; omega) ?_
    show _ = max _ _
    repeat' split
    all_goals omega
/-- the lines -/
def mkF₉ (m c : Int) : Int := if 97 ≤ c ∧ c ≤ 102 then orb m (c - 97) else m
theorem mkF_rg (m c : Int) (h : 0 ≤ m ∧ m < 64) : 0 ≤ mkF₉ m c ∧ mkF₉ m c < 64 := by
  unfold mkF₉
  split
  · exact orb_rg h (by omega)
  · exact h
theorem mk_tree {sn eo bo : Int → Int} : ∀ t₉, wf t₉ → ∀ o s, MA₉ sn eo bo t₉ o → fs mkF₉ sn o (tLen t₉) s = tMsk t₉ s := by
  intro t₉ hw o s h
  refine fs_tree (G₉ := tMsk) (I₉ := fun _ => True) (fun _ _ _ => trivial) (fun s _ => rfl) (fun c r₉ s _ hc₉ => ?_) (fun a₉ b₉ r₉ s _ => ?_) (fun n₉ a₉ r₉ s _ hn => ?_) t₉ hw o s trivial h
  · unfold okc at hc₉
    show tMsk r₉ (if c = 46 then s else orb s (c - 97)) = tMsk r₉ (mkF₉ s c)
    unfold mkF₉
    by_cases e : c = 46
    · rw [if_pos e, if_neg (by omega)]
    · rw [if_neg e, if_pos (by omega)]
  · show tMsk r₉ (tMsk b₉ (tMsk a₉ s)) = _
    have e1₉ : ∀ m, mkF₉ m 40 = m := fun m => by unfold mkF₉; rw [if_neg (by decide)]
    have e2₉ : ∀ m, mkF₉ m 124 = m := fun m => by unfold mkF₉; rw [if_neg (by decide)]
    have e3₉ : ∀ m, mkF₉ m 41 = m := fun m => by unfold mkF₉; rw [if_neg (by decide)]
    rw [e1₉, e2₉, e3₉]
  · show tMsk r₉ (tMsk a₉ s) = _
    have e1₉ : ∀ m, mkF₉ m (48 + (n₉ : Int)) = m := fun m => by unfold mkF₉; rw [if_neg (by omega)]
    have e2₉ : ∀ m, mkF₉ m 93 = m := fun m => by unfold mkF₉; rw [if_neg (by decide)]
    rw [e1₉, e2₉]
theorem or_0 (a₉ : Int) : iI a₉ ||| iI 0 = iI a₉ := Int32.or_zero

set_option maxHeartbeats 4000000 in
set_option maxRecDepth 100000 in
theorem c_X11_countOf (E : En) (N : Nat) (σ : Nat → va_E) {un sz₉ tl rz hi₉ mi ak rt cn : Int} {sn : Int → Int} (hN₉ : 120 ≤ N) (z101 : σ 94 = mOb E un sz₉ tl rz hi₉ mi ak rt cn) (z105 : σ 98 = ai E 80 sn) (hsg : ∀ p : Int, 0 ≤ p → p < sz₉ → 40 ≤ sn p ∧ sn p ≤ 124) (hsz : 0 ≤ sz₉ ∧ sz₉ ≤ 80) (x₉ : Int) (hx : 0 ≤ x₉ ∧ x₉ ≤ 2) : CP E M_X11_countOf 3 [vr E 94, vi x₉] N σ (fs (cwF x₉) sn 0 sz₉.toNat 0) := by
  refine CT.of2 (own := RX11) (by decide) rfl (Nat.le_of_ble_eq_true rfl) ?_
  intro p e R s m args below meth c Q hF hr hlk hnm hz hR hQ
  refine go_iconst (pc := 0) hF dX11_countOf_0 ?_
  refine go_istore_n (pc := 1) hF [(2, vi 0), (0, vr E 94), (1, vi x₉)] dX11_countOf_1 rfl (by decide) ?_
  refine go_iconst (pc := 2) hF dX11_countOf_2 ?_
  refine go_istore_n (pc := 3) hF [(3, vi 0), (2, vi 0), (0, vr E 94), (1, vi x₉)] dX11_countOf_3 rfl (by decide) ?_
  have loop₉ : ∀ (n₉ : Nat) (j₉ : Nat), j₉ + n₉ = 82 → (j₉ : Int) ≤ sz₉ → Go E p e R s m args below meth c Q 5 (0, 0) N σ [(3, vi (j₉ : Int)), (2, vi (fs (cwF x₉) sn 0 j₉ 0)), (0, vr E 94), (1, vi x₉)] [] 4 := by
    intro n₉
    induction n₉ with
    | zero => intro j₉ hfu hj; exfalso; omega
    | succ n₉ ih₉ =>
      intro j₉ hfu hj
      have gf := cwF_rg x₉ sn 0 j₉
      refine go_iload_n (pc := 4) hF dX11_countOf_4 0 rfl ?_
      refine go_aload_n (pc := 5) hF dX11_countOf_5 2 rfl ?_
      refine go_get (pc := 6) hF fl_X11_177 dX11_countOf_6 (by omega) z101 rfl ?_
      refine go_icmp_ge (pc := 9) hF 82 dX11_countOf_9 (by decide) (by omega) (by omega) (fun bq9 => ?_) (fun bq9 => ?_)
      · refine go_iload_n (pc := 82) hF dX11_countOf_82 1 rfl ?_
        have ej : j₉ = sz₉.toNat := by omega
        subst ej
        exact go_iretQ hF hr hlk hQ dX11_countOf_83 ⟨rfl, rfl⟩
      · have gj := hsg j₉ (by omega) (by omega)
        refine go_iload_n (pc := 12) hF dX11_countOf_12 3 rfl ?_
        refine go_if_ne (pc := 13) hF 28 dX11_countOf_13 (by decide) (by omega) (fun bq13 => ?_) (fun bq13 => ?_)
        · refine go_iload_n (pc := 28) hF dX11_countOf_28 3 rfl ?_
          refine go_iconst (pc := 29) hF dX11_countOf_29 ?_
          refine go_icmp_ne (pc := 30) hF 52 dX11_countOf_30 (by decide) (by omega) ⟨by decide, by decide⟩ (fun bq30 => ?_) (fun bq30 => ?_)
          · refine go_aload_n (pc := 52) hF dX11_countOf_52 2 rfl ?_
            refine go_get (pc := 53) hF fl_X11_19 dX11_countOf_53 (by omega) z101 rfl ?_
            refine go_iload_n (pc := 56) hF dX11_countOf_56 0 rfl ?_
            refine go_iald (pc := 57) hF dX11_countOf_57 (by omega) z105 (by omega)  ?_
            refine go_callSP (pc := 58) hF [vi (sn (j₉ : Int))] [] ms_X11_171 dX11_countOf_58 (c_X11_isFigure E N σ (sn (j₉ : Int)) (by omega)) rfl rfl (Nat.le_of_ble_eq_true rfl) (by decide) ⟨Nat.zero_le _, Nat.zero_le _⟩ ?_
            refine go_istore (pc := 61) hF [(4, vi (bI (49 ≤ (sn (j₉ : Int)) ∧ (sn (j₉ : Int)) ≤ 57))), (3, vi (j₉ : Int)), (2, vi (fs (cwF x₉) sn 0 j₉ 0)), (0, vr E 94), (1, vi x₉)] dX11_countOf_61 rfl (by decide) ?_
            refine go_iload_n (pc := 63) hF dX11_countOf_63 2 rfl ?_
            refine go_iload (pc := 64) hF dX11_countOf_64 0 rfl ?_
            refine go_if_eq (pc := 66) hF 73 dX11_countOf_66 (by decide) (bI_rg _) (fun bq66 => ?_) (fun bq66 => ?_)
            · refine go_iconst (pc := 73) hF dX11_countOf_73 ?_
              refine go_iadd (pc := 74) hF dX11_countOf_74 ?_
              refine go_istore_n (pc := 75) hF [(2, vi ((fs (cwF x₉) sn 0 j₉ 0) + 0)), (4, vi (bI (49 ≤ (sn (j₉ : Int)) ∧ (sn (j₉ : Int)) ≤ 57))), (3, vi (j₉ : Int)), (0, vr E 94), (1, vi x₉)] dX11_countOf_75 rfl (by decide) ?_
              refine go_lv [(2, vi ((fs (cwF x₉) sn 0 j₉ 0) + 0)), (3, vi (j₉ : Int)), (0, vr E 94), (1, vi x₉)] [0, 2, 3, 4] rfl ?_
              have eS : fs (cwF x₉) sn 0 (j₉ + 1) 0 = (fs (cwF x₉) sn 0 j₉ 0) + 0 := by
                show fs (cwF x₉) sn 0 j₉ 0 + cw₉ x₉ (sn (0 + (j₉ : Int))) = _
                rw [Int.zero_add]; unfold cw₉
                rw [if_neg (by omega), if_neg (by omega), bq66]
              rw [← eS]
              refine go_iinc (pc := 76) hF [(3, vi ((j₉ : Int) + 1)), (2, vi (fs (cwF x₉) sn 0 (j₉ + 1) 0)), (0, vr E 94), (1, vi x₉)] dX11_countOf_76 1 rfl rfl (by decide) ?_
              refine go_goto (pc := 79) hF 4 dX11_countOf_79 (by decide) ?_
              exact ih₉ (j₉ + 1) (by omega) (by omega)
            · refine go_iconst (pc := 69) hF dX11_countOf_69 ?_
              refine go_goto (pc := 70) hF 74 dX11_countOf_70 (by decide) ?_
              refine go_iadd (pc := 74) hF dX11_countOf_74 ?_
              refine go_istore_n (pc := 75) hF [(2, vi ((fs (cwF x₉) sn 0 j₉ 0) + 1)), (4, vi (bI (49 ≤ (sn (j₉ : Int)) ∧ (sn (j₉ : Int)) ≤ 57))), (3, vi (j₉ : Int)), (0, vr E 94), (1, vi x₉)] dX11_countOf_75 rfl (by decide) ?_
              refine go_lv [(2, vi ((fs (cwF x₉) sn 0 j₉ 0) + 1)), (3, vi (j₉ : Int)), (0, vr E 94), (1, vi x₉)] [0, 2, 3, 4] rfl ?_
              have eS : fs (cwF x₉) sn 0 (j₉ + 1) 0 = (fs (cwF x₉) sn 0 j₉ 0) + 1 := by
                show fs (cwF x₉) sn 0 j₉ 0 + cw₉ x₉ (sn (0 + (j₉ : Int))) = _
                rw [Int.zero_add]; unfold cw₉
                rw [if_neg (by omega), if_neg (by omega), (bI_t (Decidable.not_not.mp (fun z₉ => bq66 ((bI_0 _).mpr z₉))))]
              rw [← eS]
              refine go_iinc (pc := 76) hF [(3, vi ((j₉ : Int) + 1)), (2, vi (fs (cwF x₉) sn 0 (j₉ + 1) 0)), (0, vr E 94), (1, vi x₉)] dX11_countOf_76 1 rfl rfl (by decide) ?_
              refine go_goto (pc := 79) hF 4 dX11_countOf_79 (by decide) ?_
              exact ih₉ (j₉ + 1) (by omega) (by omega)
          · refine go_aload_n (pc := 33) hF dX11_countOf_33 2 rfl ?_
            refine go_get (pc := 34) hF fl_X11_19 dX11_countOf_34 (by omega) z101 rfl ?_
            refine go_iload_n (pc := 37) hF dX11_countOf_37 0 rfl ?_
            refine go_iald (pc := 38) hF dX11_countOf_38 (by omega) z105 (by omega)  ?_
            refine go_bipush (pc := 39) hF dX11_countOf_39 (by decide) ?_
            refine go_icmp_ne (pc := 41) hF 48 dX11_countOf_41 (by decide) (by omega) ⟨by decide, by decide⟩ (fun bq41 => ?_) (fun bq41 => ?_)
            · refine go_iconst (pc := 48) hF dX11_countOf_48 ?_
              refine go_goto (pc := 49) hF 61 dX11_countOf_49 (by decide) ?_
              refine go_istore (pc := 61) hF [(4, vi 0), (3, vi (j₉ : Int)), (2, vi (fs (cwF x₉) sn 0 j₉ 0)), (0, vr E 94), (1, vi x₉)] dX11_countOf_61 rfl (by decide) ?_
              refine go_iload_n (pc := 63) hF dX11_countOf_63 2 rfl ?_
              refine go_iload (pc := 64) hF dX11_countOf_64 0 rfl ?_
              refine go_if_eq (pc := 66) hF 73 dX11_countOf_66 (by decide) ⟨by decide, by decide⟩ (fun bq66 => ?_) (fun bq66 => ?_)
              · refine go_iconst (pc := 73) hF dX11_countOf_73 ?_
                refine go_iadd (pc := 74) hF dX11_countOf_74 ?_
                refine go_istore_n (pc := 75) hF [(2, vi ((fs (cwF x₉) sn 0 j₉ 0) + 0)), (4, vi 0), (3, vi (j₉ : Int)), (0, vr E 94), (1, vi x₉)] dX11_countOf_75 rfl (by decide) ?_
                refine go_lv [(2, vi ((fs (cwF x₉) sn 0 j₉ 0) + 0)), (3, vi (j₉ : Int)), (0, vr E 94), (1, vi x₉)] [0, 2, 3, 4] rfl ?_
                have eS : fs (cwF x₉) sn 0 (j₉ + 1) 0 = (fs (cwF x₉) sn 0 j₉ 0) + 0 := by
                  show fs (cwF x₉) sn 0 j₉ 0 + cw₉ x₉ (sn (0 + (j₉ : Int))) = _
                  rw [Int.zero_add]; unfold cw₉
                  rw [if_neg (by omega), if_pos (by omega), bI_f bq41]
                rw [← eS]
                refine go_iinc (pc := 76) hF [(3, vi ((j₉ : Int) + 1)), (2, vi (fs (cwF x₉) sn 0 (j₉ + 1) 0)), (0, vr E 94), (1, vi x₉)] dX11_countOf_76 1 rfl rfl (by decide) ?_
                refine go_goto (pc := 79) hF 4 dX11_countOf_79 (by decide) ?_
                exact ih₉ (j₉ + 1) (by omega) (by omega)
              · exact absurd bq66 (by decide)
            · refine go_iconst (pc := 44) hF dX11_countOf_44 ?_
              refine go_goto (pc := 45) hF 61 dX11_countOf_45 (by decide) ?_
              refine go_istore (pc := 61) hF [(4, vi 1), (3, vi (j₉ : Int)), (2, vi (fs (cwF x₉) sn 0 j₉ 0)), (0, vr E 94), (1, vi x₉)] dX11_countOf_61 rfl (by decide) ?_
              refine go_iload_n (pc := 63) hF dX11_countOf_63 2 rfl ?_
              refine go_iload (pc := 64) hF dX11_countOf_64 0 rfl ?_
              refine go_if_eq (pc := 66) hF 73 dX11_countOf_66 (by decide) ⟨by decide, by decide⟩ (fun bq66 => ?_) (fun bq66 => ?_)
              · exact absurd bq66 (by decide)
              · refine go_iconst (pc := 69) hF dX11_countOf_69 ?_
                refine go_goto (pc := 70) hF 74 dX11_countOf_70 (by decide) ?_
                refine go_iadd (pc := 74) hF dX11_countOf_74 ?_
                refine go_istore_n (pc := 75) hF [(2, vi ((fs (cwF x₉) sn 0 j₉ 0) + 1)), (4, vi 1), (3, vi (j₉ : Int)), (0, vr E 94), (1, vi x₉)] dX11_countOf_75 rfl (by decide) ?_
                refine go_lv [(2, vi ((fs (cwF x₉) sn 0 j₉ 0) + 1)), (3, vi (j₉ : Int)), (0, vr E 94), (1, vi x₉)] [0, 2, 3, 4] rfl ?_
                have eS : fs (cwF x₉) sn 0 (j₉ + 1) 0 = (fs (cwF x₉) sn 0 j₉ 0) + 1 := by
                  show fs (cwF x₉) sn 0 j₉ 0 + cw₉ x₉ (sn (0 + (j₉ : Int))) = _
                  rw [Int.zero_add]; unfold cw₉
                  rw [if_neg (by omega), if_pos (by omega), bI_t bq41]
                rw [← eS]
                refine go_iinc (pc := 76) hF [(3, vi ((j₉ : Int) + 1)), (2, vi (fs (cwF x₉) sn 0 (j₉ + 1) 0)), (0, vr E 94), (1, vi x₉)] dX11_countOf_76 1 rfl rfl (by decide) ?_
                refine go_goto (pc := 79) hF 4 dX11_countOf_79 (by decide) ?_
                exact ih₉ (j₉ + 1) (by omega) (by omega)
        · refine go_aload_n (pc := 16) hF dX11_countOf_16 2 rfl ?_
          refine go_get (pc := 17) hF fl_X11_19 dX11_countOf_17 (by omega) z101 rfl ?_
          refine go_iload_n (pc := 20) hF dX11_countOf_20 0 rfl ?_
          refine go_iald (pc := 21) hF dX11_countOf_21 (by omega) z105 (by omega)  ?_
          refine go_callSP (pc := 22) hF [vi (sn (j₉ : Int))] [] ms_X11_168 dX11_countOf_22 (c_X11_isLook E N σ (sn (j₉ : Int)) (by omega)) rfl rfl (Nat.le_of_ble_eq_true rfl) (by decide) ⟨Nat.zero_le _, Nat.zero_le _⟩ ?_
          refine go_goto (pc := 25) hF 61 dX11_countOf_25 (by decide) ?_
          refine go_istore (pc := 61) hF [(4, vi (bI (97 ≤ (sn (j₉ : Int)) ∧ (sn (j₉ : Int)) ≤ 102))), (3, vi (j₉ : Int)), (2, vi (fs (cwF x₉) sn 0 j₉ 0)), (0, vr E 94), (1, vi x₉)] dX11_countOf_61 rfl (by decide) ?_
          refine go_iload_n (pc := 63) hF dX11_countOf_63 2 rfl ?_
          refine go_iload (pc := 64) hF dX11_countOf_64 0 rfl ?_
          refine go_if_eq (pc := 66) hF 73 dX11_countOf_66 (by decide) (bI_rg _) (fun bq66 => ?_) (fun bq66 => ?_)
          · refine go_iconst (pc := 73) hF dX11_countOf_73 ?_
            refine go_iadd (pc := 74) hF dX11_countOf_74 ?_
            refine go_istore_n (pc := 75) hF [(2, vi ((fs (cwF x₉) sn 0 j₉ 0) + 0)), (4, vi (bI (97 ≤ (sn (j₉ : Int)) ∧ (sn (j₉ : Int)) ≤ 102))), (3, vi (j₉ : Int)), (0, vr E 94), (1, vi x₉)] dX11_countOf_75 rfl (by decide) ?_
            refine go_lv [(2, vi ((fs (cwF x₉) sn 0 j₉ 0) + 0)), (3, vi (j₉ : Int)), (0, vr E 94), (1, vi x₉)] [0, 2, 3, 4] rfl ?_
            have eS : fs (cwF x₉) sn 0 (j₉ + 1) 0 = (fs (cwF x₉) sn 0 j₉ 0) + 0 := by
              show fs (cwF x₉) sn 0 j₉ 0 + cw₉ x₉ (sn (0 + (j₉ : Int))) = _
              rw [Int.zero_add]; unfold cw₉
              rw [if_pos (by omega), bq66]
            rw [← eS]
            refine go_iinc (pc := 76) hF [(3, vi ((j₉ : Int) + 1)), (2, vi (fs (cwF x₉) sn 0 (j₉ + 1) 0)), (0, vr E 94), (1, vi x₉)] dX11_countOf_76 1 rfl rfl (by decide) ?_
            refine go_goto (pc := 79) hF 4 dX11_countOf_79 (by decide) ?_
            exact ih₉ (j₉ + 1) (by omega) (by omega)
          · refine go_iconst (pc := 69) hF dX11_countOf_69 ?_
            refine go_goto (pc := 70) hF 74 dX11_countOf_70 (by decide) ?_
            refine go_iadd (pc := 74) hF dX11_countOf_74 ?_
            refine go_istore_n (pc := 75) hF [(2, vi ((fs (cwF x₉) sn 0 j₉ 0) + 1)), (4, vi (bI (97 ≤ (sn (j₉ : Int)) ∧ (sn (j₉ : Int)) ≤ 102))), (3, vi (j₉ : Int)), (0, vr E 94), (1, vi x₉)] dX11_countOf_75 rfl (by decide) ?_
            refine go_lv [(2, vi ((fs (cwF x₉) sn 0 j₉ 0) + 1)), (3, vi (j₉ : Int)), (0, vr E 94), (1, vi x₉)] [0, 2, 3, 4] rfl ?_
            have eS : fs (cwF x₉) sn 0 (j₉ + 1) 0 = (fs (cwF x₉) sn 0 j₉ 0) + 1 := by
              show fs (cwF x₉) sn 0 j₉ 0 + cw₉ x₉ (sn (0 + (j₉ : Int))) = _
              rw [Int.zero_add]; unfold cw₉
              rw [if_pos (by omega), (bI_t (Decidable.not_not.mp (fun z₉ => bq66 ((bI_0 _).mpr z₉))))]
            rw [← eS]
            refine go_iinc (pc := 76) hF [(3, vi ((j₉ : Int) + 1)), (2, vi (fs (cwF x₉) sn 0 (j₉ + 1) 0)), (0, vr E 94), (1, vi x₉)] dX11_countOf_76 1 rfl rfl (by decide) ?_
            refine go_goto (pc := 79) hF 4 dX11_countOf_79 (by decide) ?_
            exact ih₉ (j₉ + 1) (by omega) (by omega)
  exact loop₉ 82 0 rfl (by omega) 
theorem dpF_rg (sn : Int → Int) : ∀ j₉ : Nat, (-j₉ ≤ (fs dpF sn 0 j₉ (0, 0)).1 ∧ (fs dpF sn 0 j₉ (0, 0)).1 ≤ j₉) ∧ -j₉ ≤ (fs dpF sn 0 j₉ (0, 0)).2 ∧ (fs dpF sn 0 j₉ (0, 0)).2 ≤ j₉
  | 0 => by show (-((0 : Nat) : Int) ≤ (0 : Int) ∧ (0 : Int) ≤ ((0 : Nat) : Int)) ∧ -((0 : Nat) : Int) ≤ (0 : Int) ∧ (0 : Int) ≤ ((0 : Nat) : Int); omega
  | j₉ + 1 => by
    have h := dpF_rg sn j₉
    have h1 : -1 ≤ dpD (sn (0 + j₉)) ∧ dpD (sn (0 + j₉)) ≤ 1 := by
      unfold dpD
      repeat' split
      all_goals omega
    show (-((j₉ + 1 : Nat) : Int) ≤ (fs dpF sn 0 j₉ (0, 0)).1 + dpD (sn (0 + j₉)) ∧ (fs dpF sn 0 j₉ (0, 0)).1 + dpD (sn (0 + j₉)) ≤ ((j₉ + 1 : Nat) : Int)) ∧ -((j₉ + 1 : Nat) : Int) ≤ (if (fs dpF sn 0 j₉ (0, 0)).2 < (fs dpF sn 0 j₉ (0, 0)).1 + dpD (sn (0 + j₉)) then (fs dpF sn 0 j₉ (0, 0)).1 + dpD (sn (0 + j₉)) else (fs dpF sn 0 j₉ (0, 0)).2) ∧ (if (fs dpF sn 0 j₉ (0, 0)).2 < (fs dpF sn 0 j₉ (0, 0)).1 + dpD (sn (0 + j₉)) then (fs dpF sn 0 j₉ (0, 0)).1 + dpD (sn (0 + j₉)) else (fs dpF sn 0 j₉ (0, 0)).2) ≤ ((j₉ + 1 : Nat) : Int)
    split <;> omega
theorem go_lvE {E : En} {p : Program} {e : Env} {R : Room} {s : State} {m : MethodId} {args : Array Value} {below : List Frame} {meth : Method} {c : Code} {Q : State → Prop} {nL : Nat} {k₉ : Nat × Nat} {N : Nat} {σ : Nat → va_E} {lv : List (Nat × Value)} {st₉ : List Value} {pc : Nat} (lv' : List (Nat × Value)) (he : lv = lv') (h : Go E p e R s m args below meth c Q nL k₉ N σ lv' st₉ pc) : Go E p e R s m args below meth c Q nL k₉ N σ lv st₉ pc := by rw [he]; exact h
set_option maxHeartbeats 4000000 in
set_option maxRecDepth 100000 in
theorem c_X11_deepest (E : En) (N : Nat) (σ : Nat → va_E) {un sz₉ tl rz hi₉ mi ak rt cn : Int} {sn : Int → Int} (hN₉ : 120 ≤ N) (z101 : σ 94 = mOb E un sz₉ tl rz hi₉ mi ak rt cn) (z105 : σ 98 = ai E 80 sn) (hsg : ∀ p : Int, 0 ≤ p → p < sz₉ → 40 ≤ sn p ∧ sn p ≤ 124) (hsz : 0 ≤ sz₉ ∧ sz₉ ≤ 80) : CP E M_X11_deepest 3 [vr E 94] N σ (fs dpF sn 0 sz₉.toNat (0, 0)).2 := by
  refine CT.of2 (own := RX11) (by decide) rfl (Nat.le_of_ble_eq_true rfl) ?_
  intro p e R s m args below meth c Q hF hr hlk hnm hz hR hQ
  refine go_iconst (pc := 0) hF dX11_deepest_0 ?_
  refine go_istore_n (pc := 1) hF [(1, vi 0), (0, vr E 94)] dX11_deepest_1 rfl (by decide) ?_
  refine go_iconst (pc := 2) hF dX11_deepest_2 ?_
  refine go_istore_n (pc := 3) hF [(2, vi 0), (1, vi 0), (0, vr E 94)] dX11_deepest_3 rfl (by decide) ?_
  refine go_iconst (pc := 4) hF dX11_deepest_4 ?_
  refine go_istore_n (pc := 5) hF [(3, vi 0), (2, vi 0), (1, vi 0), (0, vr E 94)] dX11_deepest_5 rfl (by decide) ?_
  have loop₉ : ∀ (n₉ : Nat) (j₉ : Nat), j₉ + n₉ = 82 → (j₉ : Int) ≤ sz₉ → Go E p e R s m args below meth c Q 4 (0, 0) N σ [(3, vi (j₉ : Int)), (2, vi ((fs dpF sn 0 j₉ (0, 0)).2)), (1, vi ((fs dpF sn 0 j₉ (0, 0)).1)), (0, vr E 94)] [] 6 := by
    intro n₉
    induction n₉ with
    | zero => intro j₉ hfu hj; exfalso; omega
    | succ n₉ ih₉ =>
      intro j₉ hfu hj
      have gf := dpF_rg sn j₉
      refine go_iload_n (pc := 6) hF dX11_deepest_6 0 rfl ?_
      refine go_aload_n (pc := 7) hF dX11_deepest_7 3 rfl ?_
      refine go_get (pc := 8) hF fl_X11_177 dX11_deepest_8 (by omega) z101 rfl ?_
      refine go_icmp_ge (pc := 11) hF 88 dX11_deepest_11 (by decide) (by omega) (by omega) (fun bq11 => ?_) (fun bq11 => ?_)
      · refine go_iload_n (pc := 88) hF dX11_deepest_88 1 rfl ?_
        have ej : j₉ = sz₉.toNat := by omega
        subst ej
        exact go_iretQ hF hr hlk hQ dX11_deepest_89 ⟨rfl, rfl⟩
      · have gj := hsg j₉ (by omega) (by omega)
        refine go_iload_n (pc := 14) hF dX11_deepest_14 2 rfl ?_
        refine go_aload_n (pc := 15) hF dX11_deepest_15 3 rfl ?_
        refine go_get (pc := 16) hF fl_X11_19 dX11_deepest_16 (by omega) z101 rfl ?_
        refine go_iload_n (pc := 19) hF dX11_deepest_19 0 rfl ?_
        refine go_iald (pc := 20) hF dX11_deepest_20 (by omega) z105 (by omega)  ?_
        refine go_bipush (pc := 21) hF dX11_deepest_21 (by decide) ?_
        refine go_icmp_eq (pc := 23) hF 38 dX11_deepest_23 (by decide) (by omega) ⟨by decide, by decide⟩ (fun bq23 => ?_) (fun bq23 => ?_)
        · refine go_iconst (pc := 38) hF dX11_deepest_38 ?_
          refine go_goto (pc := 39) hF 69 dX11_deepest_39 (by decide) ?_
          refine go_iadd (pc := 69) hF dX11_deepest_69 ?_
          refine go_istore_n (pc := 70) hF [(1, vi (((fs dpF sn 0 j₉ (0, 0)).1) + 1)), (3, vi (j₉ : Int)), (2, vi ((fs dpF sn 0 j₉ (0, 0)).2)), (0, vr E 94)] dX11_deepest_70 rfl (by decide) ?_
          have eD : dpD (sn j₉) = 1 := by
            unfold dpD; rw [if_pos (Or.inl bq23)]
          refine go_iload_n (pc := 71) hF dX11_deepest_71 0 rfl ?_
          refine go_iload_n (pc := 72) hF dX11_deepest_72 2 rfl ?_
          refine go_icmp_le (pc := 73) hF 80 dX11_deepest_73 (by decide) (by omega) (by omega) (fun bq73 => ?_) (fun bq73 => ?_)
          · refine go_iload_n (pc := 80) hF dX11_deepest_80 2 rfl ?_
            refine go_istore_n (pc := 81) hF [(2, vi ((fs dpF sn 0 j₉ (0, 0)).2)), (1, vi (((fs dpF sn 0 j₉ (0, 0)).1) + 1)), (3, vi (j₉ : Int)), (0, vr E 94)] dX11_deepest_81 rfl (by decide) ?_
            have eS : fs dpF sn 0 (j₉ + 1) (0, 0) = (((fs dpF sn 0 j₉ (0, 0)).1) + 1, (fs dpF sn 0 j₉ (0, 0)).2) := by
              show ((fs dpF sn 0 j₉ (0, 0)).1 + dpD (sn (0 + (j₉ : Int))), if (fs dpF sn 0 j₉ (0, 0)).2 < (fs dpF sn 0 j₉ (0, 0)).1 + dpD (sn (0 + (j₉ : Int))) then (fs dpF sn 0 j₉ (0, 0)).1 + dpD (sn (0 + (j₉ : Int))) else (fs dpF sn 0 j₉ (0, 0)).2) = _
              rw [Int.zero_add, eD, if_neg (by omega)]
            refine go_iinc (pc := 82) hF [(3, vi ((j₉ : Int) + 1)), (2, vi ((fs dpF sn 0 j₉ (0, 0)).2)), (1, vi (((fs dpF sn 0 j₉ (0, 0)).1) + 1)), (0, vr E 94)] dX11_deepest_82 2 rfl rfl (by decide) ?_
            have e1₉ : ((fs dpF sn 0 j₉ (0, 0)).1) + 1 = (fs dpF sn 0 (j₉ + 1) (0, 0)).1 := by rw [eS]
            have e2₉ : (fs dpF sn 0 j₉ (0, 0)).2 = (fs dpF sn 0 (j₉ + 1) (0, 0)).2 := by rw [eS]
            refine go_lvE [(3, vi ((j₉ : Int) + 1)), (2, vi ((fs dpF sn 0 (j₉ + 1) (0, 0)).2)), (1, vi ((fs dpF sn 0 (j₉ + 1) (0, 0)).1)), (0, vr E 94)] (by rw [← e1₉, ← e2₉]) ?_
            refine go_goto (pc := 85) hF 6 dX11_deepest_85 (by decide) ?_
            exact ih₉ (j₉ + 1) (by omega) (by omega)
          · refine go_iload_n (pc := 76) hF dX11_deepest_76 0 rfl ?_
            refine go_goto (pc := 77) hF 81 dX11_deepest_77 (by decide) ?_
            refine go_istore_n (pc := 81) hF [(2, vi (((fs dpF sn 0 j₉ (0, 0)).1) + 1)), (1, vi (((fs dpF sn 0 j₉ (0, 0)).1) + 1)), (3, vi (j₉ : Int)), (0, vr E 94)] dX11_deepest_81 rfl (by decide) ?_
            have eS : fs dpF sn 0 (j₉ + 1) (0, 0) = (((fs dpF sn 0 j₉ (0, 0)).1) + 1, ((fs dpF sn 0 j₉ (0, 0)).1) + 1) := by
              show ((fs dpF sn 0 j₉ (0, 0)).1 + dpD (sn (0 + (j₉ : Int))), if (fs dpF sn 0 j₉ (0, 0)).2 < (fs dpF sn 0 j₉ (0, 0)).1 + dpD (sn (0 + (j₉ : Int))) then (fs dpF sn 0 j₉ (0, 0)).1 + dpD (sn (0 + (j₉ : Int))) else (fs dpF sn 0 j₉ (0, 0)).2) = _
              rw [Int.zero_add, eD, if_pos (by omega)]
            refine go_iinc (pc := 82) hF [(3, vi ((j₉ : Int) + 1)), (2, vi (((fs dpF sn 0 j₉ (0, 0)).1) + 1)), (1, vi (((fs dpF sn 0 j₉ (0, 0)).1) + 1)), (0, vr E 94)] dX11_deepest_82 2 rfl rfl (by decide) ?_
            have e1₉ : ((fs dpF sn 0 j₉ (0, 0)).1) + 1 = (fs dpF sn 0 (j₉ + 1) (0, 0)).1 := by rw [eS]
            have e2₉ : ((fs dpF sn 0 j₉ (0, 0)).1) + 1 = (fs dpF sn 0 (j₉ + 1) (0, 0)).2 := by rw [eS]
            refine go_lvE [(3, vi ((j₉ : Int) + 1)), (2, vi ((fs dpF sn 0 (j₉ + 1) (0, 0)).2)), (1, vi ((fs dpF sn 0 (j₉ + 1) (0, 0)).1)), (0, vr E 94)] (by rw [← e1₉, ← e2₉]) ?_
            refine go_goto (pc := 85) hF 6 dX11_deepest_85 (by decide) ?_
            exact ih₉ (j₉ + 1) (by omega) (by omega)
        · refine go_aload_n (pc := 26) hF dX11_deepest_26 3 rfl ?_
          refine go_get (pc := 27) hF fl_X11_19 dX11_deepest_27 (by omega) z101 rfl ?_
          refine go_iload_n (pc := 30) hF dX11_deepest_30 0 rfl ?_
          refine go_iald (pc := 31) hF dX11_deepest_31 (by omega) z105 (by omega)  ?_
          refine go_callSP (pc := 32) hF [vi (sn (j₉ : Int))] [vi ((fs dpF sn 0 j₉ (0, 0)).1)] ms_X11_171 dX11_deepest_32 (c_X11_isFigure E N σ (sn (j₉ : Int)) (by omega)) rfl rfl (Nat.le_of_ble_eq_true rfl) (by decide) ⟨Nat.zero_le _, Nat.zero_le _⟩ ?_
          refine go_if_eq (pc := 35) hF 42 dX11_deepest_35 (by decide) (bI_rg _) (fun bq35 => ?_) (fun bq35 => ?_)
          · refine go_aload_n (pc := 42) hF dX11_deepest_42 3 rfl ?_
            refine go_get (pc := 43) hF fl_X11_19 dX11_deepest_43 (by omega) z101 rfl ?_
            refine go_iload_n (pc := 46) hF dX11_deepest_46 0 rfl ?_
            refine go_iald (pc := 47) hF dX11_deepest_47 (by omega) z105 (by omega)  ?_
            refine go_bipush (pc := 48) hF dX11_deepest_48 (by decide) ?_
            refine go_icmp_eq (pc := 50) hF 64 dX11_deepest_50 (by decide) (by omega) ⟨by decide, by decide⟩ (fun bq50 => ?_) (fun bq50 => ?_)
            · refine go_iconst (pc := 64) hF dX11_deepest_64 ?_
              refine go_goto (pc := 65) hF 69 dX11_deepest_65 (by decide) ?_
              refine go_iadd (pc := 69) hF dX11_deepest_69 ?_
              refine go_istore_n (pc := 70) hF [(1, vi (((fs dpF sn 0 j₉ (0, 0)).1) + (-1))), (3, vi (j₉ : Int)), (2, vi ((fs dpF sn 0 j₉ (0, 0)).2)), (0, vr E 94)] dX11_deepest_70 rfl (by decide) ?_
              have eD : dpD (sn j₉) = -1 := by
                have q35 := (bI_0 _).mp bq35
                unfold dpD; rw [if_neg (by omega), if_pos (by omega)]
              refine go_iload_n (pc := 71) hF dX11_deepest_71 0 rfl ?_
              refine go_iload_n (pc := 72) hF dX11_deepest_72 2 rfl ?_
              refine go_icmp_le (pc := 73) hF 80 dX11_deepest_73 (by decide) (by omega) (by omega) (fun bq73 => ?_) (fun bq73 => ?_)
              · refine go_iload_n (pc := 80) hF dX11_deepest_80 2 rfl ?_
                refine go_istore_n (pc := 81) hF [(2, vi ((fs dpF sn 0 j₉ (0, 0)).2)), (1, vi (((fs dpF sn 0 j₉ (0, 0)).1) + (-1))), (3, vi (j₉ : Int)), (0, vr E 94)] dX11_deepest_81 rfl (by decide) ?_
                have eS : fs dpF sn 0 (j₉ + 1) (0, 0) = (((fs dpF sn 0 j₉ (0, 0)).1) + (-1), (fs dpF sn 0 j₉ (0, 0)).2) := by
                  show ((fs dpF sn 0 j₉ (0, 0)).1 + dpD (sn (0 + (j₉ : Int))), if (fs dpF sn 0 j₉ (0, 0)).2 < (fs dpF sn 0 j₉ (0, 0)).1 + dpD (sn (0 + (j₉ : Int))) then (fs dpF sn 0 j₉ (0, 0)).1 + dpD (sn (0 + (j₉ : Int))) else (fs dpF sn 0 j₉ (0, 0)).2) = _
                  rw [Int.zero_add, eD, if_neg (by omega)]
                refine go_iinc (pc := 82) hF [(3, vi ((j₉ : Int) + 1)), (2, vi ((fs dpF sn 0 j₉ (0, 0)).2)), (1, vi (((fs dpF sn 0 j₉ (0, 0)).1) + (-1))), (0, vr E 94)] dX11_deepest_82 2 rfl rfl (by decide) ?_
                have e1₉ : ((fs dpF sn 0 j₉ (0, 0)).1) + (-1) = (fs dpF sn 0 (j₉ + 1) (0, 0)).1 := by rw [eS]
                have e2₉ : (fs dpF sn 0 j₉ (0, 0)).2 = (fs dpF sn 0 (j₉ + 1) (0, 0)).2 := by rw [eS]
                refine go_lvE [(3, vi ((j₉ : Int) + 1)), (2, vi ((fs dpF sn 0 (j₉ + 1) (0, 0)).2)), (1, vi ((fs dpF sn 0 (j₉ + 1) (0, 0)).1)), (0, vr E 94)] (by rw [← e1₉, ← e2₉]) ?_
                refine go_goto (pc := 85) hF 6 dX11_deepest_85 (by decide) ?_
                exact ih₉ (j₉ + 1) (by omega) (by omega)
              · refine go_iload_n (pc := 76) hF dX11_deepest_76 0 rfl ?_
                refine go_goto (pc := 77) hF 81 dX11_deepest_77 (by decide) ?_
                refine go_istore_n (pc := 81) hF [(2, vi (((fs dpF sn 0 j₉ (0, 0)).1) + (-1))), (1, vi (((fs dpF sn 0 j₉ (0, 0)).1) + (-1))), (3, vi (j₉ : Int)), (0, vr E 94)] dX11_deepest_81 rfl (by decide) ?_
                have eS : fs dpF sn 0 (j₉ + 1) (0, 0) = (((fs dpF sn 0 j₉ (0, 0)).1) + (-1), ((fs dpF sn 0 j₉ (0, 0)).1) + (-1)) := by
                  show ((fs dpF sn 0 j₉ (0, 0)).1 + dpD (sn (0 + (j₉ : Int))), if (fs dpF sn 0 j₉ (0, 0)).2 < (fs dpF sn 0 j₉ (0, 0)).1 + dpD (sn (0 + (j₉ : Int))) then (fs dpF sn 0 j₉ (0, 0)).1 + dpD (sn (0 + (j₉ : Int))) else (fs dpF sn 0 j₉ (0, 0)).2) = _
                  rw [Int.zero_add, eD, if_pos (by omega)]
                refine go_iinc (pc := 82) hF [(3, vi ((j₉ : Int) + 1)), (2, vi (((fs dpF sn 0 j₉ (0, 0)).1) + (-1))), (1, vi (((fs dpF sn 0 j₉ (0, 0)).1) + (-1))), (0, vr E 94)] dX11_deepest_82 2 rfl rfl (by decide) ?_
                have e1₉ : ((fs dpF sn 0 j₉ (0, 0)).1) + (-1) = (fs dpF sn 0 (j₉ + 1) (0, 0)).1 := by rw [eS]
                have e2₉ : ((fs dpF sn 0 j₉ (0, 0)).1) + (-1) = (fs dpF sn 0 (j₉ + 1) (0, 0)).2 := by rw [eS]
                refine go_lvE [(3, vi ((j₉ : Int) + 1)), (2, vi ((fs dpF sn 0 (j₉ + 1) (0, 0)).2)), (1, vi ((fs dpF sn 0 (j₉ + 1) (0, 0)).1)), (0, vr E 94)] (by rw [← e1₉, ← e2₉]) ?_
                refine go_goto (pc := 85) hF 6 dX11_deepest_85 (by decide) ?_
                exact ih₉ (j₉ + 1) (by omega) (by omega)
            · refine go_aload_n (pc := 53) hF dX11_deepest_53 3 rfl ?_
              refine go_get (pc := 54) hF fl_X11_19 dX11_deepest_54 (by omega) z101 rfl ?_
              refine go_iload_n (pc := 57) hF dX11_deepest_57 0 rfl ?_
              refine go_iald (pc := 58) hF dX11_deepest_58 (by omega) z105 (by omega)  ?_
              refine go_bipush (pc := 59) hF dX11_deepest_59 (by decide) ?_
              refine go_icmp_ne (pc := 61) hF 68 dX11_deepest_61 (by decide) (by omega) ⟨by decide, by decide⟩ (fun bq61 => ?_) (fun bq61 => ?_)
              · refine go_iconst (pc := 68) hF dX11_deepest_68 ?_
                refine go_iadd (pc := 69) hF dX11_deepest_69 ?_
                refine go_istore_n (pc := 70) hF [(1, vi (((fs dpF sn 0 j₉ (0, 0)).1) + 0)), (3, vi (j₉ : Int)), (2, vi ((fs dpF sn 0 j₉ (0, 0)).2)), (0, vr E 94)] dX11_deepest_70 rfl (by decide) ?_
                have eD : dpD (sn j₉) = 0 := by
                  have q35 := (bI_0 _).mp bq35
                  unfold dpD; rw [if_neg (by omega), if_neg (by omega)]
                refine go_iload_n (pc := 71) hF dX11_deepest_71 0 rfl ?_
                refine go_iload_n (pc := 72) hF dX11_deepest_72 2 rfl ?_
                refine go_icmp_le (pc := 73) hF 80 dX11_deepest_73 (by decide) (by omega) (by omega) (fun bq73 => ?_) (fun bq73 => ?_)
                · refine go_iload_n (pc := 80) hF dX11_deepest_80 2 rfl ?_
                  refine go_istore_n (pc := 81) hF [(2, vi ((fs dpF sn 0 j₉ (0, 0)).2)), (1, vi (((fs dpF sn 0 j₉ (0, 0)).1) + 0)), (3, vi (j₉ : Int)), (0, vr E 94)] dX11_deepest_81 rfl (by decide) ?_
                  have eS : fs dpF sn 0 (j₉ + 1) (0, 0) = (((fs dpF sn 0 j₉ (0, 0)).1) + 0, (fs dpF sn 0 j₉ (0, 0)).2) := by
                    show ((fs dpF sn 0 j₉ (0, 0)).1 + dpD (sn (0 + (j₉ : Int))), if (fs dpF sn 0 j₉ (0, 0)).2 < (fs dpF sn 0 j₉ (0, 0)).1 + dpD (sn (0 + (j₉ : Int))) then (fs dpF sn 0 j₉ (0, 0)).1 + dpD (sn (0 + (j₉ : Int))) else (fs dpF sn 0 j₉ (0, 0)).2) = _
                    rw [Int.zero_add, eD, if_neg (by omega)]
                  refine go_iinc (pc := 82) hF [(3, vi ((j₉ : Int) + 1)), (2, vi ((fs dpF sn 0 j₉ (0, 0)).2)), (1, vi (((fs dpF sn 0 j₉ (0, 0)).1) + 0)), (0, vr E 94)] dX11_deepest_82 2 rfl rfl (by decide) ?_
                  have e1₉ : ((fs dpF sn 0 j₉ (0, 0)).1) + 0 = (fs dpF sn 0 (j₉ + 1) (0, 0)).1 := by rw [eS]
                  have e2₉ : (fs dpF sn 0 j₉ (0, 0)).2 = (fs dpF sn 0 (j₉ + 1) (0, 0)).2 := by rw [eS]
                  refine go_lvE [(3, vi ((j₉ : Int) + 1)), (2, vi ((fs dpF sn 0 (j₉ + 1) (0, 0)).2)), (1, vi ((fs dpF sn 0 (j₉ + 1) (0, 0)).1)), (0, vr E 94)] (by rw [← e1₉, ← e2₉]) ?_
                  refine go_goto (pc := 85) hF 6 dX11_deepest_85 (by decide) ?_
                  exact ih₉ (j₉ + 1) (by omega) (by omega)
                · refine go_iload_n (pc := 76) hF dX11_deepest_76 0 rfl ?_
                  refine go_goto (pc := 77) hF 81 dX11_deepest_77 (by decide) ?_
                  refine go_istore_n (pc := 81) hF [(2, vi (((fs dpF sn 0 j₉ (0, 0)).1) + 0)), (1, vi (((fs dpF sn 0 j₉ (0, 0)).1) + 0)), (3, vi (j₉ : Int)), (0, vr E 94)] dX11_deepest_81 rfl (by decide) ?_
                  have eS : fs dpF sn 0 (j₉ + 1) (0, 0) = (((fs dpF sn 0 j₉ (0, 0)).1) + 0, ((fs dpF sn 0 j₉ (0, 0)).1) + 0) := by
                    show ((fs dpF sn 0 j₉ (0, 0)).1 + dpD (sn (0 + (j₉ : Int))), if (fs dpF sn 0 j₉ (0, 0)).2 < (fs dpF sn 0 j₉ (0, 0)).1 + dpD (sn (0 + (j₉ : Int))) then (fs dpF sn 0 j₉ (0, 0)).1 + dpD (sn (0 + (j₉ : Int))) else (fs dpF sn 0 j₉ (0, 0)).2) = _
                    rw [Int.zero_add, eD, if_pos (by omega)]
                  refine go_iinc (pc := 82) hF [(3, vi ((j₉ : Int) + 1)), (2, vi (((fs dpF sn 0 j₉ (0, 0)).1) + 0)), (1, vi (((fs dpF sn 0 j₉ (0, 0)).1) + 0)), (0, vr E 94)] dX11_deepest_82 2 rfl rfl (by decide) ?_
                  have e1₉ : ((fs dpF sn 0 j₉ (0, 0)).1) + 0 = (fs dpF sn 0 (j₉ + 1) (0, 0)).1 := by rw [eS]
                  have e2₉ : ((fs dpF sn 0 j₉ (0, 0)).1) + 0 = (fs dpF sn 0 (j₉ + 1) (0, 0)).2 := by rw [eS]
                  refine go_lvE [(3, vi ((j₉ : Int) + 1)), (2, vi ((fs dpF sn 0 (j₉ + 1) (0, 0)).2)), (1, vi ((fs dpF sn 0 (j₉ + 1) (0, 0)).1)), (0, vr E 94)] (by rw [← e1₉, ← e2₉]) ?_
                  refine go_goto (pc := 85) hF 6 dX11_deepest_85 (by decide) ?_
                  exact ih₉ (j₉ + 1) (by omega) (by omega)
              · refine go_iconst (pc := 64) hF dX11_deepest_64 ?_
                refine go_goto (pc := 65) hF 69 dX11_deepest_65 (by decide) ?_
                refine go_iadd (pc := 69) hF dX11_deepest_69 ?_
                refine go_istore_n (pc := 70) hF [(1, vi (((fs dpF sn 0 j₉ (0, 0)).1) + (-1))), (3, vi (j₉ : Int)), (2, vi ((fs dpF sn 0 j₉ (0, 0)).2)), (0, vr E 94)] dX11_deepest_70 rfl (by decide) ?_
                have eD : dpD (sn j₉) = -1 := by
                  have q35 := (bI_0 _).mp bq35
                  unfold dpD; rw [if_neg (by omega), if_pos (by omega)]
                refine go_iload_n (pc := 71) hF dX11_deepest_71 0 rfl ?_
                refine go_iload_n (pc := 72) hF dX11_deepest_72 2 rfl ?_
                refine go_icmp_le (pc := 73) hF 80 dX11_deepest_73 (by decide) (by omega) (by omega) (fun bq73 => ?_) (fun bq73 => ?_)
                · refine go_iload_n (pc := 80) hF dX11_deepest_80 2 rfl ?_
                  refine go_istore_n (pc := 81) hF [(2, vi ((fs dpF sn 0 j₉ (0, 0)).2)), (1, vi (((fs dpF sn 0 j₉ (0, 0)).1) + (-1))), (3, vi (j₉ : Int)), (0, vr E 94)] dX11_deepest_81 rfl (by decide) ?_
                  have eS : fs dpF sn 0 (j₉ + 1) (0, 0) = (((fs dpF sn 0 j₉ (0, 0)).1) + (-1), (fs dpF sn 0 j₉ (0, 0)).2) := by
                    show ((fs dpF sn 0 j₉ (0, 0)).1 + dpD (sn (0 + (j₉ : Int))), if (fs dpF sn 0 j₉ (0, 0)).2 < (fs dpF sn 0 j₉ (0, 0)).1 + dpD (sn (0 + (j₉ : Int))) then (fs dpF sn 0 j₉ (0, 0)).1 + dpD (sn (0 + (j₉ : Int))) else (fs dpF sn 0 j₉ (0, 0)).2) = _
                    rw [Int.zero_add, eD, if_neg (by omega)]
                  refine go_iinc (pc := 82) hF [(3, vi ((j₉ : Int) + 1)), (2, vi ((fs dpF sn 0 j₉ (0, 0)).2)), (1, vi (((fs dpF sn 0 j₉ (0, 0)).1) + (-1))), (0, vr E 94)] dX11_deepest_82 2 rfl rfl (by decide) ?_
                  have e1₉ : ((fs dpF sn 0 j₉ (0, 0)).1) + (-1) = (fs dpF sn 0 (j₉ + 1) (0, 0)).1 := by rw [eS]
                  have e2₉ : (fs dpF sn 0 j₉ (0, 0)).2 = (fs dpF sn 0 (j₉ + 1) (0, 0)).2 := by rw [eS]
                  refine go_lvE [(3, vi ((j₉ : Int) + 1)), (2, vi ((fs dpF sn 0 (j₉ + 1) (0, 0)).2)), (1, vi ((fs dpF sn 0 (j₉ + 1) (0, 0)).1)), (0, vr E 94)] (by rw [← e1₉, ← e2₉]) ?_
                  refine go_goto (pc := 85) hF 6 dX11_deepest_85 (by decide) ?_
                  exact ih₉ (j₉ + 1) (by omega) (by omega)
                · refine go_iload_n (pc := 76) hF dX11_deepest_76 0 rfl ?_
                  refine go_goto (pc := 77) hF 81 dX11_deepest_77 (by decide) ?_
                  refine go_istore_n (pc := 81) hF [(2, vi (((fs dpF sn 0 j₉ (0, 0)).1) + (-1))), (1, vi (((fs dpF sn 0 j₉ (0, 0)).1) + (-1))), (3, vi (j₉ : Int)), (0, vr E 94)] dX11_deepest_81 rfl (by decide) ?_
                  have eS : fs dpF sn 0 (j₉ + 1) (0, 0) = (((fs dpF sn 0 j₉ (0, 0)).1) + (-1), ((fs dpF sn 0 j₉ (0, 0)).1) + (-1)) := by
                    show ((fs dpF sn 0 j₉ (0, 0)).1 + dpD (sn (0 + (j₉ : Int))), if (fs dpF sn 0 j₉ (0, 0)).2 < (fs dpF sn 0 j₉ (0, 0)).1 + dpD (sn (0 + (j₉ : Int))) then (fs dpF sn 0 j₉ (0, 0)).1 + dpD (sn (0 + (j₉ : Int))) else (fs dpF sn 0 j₉ (0, 0)).2) = _
                    rw [Int.zero_add, eD, if_pos (by omega)]
                  refine go_iinc (pc := 82) hF [(3, vi ((j₉ : Int) + 1)), (2, vi (((fs dpF sn 0 j₉ (0, 0)).1) + (-1))), (1, vi (((fs dpF sn 0 j₉ (0, 0)).1) + (-1))), (0, vr E 94)] dX11_deepest_82 2 rfl rfl (by decide) ?_
                  have e1₉ : ((fs dpF sn 0 j₉ (0, 0)).1) + (-1) = (fs dpF sn 0 (j₉ + 1) (0, 0)).1 := by rw [eS]
                  have e2₉ : ((fs dpF sn 0 j₉ (0, 0)).1) + (-1) = (fs dpF sn 0 (j₉ + 1) (0, 0)).2 := by rw [eS]
                  refine go_lvE [(3, vi ((j₉ : Int) + 1)), (2, vi ((fs dpF sn 0 (j₉ + 1) (0, 0)).2)), (1, vi ((fs dpF sn 0 (j₉ + 1) (0, 0)).1)), (0, vr E 94)] (by rw [← e1₉, ← e2₉]) ?_
                  refine go_goto (pc := 85) hF 6 dX11_deepest_85 (by decide) ?_
                  exact ih₉ (j₉ + 1) (by omega) (by omega)
          · refine go_iconst (pc := 38) hF dX11_deepest_38 ?_
            refine go_goto (pc := 39) hF 69 dX11_deepest_39 (by decide) ?_
            refine go_iadd (pc := 69) hF dX11_deepest_69 ?_
            refine go_istore_n (pc := 70) hF [(1, vi (((fs dpF sn 0 j₉ (0, 0)).1) + 1)), (3, vi (j₉ : Int)), (2, vi ((fs dpF sn 0 j₉ (0, 0)).2)), (0, vr E 94)] dX11_deepest_70 rfl (by decide) ?_
            have eD : dpD (sn j₉) = 1 := by
              unfold dpD; rw [if_pos (Or.inr (Decidable.not_not.mp (fun z₉ => bq35 ((bI_0 _).mpr z₉))))]
            refine go_iload_n (pc := 71) hF dX11_deepest_71 0 rfl ?_
            refine go_iload_n (pc := 72) hF dX11_deepest_72 2 rfl ?_
            refine go_icmp_le (pc := 73) hF 80 dX11_deepest_73 (by decide) (by omega) (by omega) (fun bq73 => ?_) (fun bq73 => ?_)
            · refine go_iload_n (pc := 80) hF dX11_deepest_80 2 rfl ?_
              refine go_istore_n (pc := 81) hF [(2, vi ((fs dpF sn 0 j₉ (0, 0)).2)), (1, vi (((fs dpF sn 0 j₉ (0, 0)).1) + 1)), (3, vi (j₉ : Int)), (0, vr E 94)] dX11_deepest_81 rfl (by decide) ?_
              have eS : fs dpF sn 0 (j₉ + 1) (0, 0) = (((fs dpF sn 0 j₉ (0, 0)).1) + 1, (fs dpF sn 0 j₉ (0, 0)).2) := by
                show ((fs dpF sn 0 j₉ (0, 0)).1 + dpD (sn (0 + (j₉ : Int))), if (fs dpF sn 0 j₉ (0, 0)).2 < (fs dpF sn 0 j₉ (0, 0)).1 + dpD (sn (0 + (j₉ : Int))) then (fs dpF sn 0 j₉ (0, 0)).1 + dpD (sn (0 + (j₉ : Int))) else (fs dpF sn 0 j₉ (0, 0)).2) = _
                rw [Int.zero_add, eD, if_neg (by omega)]
              refine go_iinc (pc := 82) hF [(3, vi ((j₉ : Int) + 1)), (2, vi ((fs dpF sn 0 j₉ (0, 0)).2)), (1, vi (((fs dpF sn 0 j₉ (0, 0)).1) + 1)), (0, vr E 94)] dX11_deepest_82 2 rfl rfl (by decide) ?_
              have e1₉ : ((fs dpF sn 0 j₉ (0, 0)).1) + 1 = (fs dpF sn 0 (j₉ + 1) (0, 0)).1 := by rw [eS]
              have e2₉ : (fs dpF sn 0 j₉ (0, 0)).2 = (fs dpF sn 0 (j₉ + 1) (0, 0)).2 := by rw [eS]
              refine go_lvE [(3, vi ((j₉ : Int) + 1)), (2, vi ((fs dpF sn 0 (j₉ + 1) (0, 0)).2)), (1, vi ((fs dpF sn 0 (j₉ + 1) (0, 0)).1)), (0, vr E 94)] (by rw [← e1₉, ← e2₉]) ?_
              refine go_goto (pc := 85) hF 6 dX11_deepest_85 (by decide) ?_
              exact ih₉ (j₉ + 1) (by omega) (by omega)
            · refine go_iload_n (pc := 76) hF dX11_deepest_76 0 rfl ?_
              refine go_goto (pc := 77) hF 81 dX11_deepest_77 (by decide) ?_
              refine go_istore_n (pc := 81) hF [(2, vi (((fs dpF sn 0 j₉ (0, 0)).1) + 1)), (1, vi (((fs dpF sn 0 j₉ (0, 0)).1) + 1)), (3, vi (j₉ : Int)), (0, vr E 94)] dX11_deepest_81 rfl (by decide) ?_
              have eS : fs dpF sn 0 (j₉ + 1) (0, 0) = (((fs dpF sn 0 j₉ (0, 0)).1) + 1, ((fs dpF sn 0 j₉ (0, 0)).1) + 1) := by
                show ((fs dpF sn 0 j₉ (0, 0)).1 + dpD (sn (0 + (j₉ : Int))), if (fs dpF sn 0 j₉ (0, 0)).2 < (fs dpF sn 0 j₉ (0, 0)).1 + dpD (sn (0 + (j₉ : Int))) then (fs dpF sn 0 j₉ (0, 0)).1 + dpD (sn (0 + (j₉ : Int))) else (fs dpF sn 0 j₉ (0, 0)).2) = _
                rw [Int.zero_add, eD, if_pos (by omega)]
              refine go_iinc (pc := 82) hF [(3, vi ((j₉ : Int) + 1)), (2, vi (((fs dpF sn 0 j₉ (0, 0)).1) + 1)), (1, vi (((fs dpF sn 0 j₉ (0, 0)).1) + 1)), (0, vr E 94)] dX11_deepest_82 2 rfl rfl (by decide) ?_
              have e1₉ : ((fs dpF sn 0 j₉ (0, 0)).1) + 1 = (fs dpF sn 0 (j₉ + 1) (0, 0)).1 := by rw [eS]
              have e2₉ : ((fs dpF sn 0 j₉ (0, 0)).1) + 1 = (fs dpF sn 0 (j₉ + 1) (0, 0)).2 := by rw [eS]
              refine go_lvE [(3, vi ((j₉ : Int) + 1)), (2, vi ((fs dpF sn 0 (j₉ + 1) (0, 0)).2)), (1, vi ((fs dpF sn 0 (j₉ + 1) (0, 0)).1)), (0, vr E 94)] (by rw [← e1₉, ← e2₉]) ?_
              refine go_goto (pc := 85) hF 6 dX11_deepest_85 (by decide) ?_
              exact ih₉ (j₉ + 1) (by omega) (by omega)
  exact loop₉ 82 0 rfl (by omega) 
set_option maxHeartbeats 4000000 in
set_option maxRecDepth 100000 in
theorem c_X11_linesIn (E : En) (N : Nat) (σ : Nat → va_E) {un sz₉ tl rz hi₉ mi ak rt cn : Int} {sn : Int → Int} (hN₉ : 120 ≤ N) (z101 : σ 94 = mOb E un sz₉ tl rz hi₉ mi ak rt cn) (z105 : σ 98 = ai E 80 sn) (hsg : ∀ p : Int, 0 ≤ p → p < sz₉ → 40 ≤ sn p ∧ sn p ≤ 124) (hsz : 0 ≤ sz₉ ∧ sz₉ ≤ 80) (a₉ b₉ : Int) (hab : 0 ≤ a₉ ∧ a₉ ≤ b₉ ∧ b₉ ≤ sz₉) : CP E M_X11_linesIn 3 [vr E 94, vi a₉, vi b₉] N σ (fs mkF₉ sn a₉ (b₉ - a₉).toNat 0) := by
  refine CT.of2 (own := RX11) (by decide) rfl (Nat.le_of_ble_eq_true rfl) ?_
  intro p e R s m args below meth c Q hF hr hlk hnm hz hR hQ
  refine go_iconst (pc := 0) hF dX11_linesIn_0 ?_
  refine go_istore_n (pc := 1) hF [(3, vi 0), (0, vr E 94), (1, vi a₉), (2, vi b₉)] dX11_linesIn_1 rfl (by decide) ?_
  refine go_iload_n (pc := 2) hF dX11_linesIn_2 2 rfl ?_
  refine go_istore (pc := 3) hF [(4, vi a₉), (3, vi 0), (0, vr E 94), (1, vi a₉), (2, vi b₉)] dX11_linesIn_3 rfl (by decide) ?_
  refine go_lvE [(4, vi (a₉ + ((0 : Nat) : Int))), (3, vi 0), (0, vr E 94), (1, vi a₉), (2, vi b₉)] (by rw [show a₉ + ((0 : Nat) : Int) = a₉ by omega]) ?_
  have loop₉ : ∀ (n₉ : Nat) (j₉ : Nat), a₉ + (j₉ : Int) + (n₉ : Int) = b₉ + 2 → a₉ + (j₉ : Int) ≤ b₉ → Go E p e R s m args below meth c Q 5 (0, 0) N σ [(4, vi (a₉ + (j₉ : Int))), (3, vi (fs mkF₉ sn a₉ j₉ 0)), (0, vr E 94), (1, vi a₉), (2, vi b₉)] [] 5 := by
    intro n₉
    induction n₉ with
    | zero => intro j₉ hfu hj; exfalso; omega
    | succ n₉ ih₉ =>
      intro j₉ hfu hj
      have gf : 0 ≤ fs mkF₉ sn a₉ j₉ 0 ∧ fs mkF₉ sn a₉ j₉ 0 < 64 := fs_I (I₉ := fun m => 0 ≤ m ∧ m < 64) mkF_rg sn a₉ ⟨by decide, by decide⟩ j₉
      refine go_iload (pc := 5) hF dX11_linesIn_5 0 rfl ?_
      refine go_iload_n (pc := 7) hF dX11_linesIn_7 4 rfl ?_
      refine go_icmp_ge (pc := 8) hF 49 dX11_linesIn_8 (by decide) (by omega) (by omega) (fun bq8 => ?_) (fun bq8 => ?_)
      · refine go_iload_n (pc := 49) hF dX11_linesIn_49 1 rfl ?_
        have ej : j₉ = (b₉ - a₉).toNat := by omega
        subst ej
        exact go_iretQ hF hr hlk hQ dX11_linesIn_50 ⟨rfl, rfl⟩
      · have gj := hsg (a₉ + j₉) (by omega) (by omega)
        refine go_iload_n (pc := 11) hF dX11_linesIn_11 1 rfl ?_
        refine go_aload_n (pc := 12) hF dX11_linesIn_12 2 rfl ?_
        refine go_get (pc := 13) hF fl_X11_19 dX11_linesIn_13 (by omega) z101 rfl ?_
        refine go_iload (pc := 16) hF dX11_linesIn_16 0 rfl ?_
        refine go_iald (pc := 18) hF dX11_linesIn_18 (by omega) z105 (by omega)  ?_
        refine go_callSP (pc := 19) hF [vi (sn (a₉ + (j₉ : Int)))] [vi (fs mkF₉ sn a₉ j₉ 0)] ms_X11_168 dX11_linesIn_19 (c_X11_isLook E N σ (sn (a₉ + (j₉ : Int))) (by omega)) rfl rfl (Nat.le_of_ble_eq_true rfl) (by decide) ⟨Nat.zero_le _, Nat.zero_le _⟩ ?_
        refine go_if_eq (pc := 22) hF 40 dX11_linesIn_22 (by decide) (bI_rg _) (fun bq22 => ?_) (fun bq22 => ?_)
        · refine go_iconst (pc := 40) hF dX11_linesIn_40 ?_
          refine go_ior (pc := 41) hF (fs mkF₉ sn a₉ j₉ 0) (or_0 _) dX11_linesIn_41 ?_
          refine go_istore_n (pc := 42) hF [(3, vi (fs mkF₉ sn a₉ j₉ 0)), (4, vi (a₉ + (j₉ : Int))), (0, vr E 94), (1, vi a₉), (2, vi b₉)] dX11_linesIn_42 rfl (by decide) ?_
          have eS : fs mkF₉ sn a₉ (j₉ + 1) 0 = fs mkF₉ sn a₉ j₉ 0 := by
            show mkF₉ (fs mkF₉ sn a₉ j₉ 0) (sn (a₉ + j₉)) = _
            unfold mkF₉; rw [if_neg ((bI_0 _).mp bq22)]
          refine go_lvE [(3, vi (fs mkF₉ sn a₉ (j₉ + 1) 0)), (4, vi (a₉ + (j₉ : Int))), (0, vr E 94), (1, vi a₉), (2, vi b₉)] (by rw [eS]) ?_
          refine go_iinc (pc := 43) hF [(4, vi ((a₉ + (j₉ : Int)) + 1)), (3, vi (fs mkF₉ sn a₉ (j₉ + 1) 0)), (0, vr E 94), (1, vi a₉), (2, vi b₉)] dX11_linesIn_43 1 rfl rfl (by decide) ?_
          refine go_lvE [(4, vi (a₉ + ((j₉ + 1 : Nat) : Int))), (3, vi (fs mkF₉ sn a₉ (j₉ + 1) 0)), (0, vr E 94), (1, vi a₉), (2, vi b₉)] (by rw [show a₉ + ((j₉ + 1 : Nat) : Int) = a₉ + (j₉ : Int) + 1 by omega]) ?_
          refine go_goto (pc := 46) hF 5 dX11_linesIn_46 (by decide) ?_
          exact ih₉ (j₉ + 1) (by omega) (by omega)
        · refine go_iconst (pc := 25) hF dX11_linesIn_25 ?_
          refine go_aload_n (pc := 26) hF dX11_linesIn_26 2 rfl ?_
          refine go_get (pc := 27) hF fl_X11_19 dX11_linesIn_27 (by omega) z101 rfl ?_
          refine go_iload (pc := 30) hF dX11_linesIn_30 0 rfl ?_
          refine go_iald (pc := 32) hF dX11_linesIn_32 (by omega) z105 (by omega)  ?_
          refine go_bipush (pc := 33) hF dX11_linesIn_33 (by decide) ?_
          refine go_isub (pc := 35) hF dX11_linesIn_35 ?_
          refine go_ishl (pc := 36) hF (pw2 ((sn (a₉ + (j₉ : Int))) - 97)) (pw2_shl (by have := Decidable.not_not.mp (fun z₉ => bq22 ((bI_0 _).mpr z₉)); omega)) dX11_linesIn_36 ?_
          refine go_goto (pc := 37) hF 41 dX11_linesIn_37 (by decide) ?_
          refine go_ior (pc := 41) hF (orb (fs mkF₉ sn a₉ j₉ 0) ((sn (a₉ + (j₉ : Int))) - 97)) (orb_or gf (by have := Decidable.not_not.mp (fun z₉ => bq22 ((bI_0 _).mpr z₉)); omega)) dX11_linesIn_41 ?_
          refine go_istore_n (pc := 42) hF [(3, vi (orb (fs mkF₉ sn a₉ j₉ 0) ((sn (a₉ + (j₉ : Int))) - 97))), (4, vi (a₉ + (j₉ : Int))), (0, vr E 94), (1, vi a₉), (2, vi b₉)] dX11_linesIn_42 rfl (by decide) ?_
          have eS : fs mkF₉ sn a₉ (j₉ + 1) 0 = orb (fs mkF₉ sn a₉ j₉ 0) ((sn (a₉ + (j₉ : Int))) - 97) := by
            show mkF₉ (fs mkF₉ sn a₉ j₉ 0) (sn (a₉ + j₉)) = _
            unfold mkF₉; rw [if_pos (Decidable.not_not.mp (fun z₉ => bq22 ((bI_0 _).mpr z₉)))]
          refine go_lvE [(3, vi (fs mkF₉ sn a₉ (j₉ + 1) 0)), (4, vi (a₉ + (j₉ : Int))), (0, vr E 94), (1, vi a₉), (2, vi b₉)] (by rw [eS]) ?_
          refine go_iinc (pc := 43) hF [(4, vi ((a₉ + (j₉ : Int)) + 1)), (3, vi (fs mkF₉ sn a₉ (j₉ + 1) 0)), (0, vr E 94), (1, vi a₉), (2, vi b₉)] dX11_linesIn_43 1 rfl rfl (by decide) ?_
          refine go_lvE [(4, vi (a₉ + ((j₉ + 1 : Nat) : Int))), (3, vi (fs mkF₉ sn a₉ (j₉ + 1) 0)), (0, vr E 94), (1, vi a₉), (2, vi b₉)] (by rw [show a₉ + ((j₉ + 1 : Nat) : Int) = a₉ + (j₉ : Int) + 1 by omega]) ?_
          refine go_goto (pc := 46) hF 5 dX11_linesIn_46 (by decide) ?_
          exact ih₉ (j₉ + 1) (by omega) (by omega)
  exact loop₉ (b₉ + 2 - a₉).toNat 0 (by omega) (by omega) 
theorem tMsk_rg {sn eo bo : Int → Int} {t₉ : Tr} {o : Int} (hw : wf t₉) (h : MA₉ sn eo bo t₉ o) : 0 ≤ tMsk t₉ 0 ∧ tMsk t₉ 0 < 64 := by
  rw [← mk_tree t₉ hw o 0 h]
  exact fs_I (I₉ := fun m => 0 ≤ m ∧ m < 64) mkF_rg sn o ⟨by decide, by decide⟩ _
set_option maxHeartbeats 4000000 in
set_option maxRecDepth 100000 in
theorem c_X11_toldOf (E : En) (N : Nat) (σ : Nat → va_E) (r₉ u₉ kd pr : Int) (yr yw yk yp : Int → Int) (hs : Int) (tx : Int → Int) (tl : Int) (t₉ : Tr) (xb xn xf q1₉ q2₉ q3₉ : Int) (hN₉ : 120 ≤ N) (hO : okS r₉ u₉ kd pr yr yw yk yp hs tx tl t₉ xb xn xf q1₉ q2₉ q3₉) (hS₉ : mdS E σ r₉ u₉ kd pr yr yw yk yp hs tx tl t₉ xb xn xf q1₉ q2₉ q3₉) (x₉ : Int) (hx : 0 ≤ x₉ ∧ x₉ ≤ 4) : CP E M_X11_toldOf 4 [vr E 94, vi x₉] N σ (gTell (tLks t₉) (tChs t₉) (tLps t₉) (tDep t₉) (tMsk t₉ 0) x₉) := by
  refine CT.of2 (own := RX11) (by decide) rfl (Nat.le_of_ble_eq_true rfl) ?_
  intro p e R s m args below meth c Q hF hr hlk hnm hz hR hQ
  obtain ⟨nw, pa, rf, sn, eo, bo, rr, rz, hi₉, mi, ak, rt, cn, z101, z102, z103, z104, z105, z106, z107, z108, z126, ⟨⟨g109, z109⟩, ⟨g110, z110⟩, ⟨g111, z111⟩, ⟨g112, z112⟩, ⟨g113, z113⟩, ⟨g114, z114⟩, ⟨g115, z115⟩, ⟨g116, z116⟩, ⟨g117, z117⟩, ⟨g118, z118⟩, ⟨g119, z119⟩, ⟨g120, z120⟩, ⟨g121, z121⟩, ⟨g122, z122⟩, ⟨g123, z123⟩, ⟨g124, z124⟩, ⟨g125, z125⟩⟩, hnw, hpa, hrf, hrr, hMA⟩ := hS₉
  obtain ⟨⟨hrw, hu, hkd, hpr⟩, hhs, hyy, htl, htx, hxb, hxn, hxf, hq1, hq2, hq3, hwf, hdp3, hl80, hl24⟩ := hO
  have hrw3 := vrow_up hrw (show u₉ ≤ 3 by omega)
  have hrr0 := hrw.1
  obtain ⟨n0₉, n1₉, n2₉, n3₉, n4₉, n5₉, n6₉⟩ := id hnw
  have gl := mLong_rg r₉
  have hsg0 := MA_sg t₉ hwf 0 hMA
  have hsg : ∀ p : Int, 0 ≤ p → p < (tLen t₉ : Int) → 40 ≤ sn p ∧ sn p ≤ 124 := fun p a₉ b₉ => hsg0 p a₉ (by omega)
  have ht0 := tMsk_rg hwf hMA
  have htc := tChs_le t₉ hwf
  obtain rfl | rfl | rfl | rfl | rfl : x₉ = 0 ∨ x₉ = 1 ∨ x₉ = 2 ∨ x₉ = 3 ∨ x₉ = 4 := by omega
  · refine go_iload_n (pc := 0) hF dX11_toldOf_0 1 rfl ?_
    refine go_iconst (pc := 1) hF dX11_toldOf_1 ?_
    refine go_icmp_ge (pc := 2) hF 13 dX11_toldOf_2 (by decide) ⟨by decide, by decide⟩ ⟨by decide, by decide⟩ (fun bq2 => ?_) (fun bq2 => ?_)
    · exact absurd bq2 (by decide)
    · refine go_aload_n (pc := 5) hF dX11_toldOf_5 0 rfl ?_
      refine go_iload_n (pc := 6) hF dX11_toldOf_6 1 rfl ?_
      refine go_callVP (pc := 7) hF [vi 0] [] mv_X11_180 dX11_toldOf_7 (by omega) z101 (show CP E M_X11_countOf 3 [vr E 94, vi 0] N σ (cntT 0 t₉) from (by have h := c_X11_countOf E N σ hN₉ z101 z105 hsg (by omega) 0 (by omega); rw [Int.toNat_natCast, cnt_tree 0 (by omega) t₉ hwf 0 0 hMA, Int.zero_add] at h; exact h)) rfl rfl (Nat.le_of_ble_eq_true rfl) (by decide) ⟨Nat.zero_le _, Nat.zero_le _⟩ ?_
      refine go_goto (pc := 10) hF 34 dX11_toldOf_10 (by decide) ?_
      exact go_iretQ hF hr hlk hQ dX11_toldOf_34 ⟨rfl, rfl⟩
  · refine go_iload_n (pc := 0) hF dX11_toldOf_0 1 rfl ?_
    refine go_iconst (pc := 1) hF dX11_toldOf_1 ?_
    refine go_icmp_ge (pc := 2) hF 13 dX11_toldOf_2 (by decide) ⟨by decide, by decide⟩ ⟨by decide, by decide⟩ (fun bq2 => ?_) (fun bq2 => ?_)
    · exact absurd bq2 (by decide)
    · refine go_aload_n (pc := 5) hF dX11_toldOf_5 0 rfl ?_
      refine go_iload_n (pc := 6) hF dX11_toldOf_6 1 rfl ?_
      refine go_callVP (pc := 7) hF [vi 1] [] mv_X11_180 dX11_toldOf_7 (by omega) z101 (show CP E M_X11_countOf 3 [vr E 94, vi 1] N σ (cntT 1 t₉) from (by have h := c_X11_countOf E N σ hN₉ z101 z105 hsg (by omega) 1 (by omega); rw [Int.toNat_natCast, cnt_tree 1 (by omega) t₉ hwf 0 0 hMA, Int.zero_add] at h; exact h)) rfl rfl (Nat.le_of_ble_eq_true rfl) (by decide) ⟨Nat.zero_le _, Nat.zero_le _⟩ ?_
      refine go_goto (pc := 10) hF 34 dX11_toldOf_10 (by decide) ?_
      exact go_iretQ hF hr hlk hQ dX11_toldOf_34 ⟨rfl, rfl⟩
  · refine go_iload_n (pc := 0) hF dX11_toldOf_0 1 rfl ?_
    refine go_iconst (pc := 1) hF dX11_toldOf_1 ?_
    refine go_icmp_ge (pc := 2) hF 13 dX11_toldOf_2 (by decide) ⟨by decide, by decide⟩ ⟨by decide, by decide⟩ (fun bq2 => ?_) (fun bq2 => ?_)
    · exact absurd bq2 (by decide)
    · refine go_aload_n (pc := 5) hF dX11_toldOf_5 0 rfl ?_
      refine go_iload_n (pc := 6) hF dX11_toldOf_6 1 rfl ?_
      refine go_callVP (pc := 7) hF [vi 2] [] mv_X11_180 dX11_toldOf_7 (by omega) z101 (show CP E M_X11_countOf 3 [vr E 94, vi 2] N σ (cntT 2 t₉) from (by have h := c_X11_countOf E N σ hN₉ z101 z105 hsg (by omega) 2 (by omega); rw [Int.toNat_natCast, cnt_tree 2 (by omega) t₉ hwf 0 0 hMA, Int.zero_add] at h; exact h)) rfl rfl (Nat.le_of_ble_eq_true rfl) (by decide) ⟨Nat.zero_le _, Nat.zero_le _⟩ ?_
      refine go_goto (pc := 10) hF 34 dX11_toldOf_10 (by decide) ?_
      exact go_iretQ hF hr hlk hQ dX11_toldOf_34 ⟨rfl, rfl⟩
  · refine go_iload_n (pc := 0) hF dX11_toldOf_0 1 rfl ?_
    refine go_iconst (pc := 1) hF dX11_toldOf_1 ?_
    refine go_icmp_ge (pc := 2) hF 13 dX11_toldOf_2 (by decide) ⟨by decide, by decide⟩ ⟨by decide, by decide⟩ (fun bq2 => ?_) (fun bq2 => ?_)
    · refine go_iload_n (pc := 13) hF dX11_toldOf_13 1 rfl ?_
      refine go_iconst (pc := 14) hF dX11_toldOf_14 ?_
      refine go_icmp_ne (pc := 15) hF 25 dX11_toldOf_15 (by decide) ⟨by decide, by decide⟩ ⟨by decide, by decide⟩ (fun bq15 => ?_) (fun bq15 => ?_)
      · exact absurd bq15 (by decide)
      · refine go_aload_n (pc := 18) hF dX11_toldOf_18 0 rfl ?_
        refine go_callVP (pc := 19) hF [] [] mv_X11_183 dX11_toldOf_19 (by omega) z101 (show CP E M_X11_deepest 3 [vr E 94] N σ (tDep t₉ : Int) from (by have h := c_X11_deepest E N σ hN₉ z101 z105 hsg (by omega); rw [Int.toNat_natCast, dp_tree t₉ hwf 0 (0, 0) (by decide) hMA, show ((0 : Int), max (0 : Int) (0 + (tDep t₉ : Int))).2 = tDep t₉ by show max (0 : Int) (0 + (tDep t₉ : Int)) = tDep t₉; omega] at h; exact h)) rfl rfl (Nat.le_of_ble_eq_true rfl) (by decide) ⟨Nat.zero_le _, Nat.zero_le _⟩ ?_
        refine go_goto (pc := 22) hF 34 dX11_toldOf_22 (by decide) ?_
        exact go_iretQ hF hr hlk hQ dX11_toldOf_34 ⟨rfl, rfl⟩
    · exact absurd bq2 (by decide)
  · refine go_iload_n (pc := 0) hF dX11_toldOf_0 1 rfl ?_
    refine go_iconst (pc := 1) hF dX11_toldOf_1 ?_
    refine go_icmp_ge (pc := 2) hF 13 dX11_toldOf_2 (by decide) ⟨by decide, by decide⟩ ⟨by decide, by decide⟩ (fun bq2 => ?_) (fun bq2 => ?_)
    · refine go_iload_n (pc := 13) hF dX11_toldOf_13 1 rfl ?_
      refine go_iconst (pc := 14) hF dX11_toldOf_14 ?_
      refine go_icmp_ne (pc := 15) hF 25 dX11_toldOf_15 (by decide) ⟨by decide, by decide⟩ ⟨by decide, by decide⟩ (fun bq15 => ?_) (fun bq15 => ?_)
      · refine go_aload_n (pc := 25) hF dX11_toldOf_25 0 rfl ?_
        refine go_iconst (pc := 26) hF dX11_toldOf_26 ?_
        refine go_aload_n (pc := 27) hF dX11_toldOf_27 0 rfl ?_
        refine go_get (pc := 28) hF fl_X11_177 dX11_toldOf_28 (by omega) z101 rfl ?_
        refine go_callVP (pc := 31) hF [vi 0, vi (tLen t₉ : Int)] [] mv_X11_186 dX11_toldOf_31 (by omega) z101 (show CP E M_X11_linesIn 3 [vr E 94, vi 0, vi (tLen t₉ : Int)] N σ (tMsk t₉ 0) from (by have h := c_X11_linesIn E N σ hN₉ z101 z105 hsg (by omega) 0 (tLen t₉ : Int) (by omega); rw [Int.sub_zero, Int.toNat_natCast, mk_tree t₉ hwf 0 0 hMA] at h; exact h)) rfl rfl (Nat.le_of_ble_eq_true rfl) (by decide) ⟨Nat.zero_le _, Nat.zero_le _⟩ ?_
        exact go_iretQ hF hr hlk hQ dX11_toldOf_34 ⟨rfl, rfl⟩
      · exact absurd bq15 (by decide)
    · exact absurd bq2 (by decide)
set_option maxHeartbeats 4000000 in
set_option maxRecDepth 100000 in
theorem c_X11_told_bad (E : En) (N : Nat) (σ : Nat → va_E) (r₉ u₉ kd pr : Int) (yr yw yk yp : Int → Int) (hs : Int) (tx : Int → Int) (tl : Int) (t₉ : Tr) (xb xn xf q1₉ q2₉ q3₉ : Int) (hN₉ : 120 ≤ N) (hO : okS r₉ u₉ kd pr yr yw yk yp hs tx tl t₉ xb xn xf q1₉ q2₉ q3₉) (hS₉ : mdS E σ r₉ u₉ kd pr yr yw yk yp hs tx tl t₉ xb xn xf q1₉ q2₉ q3₉) (x₉ : Int) (hx : rg x₉) (hno : ¬ (0 ≤ x₉ ∧ x₉ ≤ 4)) : CI E M_X11_told 16 [vr E 94, vi x₉] N σ (fun y₉ σ' => y₉ = (-2) ∧ mdS E σ' r₉ u₉ kd pr yr yw yk yp hs tx tl t₉ (wr₉ (xb + 1)) xn xf q1₉ q2₉ q3₉ ∧ ∀ q₉, q₉ < 94 → σ' q₉ = σ q₉) := by
  refine CT.of2 (own := RX11) (by decide) rfl (Nat.le_of_ble_eq_true rfl) ?_
  intro p e R s m args below meth c Q hF hr hlk hnm hz hR hQ
  obtain ⟨nw, pa, rf, sn, eo, bo, rr, rz, hi₉, mi, ak, rt, cn, z101, z102, z103, z104, z105, z106, z107, z108, z126, ⟨⟨g109, z109⟩, ⟨g110, z110⟩, ⟨g111, z111⟩, ⟨g112, z112⟩, ⟨g113, z113⟩, ⟨g114, z114⟩, ⟨g115, z115⟩, ⟨g116, z116⟩, ⟨g117, z117⟩, ⟨g118, z118⟩, ⟨g119, z119⟩, ⟨g120, z120⟩, ⟨g121, z121⟩, ⟨g122, z122⟩, ⟨g123, z123⟩, ⟨g124, z124⟩, ⟨g125, z125⟩⟩, hnw, hpa, hrf, hrr, hMA⟩ := hS₉
  obtain ⟨⟨hrw, hu, hkd, hpr⟩, hhs, hyy, htl, htx, hxb, hxn, hxf, hq1, hq2, hq3, hwf, hdp3, hl80, hl24⟩ := hO
  have hrw3 := vrow_up hrw (show u₉ ≤ 3 by omega)
  have hrr0 := hrw.1
  obtain ⟨n0₉, n1₉, n2₉, n3₉, n4₉, n5₉, n6₉⟩ := id hnw
  have gl := mLong_rg r₉
  refine go_iload_n (pc := 0) hF dX11_told_0 1 rfl ?_
  refine go_i2l (pc := 1) hF dX11_told_1 (by omega) ?_
  refine go_lconst (pc := 2) (v := 0) hF dX11_told_2 (by decide) ?_
  refine go_ldc2 (pc := 3) hF kc_X11_189 dX11_told_3 ?_
  refine go_callSP (pc := 6) hF [vl x₉, vl 0, vl 4] [] ms_X11_89 dX11_told_6 (c_X11_in E N σ x₉ 0 4 (by omega) ⟨by decide, by decide⟩ ⟨by decide, by decide⟩) rfl rfl (Nat.le_of_ble_eq_true rfl) (by decide) ⟨Nat.zero_le _, Nat.zero_le _⟩ ?_
  refine go_if_eq (pc := 9) hF 20 dX11_told_9 (by decide) (bI_rg _) (fun bq9 => ?_) (fun bq9 => ?_)
  · refine go_aload_n (pc := 20) hF dX11_told_20 0 rfl ?_
    refine go_callVI (pc := 21) hF [] [] mv_X11_120 dX11_told_21 (by omega) z101 (c_X11_bad E N σ hN₉ z101 z104) rfl rfl (Nat.le_of_ble_eq_true rfl) (by decide) ⟨Nat.zero_le _, Nat.zero_le _⟩ (fun r_s1 s1₉ h_s1 => ?_)
    obtain ⟨e_s1, u_s1, f_s1⟩ := h_s1
    subst e_s1
    have x_s1 := (f_s1 94 (by omega)).trans z101
    have nw_s1 := (f_s1 95 (by omega)).trans z102
    have pa_s1 := (f_s1 96 (by omega)).trans z103
    have sn_s1 := (f_s1 98 (by omega)).trans z105
    have eo_s1 := (f_s1 99 (by omega)).trans z106
    have bo_s1 := (f_s1 100 (by omega)).trans z107
    have tx_s1 := (f_s1 101 (by omega)).trans z108
    have rr_s1 := (f_s1 119 (by omega)).trans z126
    have readSign_s1 := (f_s1 102 (by omega)).trans z109
    have open_s1 := (f_s1 103 (by omega)).trans z110
    have isBarred_s1 := (f_s1 104 (by omega)).trans z111
    have ages_s1 := (f_s1 105 (by omega)).trans z112
    have entered_s1 := (f_s1 106 (by omega)).trans z113
    have first_s1 := (f_s1 107 (by omega)).trans z114
    have mustAt_s1 := (f_s1 108 (by omega)).trans z115
    have mayAt_s1 := (f_s1 109 (by omega)).trans z116
    have sums_s1 := (f_s1 110 (by omega)).trans z117
    have sumsFirst_s1 := (f_s1 111 (by omega)).trans z118
    have took_s1 := (f_s1 112 (by omega)).trans z119
    have next_s1 := (f_s1 113 (by omega)).trans z120
    have inOf_s1 := (f_s1 114 (by omega)).trans z121
    have firstOf_s1 := (f_s1 115 (by omega)).trans z122
    have rounds_s1 := (f_s1 116 (by omega)).trans z123
    have counts_s1 := (f_s1 117 (by omega)).trans z124
    have countsFirst_s1 := (f_s1 118 (by omega)).trans z125
    exact go_iretQ hF hr hlk hQ dX11_told_24 ⟨rfl, ⟨_, _, _, _, _, _, _, _, _, _, _, _, _, x_s1, nw_s1, pa_s1, u_s1, sn_s1, eo_s1, bo_s1, tx_s1, rr_s1, ⟨⟨_, readSign_s1⟩, ⟨_, open_s1⟩, ⟨_, isBarred_s1⟩, ⟨_, ages_s1⟩, ⟨_, entered_s1⟩, ⟨_, first_s1⟩, ⟨_, mustAt_s1⟩, ⟨_, mayAt_s1⟩, ⟨_, sums_s1⟩, ⟨_, sumsFirst_s1⟩, ⟨_, took_s1⟩, ⟨_, next_s1⟩, ⟨_, inOf_s1⟩, ⟨_, firstOf_s1⟩, ⟨_, rounds_s1⟩, ⟨_, counts_s1⟩, ⟨_, countsFirst_s1⟩⟩, hnw, hpa, ⟨by rw [badF_at, hrf.1], by rw [badF_ne (by decide) (by rw [hrf.2.1]; exact hxn)]; exact hrf.2.1, by rw [badF_ne (by decide) (by rw [hrf.2.2]; exact hxf)]; exact hrf.2.2⟩, hrr, hMA⟩, (fun jj hjj => by rw [f_s1 jj (by omega)])⟩
  · exact absurd ((bI_0 _).mpr (by omega)) bq9
set_option maxHeartbeats 4000000 in
set_option maxRecDepth 100000 in
theorem c_X11_told_ok (E : En) (N : Nat) (σ : Nat → va_E) (r₉ u₉ kd pr : Int) (yr yw yk yp : Int → Int) (hs : Int) (tx : Int → Int) (tl : Int) (t₉ : Tr) (xb xn xf q1₉ q2₉ q3₉ : Int) (hN₉ : 120 ≤ N) (hO : okS r₉ u₉ kd pr yr yw yk yp hs tx tl t₉ xb xn xf q1₉ q2₉ q3₉) (hS₉ : mdS E σ r₉ u₉ kd pr yr yw yk yp hs tx tl t₉ xb xn xf q1₉ q2₉ q3₉) (x₉ : Int) (hx : 0 ≤ x₉ ∧ x₉ ≤ 4) : CI E M_X11_told 16 [vr E 94, vi x₉] N σ (fun y₉ σ' => y₉ = gTell (tLks t₉) (tChs t₉) (tLps t₉) (tDep t₉) (tMsk t₉ 0) x₉ ∧ mdS E σ' r₉ u₉ kd pr yr yw yk yp hs tx tl t₉ xb xn xf q1₉ q2₉ q3₉ ∧ ∀ q₉, q₉ < 94 → σ' q₉ = σ q₉) := by
  refine CT.of2 (own := RX11) (by decide) rfl (Nat.le_of_ble_eq_true rfl) ?_
  intro p e R s m args below meth c Q hF hr hlk hnm hz hR hQ
  obtain ⟨_, _, _, _, _, _, _, _, _, _, _, _, _, hob, -⟩ := id hS₉
  refine go_iload_n (pc := 0) hF dX11_told_0 1 rfl ?_
  refine go_i2l (pc := 1) hF dX11_told_1 (by omega) ?_
  refine go_lconst (pc := 2) (v := 0) hF dX11_told_2 (by decide) ?_
  refine go_ldc2 (pc := 3) hF kc_X11_189 dX11_told_3 ?_
  refine go_callSP (pc := 6) hF [vl x₉, vl 0, vl 4] [] ms_X11_89 dX11_told_6 (c_X11_in E N σ x₉ 0 4 (by omega) ⟨by decide, by decide⟩ ⟨by decide, by decide⟩) rfl rfl (Nat.le_of_ble_eq_true rfl) (by decide) ⟨Nat.zero_le _, Nat.zero_le _⟩ ?_
  refine go_if_eq (pc := 9) hF 20 dX11_told_9 (by decide) (bI_rg _) (fun bq9 => ?_) (fun bq9 => ?_)
  · exact absurd ((bI_0 _).mp bq9) (by omega)
  · refine go_aload_n (pc := 12) hF dX11_told_12 0 rfl ?_
    refine go_iload_n (pc := 13) hF dX11_told_13 1 rfl ?_
    refine go_callVP (pc := 14) hF [vi x₉] [] mv_X11_191 dX11_told_14 (by omega) hob (c_X11_toldOf E N σ r₉ u₉ kd pr yr yw yk yp hs tx tl t₉ xb xn xf q1₉ q2₉ q3₉ hN₉ hO hS₉ x₉ (by omega)) rfl rfl (Nat.le_of_ble_eq_true rfl) (by decide) ⟨Nat.zero_le _, Nat.zero_le _⟩ ?_
    refine go_goto (pc := 17) hF 24 dX11_told_17 (by decide) ?_
    exact go_iretQ hF hr hlk hQ dX11_told_24 ⟨rfl, hS₉, fun _ _ => rfl⟩
set_option maxHeartbeats 4000000 in
set_option maxRecDepth 100000 in
theorem c_X11_digest (E : En) (N : Nat) (σ : Nat → va_E) (r₉ u₉ kd pr : Int) (yr yw yk yp : Int → Int) (hs : Int) (tx : Int → Int) (tl : Int) (t₉ : Tr) (xb xn xf q1₉ q2₉ q3₉ : Int) (hN₉ : 120 ≤ N) (hO : okS r₉ u₉ kd pr yr yw yk yp hs tx tl t₉ xb xn xf q1₉ q2₉ q3₉) (hS₉ : mdS E σ r₉ u₉ kd pr yr yw yk yp hs tx tl t₉ xb xn xf q1₉ q2₉ q3₉) : CL E M_X11_digest 16 [vr E 94] N σ (fun y₉ σ' => y₉ = dgS r₉ u₉ kd pr hs tl t₉ xb xn xf q1₉ q2₉ q3₉ ∧ mdS E σ' r₉ u₉ kd pr yr yw yk yp hs tx tl t₉ xb xn xf q1₉ q2₉ q3₉ ∧ ∀ q₉, q₉ < 94 → σ' q₉ = σ q₉) := by
  refine CT.of2 (own := RX11) (by decide) rfl (Nat.le_of_ble_eq_true rfl) ?_
  intro p e R s m args below meth c Q hF hr hlk hnm hz hR hQ
  have hS0 := hS₉
  have hO0 := hO
  obtain ⟨nw, pa, rf, sn, eo, bo, rr, rz, hi₉, mi, ak, rt, cn, z101, z102, z103, z104, z105, z106, z107, z108, z126, ⟨⟨g109, z109⟩, ⟨g110, z110⟩, ⟨g111, z111⟩, ⟨g112, z112⟩, ⟨g113, z113⟩, ⟨g114, z114⟩, ⟨g115, z115⟩, ⟨g116, z116⟩, ⟨g117, z117⟩, ⟨g118, z118⟩, ⟨g119, z119⟩, ⟨g120, z120⟩, ⟨g121, z121⟩, ⟨g122, z122⟩, ⟨g123, z123⟩, ⟨g124, z124⟩, ⟨g125, z125⟩⟩, hnw, hpa, hrf, hrr, hMA⟩ := hS₉
  obtain ⟨⟨hrw, hu, hkd, hpr⟩, hhs, hyy, htl, htx, hxb, hxn, hxf, hq1, hq2, hq3, hwf, hdp3, hl80, hl24⟩ := hO
  have hrw3 := vrow_up hrw (show u₉ ≤ 3 by omega)
  have hrr0 := hrw.1
  obtain ⟨n0₉, n1₉, n2₉, n3₉, n4₉, n5₉, n6₉⟩ := id hnw
  have gl := mLong_rg r₉
  have hsg0 := MA_sg t₉ hwf 0 hMA
  have hsg : ∀ p : Int, 0 ≤ p → p < (tLen t₉ : Int) → 40 ≤ sn p ∧ sn p ≤ 124 := fun p a₉ b₉ => hsg0 p a₉ (by omega)
  have ht0 := tMsk_rg hwf hMA
  have htc := tChs_le t₉ hwf
  have gr := hrr
  refine go_ldc2 (pc := 0) hF kc_X11_320 dX11_digest_0 ?_
  refine go_lstore_n (pc := 3) hF [(1, vl 1999), (0, vr E 94)] dX11_digest_3 rfl (by decide) ?_
  refine go_iconst (pc := 4) hF dX11_digest_4 ?_
  refine go_istore_n (pc := 5) hF [(3, vi 0), (1, vl 1999), (0, vr E 94)] dX11_digest_5 rfl (by decide) ?_
  refine go_iload_n (pc := 6) hF dX11_digest_6 0 rfl ?_
  refine go_bipush (pc := 7) hF dX11_digest_7 (by decide) ?_
  refine go_icmp_ge (pc := 9) hF 31 dX11_digest_9 (by decide) ⟨by decide, by decide⟩ ⟨by decide, by decide⟩ (fun bq9 => ?_) (fun bq9 => ?_)
  · exact absurd bq9 (by decide)
  · refine go_ldc2 (pc := 12) hF kc_X11_322 dX11_digest_12 ?_
    refine go_lload_n (pc := 15) hF dX11_digest_15 1 rfl ?_
    refine go_lmul (pc := 16) hF dX11_digest_16 ?_
    refine go_aload_n (pc := 17) hF dX11_digest_17 2 rfl ?_
    refine go_iload_n (pc := 18) hF dX11_digest_18 0 rfl ?_
    refine go_callVP (pc := 19) hF [vi 0] [vl 61969] mv_X11_317 dX11_digest_19 (by omega) z101 (show CP E M_X11_counted 1 [vr E 94, vi 0] N σ (xb) from c_X11_counted E N σ r₉ u₉ kd pr yr yw yk yp hs tx tl t₉ xb xn xf q1₉ q2₉ q3₉ hN₉ hO0 hS0 0 (by omega)) rfl rfl (Nat.le_of_ble_eq_true rfl) (by decide) ⟨Nat.zero_le _, Nat.zero_le _⟩ ?_
    refine go_i2l (pc := 22) hF dX11_digest_22 (by omega) ?_
    refine go_ladd (pc := 23) hF dX11_digest_23 ?_
    refine go_lstore_n (pc := 24) hF [(1, vl (61969 + xb)), (3, vi 0), (0, vr E 94)] dX11_digest_24 rfl (by decide) ?_
    refine go_iinc (pc := 25) hF [(3, vi 1), (1, vl (61969 + xb)), (0, vr E 94)] dX11_digest_25 1 rfl rfl (by decide) ?_
    refine go_goto (pc := 28) hF 6 dX11_digest_28 (by decide) ?_
    refine go_iload_n (pc := 6) hF dX11_digest_6 0 rfl ?_
    refine go_bipush (pc := 7) hF dX11_digest_7 (by decide) ?_
    refine go_icmp_ge (pc := 9) hF 31 dX11_digest_9 (by decide) ⟨by decide, by decide⟩ ⟨by decide, by decide⟩ (fun bq9 => ?_) (fun bq9 => ?_)
    · exact absurd bq9 (by decide)
    · refine go_ldc2 (pc := 12) hF kc_X11_322 dX11_digest_12 ?_
      refine go_lload_n (pc := 15) hF dX11_digest_15 1 rfl ?_
      refine go_lmul (pc := 16) hF dX11_digest_16 ?_
      refine go_aload_n (pc := 17) hF dX11_digest_17 2 rfl ?_
      refine go_iload_n (pc := 18) hF dX11_digest_18 0 rfl ?_
      refine go_callVP (pc := 19) hF [vi 1] [vl (31 * (61969 + xb))] mv_X11_317 dX11_digest_19 (by omega) z101 (show CP E M_X11_counted 1 [vr E 94, vi 1] N σ (xn) from c_X11_counted E N σ r₉ u₉ kd pr yr yw yk yp hs tx tl t₉ xb xn xf q1₉ q2₉ q3₉ hN₉ hO0 hS0 1 (by omega)) rfl rfl (Nat.le_of_ble_eq_true rfl) (by decide) ⟨Nat.zero_le _, Nat.zero_le _⟩ ?_
      refine go_i2l (pc := 22) hF dX11_digest_22 (by omega) ?_
      refine go_ladd (pc := 23) hF dX11_digest_23 ?_
      refine go_lstore_n (pc := 24) hF [(1, vl ((31 * (61969 + xb)) + xn)), (3, vi 1), (0, vr E 94)] dX11_digest_24 rfl (by decide) ?_
      refine go_iinc (pc := 25) hF [(3, vi 2), (1, vl ((31 * (61969 + xb)) + xn)), (0, vr E 94)] dX11_digest_25 1 rfl rfl (by decide) ?_
      refine go_goto (pc := 28) hF 6 dX11_digest_28 (by decide) ?_
      refine go_iload_n (pc := 6) hF dX11_digest_6 0 rfl ?_
      refine go_bipush (pc := 7) hF dX11_digest_7 (by decide) ?_
      refine go_icmp_ge (pc := 9) hF 31 dX11_digest_9 (by decide) ⟨by decide, by decide⟩ ⟨by decide, by decide⟩ (fun bq9 => ?_) (fun bq9 => ?_)
      · exact absurd bq9 (by decide)
      · refine go_ldc2 (pc := 12) hF kc_X11_322 dX11_digest_12 ?_
        refine go_lload_n (pc := 15) hF dX11_digest_15 1 rfl ?_
        refine go_lmul (pc := 16) hF dX11_digest_16 ?_
        refine go_aload_n (pc := 17) hF dX11_digest_17 2 rfl ?_
        refine go_iload_n (pc := 18) hF dX11_digest_18 0 rfl ?_
        refine go_callVP (pc := 19) hF [vi 2] [vl (31 * ((31 * (61969 + xb)) + xn))] mv_X11_317 dX11_digest_19 (by omega) z101 (show CP E M_X11_counted 1 [vr E 94, vi 2] N σ (xf) from c_X11_counted E N σ r₉ u₉ kd pr yr yw yk yp hs tx tl t₉ xb xn xf q1₉ q2₉ q3₉ hN₉ hO0 hS0 2 (by omega)) rfl rfl (Nat.le_of_ble_eq_true rfl) (by decide) ⟨Nat.zero_le _, Nat.zero_le _⟩ ?_
        refine go_i2l (pc := 22) hF dX11_digest_22 (by omega) ?_
        refine go_ladd (pc := 23) hF dX11_digest_23 ?_
        refine go_lstore_n (pc := 24) hF [(1, vl ((31 * ((31 * (61969 + xb)) + xn)) + xf)), (3, vi 2), (0, vr E 94)] dX11_digest_24 rfl (by decide) ?_
        refine go_iinc (pc := 25) hF [(3, vi 3), (1, vl ((31 * ((31 * (61969 + xb)) + xn)) + xf)), (0, vr E 94)] dX11_digest_25 1 rfl rfl (by decide) ?_
        refine go_goto (pc := 28) hF 6 dX11_digest_28 (by decide) ?_
        refine go_iload_n (pc := 6) hF dX11_digest_6 0 rfl ?_
        refine go_bipush (pc := 7) hF dX11_digest_7 (by decide) ?_
        refine go_icmp_ge (pc := 9) hF 31 dX11_digest_9 (by decide) ⟨by decide, by decide⟩ ⟨by decide, by decide⟩ (fun bq9 => ?_) (fun bq9 => ?_)
        · exact absurd bq9 (by decide)
        · refine go_ldc2 (pc := 12) hF kc_X11_322 dX11_digest_12 ?_
          refine go_lload_n (pc := 15) hF dX11_digest_15 1 rfl ?_
          refine go_lmul (pc := 16) hF dX11_digest_16 ?_
          refine go_aload_n (pc := 17) hF dX11_digest_17 2 rfl ?_
          refine go_iload_n (pc := 18) hF dX11_digest_18 0 rfl ?_
          refine go_callVP (pc := 19) hF [vi 3] [vl (31 * ((31 * ((31 * (61969 + xb)) + xn)) + xf))] mv_X11_317 dX11_digest_19 (by omega) z101 (show CP E M_X11_counted 1 [vr E 94, vi 3] N σ (tl) from c_X11_counted E N σ r₉ u₉ kd pr yr yw yk yp hs tx tl t₉ xb xn xf q1₉ q2₉ q3₉ hN₉ hO0 hS0 3 (by omega)) rfl rfl (Nat.le_of_ble_eq_true rfl) (by decide) ⟨Nat.zero_le _, Nat.zero_le _⟩ ?_
          refine go_i2l (pc := 22) hF dX11_digest_22 (by omega) ?_
          refine go_ladd (pc := 23) hF dX11_digest_23 ?_
          refine go_lstore_n (pc := 24) hF [(1, vl ((31 * ((31 * ((31 * (61969 + xb)) + xn)) + xf)) + tl)), (3, vi 3), (0, vr E 94)] dX11_digest_24 rfl (by decide) ?_
          refine go_iinc (pc := 25) hF [(3, vi 4), (1, vl ((31 * ((31 * ((31 * (61969 + xb)) + xn)) + xf)) + tl)), (0, vr E 94)] dX11_digest_25 1 rfl rfl (by decide) ?_
          refine go_goto (pc := 28) hF 6 dX11_digest_28 (by decide) ?_
          refine go_iload_n (pc := 6) hF dX11_digest_6 0 rfl ?_
          refine go_bipush (pc := 7) hF dX11_digest_7 (by decide) ?_
          refine go_icmp_ge (pc := 9) hF 31 dX11_digest_9 (by decide) ⟨by decide, by decide⟩ ⟨by decide, by decide⟩ (fun bq9 => ?_) (fun bq9 => ?_)
          · exact absurd bq9 (by decide)
          · refine go_ldc2 (pc := 12) hF kc_X11_322 dX11_digest_12 ?_
            refine go_lload_n (pc := 15) hF dX11_digest_15 1 rfl ?_
            refine go_lmul (pc := 16) hF dX11_digest_16 ?_
            refine go_aload_n (pc := 17) hF dX11_digest_17 2 rfl ?_
            refine go_iload_n (pc := 18) hF dX11_digest_18 0 rfl ?_
            refine go_callVP (pc := 19) hF [vi 4] [vl (31 * ((31 * ((31 * ((31 * (61969 + xb)) + xn)) + xf)) + tl))] mv_X11_317 dX11_digest_19 (by omega) z101 (show CP E M_X11_counted 1 [vr E 94, vi 4] N σ (u₉) from c_X11_counted E N σ r₉ u₉ kd pr yr yw yk yp hs tx tl t₉ xb xn xf q1₉ q2₉ q3₉ hN₉ hO0 hS0 4 (by omega)) rfl rfl (Nat.le_of_ble_eq_true rfl) (by decide) ⟨Nat.zero_le _, Nat.zero_le _⟩ ?_
            refine go_i2l (pc := 22) hF dX11_digest_22 (by omega) ?_
            refine go_ladd (pc := 23) hF dX11_digest_23 ?_
            refine go_lstore_n (pc := 24) hF [(1, vl ((31 * ((31 * ((31 * ((31 * (61969 + xb)) + xn)) + xf)) + tl)) + u₉)), (3, vi 4), (0, vr E 94)] dX11_digest_24 rfl (by decide) ?_
            refine go_iinc (pc := 25) hF [(3, vi 5), (1, vl ((31 * ((31 * ((31 * ((31 * (61969 + xb)) + xn)) + xf)) + tl)) + u₉)), (0, vr E 94)] dX11_digest_25 1 rfl rfl (by decide) ?_
            refine go_goto (pc := 28) hF 6 dX11_digest_28 (by decide) ?_
            refine go_iload_n (pc := 6) hF dX11_digest_6 0 rfl ?_
            refine go_bipush (pc := 7) hF dX11_digest_7 (by decide) ?_
            refine go_icmp_ge (pc := 9) hF 31 dX11_digest_9 (by decide) ⟨by decide, by decide⟩ ⟨by decide, by decide⟩ (fun bq9 => ?_) (fun bq9 => ?_)
            · exact absurd bq9 (by decide)
            · refine go_ldc2 (pc := 12) hF kc_X11_322 dX11_digest_12 ?_
              refine go_lload_n (pc := 15) hF dX11_digest_15 1 rfl ?_
              refine go_lmul (pc := 16) hF dX11_digest_16 ?_
              refine go_aload_n (pc := 17) hF dX11_digest_17 2 rfl ?_
              refine go_iload_n (pc := 18) hF dX11_digest_18 0 rfl ?_
              refine go_callVP (pc := 19) hF [vi 5] [vl (31 * ((31 * ((31 * ((31 * ((31 * (61969 + xb)) + xn)) + xf)) + tl)) + u₉))] mv_X11_317 dX11_digest_19 (by omega) z101 (show CP E M_X11_counted 1 [vr E 94, vi 5] N σ (kd) from c_X11_counted E N σ r₉ u₉ kd pr yr yw yk yp hs tx tl t₉ xb xn xf q1₉ q2₉ q3₉ hN₉ hO0 hS0 5 (by omega)) rfl rfl (Nat.le_of_ble_eq_true rfl) (by decide) ⟨Nat.zero_le _, Nat.zero_le _⟩ ?_
              refine go_i2l (pc := 22) hF dX11_digest_22 (by omega) ?_
              refine go_ladd (pc := 23) hF dX11_digest_23 ?_
              refine go_lstore_n (pc := 24) hF [(1, vl ((31 * ((31 * ((31 * ((31 * ((31 * (61969 + xb)) + xn)) + xf)) + tl)) + u₉)) + kd)), (3, vi 5), (0, vr E 94)] dX11_digest_24 rfl (by decide) ?_
              refine go_iinc (pc := 25) hF [(3, vi 6), (1, vl ((31 * ((31 * ((31 * ((31 * ((31 * (61969 + xb)) + xn)) + xf)) + tl)) + u₉)) + kd)), (0, vr E 94)] dX11_digest_25 1 rfl rfl (by decide) ?_
              refine go_goto (pc := 28) hF 6 dX11_digest_28 (by decide) ?_
              refine go_iload_n (pc := 6) hF dX11_digest_6 0 rfl ?_
              refine go_bipush (pc := 7) hF dX11_digest_7 (by decide) ?_
              refine go_icmp_ge (pc := 9) hF 31 dX11_digest_9 (by decide) ⟨by decide, by decide⟩ ⟨by decide, by decide⟩ (fun bq9 => ?_) (fun bq9 => ?_)
              · exact absurd bq9 (by decide)
              · refine go_ldc2 (pc := 12) hF kc_X11_322 dX11_digest_12 ?_
                refine go_lload_n (pc := 15) hF dX11_digest_15 1 rfl ?_
                refine go_lmul (pc := 16) hF dX11_digest_16 ?_
                refine go_aload_n (pc := 17) hF dX11_digest_17 2 rfl ?_
                refine go_iload_n (pc := 18) hF dX11_digest_18 0 rfl ?_
                refine go_callVP (pc := 19) hF [vi 6] [vl (31 * ((31 * ((31 * ((31 * ((31 * ((31 * (61969 + xb)) + xn)) + xf)) + tl)) + u₉)) + kd))] mv_X11_317 dX11_digest_19 (by omega) z101 (show CP E M_X11_counted 1 [vr E 94, vi 6] N σ (pr) from c_X11_counted E N σ r₉ u₉ kd pr yr yw yk yp hs tx tl t₉ xb xn xf q1₉ q2₉ q3₉ hN₉ hO0 hS0 6 (by omega)) rfl rfl (Nat.le_of_ble_eq_true rfl) (by decide) ⟨Nat.zero_le _, Nat.zero_le _⟩ ?_
                refine go_i2l (pc := 22) hF dX11_digest_22 (by omega) ?_
                refine go_ladd (pc := 23) hF dX11_digest_23 ?_
                refine go_lstore_n (pc := 24) hF [(1, vl ((31 * ((31 * ((31 * ((31 * ((31 * ((31 * (61969 + xb)) + xn)) + xf)) + tl)) + u₉)) + kd)) + pr)), (3, vi 6), (0, vr E 94)] dX11_digest_24 rfl (by decide) ?_
                refine go_iinc (pc := 25) hF [(3, vi 7), (1, vl ((31 * ((31 * ((31 * ((31 * ((31 * ((31 * (61969 + xb)) + xn)) + xf)) + tl)) + u₉)) + kd)) + pr)), (0, vr E 94)] dX11_digest_25 1 rfl rfl (by decide) ?_
                refine go_goto (pc := 28) hF 6 dX11_digest_28 (by decide) ?_
                refine go_iload_n (pc := 6) hF dX11_digest_6 0 rfl ?_
                refine go_bipush (pc := 7) hF dX11_digest_7 (by decide) ?_
                refine go_icmp_ge (pc := 9) hF 31 dX11_digest_9 (by decide) ⟨by decide, by decide⟩ ⟨by decide, by decide⟩ (fun bq9 => ?_) (fun bq9 => ?_)
                · exact absurd bq9 (by decide)
                · refine go_ldc2 (pc := 12) hF kc_X11_322 dX11_digest_12 ?_
                  refine go_lload_n (pc := 15) hF dX11_digest_15 1 rfl ?_
                  refine go_lmul (pc := 16) hF dX11_digest_16 ?_
                  refine go_aload_n (pc := 17) hF dX11_digest_17 2 rfl ?_
                  refine go_iload_n (pc := 18) hF dX11_digest_18 0 rfl ?_
                  refine go_callVP (pc := 19) hF [vi 7] [vl (31 * ((31 * ((31 * ((31 * ((31 * ((31 * ((31 * (61969 + xb)) + xn)) + xf)) + tl)) + u₉)) + kd)) + pr))] mv_X11_317 dX11_digest_19 (by omega) z101 (show CP E M_X11_counted 1 [vr E 94, vi 7] N σ (mLong r₉) from c_X11_counted E N σ r₉ u₉ kd pr yr yw yk yp hs tx tl t₉ xb xn xf q1₉ q2₉ q3₉ hN₉ hO0 hS0 7 (by omega)) rfl rfl (Nat.le_of_ble_eq_true rfl) (by decide) ⟨Nat.zero_le _, Nat.zero_le _⟩ ?_
                  refine go_i2l (pc := 22) hF dX11_digest_22 (by omega) ?_
                  refine go_ladd (pc := 23) hF dX11_digest_23 ?_
                  refine go_lstore_n (pc := 24) hF [(1, vl ((31 * ((31 * ((31 * ((31 * ((31 * ((31 * ((31 * (61969 + xb)) + xn)) + xf)) + tl)) + u₉)) + kd)) + pr)) + (mLong r₉))), (3, vi 7), (0, vr E 94)] dX11_digest_24 rfl (by decide) ?_
                  refine go_iinc (pc := 25) hF [(3, vi 8), (1, vl ((31 * ((31 * ((31 * ((31 * ((31 * ((31 * ((31 * (61969 + xb)) + xn)) + xf)) + tl)) + u₉)) + kd)) + pr)) + (mLong r₉))), (0, vr E 94)] dX11_digest_25 1 rfl rfl (by decide) ?_
                  refine go_goto (pc := 28) hF 6 dX11_digest_28 (by decide) ?_
                  refine go_iload_n (pc := 6) hF dX11_digest_6 0 rfl ?_
                  refine go_bipush (pc := 7) hF dX11_digest_7 (by decide) ?_
                  refine go_icmp_ge (pc := 9) hF 31 dX11_digest_9 (by decide) ⟨by decide, by decide⟩ ⟨by decide, by decide⟩ (fun bq9 => ?_) (fun bq9 => ?_)
                  · exact absurd bq9 (by decide)
                  · refine go_ldc2 (pc := 12) hF kc_X11_322 dX11_digest_12 ?_
                    refine go_lload_n (pc := 15) hF dX11_digest_15 1 rfl ?_
                    refine go_lmul (pc := 16) hF dX11_digest_16 ?_
                    refine go_aload_n (pc := 17) hF dX11_digest_17 2 rfl ?_
                    refine go_iload_n (pc := 18) hF dX11_digest_18 0 rfl ?_
                    refine go_callVP (pc := 19) hF [vi 8] [vl (31 * ((31 * ((31 * ((31 * ((31 * ((31 * ((31 * ((31 * (61969 + xb)) + xn)) + xf)) + tl)) + u₉)) + kd)) + pr)) + (mLong r₉)))] mv_X11_317 dX11_digest_19 (by omega) z101 (show CP E M_X11_counted 1 [vr E 94, vi 8] N σ (hs) from c_X11_counted E N σ r₉ u₉ kd pr yr yw yk yp hs tx tl t₉ xb xn xf q1₉ q2₉ q3₉ hN₉ hO0 hS0 8 (by omega)) rfl rfl (Nat.le_of_ble_eq_true rfl) (by decide) ⟨Nat.zero_le _, Nat.zero_le _⟩ ?_
                    refine go_i2l (pc := 22) hF dX11_digest_22 (by omega) ?_
                    refine go_ladd (pc := 23) hF dX11_digest_23 ?_
                    refine go_lstore_n (pc := 24) hF [(1, vl ((31 * ((31 * ((31 * ((31 * ((31 * ((31 * ((31 * ((31 * (61969 + xb)) + xn)) + xf)) + tl)) + u₉)) + kd)) + pr)) + (mLong r₉))) + hs)), (3, vi 8), (0, vr E 94)] dX11_digest_24 rfl (by decide) ?_
                    refine go_iinc (pc := 25) hF [(3, vi 9), (1, vl ((31 * ((31 * ((31 * ((31 * ((31 * ((31 * ((31 * ((31 * (61969 + xb)) + xn)) + xf)) + tl)) + u₉)) + kd)) + pr)) + (mLong r₉))) + hs)), (0, vr E 94)] dX11_digest_25 1 rfl rfl (by decide) ?_
                    refine go_goto (pc := 28) hF 6 dX11_digest_28 (by decide) ?_
                    refine go_iload_n (pc := 6) hF dX11_digest_6 0 rfl ?_
                    refine go_bipush (pc := 7) hF dX11_digest_7 (by decide) ?_
                    refine go_icmp_ge (pc := 9) hF 31 dX11_digest_9 (by decide) ⟨by decide, by decide⟩ ⟨by decide, by decide⟩ (fun bq9 => ?_) (fun bq9 => ?_)
                    · refine go_iconst (pc := 31) hF dX11_digest_31 ?_
                      refine go_istore_n (pc := 32) hF [(3, vi 0), (1, vl ((31 * ((31 * ((31 * ((31 * ((31 * ((31 * ((31 * ((31 * (61969 + xb)) + xn)) + xf)) + tl)) + u₉)) + kd)) + pr)) + (mLong r₉))) + hs)), (0, vr E 94)] dX11_digest_32 rfl (by decide) ?_
                      obtain eL | eL | eL | eL : mLong r₉ = 0 ∨ mLong r₉ = 1 ∨ mLong r₉ = 2 ∨ mLong r₉ = 3 := by omega
                      · have gq := mAt_rg 0 hrr0.1
                        have gq1 := mAt_rg 1 hrr0.1
                        have gq2 := mAt_rg 2 hrr0.1
                        refine go_iload_n (pc := 33) hF dX11_digest_33 0 rfl ?_
                        refine go_aload_n (pc := 34) hF dX11_digest_34 2 rfl ?_
                        refine go_get (pc := 35) hF fl_X11_7 dX11_digest_35 (by omega) z101 rfl ?_
                        refine go_iconst (pc := 38) hF dX11_digest_38 ?_
                        refine go_iald (pc := 39) hF dX11_digest_39 (by omega) z102 (by omega)  ?_
                        refine go_icmp_ge (pc := 40) hF 65 dX11_digest_40 (by decide) ⟨by decide, by decide⟩ (by omega) (fun bq40 => ?_) (fun bq40 => ?_)
                        · refine go_iconst (pc := 65) hF dX11_digest_65 ?_
                          refine go_istore_n (pc := 66) hF [(3, vi 0), (1, vl ((31 * ((31 * ((31 * ((31 * ((31 * ((31 * ((31 * ((31 * (61969 + xb)) + xn)) + xf)) + tl)) + u₉)) + kd)) + pr)) + (mLong r₉))) + hs)), (0, vr E 94)] dX11_digest_66 rfl (by decide) ?_
                          refine go_iload_n (pc := 67) hF dX11_digest_67 0 rfl ?_
                          refine go_iconst (pc := 68) hF dX11_digest_68 ?_
                          refine go_icmp_ge (pc := 69) hF 91 dX11_digest_69 (by decide) ⟨by decide, by decide⟩ ⟨by decide, by decide⟩ (fun bq69 => ?_) (fun bq69 => ?_)
                          · exact absurd bq69 (by decide)
                          · refine go_ldc2 (pc := 72) hF kc_X11_322 dX11_digest_72 ?_
                            refine go_lload_n (pc := 75) hF dX11_digest_75 1 rfl ?_
                            refine go_lmul (pc := 76) hF dX11_digest_76 ?_
                            refine go_aload_n (pc := 77) hF dX11_digest_77 2 rfl ?_
                            refine go_iload_n (pc := 78) hF dX11_digest_78 0 rfl ?_
                            refine go_callVP (pc := 79) hF [vi 0] [vl (31 * ((31 * ((31 * ((31 * ((31 * ((31 * ((31 * ((31 * ((31 * (61969 + xb)) + xn)) + xf)) + tl)) + u₉)) + kd)) + pr)) + (mLong r₉))) + hs))] mv_X11_191 dX11_digest_79 (by omega) z101 (show CP E M_X11_toldOf 4 [vr E 94, vi 0] N σ ((tLks t₉ : Int)) from c_X11_toldOf E N σ r₉ u₉ kd pr yr yw yk yp hs tx tl t₉ xb xn xf q1₉ q2₉ q3₉ hN₉ hO0 hS0 0 (by omega)) rfl rfl (Nat.le_of_ble_eq_true rfl) (by decide) ⟨Nat.zero_le _, Nat.zero_le _⟩ ?_
                            refine go_i2l (pc := 82) hF dX11_digest_82 (by omega) ?_
                            refine go_ladd (pc := 83) hF dX11_digest_83 ?_
                            refine go_lstore_n (pc := 84) hF [(1, vl ((31 * ((31 * ((31 * ((31 * ((31 * ((31 * ((31 * ((31 * ((31 * (61969 + xb)) + xn)) + xf)) + tl)) + u₉)) + kd)) + pr)) + (mLong r₉))) + hs)) + (tLks t₉ : Int))), (3, vi 0), (0, vr E 94)] dX11_digest_84 rfl (by decide) ?_
                            refine go_iinc (pc := 85) hF [(3, vi 1), (1, vl ((31 * ((31 * ((31 * ((31 * ((31 * ((31 * ((31 * ((31 * ((31 * (61969 + xb)) + xn)) + xf)) + tl)) + u₉)) + kd)) + pr)) + (mLong r₉))) + hs)) + (tLks t₉ : Int))), (0, vr E 94)] dX11_digest_85 1 rfl rfl (by decide) ?_
                            refine go_goto (pc := 88) hF 67 dX11_digest_88 (by decide) ?_
                            refine go_iload_n (pc := 67) hF dX11_digest_67 0 rfl ?_
                            refine go_iconst (pc := 68) hF dX11_digest_68 ?_
                            refine go_icmp_ge (pc := 69) hF 91 dX11_digest_69 (by decide) ⟨by decide, by decide⟩ ⟨by decide, by decide⟩ (fun bq69 => ?_) (fun bq69 => ?_)
                            · exact absurd bq69 (by decide)
                            · refine go_ldc2 (pc := 72) hF kc_X11_322 dX11_digest_72 ?_
                              refine go_lload_n (pc := 75) hF dX11_digest_75 1 rfl ?_
                              refine go_lmul (pc := 76) hF dX11_digest_76 ?_
                              refine go_aload_n (pc := 77) hF dX11_digest_77 2 rfl ?_
                              refine go_iload_n (pc := 78) hF dX11_digest_78 0 rfl ?_
                              refine go_callVP (pc := 79) hF [vi 1] [vl (31 * ((31 * ((31 * ((31 * ((31 * ((31 * ((31 * ((31 * ((31 * ((31 * (61969 + xb)) + xn)) + xf)) + tl)) + u₉)) + kd)) + pr)) + (mLong r₉))) + hs)) + (tLks t₉ : Int)))] mv_X11_191 dX11_digest_79 (by omega) z101 (show CP E M_X11_toldOf 4 [vr E 94, vi 1] N σ ((tChs t₉ : Int)) from c_X11_toldOf E N σ r₉ u₉ kd pr yr yw yk yp hs tx tl t₉ xb xn xf q1₉ q2₉ q3₉ hN₉ hO0 hS0 1 (by omega)) rfl rfl (Nat.le_of_ble_eq_true rfl) (by decide) ⟨Nat.zero_le _, Nat.zero_le _⟩ ?_
                              refine go_i2l (pc := 82) hF dX11_digest_82 (by omega) ?_
                              refine go_ladd (pc := 83) hF dX11_digest_83 ?_
                              refine go_lstore_n (pc := 84) hF [(1, vl ((31 * ((31 * ((31 * ((31 * ((31 * ((31 * ((31 * ((31 * ((31 * ((31 * (61969 + xb)) + xn)) + xf)) + tl)) + u₉)) + kd)) + pr)) + (mLong r₉))) + hs)) + (tLks t₉ : Int))) + (tChs t₉ : Int))), (3, vi 1), (0, vr E 94)] dX11_digest_84 rfl (by decide) ?_
                              refine go_iinc (pc := 85) hF [(3, vi 2), (1, vl ((31 * ((31 * ((31 * ((31 * ((31 * ((31 * ((31 * ((31 * ((31 * ((31 * (61969 + xb)) + xn)) + xf)) + tl)) + u₉)) + kd)) + pr)) + (mLong r₉))) + hs)) + (tLks t₉ : Int))) + (tChs t₉ : Int))), (0, vr E 94)] dX11_digest_85 1 rfl rfl (by decide) ?_
                              refine go_goto (pc := 88) hF 67 dX11_digest_88 (by decide) ?_
                              refine go_iload_n (pc := 67) hF dX11_digest_67 0 rfl ?_
                              refine go_iconst (pc := 68) hF dX11_digest_68 ?_
                              refine go_icmp_ge (pc := 69) hF 91 dX11_digest_69 (by decide) ⟨by decide, by decide⟩ ⟨by decide, by decide⟩ (fun bq69 => ?_) (fun bq69 => ?_)
                              · exact absurd bq69 (by decide)
                              · refine go_ldc2 (pc := 72) hF kc_X11_322 dX11_digest_72 ?_
                                refine go_lload_n (pc := 75) hF dX11_digest_75 1 rfl ?_
                                refine go_lmul (pc := 76) hF dX11_digest_76 ?_
                                refine go_aload_n (pc := 77) hF dX11_digest_77 2 rfl ?_
                                refine go_iload_n (pc := 78) hF dX11_digest_78 0 rfl ?_
                                refine go_callVP (pc := 79) hF [vi 2] [vl (31 * ((31 * ((31 * ((31 * ((31 * ((31 * ((31 * ((31 * ((31 * ((31 * ((31 * (61969 + xb)) + xn)) + xf)) + tl)) + u₉)) + kd)) + pr)) + (mLong r₉))) + hs)) + (tLks t₉ : Int))) + (tChs t₉ : Int)))] mv_X11_191 dX11_digest_79 (by omega) z101 (show CP E M_X11_toldOf 4 [vr E 94, vi 2] N σ ((tLps t₉ : Int)) from c_X11_toldOf E N σ r₉ u₉ kd pr yr yw yk yp hs tx tl t₉ xb xn xf q1₉ q2₉ q3₉ hN₉ hO0 hS0 2 (by omega)) rfl rfl (Nat.le_of_ble_eq_true rfl) (by decide) ⟨Nat.zero_le _, Nat.zero_le _⟩ ?_
                                refine go_i2l (pc := 82) hF dX11_digest_82 (by omega) ?_
                                refine go_ladd (pc := 83) hF dX11_digest_83 ?_
                                refine go_lstore_n (pc := 84) hF [(1, vl ((31 * ((31 * ((31 * ((31 * ((31 * ((31 * ((31 * ((31 * ((31 * ((31 * ((31 * (61969 + xb)) + xn)) + xf)) + tl)) + u₉)) + kd)) + pr)) + (mLong r₉))) + hs)) + (tLks t₉ : Int))) + (tChs t₉ : Int))) + (tLps t₉ : Int))), (3, vi 2), (0, vr E 94)] dX11_digest_84 rfl (by decide) ?_
                                refine go_iinc (pc := 85) hF [(3, vi 3), (1, vl ((31 * ((31 * ((31 * ((31 * ((31 * ((31 * ((31 * ((31 * ((31 * ((31 * ((31 * (61969 + xb)) + xn)) + xf)) + tl)) + u₉)) + kd)) + pr)) + (mLong r₉))) + hs)) + (tLks t₉ : Int))) + (tChs t₉ : Int))) + (tLps t₉ : Int))), (0, vr E 94)] dX11_digest_85 1 rfl rfl (by decide) ?_
                                refine go_goto (pc := 88) hF 67 dX11_digest_88 (by decide) ?_
                                refine go_iload_n (pc := 67) hF dX11_digest_67 0 rfl ?_
                                refine go_iconst (pc := 68) hF dX11_digest_68 ?_
                                refine go_icmp_ge (pc := 69) hF 91 dX11_digest_69 (by decide) ⟨by decide, by decide⟩ ⟨by decide, by decide⟩ (fun bq69 => ?_) (fun bq69 => ?_)
                                · exact absurd bq69 (by decide)
                                · refine go_ldc2 (pc := 72) hF kc_X11_322 dX11_digest_72 ?_
                                  refine go_lload_n (pc := 75) hF dX11_digest_75 1 rfl ?_
                                  refine go_lmul (pc := 76) hF dX11_digest_76 ?_
                                  refine go_aload_n (pc := 77) hF dX11_digest_77 2 rfl ?_
                                  refine go_iload_n (pc := 78) hF dX11_digest_78 0 rfl ?_
                                  refine go_callVP (pc := 79) hF [vi 3] [vl (31 * ((31 * ((31 * ((31 * ((31 * ((31 * ((31 * ((31 * ((31 * ((31 * ((31 * ((31 * (61969 + xb)) + xn)) + xf)) + tl)) + u₉)) + kd)) + pr)) + (mLong r₉))) + hs)) + (tLks t₉ : Int))) + (tChs t₉ : Int))) + (tLps t₉ : Int)))] mv_X11_191 dX11_digest_79 (by omega) z101 (show CP E M_X11_toldOf 4 [vr E 94, vi 3] N σ ((tDep t₉ : Int)) from c_X11_toldOf E N σ r₉ u₉ kd pr yr yw yk yp hs tx tl t₉ xb xn xf q1₉ q2₉ q3₉ hN₉ hO0 hS0 3 (by omega)) rfl rfl (Nat.le_of_ble_eq_true rfl) (by decide) ⟨Nat.zero_le _, Nat.zero_le _⟩ ?_
                                  refine go_i2l (pc := 82) hF dX11_digest_82 (by omega) ?_
                                  refine go_ladd (pc := 83) hF dX11_digest_83 ?_
                                  refine go_lstore_n (pc := 84) hF [(1, vl ((31 * ((31 * ((31 * ((31 * ((31 * ((31 * ((31 * ((31 * ((31 * ((31 * ((31 * ((31 * (61969 + xb)) + xn)) + xf)) + tl)) + u₉)) + kd)) + pr)) + (mLong r₉))) + hs)) + (tLks t₉ : Int))) + (tChs t₉ : Int))) + (tLps t₉ : Int))) + (tDep t₉ : Int))), (3, vi 3), (0, vr E 94)] dX11_digest_84 rfl (by decide) ?_
                                  refine go_iinc (pc := 85) hF [(3, vi 4), (1, vl ((31 * ((31 * ((31 * ((31 * ((31 * ((31 * ((31 * ((31 * ((31 * ((31 * ((31 * ((31 * (61969 + xb)) + xn)) + xf)) + tl)) + u₉)) + kd)) + pr)) + (mLong r₉))) + hs)) + (tLks t₉ : Int))) + (tChs t₉ : Int))) + (tLps t₉ : Int))) + (tDep t₉ : Int))), (0, vr E 94)] dX11_digest_85 1 rfl rfl (by decide) ?_
                                  refine go_goto (pc := 88) hF 67 dX11_digest_88 (by decide) ?_
                                  refine go_iload_n (pc := 67) hF dX11_digest_67 0 rfl ?_
                                  refine go_iconst (pc := 68) hF dX11_digest_68 ?_
                                  refine go_icmp_ge (pc := 69) hF 91 dX11_digest_69 (by decide) ⟨by decide, by decide⟩ ⟨by decide, by decide⟩ (fun bq69 => ?_) (fun bq69 => ?_)
                                  · exact absurd bq69 (by decide)
                                  · refine go_ldc2 (pc := 72) hF kc_X11_322 dX11_digest_72 ?_
                                    refine go_lload_n (pc := 75) hF dX11_digest_75 1 rfl ?_
                                    refine go_lmul (pc := 76) hF dX11_digest_76 ?_
                                    refine go_aload_n (pc := 77) hF dX11_digest_77 2 rfl ?_
                                    refine go_iload_n (pc := 78) hF dX11_digest_78 0 rfl ?_
                                    refine go_callVP (pc := 79) hF [vi 4] [vl (31 * ((31 * ((31 * ((31 * ((31 * ((31 * ((31 * ((31 * ((31 * ((31 * ((31 * ((31 * ((31 * (61969 + xb)) + xn)) + xf)) + tl)) + u₉)) + kd)) + pr)) + (mLong r₉))) + hs)) + (tLks t₉ : Int))) + (tChs t₉ : Int))) + (tLps t₉ : Int))) + (tDep t₉ : Int)))] mv_X11_191 dX11_digest_79 (by omega) z101 (show CP E M_X11_toldOf 4 [vr E 94, vi 4] N σ (tMsk t₉ 0) from c_X11_toldOf E N σ r₉ u₉ kd pr yr yw yk yp hs tx tl t₉ xb xn xf q1₉ q2₉ q3₉ hN₉ hO0 hS0 4 (by omega)) rfl rfl (Nat.le_of_ble_eq_true rfl) (by decide) ⟨Nat.zero_le _, Nat.zero_le _⟩ ?_
                                    refine go_i2l (pc := 82) hF dX11_digest_82 (by omega) ?_
                                    refine go_ladd (pc := 83) hF dX11_digest_83 ?_
                                    refine go_lstore_n (pc := 84) hF [(1, vl ((31 * ((31 * ((31 * ((31 * ((31 * ((31 * ((31 * ((31 * ((31 * ((31 * ((31 * ((31 * ((31 * (61969 + xb)) + xn)) + xf)) + tl)) + u₉)) + kd)) + pr)) + (mLong r₉))) + hs)) + (tLks t₉ : Int))) + (tChs t₉ : Int))) + (tLps t₉ : Int))) + (tDep t₉ : Int))) + (tMsk t₉ 0))), (3, vi 4), (0, vr E 94)] dX11_digest_84 rfl (by decide) ?_
                                    refine go_iinc (pc := 85) hF [(3, vi 5), (1, vl ((31 * ((31 * ((31 * ((31 * ((31 * ((31 * ((31 * ((31 * ((31 * ((31 * ((31 * ((31 * ((31 * (61969 + xb)) + xn)) + xf)) + tl)) + u₉)) + kd)) + pr)) + (mLong r₉))) + hs)) + (tLks t₉ : Int))) + (tChs t₉ : Int))) + (tLps t₉ : Int))) + (tDep t₉ : Int))) + (tMsk t₉ 0))), (0, vr E 94)] dX11_digest_85 1 rfl rfl (by decide) ?_
                                    refine go_goto (pc := 88) hF 67 dX11_digest_88 (by decide) ?_
                                    refine go_iload_n (pc := 67) hF dX11_digest_67 0 rfl ?_
                                    refine go_iconst (pc := 68) hF dX11_digest_68 ?_
                                    refine go_icmp_ge (pc := 69) hF 91 dX11_digest_69 (by decide) ⟨by decide, by decide⟩ ⟨by decide, by decide⟩ (fun bq69 => ?_) (fun bq69 => ?_)
                                    · refine go_iconst (pc := 91) hF dX11_digest_91 ?_
                                      refine go_istore_n (pc := 92) hF [(3, vi 0), (1, vl ((31 * ((31 * ((31 * ((31 * ((31 * ((31 * ((31 * ((31 * ((31 * ((31 * ((31 * ((31 * ((31 * (61969 + xb)) + xn)) + xf)) + tl)) + u₉)) + kd)) + pr)) + (mLong r₉))) + hs)) + (tLks t₉ : Int))) + (tChs t₉ : Int))) + (tLps t₉ : Int))) + (tDep t₉ : Int))) + (tMsk t₉ 0))), (0, vr E 94)] dX11_digest_92 rfl (by decide) ?_
                                      refine go_iload_n (pc := 93) hF dX11_digest_93 0 rfl ?_
                                      refine go_iconst (pc := 94) hF dX11_digest_94 ?_
                                      refine go_icmp_ge (pc := 95) hF 118 dX11_digest_95 (by decide) ⟨by decide, by decide⟩ ⟨by decide, by decide⟩ (fun bq95 => ?_) (fun bq95 => ?_)
                                      · exact absurd bq95 (by decide)
                                      · refine go_ldc2 (pc := 98) hF kc_X11_322 dX11_digest_98 ?_
                                        refine go_lload_n (pc := 101) hF dX11_digest_101 1 rfl ?_
                                        refine go_lmul (pc := 102) hF dX11_digest_102 ?_
                                        refine go_aload_n (pc := 103) hF dX11_digest_103 2 rfl ?_
                                        refine go_get (pc := 104) hF fl_X11_84 dX11_digest_104 (by omega) z101 rfl ?_
                                        refine go_iload_n (pc := 107) hF dX11_digest_107 0 rfl ?_
                                        refine go_iald (pc := 108) hF dX11_digest_108 (by omega) z126 (by omega)  ?_
                                        refine go_i2l (pc := 109) hF dX11_digest_109 (by omega) ?_
                                        refine go_ladd (pc := 110) hF dX11_digest_110 ?_
                                        refine go_lstore_n (pc := 111) hF [(1, vl ((31 * ((31 * ((31 * ((31 * ((31 * ((31 * ((31 * ((31 * ((31 * ((31 * ((31 * ((31 * ((31 * ((31 * (61969 + xb)) + xn)) + xf)) + tl)) + u₉)) + kd)) + pr)) + (mLong r₉))) + hs)) + (tLks t₉ : Int))) + (tChs t₉ : Int))) + (tLps t₉ : Int))) + (tDep t₉ : Int))) + (tMsk t₉ 0))) + (rr 0))), (3, vi 0), (0, vr E 94)] dX11_digest_111 rfl (by decide) ?_
                                        refine go_iinc (pc := 112) hF [(3, vi 1), (1, vl ((31 * ((31 * ((31 * ((31 * ((31 * ((31 * ((31 * ((31 * ((31 * ((31 * ((31 * ((31 * ((31 * ((31 * (61969 + xb)) + xn)) + xf)) + tl)) + u₉)) + kd)) + pr)) + (mLong r₉))) + hs)) + (tLks t₉ : Int))) + (tChs t₉ : Int))) + (tLps t₉ : Int))) + (tDep t₉ : Int))) + (tMsk t₉ 0))) + (rr 0))), (0, vr E 94)] dX11_digest_112 1 rfl rfl (by decide) ?_
                                        refine go_goto (pc := 115) hF 93 dX11_digest_115 (by decide) ?_
                                        refine go_iload_n (pc := 93) hF dX11_digest_93 0 rfl ?_
                                        refine go_iconst (pc := 94) hF dX11_digest_94 ?_
                                        refine go_icmp_ge (pc := 95) hF 118 dX11_digest_95 (by decide) ⟨by decide, by decide⟩ ⟨by decide, by decide⟩ (fun bq95 => ?_) (fun bq95 => ?_)
                                        · exact absurd bq95 (by decide)
                                        · refine go_ldc2 (pc := 98) hF kc_X11_322 dX11_digest_98 ?_
                                          refine go_lload_n (pc := 101) hF dX11_digest_101 1 rfl ?_
                                          refine go_lmul (pc := 102) hF dX11_digest_102 ?_
                                          refine go_aload_n (pc := 103) hF dX11_digest_103 2 rfl ?_
                                          refine go_get (pc := 104) hF fl_X11_84 dX11_digest_104 (by omega) z101 rfl ?_
                                          refine go_iload_n (pc := 107) hF dX11_digest_107 0 rfl ?_
                                          refine go_iald (pc := 108) hF dX11_digest_108 (by omega) z126 (by omega)  ?_
                                          refine go_i2l (pc := 109) hF dX11_digest_109 (by omega) ?_
                                          refine go_ladd (pc := 110) hF dX11_digest_110 ?_
                                          refine go_lstore_n (pc := 111) hF [(1, vl ((31 * ((31 * ((31 * ((31 * ((31 * ((31 * ((31 * ((31 * ((31 * ((31 * ((31 * ((31 * ((31 * ((31 * ((31 * (61969 + xb)) + xn)) + xf)) + tl)) + u₉)) + kd)) + pr)) + (mLong r₉))) + hs)) + (tLks t₉ : Int))) + (tChs t₉ : Int))) + (tLps t₉ : Int))) + (tDep t₉ : Int))) + (tMsk t₉ 0))) + (rr 0))) + (rr 1))), (3, vi 1), (0, vr E 94)] dX11_digest_111 rfl (by decide) ?_
                                          refine go_iinc (pc := 112) hF [(3, vi 2), (1, vl ((31 * ((31 * ((31 * ((31 * ((31 * ((31 * ((31 * ((31 * ((31 * ((31 * ((31 * ((31 * ((31 * ((31 * ((31 * (61969 + xb)) + xn)) + xf)) + tl)) + u₉)) + kd)) + pr)) + (mLong r₉))) + hs)) + (tLks t₉ : Int))) + (tChs t₉ : Int))) + (tLps t₉ : Int))) + (tDep t₉ : Int))) + (tMsk t₉ 0))) + (rr 0))) + (rr 1))), (0, vr E 94)] dX11_digest_112 1 rfl rfl (by decide) ?_
                                          refine go_goto (pc := 115) hF 93 dX11_digest_115 (by decide) ?_
                                          refine go_iload_n (pc := 93) hF dX11_digest_93 0 rfl ?_
                                          refine go_iconst (pc := 94) hF dX11_digest_94 ?_
                                          refine go_icmp_ge (pc := 95) hF 118 dX11_digest_95 (by decide) ⟨by decide, by decide⟩ ⟨by decide, by decide⟩ (fun bq95 => ?_) (fun bq95 => ?_)
                                          · exact absurd bq95 (by decide)
                                          · refine go_ldc2 (pc := 98) hF kc_X11_322 dX11_digest_98 ?_
                                            refine go_lload_n (pc := 101) hF dX11_digest_101 1 rfl ?_
                                            refine go_lmul (pc := 102) hF dX11_digest_102 ?_
                                            refine go_aload_n (pc := 103) hF dX11_digest_103 2 rfl ?_
                                            refine go_get (pc := 104) hF fl_X11_84 dX11_digest_104 (by omega) z101 rfl ?_
                                            refine go_iload_n (pc := 107) hF dX11_digest_107 0 rfl ?_
                                            refine go_iald (pc := 108) hF dX11_digest_108 (by omega) z126 (by omega)  ?_
                                            refine go_i2l (pc := 109) hF dX11_digest_109 (by omega) ?_
                                            refine go_ladd (pc := 110) hF dX11_digest_110 ?_
                                            refine go_lstore_n (pc := 111) hF [(1, vl ((31 * ((31 * ((31 * ((31 * ((31 * ((31 * ((31 * ((31 * ((31 * ((31 * ((31 * ((31 * ((31 * ((31 * ((31 * ((31 * (61969 + xb)) + xn)) + xf)) + tl)) + u₉)) + kd)) + pr)) + (mLong r₉))) + hs)) + (tLks t₉ : Int))) + (tChs t₉ : Int))) + (tLps t₉ : Int))) + (tDep t₉ : Int))) + (tMsk t₉ 0))) + (rr 0))) + (rr 1))) + (rr 2))), (3, vi 2), (0, vr E 94)] dX11_digest_111 rfl (by decide) ?_
                                            refine go_iinc (pc := 112) hF [(3, vi 3), (1, vl ((31 * ((31 * ((31 * ((31 * ((31 * ((31 * ((31 * ((31 * ((31 * ((31 * ((31 * ((31 * ((31 * ((31 * ((31 * ((31 * (61969 + xb)) + xn)) + xf)) + tl)) + u₉)) + kd)) + pr)) + (mLong r₉))) + hs)) + (tLks t₉ : Int))) + (tChs t₉ : Int))) + (tLps t₉ : Int))) + (tDep t₉ : Int))) + (tMsk t₉ 0))) + (rr 0))) + (rr 1))) + (rr 2))), (0, vr E 94)] dX11_digest_112 1 rfl rfl (by decide) ?_
                                            refine go_goto (pc := 115) hF 93 dX11_digest_115 (by decide) ?_
                                            refine go_iload_n (pc := 93) hF dX11_digest_93 0 rfl ?_
                                            refine go_iconst (pc := 94) hF dX11_digest_94 ?_
                                            refine go_icmp_ge (pc := 95) hF 118 dX11_digest_95 (by decide) ⟨by decide, by decide⟩ ⟨by decide, by decide⟩ (fun bq95 => ?_) (fun bq95 => ?_)
                                            · refine go_lload_n (pc := 118) hF dX11_digest_118 1 rfl ?_
                                              refine go_lretQ hF hr hlk hQ dX11_digest_119 ⟨?_, hS0, fun _ _ => rfl⟩
                                              unfold dgS dgL
                                              rw [if_pos eL]
                                              rw [hrr.1, hrr.2.1, hrr.2.2]
                                              rfl
                                            · exact absurd bq95 (by decide)
                                    · exact absurd bq69 (by decide)
                        · exact absurd bq40 (by omega)
                      · have e1₉ : nw (1 + 0) = mAt r₉ 0 := n1₉ (by omega)
                        have gq := mAt_rg 0 hrr0.1
                        have gq1 := mAt_rg 1 hrr0.1
                        have gq2 := mAt_rg 2 hrr0.1
                        refine go_iload_n (pc := 33) hF dX11_digest_33 0 rfl ?_
                        refine go_aload_n (pc := 34) hF dX11_digest_34 2 rfl ?_
                        refine go_get (pc := 35) hF fl_X11_7 dX11_digest_35 (by omega) z101 rfl ?_
                        refine go_iconst (pc := 38) hF dX11_digest_38 ?_
                        refine go_iald (pc := 39) hF dX11_digest_39 (by omega) z102 (by omega)  ?_
                        refine go_icmp_ge (pc := 40) hF 65 dX11_digest_40 (by decide) ⟨by decide, by decide⟩ (by omega) (fun bq40 => ?_) (fun bq40 => ?_)
                        · exact absurd bq40 (by omega)
                        · refine go_ldc2 (pc := 43) hF kc_X11_322 dX11_digest_43 ?_
                          refine go_lload_n (pc := 46) hF dX11_digest_46 1 rfl ?_
                          refine go_lmul (pc := 47) hF dX11_digest_47 ?_
                          refine go_aload_n (pc := 48) hF dX11_digest_48 2 rfl ?_
                          refine go_get (pc := 49) hF fl_X11_7 dX11_digest_49 (by omega) z101 rfl ?_
                          refine go_iconst (pc := 52) hF dX11_digest_52 ?_
                          refine go_iload_n (pc := 53) hF dX11_digest_53 0 rfl ?_
                          refine go_iadd (pc := 54) hF dX11_digest_54 ?_
                          refine go_iald (pc := 55) hF dX11_digest_55 (by omega) z102 (by omega)  ?_
                          refine go_i2l (pc := 56) hF dX11_digest_56 (by omega) ?_
                          refine go_ladd (pc := 57) hF dX11_digest_57 ?_
                          refine go_lstore_n (pc := 58) hF [(1, vl ((31 * ((31 * ((31 * ((31 * ((31 * ((31 * ((31 * ((31 * ((31 * (61969 + xb)) + xn)) + xf)) + tl)) + u₉)) + kd)) + pr)) + (mLong r₉))) + hs)) + (nw 1))), (3, vi 0), (0, vr E 94)] dX11_digest_58 rfl (by decide) ?_
                          refine go_iinc (pc := 59) hF [(3, vi 1), (1, vl ((31 * ((31 * ((31 * ((31 * ((31 * ((31 * ((31 * ((31 * ((31 * (61969 + xb)) + xn)) + xf)) + tl)) + u₉)) + kd)) + pr)) + (mLong r₉))) + hs)) + (nw 1))), (0, vr E 94)] dX11_digest_59 1 rfl rfl (by decide) ?_
                          refine go_goto (pc := 62) hF 33 dX11_digest_62 (by decide) ?_
                          refine go_iload_n (pc := 33) hF dX11_digest_33 0 rfl ?_
                          refine go_aload_n (pc := 34) hF dX11_digest_34 2 rfl ?_
                          refine go_get (pc := 35) hF fl_X11_7 dX11_digest_35 (by omega) z101 rfl ?_
                          refine go_iconst (pc := 38) hF dX11_digest_38 ?_
                          refine go_iald (pc := 39) hF dX11_digest_39 (by omega) z102 (by omega)  ?_
                          refine go_icmp_ge (pc := 40) hF 65 dX11_digest_40 (by decide) ⟨by decide, by decide⟩ (by omega) (fun bq40 => ?_) (fun bq40 => ?_)
                          · refine go_iconst (pc := 65) hF dX11_digest_65 ?_
                            refine go_istore_n (pc := 66) hF [(3, vi 0), (1, vl ((31 * ((31 * ((31 * ((31 * ((31 * ((31 * ((31 * ((31 * ((31 * (61969 + xb)) + xn)) + xf)) + tl)) + u₉)) + kd)) + pr)) + (mLong r₉))) + hs)) + (nw 1))), (0, vr E 94)] dX11_digest_66 rfl (by decide) ?_
                            refine go_iload_n (pc := 67) hF dX11_digest_67 0 rfl ?_
                            refine go_iconst (pc := 68) hF dX11_digest_68 ?_
                            refine go_icmp_ge (pc := 69) hF 91 dX11_digest_69 (by decide) ⟨by decide, by decide⟩ ⟨by decide, by decide⟩ (fun bq69 => ?_) (fun bq69 => ?_)
                            · exact absurd bq69 (by decide)
                            · refine go_ldc2 (pc := 72) hF kc_X11_322 dX11_digest_72 ?_
                              refine go_lload_n (pc := 75) hF dX11_digest_75 1 rfl ?_
                              refine go_lmul (pc := 76) hF dX11_digest_76 ?_
                              refine go_aload_n (pc := 77) hF dX11_digest_77 2 rfl ?_
                              refine go_iload_n (pc := 78) hF dX11_digest_78 0 rfl ?_
                              refine go_callVP (pc := 79) hF [vi 0] [vl (31 * ((31 * ((31 * ((31 * ((31 * ((31 * ((31 * ((31 * ((31 * ((31 * (61969 + xb)) + xn)) + xf)) + tl)) + u₉)) + kd)) + pr)) + (mLong r₉))) + hs)) + (nw 1)))] mv_X11_191 dX11_digest_79 (by omega) z101 (show CP E M_X11_toldOf 4 [vr E 94, vi 0] N σ ((tLks t₉ : Int)) from c_X11_toldOf E N σ r₉ u₉ kd pr yr yw yk yp hs tx tl t₉ xb xn xf q1₉ q2₉ q3₉ hN₉ hO0 hS0 0 (by omega)) rfl rfl (Nat.le_of_ble_eq_true rfl) (by decide) ⟨Nat.zero_le _, Nat.zero_le _⟩ ?_
                              refine go_i2l (pc := 82) hF dX11_digest_82 (by omega) ?_
                              refine go_ladd (pc := 83) hF dX11_digest_83 ?_
                              refine go_lstore_n (pc := 84) hF [(1, vl ((31 * ((31 * ((31 * ((31 * ((31 * ((31 * ((31 * ((31 * ((31 * ((31 * (61969 + xb)) + xn)) + xf)) + tl)) + u₉)) + kd)) + pr)) + (mLong r₉))) + hs)) + (nw 1))) + (tLks t₉ : Int))), (3, vi 0), (0, vr E 94)] dX11_digest_84 rfl (by decide) ?_
                              refine go_iinc (pc := 85) hF [(3, vi 1), (1, vl ((31 * ((31 * ((31 * ((31 * ((31 * ((31 * ((31 * ((31 * ((31 * ((31 * (61969 + xb)) + xn)) + xf)) + tl)) + u₉)) + kd)) + pr)) + (mLong r₉))) + hs)) + (nw 1))) + (tLks t₉ : Int))), (0, vr E 94)] dX11_digest_85 1 rfl rfl (by decide) ?_
                              refine go_goto (pc := 88) hF 67 dX11_digest_88 (by decide) ?_
                              refine go_iload_n (pc := 67) hF dX11_digest_67 0 rfl ?_
                              refine go_iconst (pc := 68) hF dX11_digest_68 ?_
                              refine go_icmp_ge (pc := 69) hF 91 dX11_digest_69 (by decide) ⟨by decide, by decide⟩ ⟨by decide, by decide⟩ (fun bq69 => ?_) (fun bq69 => ?_)
                              · exact absurd bq69 (by decide)
                              · refine go_ldc2 (pc := 72) hF kc_X11_322 dX11_digest_72 ?_
                                refine go_lload_n (pc := 75) hF dX11_digest_75 1 rfl ?_
                                refine go_lmul (pc := 76) hF dX11_digest_76 ?_
                                refine go_aload_n (pc := 77) hF dX11_digest_77 2 rfl ?_
                                refine go_iload_n (pc := 78) hF dX11_digest_78 0 rfl ?_
                                refine go_callVP (pc := 79) hF [vi 1] [vl (31 * ((31 * ((31 * ((31 * ((31 * ((31 * ((31 * ((31 * ((31 * ((31 * ((31 * (61969 + xb)) + xn)) + xf)) + tl)) + u₉)) + kd)) + pr)) + (mLong r₉))) + hs)) + (nw 1))) + (tLks t₉ : Int)))] mv_X11_191 dX11_digest_79 (by omega) z101 (show CP E M_X11_toldOf 4 [vr E 94, vi 1] N σ ((tChs t₉ : Int)) from c_X11_toldOf E N σ r₉ u₉ kd pr yr yw yk yp hs tx tl t₉ xb xn xf q1₉ q2₉ q3₉ hN₉ hO0 hS0 1 (by omega)) rfl rfl (Nat.le_of_ble_eq_true rfl) (by decide) ⟨Nat.zero_le _, Nat.zero_le _⟩ ?_
                                refine go_i2l (pc := 82) hF dX11_digest_82 (by omega) ?_
                                refine go_ladd (pc := 83) hF dX11_digest_83 ?_
                                refine go_lstore_n (pc := 84) hF [(1, vl ((31 * ((31 * ((31 * ((31 * ((31 * ((31 * ((31 * ((31 * ((31 * ((31 * ((31 * (61969 + xb)) + xn)) + xf)) + tl)) + u₉)) + kd)) + pr)) + (mLong r₉))) + hs)) + (nw 1))) + (tLks t₉ : Int))) + (tChs t₉ : Int))), (3, vi 1), (0, vr E 94)] dX11_digest_84 rfl (by decide) ?_
                                refine go_iinc (pc := 85) hF [(3, vi 2), (1, vl ((31 * ((31 * ((31 * ((31 * ((31 * ((31 * ((31 * ((31 * ((31 * ((31 * ((31 * (61969 + xb)) + xn)) + xf)) + tl)) + u₉)) + kd)) + pr)) + (mLong r₉))) + hs)) + (nw 1))) + (tLks t₉ : Int))) + (tChs t₉ : Int))), (0, vr E 94)] dX11_digest_85 1 rfl rfl (by decide) ?_
                                refine go_goto (pc := 88) hF 67 dX11_digest_88 (by decide) ?_
                                refine go_iload_n (pc := 67) hF dX11_digest_67 0 rfl ?_
                                refine go_iconst (pc := 68) hF dX11_digest_68 ?_
                                refine go_icmp_ge (pc := 69) hF 91 dX11_digest_69 (by decide) ⟨by decide, by decide⟩ ⟨by decide, by decide⟩ (fun bq69 => ?_) (fun bq69 => ?_)
                                · exact absurd bq69 (by decide)
                                · refine go_ldc2 (pc := 72) hF kc_X11_322 dX11_digest_72 ?_
                                  refine go_lload_n (pc := 75) hF dX11_digest_75 1 rfl ?_
                                  refine go_lmul (pc := 76) hF dX11_digest_76 ?_
                                  refine go_aload_n (pc := 77) hF dX11_digest_77 2 rfl ?_
                                  refine go_iload_n (pc := 78) hF dX11_digest_78 0 rfl ?_
                                  refine go_callVP (pc := 79) hF [vi 2] [vl (31 * ((31 * ((31 * ((31 * ((31 * ((31 * ((31 * ((31 * ((31 * ((31 * ((31 * ((31 * (61969 + xb)) + xn)) + xf)) + tl)) + u₉)) + kd)) + pr)) + (mLong r₉))) + hs)) + (nw 1))) + (tLks t₉ : Int))) + (tChs t₉ : Int)))] mv_X11_191 dX11_digest_79 (by omega) z101 (show CP E M_X11_toldOf 4 [vr E 94, vi 2] N σ ((tLps t₉ : Int)) from c_X11_toldOf E N σ r₉ u₉ kd pr yr yw yk yp hs tx tl t₉ xb xn xf q1₉ q2₉ q3₉ hN₉ hO0 hS0 2 (by omega)) rfl rfl (Nat.le_of_ble_eq_true rfl) (by decide) ⟨Nat.zero_le _, Nat.zero_le _⟩ ?_
                                  refine go_i2l (pc := 82) hF dX11_digest_82 (by omega) ?_
                                  refine go_ladd (pc := 83) hF dX11_digest_83 ?_
                                  refine go_lstore_n (pc := 84) hF [(1, vl ((31 * ((31 * ((31 * ((31 * ((31 * ((31 * ((31 * ((31 * ((31 * ((31 * ((31 * ((31 * (61969 + xb)) + xn)) + xf)) + tl)) + u₉)) + kd)) + pr)) + (mLong r₉))) + hs)) + (nw 1))) + (tLks t₉ : Int))) + (tChs t₉ : Int))) + (tLps t₉ : Int))), (3, vi 2), (0, vr E 94)] dX11_digest_84 rfl (by decide) ?_
                                  refine go_iinc (pc := 85) hF [(3, vi 3), (1, vl ((31 * ((31 * ((31 * ((31 * ((31 * ((31 * ((31 * ((31 * ((31 * ((31 * ((31 * ((31 * (61969 + xb)) + xn)) + xf)) + tl)) + u₉)) + kd)) + pr)) + (mLong r₉))) + hs)) + (nw 1))) + (tLks t₉ : Int))) + (tChs t₉ : Int))) + (tLps t₉ : Int))), (0, vr E 94)] dX11_digest_85 1 rfl rfl (by decide) ?_
                                  refine go_goto (pc := 88) hF 67 dX11_digest_88 (by decide) ?_
                                  refine go_iload_n (pc := 67) hF dX11_digest_67 0 rfl ?_
                                  refine go_iconst (pc := 68) hF dX11_digest_68 ?_
                                  refine go_icmp_ge (pc := 69) hF 91 dX11_digest_69 (by decide) ⟨by decide, by decide⟩ ⟨by decide, by decide⟩ (fun bq69 => ?_) (fun bq69 => ?_)
                                  · exact absurd bq69 (by decide)
                                  · refine go_ldc2 (pc := 72) hF kc_X11_322 dX11_digest_72 ?_
                                    refine go_lload_n (pc := 75) hF dX11_digest_75 1 rfl ?_
                                    refine go_lmul (pc := 76) hF dX11_digest_76 ?_
                                    refine go_aload_n (pc := 77) hF dX11_digest_77 2 rfl ?_
                                    refine go_iload_n (pc := 78) hF dX11_digest_78 0 rfl ?_
                                    refine go_callVP (pc := 79) hF [vi 3] [vl (31 * ((31 * ((31 * ((31 * ((31 * ((31 * ((31 * ((31 * ((31 * ((31 * ((31 * ((31 * ((31 * (61969 + xb)) + xn)) + xf)) + tl)) + u₉)) + kd)) + pr)) + (mLong r₉))) + hs)) + (nw 1))) + (tLks t₉ : Int))) + (tChs t₉ : Int))) + (tLps t₉ : Int)))] mv_X11_191 dX11_digest_79 (by omega) z101 (show CP E M_X11_toldOf 4 [vr E 94, vi 3] N σ ((tDep t₉ : Int)) from c_X11_toldOf E N σ r₉ u₉ kd pr yr yw yk yp hs tx tl t₉ xb xn xf q1₉ q2₉ q3₉ hN₉ hO0 hS0 3 (by omega)) rfl rfl (Nat.le_of_ble_eq_true rfl) (by decide) ⟨Nat.zero_le _, Nat.zero_le _⟩ ?_
                                    refine go_i2l (pc := 82) hF dX11_digest_82 (by omega) ?_
                                    refine go_ladd (pc := 83) hF dX11_digest_83 ?_
                                    refine go_lstore_n (pc := 84) hF [(1, vl ((31 * ((31 * ((31 * ((31 * ((31 * ((31 * ((31 * ((31 * ((31 * ((31 * ((31 * ((31 * ((31 * (61969 + xb)) + xn)) + xf)) + tl)) + u₉)) + kd)) + pr)) + (mLong r₉))) + hs)) + (nw 1))) + (tLks t₉ : Int))) + (tChs t₉ : Int))) + (tLps t₉ : Int))) + (tDep t₉ : Int))), (3, vi 3), (0, vr E 94)] dX11_digest_84 rfl (by decide) ?_
                                    refine go_iinc (pc := 85) hF [(3, vi 4), (1, vl ((31 * ((31 * ((31 * ((31 * ((31 * ((31 * ((31 * ((31 * ((31 * ((31 * ((31 * ((31 * ((31 * (61969 + xb)) + xn)) + xf)) + tl)) + u₉)) + kd)) + pr)) + (mLong r₉))) + hs)) + (nw 1))) + (tLks t₉ : Int))) + (tChs t₉ : Int))) + (tLps t₉ : Int))) + (tDep t₉ : Int))), (0, vr E 94)] dX11_digest_85 1 rfl rfl (by decide) ?_
                                    refine go_goto (pc := 88) hF 67 dX11_digest_88 (by decide) ?_
                                    refine go_iload_n (pc := 67) hF dX11_digest_67 0 rfl ?_
                                    refine go_iconst (pc := 68) hF dX11_digest_68 ?_
                                    refine go_icmp_ge (pc := 69) hF 91 dX11_digest_69 (by decide) ⟨by decide, by decide⟩ ⟨by decide, by decide⟩ (fun bq69 => ?_) (fun bq69 => ?_)
                                    · exact absurd bq69 (by decide)
                                    · refine go_ldc2 (pc := 72) hF kc_X11_322 dX11_digest_72 ?_
                                      refine go_lload_n (pc := 75) hF dX11_digest_75 1 rfl ?_
                                      refine go_lmul (pc := 76) hF dX11_digest_76 ?_
                                      refine go_aload_n (pc := 77) hF dX11_digest_77 2 rfl ?_
                                      refine go_iload_n (pc := 78) hF dX11_digest_78 0 rfl ?_
                                      refine go_callVP (pc := 79) hF [vi 4] [vl (31 * ((31 * ((31 * ((31 * ((31 * ((31 * ((31 * ((31 * ((31 * ((31 * ((31 * ((31 * ((31 * ((31 * (61969 + xb)) + xn)) + xf)) + tl)) + u₉)) + kd)) + pr)) + (mLong r₉))) + hs)) + (nw 1))) + (tLks t₉ : Int))) + (tChs t₉ : Int))) + (tLps t₉ : Int))) + (tDep t₉ : Int)))] mv_X11_191 dX11_digest_79 (by omega) z101 (show CP E M_X11_toldOf 4 [vr E 94, vi 4] N σ (tMsk t₉ 0) from c_X11_toldOf E N σ r₉ u₉ kd pr yr yw yk yp hs tx tl t₉ xb xn xf q1₉ q2₉ q3₉ hN₉ hO0 hS0 4 (by omega)) rfl rfl (Nat.le_of_ble_eq_true rfl) (by decide) ⟨Nat.zero_le _, Nat.zero_le _⟩ ?_
                                      refine go_i2l (pc := 82) hF dX11_digest_82 (by omega) ?_
                                      refine go_ladd (pc := 83) hF dX11_digest_83 ?_
                                      refine go_lstore_n (pc := 84) hF [(1, vl ((31 * ((31 * ((31 * ((31 * ((31 * ((31 * ((31 * ((31 * ((31 * ((31 * ((31 * ((31 * ((31 * ((31 * (61969 + xb)) + xn)) + xf)) + tl)) + u₉)) + kd)) + pr)) + (mLong r₉))) + hs)) + (nw 1))) + (tLks t₉ : Int))) + (tChs t₉ : Int))) + (tLps t₉ : Int))) + (tDep t₉ : Int))) + (tMsk t₉ 0))), (3, vi 4), (0, vr E 94)] dX11_digest_84 rfl (by decide) ?_
                                      refine go_iinc (pc := 85) hF [(3, vi 5), (1, vl ((31 * ((31 * ((31 * ((31 * ((31 * ((31 * ((31 * ((31 * ((31 * ((31 * ((31 * ((31 * ((31 * ((31 * (61969 + xb)) + xn)) + xf)) + tl)) + u₉)) + kd)) + pr)) + (mLong r₉))) + hs)) + (nw 1))) + (tLks t₉ : Int))) + (tChs t₉ : Int))) + (tLps t₉ : Int))) + (tDep t₉ : Int))) + (tMsk t₉ 0))), (0, vr E 94)] dX11_digest_85 1 rfl rfl (by decide) ?_
                                      refine go_goto (pc := 88) hF 67 dX11_digest_88 (by decide) ?_
                                      refine go_iload_n (pc := 67) hF dX11_digest_67 0 rfl ?_
                                      refine go_iconst (pc := 68) hF dX11_digest_68 ?_
                                      refine go_icmp_ge (pc := 69) hF 91 dX11_digest_69 (by decide) ⟨by decide, by decide⟩ ⟨by decide, by decide⟩ (fun bq69 => ?_) (fun bq69 => ?_)
                                      · refine go_iconst (pc := 91) hF dX11_digest_91 ?_
                                        refine go_istore_n (pc := 92) hF [(3, vi 0), (1, vl ((31 * ((31 * ((31 * ((31 * ((31 * ((31 * ((31 * ((31 * ((31 * ((31 * ((31 * ((31 * ((31 * ((31 * (61969 + xb)) + xn)) + xf)) + tl)) + u₉)) + kd)) + pr)) + (mLong r₉))) + hs)) + (nw 1))) + (tLks t₉ : Int))) + (tChs t₉ : Int))) + (tLps t₉ : Int))) + (tDep t₉ : Int))) + (tMsk t₉ 0))), (0, vr E 94)] dX11_digest_92 rfl (by decide) ?_
                                        refine go_iload_n (pc := 93) hF dX11_digest_93 0 rfl ?_
                                        refine go_iconst (pc := 94) hF dX11_digest_94 ?_
                                        refine go_icmp_ge (pc := 95) hF 118 dX11_digest_95 (by decide) ⟨by decide, by decide⟩ ⟨by decide, by decide⟩ (fun bq95 => ?_) (fun bq95 => ?_)
                                        · exact absurd bq95 (by decide)
                                        · refine go_ldc2 (pc := 98) hF kc_X11_322 dX11_digest_98 ?_
                                          refine go_lload_n (pc := 101) hF dX11_digest_101 1 rfl ?_
                                          refine go_lmul (pc := 102) hF dX11_digest_102 ?_
                                          refine go_aload_n (pc := 103) hF dX11_digest_103 2 rfl ?_
                                          refine go_get (pc := 104) hF fl_X11_84 dX11_digest_104 (by omega) z101 rfl ?_
                                          refine go_iload_n (pc := 107) hF dX11_digest_107 0 rfl ?_
                                          refine go_iald (pc := 108) hF dX11_digest_108 (by omega) z126 (by omega)  ?_
                                          refine go_i2l (pc := 109) hF dX11_digest_109 (by omega) ?_
                                          refine go_ladd (pc := 110) hF dX11_digest_110 ?_
                                          refine go_lstore_n (pc := 111) hF [(1, vl ((31 * ((31 * ((31 * ((31 * ((31 * ((31 * ((31 * ((31 * ((31 * ((31 * ((31 * ((31 * ((31 * ((31 * ((31 * (61969 + xb)) + xn)) + xf)) + tl)) + u₉)) + kd)) + pr)) + (mLong r₉))) + hs)) + (nw 1))) + (tLks t₉ : Int))) + (tChs t₉ : Int))) + (tLps t₉ : Int))) + (tDep t₉ : Int))) + (tMsk t₉ 0))) + (rr 0))), (3, vi 0), (0, vr E 94)] dX11_digest_111 rfl (by decide) ?_
                                          refine go_iinc (pc := 112) hF [(3, vi 1), (1, vl ((31 * ((31 * ((31 * ((31 * ((31 * ((31 * ((31 * ((31 * ((31 * ((31 * ((31 * ((31 * ((31 * ((31 * ((31 * (61969 + xb)) + xn)) + xf)) + tl)) + u₉)) + kd)) + pr)) + (mLong r₉))) + hs)) + (nw 1))) + (tLks t₉ : Int))) + (tChs t₉ : Int))) + (tLps t₉ : Int))) + (tDep t₉ : Int))) + (tMsk t₉ 0))) + (rr 0))), (0, vr E 94)] dX11_digest_112 1 rfl rfl (by decide) ?_
                                          refine go_goto (pc := 115) hF 93 dX11_digest_115 (by decide) ?_
                                          refine go_iload_n (pc := 93) hF dX11_digest_93 0 rfl ?_
                                          refine go_iconst (pc := 94) hF dX11_digest_94 ?_
                                          refine go_icmp_ge (pc := 95) hF 118 dX11_digest_95 (by decide) ⟨by decide, by decide⟩ ⟨by decide, by decide⟩ (fun bq95 => ?_) (fun bq95 => ?_)
                                          · exact absurd bq95 (by decide)
                                          · refine go_ldc2 (pc := 98) hF kc_X11_322 dX11_digest_98 ?_
                                            refine go_lload_n (pc := 101) hF dX11_digest_101 1 rfl ?_
                                            refine go_lmul (pc := 102) hF dX11_digest_102 ?_
                                            refine go_aload_n (pc := 103) hF dX11_digest_103 2 rfl ?_
                                            refine go_get (pc := 104) hF fl_X11_84 dX11_digest_104 (by omega) z101 rfl ?_
                                            refine go_iload_n (pc := 107) hF dX11_digest_107 0 rfl ?_
                                            refine go_iald (pc := 108) hF dX11_digest_108 (by omega) z126 (by omega)  ?_
                                            refine go_i2l (pc := 109) hF dX11_digest_109 (by omega) ?_
                                            refine go_ladd (pc := 110) hF dX11_digest_110 ?_
                                            refine go_lstore_n (pc := 111) hF [(1, vl ((31 * ((31 * ((31 * ((31 * ((31 * ((31 * ((31 * ((31 * ((31 * ((31 * ((31 * ((31 * ((31 * ((31 * ((31 * ((31 * (61969 + xb)) + xn)) + xf)) + tl)) + u₉)) + kd)) + pr)) + (mLong r₉))) + hs)) + (nw 1))) + (tLks t₉ : Int))) + (tChs t₉ : Int))) + (tLps t₉ : Int))) + (tDep t₉ : Int))) + (tMsk t₉ 0))) + (rr 0))) + (rr 1))), (3, vi 1), (0, vr E 94)] dX11_digest_111 rfl (by decide) ?_
                                            refine go_iinc (pc := 112) hF [(3, vi 2), (1, vl ((31 * ((31 * ((31 * ((31 * ((31 * ((31 * ((31 * ((31 * ((31 * ((31 * ((31 * ((31 * ((31 * ((31 * ((31 * ((31 * (61969 + xb)) + xn)) + xf)) + tl)) + u₉)) + kd)) + pr)) + (mLong r₉))) + hs)) + (nw 1))) + (tLks t₉ : Int))) + (tChs t₉ : Int))) + (tLps t₉ : Int))) + (tDep t₉ : Int))) + (tMsk t₉ 0))) + (rr 0))) + (rr 1))), (0, vr E 94)] dX11_digest_112 1 rfl rfl (by decide) ?_
                                            refine go_goto (pc := 115) hF 93 dX11_digest_115 (by decide) ?_
                                            refine go_iload_n (pc := 93) hF dX11_digest_93 0 rfl ?_
                                            refine go_iconst (pc := 94) hF dX11_digest_94 ?_
                                            refine go_icmp_ge (pc := 95) hF 118 dX11_digest_95 (by decide) ⟨by decide, by decide⟩ ⟨by decide, by decide⟩ (fun bq95 => ?_) (fun bq95 => ?_)
                                            · exact absurd bq95 (by decide)
                                            · refine go_ldc2 (pc := 98) hF kc_X11_322 dX11_digest_98 ?_
                                              refine go_lload_n (pc := 101) hF dX11_digest_101 1 rfl ?_
                                              refine go_lmul (pc := 102) hF dX11_digest_102 ?_
                                              refine go_aload_n (pc := 103) hF dX11_digest_103 2 rfl ?_
                                              refine go_get (pc := 104) hF fl_X11_84 dX11_digest_104 (by omega) z101 rfl ?_
                                              refine go_iload_n (pc := 107) hF dX11_digest_107 0 rfl ?_
                                              refine go_iald (pc := 108) hF dX11_digest_108 (by omega) z126 (by omega)  ?_
                                              refine go_i2l (pc := 109) hF dX11_digest_109 (by omega) ?_
                                              refine go_ladd (pc := 110) hF dX11_digest_110 ?_
                                              refine go_lstore_n (pc := 111) hF [(1, vl ((31 * ((31 * ((31 * ((31 * ((31 * ((31 * ((31 * ((31 * ((31 * ((31 * ((31 * ((31 * ((31 * ((31 * ((31 * ((31 * ((31 * (61969 + xb)) + xn)) + xf)) + tl)) + u₉)) + kd)) + pr)) + (mLong r₉))) + hs)) + (nw 1))) + (tLks t₉ : Int))) + (tChs t₉ : Int))) + (tLps t₉ : Int))) + (tDep t₉ : Int))) + (tMsk t₉ 0))) + (rr 0))) + (rr 1))) + (rr 2))), (3, vi 2), (0, vr E 94)] dX11_digest_111 rfl (by decide) ?_
                                              refine go_iinc (pc := 112) hF [(3, vi 3), (1, vl ((31 * ((31 * ((31 * ((31 * ((31 * ((31 * ((31 * ((31 * ((31 * ((31 * ((31 * ((31 * ((31 * ((31 * ((31 * ((31 * ((31 * (61969 + xb)) + xn)) + xf)) + tl)) + u₉)) + kd)) + pr)) + (mLong r₉))) + hs)) + (nw 1))) + (tLks t₉ : Int))) + (tChs t₉ : Int))) + (tLps t₉ : Int))) + (tDep t₉ : Int))) + (tMsk t₉ 0))) + (rr 0))) + (rr 1))) + (rr 2))), (0, vr E 94)] dX11_digest_112 1 rfl rfl (by decide) ?_
                                              refine go_goto (pc := 115) hF 93 dX11_digest_115 (by decide) ?_
                                              refine go_iload_n (pc := 93) hF dX11_digest_93 0 rfl ?_
                                              refine go_iconst (pc := 94) hF dX11_digest_94 ?_
                                              refine go_icmp_ge (pc := 95) hF 118 dX11_digest_95 (by decide) ⟨by decide, by decide⟩ ⟨by decide, by decide⟩ (fun bq95 => ?_) (fun bq95 => ?_)
                                              · refine go_lload_n (pc := 118) hF dX11_digest_118 1 rfl ?_
                                                refine go_lretQ hF hr hlk hQ dX11_digest_119 ⟨?_, hS0, fun _ _ => rfl⟩
                                                unfold dgS dgL
                                                rw [if_neg (by omega), if_pos eL, show nw 1 = mAt r₉ 0 from e1₉]
                                                rw [hrr.1, hrr.2.1, hrr.2.2]
                                                rfl
                                              · exact absurd bq95 (by decide)
                                      · exact absurd bq69 (by decide)
                          · exact absurd bq40 (by omega)
                      · have e1₉ : nw (1 + 0) = mAt r₉ 0 := n1₉ (by omega)
                        have e2₉ : nw (1 + 1) = mAt r₉ 1 := n2₉ (by omega)
                        have gq := mAt_rg 0 hrr0.1
                        have gq1 := mAt_rg 1 hrr0.1
                        have gq2 := mAt_rg 2 hrr0.1
                        refine go_iload_n (pc := 33) hF dX11_digest_33 0 rfl ?_
                        refine go_aload_n (pc := 34) hF dX11_digest_34 2 rfl ?_
                        refine go_get (pc := 35) hF fl_X11_7 dX11_digest_35 (by omega) z101 rfl ?_
                        refine go_iconst (pc := 38) hF dX11_digest_38 ?_
                        refine go_iald (pc := 39) hF dX11_digest_39 (by omega) z102 (by omega)  ?_
                        refine go_icmp_ge (pc := 40) hF 65 dX11_digest_40 (by decide) ⟨by decide, by decide⟩ (by omega) (fun bq40 => ?_) (fun bq40 => ?_)
                        · exact absurd bq40 (by omega)
                        · refine go_ldc2 (pc := 43) hF kc_X11_322 dX11_digest_43 ?_
                          refine go_lload_n (pc := 46) hF dX11_digest_46 1 rfl ?_
                          refine go_lmul (pc := 47) hF dX11_digest_47 ?_
                          refine go_aload_n (pc := 48) hF dX11_digest_48 2 rfl ?_
                          refine go_get (pc := 49) hF fl_X11_7 dX11_digest_49 (by omega) z101 rfl ?_
                          refine go_iconst (pc := 52) hF dX11_digest_52 ?_
                          refine go_iload_n (pc := 53) hF dX11_digest_53 0 rfl ?_
                          refine go_iadd (pc := 54) hF dX11_digest_54 ?_
                          refine go_iald (pc := 55) hF dX11_digest_55 (by omega) z102 (by omega)  ?_
                          refine go_i2l (pc := 56) hF dX11_digest_56 (by omega) ?_
                          refine go_ladd (pc := 57) hF dX11_digest_57 ?_
                          refine go_lstore_n (pc := 58) hF [(1, vl ((31 * ((31 * ((31 * ((31 * ((31 * ((31 * ((31 * ((31 * ((31 * (61969 + xb)) + xn)) + xf)) + tl)) + u₉)) + kd)) + pr)) + (mLong r₉))) + hs)) + (nw 1))), (3, vi 0), (0, vr E 94)] dX11_digest_58 rfl (by decide) ?_
                          refine go_iinc (pc := 59) hF [(3, vi 1), (1, vl ((31 * ((31 * ((31 * ((31 * ((31 * ((31 * ((31 * ((31 * ((31 * (61969 + xb)) + xn)) + xf)) + tl)) + u₉)) + kd)) + pr)) + (mLong r₉))) + hs)) + (nw 1))), (0, vr E 94)] dX11_digest_59 1 rfl rfl (by decide) ?_
                          refine go_goto (pc := 62) hF 33 dX11_digest_62 (by decide) ?_
                          refine go_iload_n (pc := 33) hF dX11_digest_33 0 rfl ?_
                          refine go_aload_n (pc := 34) hF dX11_digest_34 2 rfl ?_
                          refine go_get (pc := 35) hF fl_X11_7 dX11_digest_35 (by omega) z101 rfl ?_
                          refine go_iconst (pc := 38) hF dX11_digest_38 ?_
                          refine go_iald (pc := 39) hF dX11_digest_39 (by omega) z102 (by omega)  ?_
                          refine go_icmp_ge (pc := 40) hF 65 dX11_digest_40 (by decide) ⟨by decide, by decide⟩ (by omega) (fun bq40 => ?_) (fun bq40 => ?_)
                          · exact absurd bq40 (by omega)
                          · refine go_ldc2 (pc := 43) hF kc_X11_322 dX11_digest_43 ?_
                            refine go_lload_n (pc := 46) hF dX11_digest_46 1 rfl ?_
                            refine go_lmul (pc := 47) hF dX11_digest_47 ?_
                            refine go_aload_n (pc := 48) hF dX11_digest_48 2 rfl ?_
                            refine go_get (pc := 49) hF fl_X11_7 dX11_digest_49 (by omega) z101 rfl ?_
                            refine go_iconst (pc := 52) hF dX11_digest_52 ?_
                            refine go_iload_n (pc := 53) hF dX11_digest_53 0 rfl ?_
                            refine go_iadd (pc := 54) hF dX11_digest_54 ?_
                            refine go_iald (pc := 55) hF dX11_digest_55 (by omega) z102 (by omega)  ?_
                            refine go_i2l (pc := 56) hF dX11_digest_56 (by omega) ?_
                            refine go_ladd (pc := 57) hF dX11_digest_57 ?_
                            refine go_lstore_n (pc := 58) hF [(1, vl ((31 * ((31 * ((31 * ((31 * ((31 * ((31 * ((31 * ((31 * ((31 * ((31 * (61969 + xb)) + xn)) + xf)) + tl)) + u₉)) + kd)) + pr)) + (mLong r₉))) + hs)) + (nw 1))) + (nw 2))), (3, vi 1), (0, vr E 94)] dX11_digest_58 rfl (by decide) ?_
                            refine go_iinc (pc := 59) hF [(3, vi 2), (1, vl ((31 * ((31 * ((31 * ((31 * ((31 * ((31 * ((31 * ((31 * ((31 * ((31 * (61969 + xb)) + xn)) + xf)) + tl)) + u₉)) + kd)) + pr)) + (mLong r₉))) + hs)) + (nw 1))) + (nw 2))), (0, vr E 94)] dX11_digest_59 1 rfl rfl (by decide) ?_
                            refine go_goto (pc := 62) hF 33 dX11_digest_62 (by decide) ?_
                            refine go_iload_n (pc := 33) hF dX11_digest_33 0 rfl ?_
                            refine go_aload_n (pc := 34) hF dX11_digest_34 2 rfl ?_
                            refine go_get (pc := 35) hF fl_X11_7 dX11_digest_35 (by omega) z101 rfl ?_
                            refine go_iconst (pc := 38) hF dX11_digest_38 ?_
                            refine go_iald (pc := 39) hF dX11_digest_39 (by omega) z102 (by omega)  ?_
                            refine go_icmp_ge (pc := 40) hF 65 dX11_digest_40 (by decide) ⟨by decide, by decide⟩ (by omega) (fun bq40 => ?_) (fun bq40 => ?_)
                            · refine go_iconst (pc := 65) hF dX11_digest_65 ?_
                              refine go_istore_n (pc := 66) hF [(3, vi 0), (1, vl ((31 * ((31 * ((31 * ((31 * ((31 * ((31 * ((31 * ((31 * ((31 * ((31 * (61969 + xb)) + xn)) + xf)) + tl)) + u₉)) + kd)) + pr)) + (mLong r₉))) + hs)) + (nw 1))) + (nw 2))), (0, vr E 94)] dX11_digest_66 rfl (by decide) ?_
                              refine go_iload_n (pc := 67) hF dX11_digest_67 0 rfl ?_
                              refine go_iconst (pc := 68) hF dX11_digest_68 ?_
                              refine go_icmp_ge (pc := 69) hF 91 dX11_digest_69 (by decide) ⟨by decide, by decide⟩ ⟨by decide, by decide⟩ (fun bq69 => ?_) (fun bq69 => ?_)
                              · exact absurd bq69 (by decide)
                              · refine go_ldc2 (pc := 72) hF kc_X11_322 dX11_digest_72 ?_
                                refine go_lload_n (pc := 75) hF dX11_digest_75 1 rfl ?_
                                refine go_lmul (pc := 76) hF dX11_digest_76 ?_
                                refine go_aload_n (pc := 77) hF dX11_digest_77 2 rfl ?_
                                refine go_iload_n (pc := 78) hF dX11_digest_78 0 rfl ?_
                                refine go_callVP (pc := 79) hF [vi 0] [vl (31 * ((31 * ((31 * ((31 * ((31 * ((31 * ((31 * ((31 * ((31 * ((31 * ((31 * (61969 + xb)) + xn)) + xf)) + tl)) + u₉)) + kd)) + pr)) + (mLong r₉))) + hs)) + (nw 1))) + (nw 2)))] mv_X11_191 dX11_digest_79 (by omega) z101 (show CP E M_X11_toldOf 4 [vr E 94, vi 0] N σ ((tLks t₉ : Int)) from c_X11_toldOf E N σ r₉ u₉ kd pr yr yw yk yp hs tx tl t₉ xb xn xf q1₉ q2₉ q3₉ hN₉ hO0 hS0 0 (by omega)) rfl rfl (Nat.le_of_ble_eq_true rfl) (by decide) ⟨Nat.zero_le _, Nat.zero_le _⟩ ?_
                                refine go_i2l (pc := 82) hF dX11_digest_82 (by omega) ?_
                                refine go_ladd (pc := 83) hF dX11_digest_83 ?_
                                refine go_lstore_n (pc := 84) hF [(1, vl ((31 * ((31 * ((31 * ((31 * ((31 * ((31 * ((31 * ((31 * ((31 * ((31 * ((31 * (61969 + xb)) + xn)) + xf)) + tl)) + u₉)) + kd)) + pr)) + (mLong r₉))) + hs)) + (nw 1))) + (nw 2))) + (tLks t₉ : Int))), (3, vi 0), (0, vr E 94)] dX11_digest_84 rfl (by decide) ?_
                                refine go_iinc (pc := 85) hF [(3, vi 1), (1, vl ((31 * ((31 * ((31 * ((31 * ((31 * ((31 * ((31 * ((31 * ((31 * ((31 * ((31 * (61969 + xb)) + xn)) + xf)) + tl)) + u₉)) + kd)) + pr)) + (mLong r₉))) + hs)) + (nw 1))) + (nw 2))) + (tLks t₉ : Int))), (0, vr E 94)] dX11_digest_85 1 rfl rfl (by decide) ?_
                                refine go_goto (pc := 88) hF 67 dX11_digest_88 (by decide) ?_
                                refine go_iload_n (pc := 67) hF dX11_digest_67 0 rfl ?_
                                refine go_iconst (pc := 68) hF dX11_digest_68 ?_
                                refine go_icmp_ge (pc := 69) hF 91 dX11_digest_69 (by decide) ⟨by decide, by decide⟩ ⟨by decide, by decide⟩ (fun bq69 => ?_) (fun bq69 => ?_)
                                · exact absurd bq69 (by decide)
                                · refine go_ldc2 (pc := 72) hF kc_X11_322 dX11_digest_72 ?_
                                  refine go_lload_n (pc := 75) hF dX11_digest_75 1 rfl ?_
                                  refine go_lmul (pc := 76) hF dX11_digest_76 ?_
                                  refine go_aload_n (pc := 77) hF dX11_digest_77 2 rfl ?_
                                  refine go_iload_n (pc := 78) hF dX11_digest_78 0 rfl ?_
                                  refine go_callVP (pc := 79) hF [vi 1] [vl (31 * ((31 * ((31 * ((31 * ((31 * ((31 * ((31 * ((31 * ((31 * ((31 * ((31 * ((31 * (61969 + xb)) + xn)) + xf)) + tl)) + u₉)) + kd)) + pr)) + (mLong r₉))) + hs)) + (nw 1))) + (nw 2))) + (tLks t₉ : Int)))] mv_X11_191 dX11_digest_79 (by omega) z101 (show CP E M_X11_toldOf 4 [vr E 94, vi 1] N σ ((tChs t₉ : Int)) from c_X11_toldOf E N σ r₉ u₉ kd pr yr yw yk yp hs tx tl t₉ xb xn xf q1₉ q2₉ q3₉ hN₉ hO0 hS0 1 (by omega)) rfl rfl (Nat.le_of_ble_eq_true rfl) (by decide) ⟨Nat.zero_le _, Nat.zero_le _⟩ ?_
                                  refine go_i2l (pc := 82) hF dX11_digest_82 (by omega) ?_
                                  refine go_ladd (pc := 83) hF dX11_digest_83 ?_
                                  refine go_lstore_n (pc := 84) hF [(1, vl ((31 * ((31 * ((31 * ((31 * ((31 * ((31 * ((31 * ((31 * ((31 * ((31 * ((31 * ((31 * (61969 + xb)) + xn)) + xf)) + tl)) + u₉)) + kd)) + pr)) + (mLong r₉))) + hs)) + (nw 1))) + (nw 2))) + (tLks t₉ : Int))) + (tChs t₉ : Int))), (3, vi 1), (0, vr E 94)] dX11_digest_84 rfl (by decide) ?_
                                  refine go_iinc (pc := 85) hF [(3, vi 2), (1, vl ((31 * ((31 * ((31 * ((31 * ((31 * ((31 * ((31 * ((31 * ((31 * ((31 * ((31 * ((31 * (61969 + xb)) + xn)) + xf)) + tl)) + u₉)) + kd)) + pr)) + (mLong r₉))) + hs)) + (nw 1))) + (nw 2))) + (tLks t₉ : Int))) + (tChs t₉ : Int))), (0, vr E 94)] dX11_digest_85 1 rfl rfl (by decide) ?_
                                  refine go_goto (pc := 88) hF 67 dX11_digest_88 (by decide) ?_
                                  refine go_iload_n (pc := 67) hF dX11_digest_67 0 rfl ?_
                                  refine go_iconst (pc := 68) hF dX11_digest_68 ?_
                                  refine go_icmp_ge (pc := 69) hF 91 dX11_digest_69 (by decide) ⟨by decide, by decide⟩ ⟨by decide, by decide⟩ (fun bq69 => ?_) (fun bq69 => ?_)
                                  · exact absurd bq69 (by decide)
                                  · refine go_ldc2 (pc := 72) hF kc_X11_322 dX11_digest_72 ?_
                                    refine go_lload_n (pc := 75) hF dX11_digest_75 1 rfl ?_
                                    refine go_lmul (pc := 76) hF dX11_digest_76 ?_
                                    refine go_aload_n (pc := 77) hF dX11_digest_77 2 rfl ?_
                                    refine go_iload_n (pc := 78) hF dX11_digest_78 0 rfl ?_
                                    refine go_callVP (pc := 79) hF [vi 2] [vl (31 * ((31 * ((31 * ((31 * ((31 * ((31 * ((31 * ((31 * ((31 * ((31 * ((31 * ((31 * ((31 * (61969 + xb)) + xn)) + xf)) + tl)) + u₉)) + kd)) + pr)) + (mLong r₉))) + hs)) + (nw 1))) + (nw 2))) + (tLks t₉ : Int))) + (tChs t₉ : Int)))] mv_X11_191 dX11_digest_79 (by omega) z101 (show CP E M_X11_toldOf 4 [vr E 94, vi 2] N σ ((tLps t₉ : Int)) from c_X11_toldOf E N σ r₉ u₉ kd pr yr yw yk yp hs tx tl t₉ xb xn xf q1₉ q2₉ q3₉ hN₉ hO0 hS0 2 (by omega)) rfl rfl (Nat.le_of_ble_eq_true rfl) (by decide) ⟨Nat.zero_le _, Nat.zero_le _⟩ ?_
                                    refine go_i2l (pc := 82) hF dX11_digest_82 (by omega) ?_
                                    refine go_ladd (pc := 83) hF dX11_digest_83 ?_
                                    refine go_lstore_n (pc := 84) hF [(1, vl ((31 * ((31 * ((31 * ((31 * ((31 * ((31 * ((31 * ((31 * ((31 * ((31 * ((31 * ((31 * ((31 * (61969 + xb)) + xn)) + xf)) + tl)) + u₉)) + kd)) + pr)) + (mLong r₉))) + hs)) + (nw 1))) + (nw 2))) + (tLks t₉ : Int))) + (tChs t₉ : Int))) + (tLps t₉ : Int))), (3, vi 2), (0, vr E 94)] dX11_digest_84 rfl (by decide) ?_
                                    refine go_iinc (pc := 85) hF [(3, vi 3), (1, vl ((31 * ((31 * ((31 * ((31 * ((31 * ((31 * ((31 * ((31 * ((31 * ((31 * ((31 * ((31 * ((31 * (61969 + xb)) + xn)) + xf)) + tl)) + u₉)) + kd)) + pr)) + (mLong r₉))) + hs)) + (nw 1))) + (nw 2))) + (tLks t₉ : Int))) + (tChs t₉ : Int))) + (tLps t₉ : Int))), (0, vr E 94)] dX11_digest_85 1 rfl rfl (by decide) ?_
                                    refine go_goto (pc := 88) hF 67 dX11_digest_88 (by decide) ?_
                                    refine go_iload_n (pc := 67) hF dX11_digest_67 0 rfl ?_
                                    refine go_iconst (pc := 68) hF dX11_digest_68 ?_
                                    refine go_icmp_ge (pc := 69) hF 91 dX11_digest_69 (by decide) ⟨by decide, by decide⟩ ⟨by decide, by decide⟩ (fun bq69 => ?_) (fun bq69 => ?_)
                                    · exact absurd bq69 (by decide)
                                    · refine go_ldc2 (pc := 72) hF kc_X11_322 dX11_digest_72 ?_
                                      refine go_lload_n (pc := 75) hF dX11_digest_75 1 rfl ?_
                                      refine go_lmul (pc := 76) hF dX11_digest_76 ?_
                                      refine go_aload_n (pc := 77) hF dX11_digest_77 2 rfl ?_
                                      refine go_iload_n (pc := 78) hF dX11_digest_78 0 rfl ?_
                                      refine go_callVP (pc := 79) hF [vi 3] [vl (31 * ((31 * ((31 * ((31 * ((31 * ((31 * ((31 * ((31 * ((31 * ((31 * ((31 * ((31 * ((31 * ((31 * (61969 + xb)) + xn)) + xf)) + tl)) + u₉)) + kd)) + pr)) + (mLong r₉))) + hs)) + (nw 1))) + (nw 2))) + (tLks t₉ : Int))) + (tChs t₉ : Int))) + (tLps t₉ : Int)))] mv_X11_191 dX11_digest_79 (by omega) z101 (show CP E M_X11_toldOf 4 [vr E 94, vi 3] N σ ((tDep t₉ : Int)) from c_X11_toldOf E N σ r₉ u₉ kd pr yr yw yk yp hs tx tl t₉ xb xn xf q1₉ q2₉ q3₉ hN₉ hO0 hS0 3 (by omega)) rfl rfl (Nat.le_of_ble_eq_true rfl) (by decide) ⟨Nat.zero_le _, Nat.zero_le _⟩ ?_
                                      refine go_i2l (pc := 82) hF dX11_digest_82 (by omega) ?_
                                      refine go_ladd (pc := 83) hF dX11_digest_83 ?_
                                      refine go_lstore_n (pc := 84) hF [(1, vl ((31 * ((31 * ((31 * ((31 * ((31 * ((31 * ((31 * ((31 * ((31 * ((31 * ((31 * ((31 * ((31 * ((31 * (61969 + xb)) + xn)) + xf)) + tl)) + u₉)) + kd)) + pr)) + (mLong r₉))) + hs)) + (nw 1))) + (nw 2))) + (tLks t₉ : Int))) + (tChs t₉ : Int))) + (tLps t₉ : Int))) + (tDep t₉ : Int))), (3, vi 3), (0, vr E 94)] dX11_digest_84 rfl (by decide) ?_
                                      refine go_iinc (pc := 85) hF [(3, vi 4), (1, vl ((31 * ((31 * ((31 * ((31 * ((31 * ((31 * ((31 * ((31 * ((31 * ((31 * ((31 * ((31 * ((31 * ((31 * (61969 + xb)) + xn)) + xf)) + tl)) + u₉)) + kd)) + pr)) + (mLong r₉))) + hs)) + (nw 1))) + (nw 2))) + (tLks t₉ : Int))) + (tChs t₉ : Int))) + (tLps t₉ : Int))) + (tDep t₉ : Int))), (0, vr E 94)] dX11_digest_85 1 rfl rfl (by decide) ?_
                                      refine go_goto (pc := 88) hF 67 dX11_digest_88 (by decide) ?_
                                      refine go_iload_n (pc := 67) hF dX11_digest_67 0 rfl ?_
                                      refine go_iconst (pc := 68) hF dX11_digest_68 ?_
                                      refine go_icmp_ge (pc := 69) hF 91 dX11_digest_69 (by decide) ⟨by decide, by decide⟩ ⟨by decide, by decide⟩ (fun bq69 => ?_) (fun bq69 => ?_)
                                      · exact absurd bq69 (by decide)
                                      · refine go_ldc2 (pc := 72) hF kc_X11_322 dX11_digest_72 ?_
                                        refine go_lload_n (pc := 75) hF dX11_digest_75 1 rfl ?_
                                        refine go_lmul (pc := 76) hF dX11_digest_76 ?_
                                        refine go_aload_n (pc := 77) hF dX11_digest_77 2 rfl ?_
                                        refine go_iload_n (pc := 78) hF dX11_digest_78 0 rfl ?_
                                        refine go_callVP (pc := 79) hF [vi 4] [vl (31 * ((31 * ((31 * ((31 * ((31 * ((31 * ((31 * ((31 * ((31 * ((31 * ((31 * ((31 * ((31 * ((31 * ((31 * (61969 + xb)) + xn)) + xf)) + tl)) + u₉)) + kd)) + pr)) + (mLong r₉))) + hs)) + (nw 1))) + (nw 2))) + (tLks t₉ : Int))) + (tChs t₉ : Int))) + (tLps t₉ : Int))) + (tDep t₉ : Int)))] mv_X11_191 dX11_digest_79 (by omega) z101 (show CP E M_X11_toldOf 4 [vr E 94, vi 4] N σ (tMsk t₉ 0) from c_X11_toldOf E N σ r₉ u₉ kd pr yr yw yk yp hs tx tl t₉ xb xn xf q1₉ q2₉ q3₉ hN₉ hO0 hS0 4 (by omega)) rfl rfl (Nat.le_of_ble_eq_true rfl) (by decide) ⟨Nat.zero_le _, Nat.zero_le _⟩ ?_
                                        refine go_i2l (pc := 82) hF dX11_digest_82 (by omega) ?_
                                        refine go_ladd (pc := 83) hF dX11_digest_83 ?_
                                        refine go_lstore_n (pc := 84) hF [(1, vl ((31 * ((31 * ((31 * ((31 * ((31 * ((31 * ((31 * ((31 * ((31 * ((31 * ((31 * ((31 * ((31 * ((31 * ((31 * (61969 + xb)) + xn)) + xf)) + tl)) + u₉)) + kd)) + pr)) + (mLong r₉))) + hs)) + (nw 1))) + (nw 2))) + (tLks t₉ : Int))) + (tChs t₉ : Int))) + (tLps t₉ : Int))) + (tDep t₉ : Int))) + (tMsk t₉ 0))), (3, vi 4), (0, vr E 94)] dX11_digest_84 rfl (by decide) ?_
                                        refine go_iinc (pc := 85) hF [(3, vi 5), (1, vl ((31 * ((31 * ((31 * ((31 * ((31 * ((31 * ((31 * ((31 * ((31 * ((31 * ((31 * ((31 * ((31 * ((31 * ((31 * (61969 + xb)) + xn)) + xf)) + tl)) + u₉)) + kd)) + pr)) + (mLong r₉))) + hs)) + (nw 1))) + (nw 2))) + (tLks t₉ : Int))) + (tChs t₉ : Int))) + (tLps t₉ : Int))) + (tDep t₉ : Int))) + (tMsk t₉ 0))), (0, vr E 94)] dX11_digest_85 1 rfl rfl (by decide) ?_
                                        refine go_goto (pc := 88) hF 67 dX11_digest_88 (by decide) ?_
                                        refine go_iload_n (pc := 67) hF dX11_digest_67 0 rfl ?_
                                        refine go_iconst (pc := 68) hF dX11_digest_68 ?_
                                        refine go_icmp_ge (pc := 69) hF 91 dX11_digest_69 (by decide) ⟨by decide, by decide⟩ ⟨by decide, by decide⟩ (fun bq69 => ?_) (fun bq69 => ?_)
                                        · refine go_iconst (pc := 91) hF dX11_digest_91 ?_
                                          refine go_istore_n (pc := 92) hF [(3, vi 0), (1, vl ((31 * ((31 * ((31 * ((31 * ((31 * ((31 * ((31 * ((31 * ((31 * ((31 * ((31 * ((31 * ((31 * ((31 * ((31 * (61969 + xb)) + xn)) + xf)) + tl)) + u₉)) + kd)) + pr)) + (mLong r₉))) + hs)) + (nw 1))) + (nw 2))) + (tLks t₉ : Int))) + (tChs t₉ : Int))) + (tLps t₉ : Int))) + (tDep t₉ : Int))) + (tMsk t₉ 0))), (0, vr E 94)] dX11_digest_92 rfl (by decide) ?_
                                          refine go_iload_n (pc := 93) hF dX11_digest_93 0 rfl ?_
                                          refine go_iconst (pc := 94) hF dX11_digest_94 ?_
                                          refine go_icmp_ge (pc := 95) hF 118 dX11_digest_95 (by decide) ⟨by decide, by decide⟩ ⟨by decide, by decide⟩ (fun bq95 => ?_) (fun bq95 => ?_)
                                          · exact absurd bq95 (by decide)
                                          · refine go_ldc2 (pc := 98) hF kc_X11_322 dX11_digest_98 ?_
                                            refine go_lload_n (pc := 101) hF dX11_digest_101 1 rfl ?_
                                            refine go_lmul (pc := 102) hF dX11_digest_102 ?_
                                            refine go_aload_n (pc := 103) hF dX11_digest_103 2 rfl ?_
                                            refine go_get (pc := 104) hF fl_X11_84 dX11_digest_104 (by omega) z101 rfl ?_
                                            refine go_iload_n (pc := 107) hF dX11_digest_107 0 rfl ?_
                                            refine go_iald (pc := 108) hF dX11_digest_108 (by omega) z126 (by omega)  ?_
                                            refine go_i2l (pc := 109) hF dX11_digest_109 (by omega) ?_
                                            refine go_ladd (pc := 110) hF dX11_digest_110 ?_
                                            refine go_lstore_n (pc := 111) hF [(1, vl ((31 * ((31 * ((31 * ((31 * ((31 * ((31 * ((31 * ((31 * ((31 * ((31 * ((31 * ((31 * ((31 * ((31 * ((31 * ((31 * (61969 + xb)) + xn)) + xf)) + tl)) + u₉)) + kd)) + pr)) + (mLong r₉))) + hs)) + (nw 1))) + (nw 2))) + (tLks t₉ : Int))) + (tChs t₉ : Int))) + (tLps t₉ : Int))) + (tDep t₉ : Int))) + (tMsk t₉ 0))) + (rr 0))), (3, vi 0), (0, vr E 94)] dX11_digest_111 rfl (by decide) ?_
                                            refine go_iinc (pc := 112) hF [(3, vi 1), (1, vl ((31 * ((31 * ((31 * ((31 * ((31 * ((31 * ((31 * ((31 * ((31 * ((31 * ((31 * ((31 * ((31 * ((31 * ((31 * ((31 * (61969 + xb)) + xn)) + xf)) + tl)) + u₉)) + kd)) + pr)) + (mLong r₉))) + hs)) + (nw 1))) + (nw 2))) + (tLks t₉ : Int))) + (tChs t₉ : Int))) + (tLps t₉ : Int))) + (tDep t₉ : Int))) + (tMsk t₉ 0))) + (rr 0))), (0, vr E 94)] dX11_digest_112 1 rfl rfl (by decide) ?_
                                            refine go_goto (pc := 115) hF 93 dX11_digest_115 (by decide) ?_
                                            refine go_iload_n (pc := 93) hF dX11_digest_93 0 rfl ?_
                                            refine go_iconst (pc := 94) hF dX11_digest_94 ?_
                                            refine go_icmp_ge (pc := 95) hF 118 dX11_digest_95 (by decide) ⟨by decide, by decide⟩ ⟨by decide, by decide⟩ (fun bq95 => ?_) (fun bq95 => ?_)
                                            · exact absurd bq95 (by decide)
                                            · refine go_ldc2 (pc := 98) hF kc_X11_322 dX11_digest_98 ?_
                                              refine go_lload_n (pc := 101) hF dX11_digest_101 1 rfl ?_
                                              refine go_lmul (pc := 102) hF dX11_digest_102 ?_
                                              refine go_aload_n (pc := 103) hF dX11_digest_103 2 rfl ?_
                                              refine go_get (pc := 104) hF fl_X11_84 dX11_digest_104 (by omega) z101 rfl ?_
                                              refine go_iload_n (pc := 107) hF dX11_digest_107 0 rfl ?_
                                              refine go_iald (pc := 108) hF dX11_digest_108 (by omega) z126 (by omega)  ?_
                                              refine go_i2l (pc := 109) hF dX11_digest_109 (by omega) ?_
                                              refine go_ladd (pc := 110) hF dX11_digest_110 ?_
                                              refine go_lstore_n (pc := 111) hF [(1, vl ((31 * ((31 * ((31 * ((31 * ((31 * ((31 * ((31 * ((31 * ((31 * ((31 * ((31 * ((31 * ((31 * ((31 * ((31 * ((31 * ((31 * (61969 + xb)) + xn)) + xf)) + tl)) + u₉)) + kd)) + pr)) + (mLong r₉))) + hs)) + (nw 1))) + (nw 2))) + (tLks t₉ : Int))) + (tChs t₉ : Int))) + (tLps t₉ : Int))) + (tDep t₉ : Int))) + (tMsk t₉ 0))) + (rr 0))) + (rr 1))), (3, vi 1), (0, vr E 94)] dX11_digest_111 rfl (by decide) ?_
                                              refine go_iinc (pc := 112) hF [(3, vi 2), (1, vl ((31 * ((31 * ((31 * ((31 * ((31 * ((31 * ((31 * ((31 * ((31 * ((31 * ((31 * ((31 * ((31 * ((31 * ((31 * ((31 * ((31 * (61969 + xb)) + xn)) + xf)) + tl)) + u₉)) + kd)) + pr)) + (mLong r₉))) + hs)) + (nw 1))) + (nw 2))) + (tLks t₉ : Int))) + (tChs t₉ : Int))) + (tLps t₉ : Int))) + (tDep t₉ : Int))) + (tMsk t₉ 0))) + (rr 0))) + (rr 1))), (0, vr E 94)] dX11_digest_112 1 rfl rfl (by decide) ?_
                                              refine go_goto (pc := 115) hF 93 dX11_digest_115 (by decide) ?_
                                              refine go_iload_n (pc := 93) hF dX11_digest_93 0 rfl ?_
                                              refine go_iconst (pc := 94) hF dX11_digest_94 ?_
                                              refine go_icmp_ge (pc := 95) hF 118 dX11_digest_95 (by decide) ⟨by decide, by decide⟩ ⟨by decide, by decide⟩ (fun bq95 => ?_) (fun bq95 => ?_)
                                              · exact absurd bq95 (by decide)
                                              · refine go_ldc2 (pc := 98) hF kc_X11_322 dX11_digest_98 ?_
                                                refine go_lload_n (pc := 101) hF dX11_digest_101 1 rfl ?_
                                                refine go_lmul (pc := 102) hF dX11_digest_102 ?_
                                                refine go_aload_n (pc := 103) hF dX11_digest_103 2 rfl ?_
                                                refine go_get (pc := 104) hF fl_X11_84 dX11_digest_104 (by omega) z101 rfl ?_
                                                refine go_iload_n (pc := 107) hF dX11_digest_107 0 rfl ?_
                                                refine go_iald (pc := 108) hF dX11_digest_108 (by omega) z126 (by omega)  ?_
                                                refine go_i2l (pc := 109) hF dX11_digest_109 (by omega) ?_
                                                refine go_ladd (pc := 110) hF dX11_digest_110 ?_
                                                refine go_lstore_n (pc := 111) hF [(1, vl ((31 * ((31 * ((31 * ((31 * ((31 * ((31 * ((31 * ((31 * ((31 * ((31 * ((31 * ((31 * ((31 * ((31 * ((31 * ((31 * ((31 * ((31 * (61969 + xb)) + xn)) + xf)) + tl)) + u₉)) + kd)) + pr)) + (mLong r₉))) + hs)) + (nw 1))) + (nw 2))) + (tLks t₉ : Int))) + (tChs t₉ : Int))) + (tLps t₉ : Int))) + (tDep t₉ : Int))) + (tMsk t₉ 0))) + (rr 0))) + (rr 1))) + (rr 2))), (3, vi 2), (0, vr E 94)] dX11_digest_111 rfl (by decide) ?_
                                                refine go_iinc (pc := 112) hF [(3, vi 3), (1, vl ((31 * ((31 * ((31 * ((31 * ((31 * ((31 * ((31 * ((31 * ((31 * ((31 * ((31 * ((31 * ((31 * ((31 * ((31 * ((31 * ((31 * ((31 * (61969 + xb)) + xn)) + xf)) + tl)) + u₉)) + kd)) + pr)) + (mLong r₉))) + hs)) + (nw 1))) + (nw 2))) + (tLks t₉ : Int))) + (tChs t₉ : Int))) + (tLps t₉ : Int))) + (tDep t₉ : Int))) + (tMsk t₉ 0))) + (rr 0))) + (rr 1))) + (rr 2))), (0, vr E 94)] dX11_digest_112 1 rfl rfl (by decide) ?_
                                                refine go_goto (pc := 115) hF 93 dX11_digest_115 (by decide) ?_
                                                refine go_iload_n (pc := 93) hF dX11_digest_93 0 rfl ?_
                                                refine go_iconst (pc := 94) hF dX11_digest_94 ?_
                                                refine go_icmp_ge (pc := 95) hF 118 dX11_digest_95 (by decide) ⟨by decide, by decide⟩ ⟨by decide, by decide⟩ (fun bq95 => ?_) (fun bq95 => ?_)
                                                · refine go_lload_n (pc := 118) hF dX11_digest_118 1 rfl ?_
                                                  refine go_lretQ hF hr hlk hQ dX11_digest_119 ⟨?_, hS0, fun _ _ => rfl⟩
                                                  unfold dgS dgL
                                                  rw [if_neg (by omega), if_neg (by omega), if_pos eL, show nw 1 = mAt r₉ 0 from e1₉, show nw 2 = mAt r₉ 1 from e2₉]
                                                  rw [hrr.1, hrr.2.1, hrr.2.2]
                                                  rfl
                                                · exact absurd bq95 (by decide)
                                        · exact absurd bq69 (by decide)
                            · exact absurd bq40 (by omega)
                      · have e1₉ : nw (1 + 0) = mAt r₉ 0 := n1₉ (by omega)
                        have e2₉ : nw (1 + 1) = mAt r₉ 1 := n2₉ (by omega)
                        have e3₉ : nw (1 + 2) = mAt r₉ 2 := n3₉ (by omega)
                        have gq := mAt_rg 0 hrr0.1
                        have gq1 := mAt_rg 1 hrr0.1
                        have gq2 := mAt_rg 2 hrr0.1
                        refine go_iload_n (pc := 33) hF dX11_digest_33 0 rfl ?_
                        refine go_aload_n (pc := 34) hF dX11_digest_34 2 rfl ?_
                        refine go_get (pc := 35) hF fl_X11_7 dX11_digest_35 (by omega) z101 rfl ?_
                        refine go_iconst (pc := 38) hF dX11_digest_38 ?_
                        refine go_iald (pc := 39) hF dX11_digest_39 (by omega) z102 (by omega)  ?_
                        refine go_icmp_ge (pc := 40) hF 65 dX11_digest_40 (by decide) ⟨by decide, by decide⟩ (by omega) (fun bq40 => ?_) (fun bq40 => ?_)
                        · exact absurd bq40 (by omega)
                        · refine go_ldc2 (pc := 43) hF kc_X11_322 dX11_digest_43 ?_
                          refine go_lload_n (pc := 46) hF dX11_digest_46 1 rfl ?_
                          refine go_lmul (pc := 47) hF dX11_digest_47 ?_
                          refine go_aload_n (pc := 48) hF dX11_digest_48 2 rfl ?_
                          refine go_get (pc := 49) hF fl_X11_7 dX11_digest_49 (by omega) z101 rfl ?_
                          refine go_iconst (pc := 52) hF dX11_digest_52 ?_
                          refine go_iload_n (pc := 53) hF dX11_digest_53 0 rfl ?_
                          refine go_iadd (pc := 54) hF dX11_digest_54 ?_
                          refine go_iald (pc := 55) hF dX11_digest_55 (by omega) z102 (by omega)  ?_
                          refine go_i2l (pc := 56) hF dX11_digest_56 (by omega) ?_
                          refine go_ladd (pc := 57) hF dX11_digest_57 ?_
                          refine go_lstore_n (pc := 58) hF [(1, vl ((31 * ((31 * ((31 * ((31 * ((31 * ((31 * ((31 * ((31 * ((31 * (61969 + xb)) + xn)) + xf)) + tl)) + u₉)) + kd)) + pr)) + (mLong r₉))) + hs)) + (nw 1))), (3, vi 0), (0, vr E 94)] dX11_digest_58 rfl (by decide) ?_
                          refine go_iinc (pc := 59) hF [(3, vi 1), (1, vl ((31 * ((31 * ((31 * ((31 * ((31 * ((31 * ((31 * ((31 * ((31 * (61969 + xb)) + xn)) + xf)) + tl)) + u₉)) + kd)) + pr)) + (mLong r₉))) + hs)) + (nw 1))), (0, vr E 94)] dX11_digest_59 1 rfl rfl (by decide) ?_
                          refine go_goto (pc := 62) hF 33 dX11_digest_62 (by decide) ?_
                          refine go_iload_n (pc := 33) hF dX11_digest_33 0 rfl ?_
                          refine go_aload_n (pc := 34) hF dX11_digest_34 2 rfl ?_
                          refine go_get (pc := 35) hF fl_X11_7 dX11_digest_35 (by omega) z101 rfl ?_
                          refine go_iconst (pc := 38) hF dX11_digest_38 ?_
                          refine go_iald (pc := 39) hF dX11_digest_39 (by omega) z102 (by omega)  ?_
                          refine go_icmp_ge (pc := 40) hF 65 dX11_digest_40 (by decide) ⟨by decide, by decide⟩ (by omega) (fun bq40 => ?_) (fun bq40 => ?_)
                          · exact absurd bq40 (by omega)
                          · refine go_ldc2 (pc := 43) hF kc_X11_322 dX11_digest_43 ?_
                            refine go_lload_n (pc := 46) hF dX11_digest_46 1 rfl ?_
                            refine go_lmul (pc := 47) hF dX11_digest_47 ?_
                            refine go_aload_n (pc := 48) hF dX11_digest_48 2 rfl ?_
                            refine go_get (pc := 49) hF fl_X11_7 dX11_digest_49 (by omega) z101 rfl ?_
                            refine go_iconst (pc := 52) hF dX11_digest_52 ?_
                            refine go_iload_n (pc := 53) hF dX11_digest_53 0 rfl ?_
                            refine go_iadd (pc := 54) hF dX11_digest_54 ?_
                            refine go_iald (pc := 55) hF dX11_digest_55 (by omega) z102 (by omega)  ?_
                            refine go_i2l (pc := 56) hF dX11_digest_56 (by omega) ?_
                            refine go_ladd (pc := 57) hF dX11_digest_57 ?_
                            refine go_lstore_n (pc := 58) hF [(1, vl ((31 * ((31 * ((31 * ((31 * ((31 * ((31 * ((31 * ((31 * ((31 * ((31 * (61969 + xb)) + xn)) + xf)) + tl)) + u₉)) + kd)) + pr)) + (mLong r₉))) + hs)) + (nw 1))) + (nw 2))), (3, vi 1), (0, vr E 94)] dX11_digest_58 rfl (by decide) ?_
                            refine go_iinc (pc := 59) hF [(3, vi 2), (1, vl ((31 * ((31 * ((31 * ((31 * ((31 * ((31 * ((31 * ((31 * ((31 * ((31 * (61969 + xb)) + xn)) + xf)) + tl)) + u₉)) + kd)) + pr)) + (mLong r₉))) + hs)) + (nw 1))) + (nw 2))), (0, vr E 94)] dX11_digest_59 1 rfl rfl (by decide) ?_
                            refine go_goto (pc := 62) hF 33 dX11_digest_62 (by decide) ?_
                            refine go_iload_n (pc := 33) hF dX11_digest_33 0 rfl ?_
                            refine go_aload_n (pc := 34) hF dX11_digest_34 2 rfl ?_
                            refine go_get (pc := 35) hF fl_X11_7 dX11_digest_35 (by omega) z101 rfl ?_
                            refine go_iconst (pc := 38) hF dX11_digest_38 ?_
                            refine go_iald (pc := 39) hF dX11_digest_39 (by omega) z102 (by omega)  ?_
                            refine go_icmp_ge (pc := 40) hF 65 dX11_digest_40 (by decide) ⟨by decide, by decide⟩ (by omega) (fun bq40 => ?_) (fun bq40 => ?_)
                            · exact absurd bq40 (by omega)
                            · refine go_ldc2 (pc := 43) hF kc_X11_322 dX11_digest_43 ?_
                              refine go_lload_n (pc := 46) hF dX11_digest_46 1 rfl ?_
                              refine go_lmul (pc := 47) hF dX11_digest_47 ?_
                              refine go_aload_n (pc := 48) hF dX11_digest_48 2 rfl ?_
                              refine go_get (pc := 49) hF fl_X11_7 dX11_digest_49 (by omega) z101 rfl ?_
                              refine go_iconst (pc := 52) hF dX11_digest_52 ?_
                              refine go_iload_n (pc := 53) hF dX11_digest_53 0 rfl ?_
                              refine go_iadd (pc := 54) hF dX11_digest_54 ?_
                              refine go_iald (pc := 55) hF dX11_digest_55 (by omega) z102 (by omega)  ?_
                              refine go_i2l (pc := 56) hF dX11_digest_56 (by omega) ?_
                              refine go_ladd (pc := 57) hF dX11_digest_57 ?_
                              refine go_lstore_n (pc := 58) hF [(1, vl ((31 * ((31 * ((31 * ((31 * ((31 * ((31 * ((31 * ((31 * ((31 * ((31 * ((31 * (61969 + xb)) + xn)) + xf)) + tl)) + u₉)) + kd)) + pr)) + (mLong r₉))) + hs)) + (nw 1))) + (nw 2))) + (nw 3))), (3, vi 2), (0, vr E 94)] dX11_digest_58 rfl (by decide) ?_
                              refine go_iinc (pc := 59) hF [(3, vi 3), (1, vl ((31 * ((31 * ((31 * ((31 * ((31 * ((31 * ((31 * ((31 * ((31 * ((31 * ((31 * (61969 + xb)) + xn)) + xf)) + tl)) + u₉)) + kd)) + pr)) + (mLong r₉))) + hs)) + (nw 1))) + (nw 2))) + (nw 3))), (0, vr E 94)] dX11_digest_59 1 rfl rfl (by decide) ?_
                              refine go_goto (pc := 62) hF 33 dX11_digest_62 (by decide) ?_
                              refine go_iload_n (pc := 33) hF dX11_digest_33 0 rfl ?_
                              refine go_aload_n (pc := 34) hF dX11_digest_34 2 rfl ?_
                              refine go_get (pc := 35) hF fl_X11_7 dX11_digest_35 (by omega) z101 rfl ?_
                              refine go_iconst (pc := 38) hF dX11_digest_38 ?_
                              refine go_iald (pc := 39) hF dX11_digest_39 (by omega) z102 (by omega)  ?_
                              refine go_icmp_ge (pc := 40) hF 65 dX11_digest_40 (by decide) ⟨by decide, by decide⟩ (by omega) (fun bq40 => ?_) (fun bq40 => ?_)
                              · refine go_iconst (pc := 65) hF dX11_digest_65 ?_
                                refine go_istore_n (pc := 66) hF [(3, vi 0), (1, vl ((31 * ((31 * ((31 * ((31 * ((31 * ((31 * ((31 * ((31 * ((31 * ((31 * ((31 * (61969 + xb)) + xn)) + xf)) + tl)) + u₉)) + kd)) + pr)) + (mLong r₉))) + hs)) + (nw 1))) + (nw 2))) + (nw 3))), (0, vr E 94)] dX11_digest_66 rfl (by decide) ?_
                                refine go_iload_n (pc := 67) hF dX11_digest_67 0 rfl ?_
                                refine go_iconst (pc := 68) hF dX11_digest_68 ?_
                                refine go_icmp_ge (pc := 69) hF 91 dX11_digest_69 (by decide) ⟨by decide, by decide⟩ ⟨by decide, by decide⟩ (fun bq69 => ?_) (fun bq69 => ?_)
                                · exact absurd bq69 (by decide)
                                · refine go_ldc2 (pc := 72) hF kc_X11_322 dX11_digest_72 ?_
                                  refine go_lload_n (pc := 75) hF dX11_digest_75 1 rfl ?_
                                  refine go_lmul (pc := 76) hF dX11_digest_76 ?_
                                  refine go_aload_n (pc := 77) hF dX11_digest_77 2 rfl ?_
                                  refine go_iload_n (pc := 78) hF dX11_digest_78 0 rfl ?_
                                  refine go_callVP (pc := 79) hF [vi 0] [vl (31 * ((31 * ((31 * ((31 * ((31 * ((31 * ((31 * ((31 * ((31 * ((31 * ((31 * ((31 * (61969 + xb)) + xn)) + xf)) + tl)) + u₉)) + kd)) + pr)) + (mLong r₉))) + hs)) + (nw 1))) + (nw 2))) + (nw 3)))] mv_X11_191 dX11_digest_79 (by omega) z101 (show CP E M_X11_toldOf 4 [vr E 94, vi 0] N σ ((tLks t₉ : Int)) from c_X11_toldOf E N σ r₉ u₉ kd pr yr yw yk yp hs tx tl t₉ xb xn xf q1₉ q2₉ q3₉ hN₉ hO0 hS0 0 (by omega)) rfl rfl (Nat.le_of_ble_eq_true rfl) (by decide) ⟨Nat.zero_le _, Nat.zero_le _⟩ ?_
                                  refine go_i2l (pc := 82) hF dX11_digest_82 (by omega) ?_
                                  refine go_ladd (pc := 83) hF dX11_digest_83 ?_
                                  refine go_lstore_n (pc := 84) hF [(1, vl ((31 * ((31 * ((31 * ((31 * ((31 * ((31 * ((31 * ((31 * ((31 * ((31 * ((31 * ((31 * (61969 + xb)) + xn)) + xf)) + tl)) + u₉)) + kd)) + pr)) + (mLong r₉))) + hs)) + (nw 1))) + (nw 2))) + (nw 3))) + (tLks t₉ : Int))), (3, vi 0), (0, vr E 94)] dX11_digest_84 rfl (by decide) ?_
                                  refine go_iinc (pc := 85) hF [(3, vi 1), (1, vl ((31 * ((31 * ((31 * ((31 * ((31 * ((31 * ((31 * ((31 * ((31 * ((31 * ((31 * ((31 * (61969 + xb)) + xn)) + xf)) + tl)) + u₉)) + kd)) + pr)) + (mLong r₉))) + hs)) + (nw 1))) + (nw 2))) + (nw 3))) + (tLks t₉ : Int))), (0, vr E 94)] dX11_digest_85 1 rfl rfl (by decide) ?_
                                  refine go_goto (pc := 88) hF 67 dX11_digest_88 (by decide) ?_
                                  refine go_iload_n (pc := 67) hF dX11_digest_67 0 rfl ?_
                                  refine go_iconst (pc := 68) hF dX11_digest_68 ?_
                                  refine go_icmp_ge (pc := 69) hF 91 dX11_digest_69 (by decide) ⟨by decide, by decide⟩ ⟨by decide, by decide⟩ (fun bq69 => ?_) (fun bq69 => ?_)
                                  · exact absurd bq69 (by decide)
                                  · refine go_ldc2 (pc := 72) hF kc_X11_322 dX11_digest_72 ?_
                                    refine go_lload_n (pc := 75) hF dX11_digest_75 1 rfl ?_
                                    refine go_lmul (pc := 76) hF dX11_digest_76 ?_
                                    refine go_aload_n (pc := 77) hF dX11_digest_77 2 rfl ?_
                                    refine go_iload_n (pc := 78) hF dX11_digest_78 0 rfl ?_
                                    refine go_callVP (pc := 79) hF [vi 1] [vl (31 * ((31 * ((31 * ((31 * ((31 * ((31 * ((31 * ((31 * ((31 * ((31 * ((31 * ((31 * ((31 * (61969 + xb)) + xn)) + xf)) + tl)) + u₉)) + kd)) + pr)) + (mLong r₉))) + hs)) + (nw 1))) + (nw 2))) + (nw 3))) + (tLks t₉ : Int)))] mv_X11_191 dX11_digest_79 (by omega) z101 (show CP E M_X11_toldOf 4 [vr E 94, vi 1] N σ ((tChs t₉ : Int)) from c_X11_toldOf E N σ r₉ u₉ kd pr yr yw yk yp hs tx tl t₉ xb xn xf q1₉ q2₉ q3₉ hN₉ hO0 hS0 1 (by omega)) rfl rfl (Nat.le_of_ble_eq_true rfl) (by decide) ⟨Nat.zero_le _, Nat.zero_le _⟩ ?_
                                    refine go_i2l (pc := 82) hF dX11_digest_82 (by omega) ?_
                                    refine go_ladd (pc := 83) hF dX11_digest_83 ?_
                                    refine go_lstore_n (pc := 84) hF [(1, vl ((31 * ((31 * ((31 * ((31 * ((31 * ((31 * ((31 * ((31 * ((31 * ((31 * ((31 * ((31 * ((31 * (61969 + xb)) + xn)) + xf)) + tl)) + u₉)) + kd)) + pr)) + (mLong r₉))) + hs)) + (nw 1))) + (nw 2))) + (nw 3))) + (tLks t₉ : Int))) + (tChs t₉ : Int))), (3, vi 1), (0, vr E 94)] dX11_digest_84 rfl (by decide) ?_
                                    refine go_iinc (pc := 85) hF [(3, vi 2), (1, vl ((31 * ((31 * ((31 * ((31 * ((31 * ((31 * ((31 * ((31 * ((31 * ((31 * ((31 * ((31 * ((31 * (61969 + xb)) + xn)) + xf)) + tl)) + u₉)) + kd)) + pr)) + (mLong r₉))) + hs)) + (nw 1))) + (nw 2))) + (nw 3))) + (tLks t₉ : Int))) + (tChs t₉ : Int))), (0, vr E 94)] dX11_digest_85 1 rfl rfl (by decide) ?_
                                    refine go_goto (pc := 88) hF 67 dX11_digest_88 (by decide) ?_
                                    refine go_iload_n (pc := 67) hF dX11_digest_67 0 rfl ?_
                                    refine go_iconst (pc := 68) hF dX11_digest_68 ?_
                                    refine go_icmp_ge (pc := 69) hF 91 dX11_digest_69 (by decide) ⟨by decide, by decide⟩ ⟨by decide, by decide⟩ (fun bq69 => ?_) (fun bq69 => ?_)
                                    · exact absurd bq69 (by decide)
                                    · refine go_ldc2 (pc := 72) hF kc_X11_322 dX11_digest_72 ?_
                                      refine go_lload_n (pc := 75) hF dX11_digest_75 1 rfl ?_
                                      refine go_lmul (pc := 76) hF dX11_digest_76 ?_
                                      refine go_aload_n (pc := 77) hF dX11_digest_77 2 rfl ?_
                                      refine go_iload_n (pc := 78) hF dX11_digest_78 0 rfl ?_
                                      refine go_callVP (pc := 79) hF [vi 2] [vl (31 * ((31 * ((31 * ((31 * ((31 * ((31 * ((31 * ((31 * ((31 * ((31 * ((31 * ((31 * ((31 * ((31 * (61969 + xb)) + xn)) + xf)) + tl)) + u₉)) + kd)) + pr)) + (mLong r₉))) + hs)) + (nw 1))) + (nw 2))) + (nw 3))) + (tLks t₉ : Int))) + (tChs t₉ : Int)))] mv_X11_191 dX11_digest_79 (by omega) z101 (show CP E M_X11_toldOf 4 [vr E 94, vi 2] N σ ((tLps t₉ : Int)) from c_X11_toldOf E N σ r₉ u₉ kd pr yr yw yk yp hs tx tl t₉ xb xn xf q1₉ q2₉ q3₉ hN₉ hO0 hS0 2 (by omega)) rfl rfl (Nat.le_of_ble_eq_true rfl) (by decide) ⟨Nat.zero_le _, Nat.zero_le _⟩ ?_
                                      refine go_i2l (pc := 82) hF dX11_digest_82 (by omega) ?_
                                      refine go_ladd (pc := 83) hF dX11_digest_83 ?_
                                      refine go_lstore_n (pc := 84) hF [(1, vl ((31 * ((31 * ((31 * ((31 * ((31 * ((31 * ((31 * ((31 * ((31 * ((31 * ((31 * ((31 * ((31 * ((31 * (61969 + xb)) + xn)) + xf)) + tl)) + u₉)) + kd)) + pr)) + (mLong r₉))) + hs)) + (nw 1))) + (nw 2))) + (nw 3))) + (tLks t₉ : Int))) + (tChs t₉ : Int))) + (tLps t₉ : Int))), (3, vi 2), (0, vr E 94)] dX11_digest_84 rfl (by decide) ?_
                                      refine go_iinc (pc := 85) hF [(3, vi 3), (1, vl ((31 * ((31 * ((31 * ((31 * ((31 * ((31 * ((31 * ((31 * ((31 * ((31 * ((31 * ((31 * ((31 * ((31 * (61969 + xb)) + xn)) + xf)) + tl)) + u₉)) + kd)) + pr)) + (mLong r₉))) + hs)) + (nw 1))) + (nw 2))) + (nw 3))) + (tLks t₉ : Int))) + (tChs t₉ : Int))) + (tLps t₉ : Int))), (0, vr E 94)] dX11_digest_85 1 rfl rfl (by decide) ?_
                                      refine go_goto (pc := 88) hF 67 dX11_digest_88 (by decide) ?_
                                      refine go_iload_n (pc := 67) hF dX11_digest_67 0 rfl ?_
                                      refine go_iconst (pc := 68) hF dX11_digest_68 ?_
                                      refine go_icmp_ge (pc := 69) hF 91 dX11_digest_69 (by decide) ⟨by decide, by decide⟩ ⟨by decide, by decide⟩ (fun bq69 => ?_) (fun bq69 => ?_)
                                      · exact absurd bq69 (by decide)
                                      · refine go_ldc2 (pc := 72) hF kc_X11_322 dX11_digest_72 ?_
                                        refine go_lload_n (pc := 75) hF dX11_digest_75 1 rfl ?_
                                        refine go_lmul (pc := 76) hF dX11_digest_76 ?_
                                        refine go_aload_n (pc := 77) hF dX11_digest_77 2 rfl ?_
                                        refine go_iload_n (pc := 78) hF dX11_digest_78 0 rfl ?_
                                        refine go_callVP (pc := 79) hF [vi 3] [vl (31 * ((31 * ((31 * ((31 * ((31 * ((31 * ((31 * ((31 * ((31 * ((31 * ((31 * ((31 * ((31 * ((31 * ((31 * (61969 + xb)) + xn)) + xf)) + tl)) + u₉)) + kd)) + pr)) + (mLong r₉))) + hs)) + (nw 1))) + (nw 2))) + (nw 3))) + (tLks t₉ : Int))) + (tChs t₉ : Int))) + (tLps t₉ : Int)))] mv_X11_191 dX11_digest_79 (by omega) z101 (show CP E M_X11_toldOf 4 [vr E 94, vi 3] N σ ((tDep t₉ : Int)) from c_X11_toldOf E N σ r₉ u₉ kd pr yr yw yk yp hs tx tl t₉ xb xn xf q1₉ q2₉ q3₉ hN₉ hO0 hS0 3 (by omega)) rfl rfl (Nat.le_of_ble_eq_true rfl) (by decide) ⟨Nat.zero_le _, Nat.zero_le _⟩ ?_
                                        refine go_i2l (pc := 82) hF dX11_digest_82 (by omega) ?_
                                        refine go_ladd (pc := 83) hF dX11_digest_83 ?_
                                        refine go_lstore_n (pc := 84) hF [(1, vl ((31 * ((31 * ((31 * ((31 * ((31 * ((31 * ((31 * ((31 * ((31 * ((31 * ((31 * ((31 * ((31 * ((31 * ((31 * (61969 + xb)) + xn)) + xf)) + tl)) + u₉)) + kd)) + pr)) + (mLong r₉))) + hs)) + (nw 1))) + (nw 2))) + (nw 3))) + (tLks t₉ : Int))) + (tChs t₉ : Int))) + (tLps t₉ : Int))) + (tDep t₉ : Int))), (3, vi 3), (0, vr E 94)] dX11_digest_84 rfl (by decide) ?_
                                        refine go_iinc (pc := 85) hF [(3, vi 4), (1, vl ((31 * ((31 * ((31 * ((31 * ((31 * ((31 * ((31 * ((31 * ((31 * ((31 * ((31 * ((31 * ((31 * ((31 * ((31 * (61969 + xb)) + xn)) + xf)) + tl)) + u₉)) + kd)) + pr)) + (mLong r₉))) + hs)) + (nw 1))) + (nw 2))) + (nw 3))) + (tLks t₉ : Int))) + (tChs t₉ : Int))) + (tLps t₉ : Int))) + (tDep t₉ : Int))), (0, vr E 94)] dX11_digest_85 1 rfl rfl (by decide) ?_
                                        refine go_goto (pc := 88) hF 67 dX11_digest_88 (by decide) ?_
                                        refine go_iload_n (pc := 67) hF dX11_digest_67 0 rfl ?_
                                        refine go_iconst (pc := 68) hF dX11_digest_68 ?_
                                        refine go_icmp_ge (pc := 69) hF 91 dX11_digest_69 (by decide) ⟨by decide, by decide⟩ ⟨by decide, by decide⟩ (fun bq69 => ?_) (fun bq69 => ?_)
                                        · exact absurd bq69 (by decide)
                                        · refine go_ldc2 (pc := 72) hF kc_X11_322 dX11_digest_72 ?_
                                          refine go_lload_n (pc := 75) hF dX11_digest_75 1 rfl ?_
                                          refine go_lmul (pc := 76) hF dX11_digest_76 ?_
                                          refine go_aload_n (pc := 77) hF dX11_digest_77 2 rfl ?_
                                          refine go_iload_n (pc := 78) hF dX11_digest_78 0 rfl ?_
                                          refine go_callVP (pc := 79) hF [vi 4] [vl (31 * ((31 * ((31 * ((31 * ((31 * ((31 * ((31 * ((31 * ((31 * ((31 * ((31 * ((31 * ((31 * ((31 * ((31 * ((31 * (61969 + xb)) + xn)) + xf)) + tl)) + u₉)) + kd)) + pr)) + (mLong r₉))) + hs)) + (nw 1))) + (nw 2))) + (nw 3))) + (tLks t₉ : Int))) + (tChs t₉ : Int))) + (tLps t₉ : Int))) + (tDep t₉ : Int)))] mv_X11_191 dX11_digest_79 (by omega) z101 (show CP E M_X11_toldOf 4 [vr E 94, vi 4] N σ (tMsk t₉ 0) from c_X11_toldOf E N σ r₉ u₉ kd pr yr yw yk yp hs tx tl t₉ xb xn xf q1₉ q2₉ q3₉ hN₉ hO0 hS0 4 (by omega)) rfl rfl (Nat.le_of_ble_eq_true rfl) (by decide) ⟨Nat.zero_le _, Nat.zero_le _⟩ ?_
                                          refine go_i2l (pc := 82) hF dX11_digest_82 (by omega) ?_
                                          refine go_ladd (pc := 83) hF dX11_digest_83 ?_
                                          refine go_lstore_n (pc := 84) hF [(1, vl ((31 * ((31 * ((31 * ((31 * ((31 * ((31 * ((31 * ((31 * ((31 * ((31 * ((31 * ((31 * ((31 * ((31 * ((31 * ((31 * (61969 + xb)) + xn)) + xf)) + tl)) + u₉)) + kd)) + pr)) + (mLong r₉))) + hs)) + (nw 1))) + (nw 2))) + (nw 3))) + (tLks t₉ : Int))) + (tChs t₉ : Int))) + (tLps t₉ : Int))) + (tDep t₉ : Int))) + (tMsk t₉ 0))), (3, vi 4), (0, vr E 94)] dX11_digest_84 rfl (by decide) ?_
                                          refine go_iinc (pc := 85) hF [(3, vi 5), (1, vl ((31 * ((31 * ((31 * ((31 * ((31 * ((31 * ((31 * ((31 * ((31 * ((31 * ((31 * ((31 * ((31 * ((31 * ((31 * ((31 * (61969 + xb)) + xn)) + xf)) + tl)) + u₉)) + kd)) + pr)) + (mLong r₉))) + hs)) + (nw 1))) + (nw 2))) + (nw 3))) + (tLks t₉ : Int))) + (tChs t₉ : Int))) + (tLps t₉ : Int))) + (tDep t₉ : Int))) + (tMsk t₉ 0))), (0, vr E 94)] dX11_digest_85 1 rfl rfl (by decide) ?_
                                          refine go_goto (pc := 88) hF 67 dX11_digest_88 (by decide) ?_
                                          refine go_iload_n (pc := 67) hF dX11_digest_67 0 rfl ?_
                                          refine go_iconst (pc := 68) hF dX11_digest_68 ?_
                                          refine go_icmp_ge (pc := 69) hF 91 dX11_digest_69 (by decide) ⟨by decide, by decide⟩ ⟨by decide, by decide⟩ (fun bq69 => ?_) (fun bq69 => ?_)
                                          · refine go_iconst (pc := 91) hF dX11_digest_91 ?_
                                            refine go_istore_n (pc := 92) hF [(3, vi 0), (1, vl ((31 * ((31 * ((31 * ((31 * ((31 * ((31 * ((31 * ((31 * ((31 * ((31 * ((31 * ((31 * ((31 * ((31 * ((31 * ((31 * (61969 + xb)) + xn)) + xf)) + tl)) + u₉)) + kd)) + pr)) + (mLong r₉))) + hs)) + (nw 1))) + (nw 2))) + (nw 3))) + (tLks t₉ : Int))) + (tChs t₉ : Int))) + (tLps t₉ : Int))) + (tDep t₉ : Int))) + (tMsk t₉ 0))), (0, vr E 94)] dX11_digest_92 rfl (by decide) ?_
                                            refine go_iload_n (pc := 93) hF dX11_digest_93 0 rfl ?_
                                            refine go_iconst (pc := 94) hF dX11_digest_94 ?_
                                            refine go_icmp_ge (pc := 95) hF 118 dX11_digest_95 (by decide) ⟨by decide, by decide⟩ ⟨by decide, by decide⟩ (fun bq95 => ?_) (fun bq95 => ?_)
                                            · exact absurd bq95 (by decide)
                                            · refine go_ldc2 (pc := 98) hF kc_X11_322 dX11_digest_98 ?_
                                              refine go_lload_n (pc := 101) hF dX11_digest_101 1 rfl ?_
                                              refine go_lmul (pc := 102) hF dX11_digest_102 ?_
                                              refine go_aload_n (pc := 103) hF dX11_digest_103 2 rfl ?_
                                              refine go_get (pc := 104) hF fl_X11_84 dX11_digest_104 (by omega) z101 rfl ?_
                                              refine go_iload_n (pc := 107) hF dX11_digest_107 0 rfl ?_
                                              refine go_iald (pc := 108) hF dX11_digest_108 (by omega) z126 (by omega)  ?_
                                              refine go_i2l (pc := 109) hF dX11_digest_109 (by omega) ?_
                                              refine go_ladd (pc := 110) hF dX11_digest_110 ?_
                                              refine go_lstore_n (pc := 111) hF [(1, vl ((31 * ((31 * ((31 * ((31 * ((31 * ((31 * ((31 * ((31 * ((31 * ((31 * ((31 * ((31 * ((31 * ((31 * ((31 * ((31 * ((31 * (61969 + xb)) + xn)) + xf)) + tl)) + u₉)) + kd)) + pr)) + (mLong r₉))) + hs)) + (nw 1))) + (nw 2))) + (nw 3))) + (tLks t₉ : Int))) + (tChs t₉ : Int))) + (tLps t₉ : Int))) + (tDep t₉ : Int))) + (tMsk t₉ 0))) + (rr 0))), (3, vi 0), (0, vr E 94)] dX11_digest_111 rfl (by decide) ?_
                                              refine go_iinc (pc := 112) hF [(3, vi 1), (1, vl ((31 * ((31 * ((31 * ((31 * ((31 * ((31 * ((31 * ((31 * ((31 * ((31 * ((31 * ((31 * ((31 * ((31 * ((31 * ((31 * ((31 * (61969 + xb)) + xn)) + xf)) + tl)) + u₉)) + kd)) + pr)) + (mLong r₉))) + hs)) + (nw 1))) + (nw 2))) + (nw 3))) + (tLks t₉ : Int))) + (tChs t₉ : Int))) + (tLps t₉ : Int))) + (tDep t₉ : Int))) + (tMsk t₉ 0))) + (rr 0))), (0, vr E 94)] dX11_digest_112 1 rfl rfl (by decide) ?_
                                              refine go_goto (pc := 115) hF 93 dX11_digest_115 (by decide) ?_
                                              refine go_iload_n (pc := 93) hF dX11_digest_93 0 rfl ?_
                                              refine go_iconst (pc := 94) hF dX11_digest_94 ?_
                                              refine go_icmp_ge (pc := 95) hF 118 dX11_digest_95 (by decide) ⟨by decide, by decide⟩ ⟨by decide, by decide⟩ (fun bq95 => ?_) (fun bq95 => ?_)
                                              · exact absurd bq95 (by decide)
                                              · refine go_ldc2 (pc := 98) hF kc_X11_322 dX11_digest_98 ?_
                                                refine go_lload_n (pc := 101) hF dX11_digest_101 1 rfl ?_
                                                refine go_lmul (pc := 102) hF dX11_digest_102 ?_
                                                refine go_aload_n (pc := 103) hF dX11_digest_103 2 rfl ?_
                                                refine go_get (pc := 104) hF fl_X11_84 dX11_digest_104 (by omega) z101 rfl ?_
                                                refine go_iload_n (pc := 107) hF dX11_digest_107 0 rfl ?_
                                                refine go_iald (pc := 108) hF dX11_digest_108 (by omega) z126 (by omega)  ?_
                                                refine go_i2l (pc := 109) hF dX11_digest_109 (by omega) ?_
                                                refine go_ladd (pc := 110) hF dX11_digest_110 ?_
                                                refine go_lstore_n (pc := 111) hF [(1, vl ((31 * ((31 * ((31 * ((31 * ((31 * ((31 * ((31 * ((31 * ((31 * ((31 * ((31 * ((31 * ((31 * ((31 * ((31 * ((31 * ((31 * ((31 * (61969 + xb)) + xn)) + xf)) + tl)) + u₉)) + kd)) + pr)) + (mLong r₉))) + hs)) + (nw 1))) + (nw 2))) + (nw 3))) + (tLks t₉ : Int))) + (tChs t₉ : Int))) + (tLps t₉ : Int))) + (tDep t₉ : Int))) + (tMsk t₉ 0))) + (rr 0))) + (rr 1))), (3, vi 1), (0, vr E 94)] dX11_digest_111 rfl (by decide) ?_
                                                refine go_iinc (pc := 112) hF [(3, vi 2), (1, vl ((31 * ((31 * ((31 * ((31 * ((31 * ((31 * ((31 * ((31 * ((31 * ((31 * ((31 * ((31 * ((31 * ((31 * ((31 * ((31 * ((31 * ((31 * (61969 + xb)) + xn)) + xf)) + tl)) + u₉)) + kd)) + pr)) + (mLong r₉))) + hs)) + (nw 1))) + (nw 2))) + (nw 3))) + (tLks t₉ : Int))) + (tChs t₉ : Int))) + (tLps t₉ : Int))) + (tDep t₉ : Int))) + (tMsk t₉ 0))) + (rr 0))) + (rr 1))), (0, vr E 94)] dX11_digest_112 1 rfl rfl (by decide) ?_
                                                refine go_goto (pc := 115) hF 93 dX11_digest_115 (by decide) ?_
                                                refine go_iload_n (pc := 93) hF dX11_digest_93 0 rfl ?_
                                                refine go_iconst (pc := 94) hF dX11_digest_94 ?_
                                                refine go_icmp_ge (pc := 95) hF 118 dX11_digest_95 (by decide) ⟨by decide, by decide⟩ ⟨by decide, by decide⟩ (fun bq95 => ?_) (fun bq95 => ?_)
                                                · exact absurd bq95 (by decide)
                                                · refine go_ldc2 (pc := 98) hF kc_X11_322 dX11_digest_98 ?_
                                                  refine go_lload_n (pc := 101) hF dX11_digest_101 1 rfl ?_
                                                  refine go_lmul (pc := 102) hF dX11_digest_102 ?_
                                                  refine go_aload_n (pc := 103) hF dX11_digest_103 2 rfl ?_
                                                  refine go_get (pc := 104) hF fl_X11_84 dX11_digest_104 (by omega) z101 rfl ?_
                                                  refine go_iload_n (pc := 107) hF dX11_digest_107 0 rfl ?_
                                                  refine go_iald (pc := 108) hF dX11_digest_108 (by omega) z126 (by omega)  ?_
                                                  refine go_i2l (pc := 109) hF dX11_digest_109 (by omega) ?_
                                                  refine go_ladd (pc := 110) hF dX11_digest_110 ?_
                                                  refine go_lstore_n (pc := 111) hF [(1, vl ((31 * ((31 * ((31 * ((31 * ((31 * ((31 * ((31 * ((31 * ((31 * ((31 * ((31 * ((31 * ((31 * ((31 * ((31 * ((31 * ((31 * ((31 * ((31 * (61969 + xb)) + xn)) + xf)) + tl)) + u₉)) + kd)) + pr)) + (mLong r₉))) + hs)) + (nw 1))) + (nw 2))) + (nw 3))) + (tLks t₉ : Int))) + (tChs t₉ : Int))) + (tLps t₉ : Int))) + (tDep t₉ : Int))) + (tMsk t₉ 0))) + (rr 0))) + (rr 1))) + (rr 2))), (3, vi 2), (0, vr E 94)] dX11_digest_111 rfl (by decide) ?_
                                                  refine go_iinc (pc := 112) hF [(3, vi 3), (1, vl ((31 * ((31 * ((31 * ((31 * ((31 * ((31 * ((31 * ((31 * ((31 * ((31 * ((31 * ((31 * ((31 * ((31 * ((31 * ((31 * ((31 * ((31 * ((31 * (61969 + xb)) + xn)) + xf)) + tl)) + u₉)) + kd)) + pr)) + (mLong r₉))) + hs)) + (nw 1))) + (nw 2))) + (nw 3))) + (tLks t₉ : Int))) + (tChs t₉ : Int))) + (tLps t₉ : Int))) + (tDep t₉ : Int))) + (tMsk t₉ 0))) + (rr 0))) + (rr 1))) + (rr 2))), (0, vr E 94)] dX11_digest_112 1 rfl rfl (by decide) ?_
                                                  refine go_goto (pc := 115) hF 93 dX11_digest_115 (by decide) ?_
                                                  refine go_iload_n (pc := 93) hF dX11_digest_93 0 rfl ?_
                                                  refine go_iconst (pc := 94) hF dX11_digest_94 ?_
                                                  refine go_icmp_ge (pc := 95) hF 118 dX11_digest_95 (by decide) ⟨by decide, by decide⟩ ⟨by decide, by decide⟩ (fun bq95 => ?_) (fun bq95 => ?_)
                                                  · refine go_lload_n (pc := 118) hF dX11_digest_118 1 rfl ?_
                                                    refine go_lretQ hF hr hlk hQ dX11_digest_119 ⟨?_, hS0, fun _ _ => rfl⟩
                                                    unfold dgS dgL
                                                    rw [if_neg (by omega), if_neg (by omega), if_neg (by omega), show nw 1 = mAt r₉ 0 from e1₉, show nw 2 = mAt r₉ 1 from e2₉, show nw 3 = mAt r₉ 2 from e3₉]
                                                    rw [hrr.1, hrr.2.1, hrr.2.2]
                                                    rfl
                                                  · exact absurd bq95 (by decide)
                                          · exact absurd bq69 (by decide)
                              · exact absurd bq40 (by omega)
                    · exact absurd bq9 (by decide)
