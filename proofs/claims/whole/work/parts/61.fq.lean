/-! The reference₉: a₉ text₉ that is₉ being read₉. -/
/-- the signs alone₉ tell₉ a₉ tree -/
def SGT (sn : Int → Int) : Tr → Int → Prop
  | .append (.nest c .nil) r₉, o => sn o = c ∧ SGT sn r₉ (o + 1)
  | .append (.append a₉ b₉) r₉, o => (sn o = 40 ∧ sn (o + 1 + tLen a₉) = 124 ∧ sn (o + 2 + tLen a₉ + tLen b₉) = 41) ∧ SGT sn a₉ (o + 1) ∧ SGT sn b₉ (o + 2 + tLen a₉) ∧ SGT sn r₉ (o + 3 + tLen a₉ + tLen b₉)
  | .append (.tag n₉ a₉) r₉, o => (sn o = 48 + n₉ ∧ sn (o + 1 + tLen a₉) = 93) ∧ SGT sn a₉ (o + 1) ∧ SGT sn r₉ (o + 2 + tLen a₉)
  | _, _ => True
theorem SGT_ext {sn sn' : Int → Int} : ∀ t₉, wf t₉ → ∀ o : Int, (∀ z₉ : Int, o ≤ z₉ → z₉ < o + tLen t₉ → sn' z₉ = sn z₉) → SGT sn t₉ o → SGT sn' t₉ o := by
  refine tInd (fun o _ h => h) (fun c r₉ _ _ ih₉ o h1 h => ?_) (fun a₉ b₉ r₉ _ _ _ iha ihb ih₉ o h1 h => ?_) (fun n₉ a₉ r₉ _ _ _ iha ih₉ o h1 h => ?_)
  · have eL : tLen (.append (.nest c .nil) r₉) = 1 + tLen r₉ := rfl
    rw [eL] at h1
    exact ⟨by rw [h1 o (by omega) (by omega)]; exact h.1, ih₉ _ (fun z₉ z0 z1 => h1 z₉ (by omega) (by omega)) h.2⟩
  · have eL : tLen (.append (.append a₉ b₉) r₉) = 3 + tLen a₉ + tLen b₉ + tLen r₉ := rfl
    rw [eL] at h1
    obtain ⟨⟨k1₉, k2₉, k3₉⟩, ha₉, hb₉, hr⟩ := h
    exact ⟨⟨by rw [h1 _ (by omega) (by omega)]; exact k1₉, by rw [h1 _ (by omega) (by omega)]; exact k2₉, by rw [h1 _ (by omega) (by omega)]; exact k3₉⟩, iha _ (fun z₉ z0 z1 => h1 z₉ (by omega) (by omega)) ha₉, ihb _ (fun z₉ z0 z1 => h1 z₉ (by omega) (by omega)) hb₉, ih₉ _ (fun z₉ z0 z1 => h1 z₉ (by omega) (by omega)) hr⟩
  · have eL : tLen (.append (.tag n₉ a₉) r₉) = 2 + tLen a₉ + tLen r₉ := rfl
    rw [eL] at h1
    obtain ⟨⟨k1₉, k2₉⟩, ha₉, hr⟩ := h
    exact ⟨⟨by rw [h1 _ (by omega) (by omega)]; exact k1₉, by rw [h1 _ (by omega) (by omega)]; exact k2₉⟩, iha _ (fun z₉ z0 z1 => h1 z₉ (by omega) (by omega)) ha₉, ih₉ _ (fun z₉ z0 z1 => h1 z₉ (by omega) (by omega)) hr⟩
theorem SGT_sn {sn : Int → Int} : ∀ t₉, wf t₉ → ∀ q₉ o, SGT sn t₉ o → SGT sn (.append q₉ .nil) (o + tLen t₉) → SGT sn (tSn t₉ q₉) o := by
  refine tInd (fun q₉ o _ h => ?_) (fun c r₉ _ _ ih₉ q₉ o h1 h => ?_) (fun a₉ b₉ r₉ _ _ _ _ _ ih₉ q₉ o h1 h => ?_) (fun n₉ a₉ r₉ _ _ _ _ ih₉ q₉ o h1 h => ?_)
  · have h : SGT sn (.append q₉ .nil) (o + ((0 : Nat) : Int)) := h
    rw [show o + ((0 : Nat) : Int) = o by omega] at h
    exact h
  · refine ⟨h1.1, ih₉ q₉ _ h1.2 ?_⟩
    rw [show o + ((tLen (.append (.nest c .nil) r₉) : Nat) : Int) = o + 1 + tLen r₉ by show o + ((1 + tLen r₉ : Nat) : Int) = _; omega] at h
    exact h
  · refine ⟨h1.1, h1.2.1, h1.2.2.1, ih₉ q₉ _ h1.2.2.2 ?_⟩
    rw [show o + ((tLen (.append (.append a₉ b₉) r₉) : Nat) : Int) = o + 3 + tLen a₉ + tLen b₉ + tLen r₉ by show o + ((3 + tLen a₉ + tLen b₉ + tLen r₉ : Nat) : Int) = _; omega] at h
    exact h
  · refine ⟨h1.1, h1.2.1, ih₉ q₉ _ h1.2.2 ?_⟩
    rw [show o + ((tLen (.append (.tag n₉ a₉) r₉) : Nat) : Int) = o + 2 + tLen a₉ + tLen r₉ by show o + ((2 + tLen a₉ + tLen r₉ : Nat) : Int) = _; omega] at h
    exact h
def zM (sn : Int → Int) : Zs → Prop
  | [] => True
  | f₉ :: s => SGT sn f₉.1 (zO s) ∧ (f₉.2.1 ≤ 0 → sn (zO s + tLen f₉.1) = 40) ∧ (f₉.2.1 = -1 → SGT sn f₉.2.2 (zO s + tLen f₉.1 + 1) ∧ sn (zO s + tLen f₉.1 + 1 + tLen f₉.2.2) = 124) ∧ (1 ≤ f₉.2.1 → sn (zO s + tLen f₉.1) = 48 + f₉.2.1) ∧ zM sn s
theorem zM_ext {sn sn' : Int → Int} : ∀ s : Zs, zW s → (∀ z₉ : Int, z₉ < zO s → sn' z₉ = sn z₉) → zM sn s → zM sn' s
  | [], _, _, _ => trivial
  | f₉ :: s, hW, h1, h => by
    have eO : zO (f₉ :: s) = zO s + tLen f₉.1 + 1 + (if f₉.2.1 = -1 then 1 + (tLen f₉.2.2 : Int) else 0) := rfl
    have h0 := zO_rg s
    rw [eO] at h1
    have hle : zO s + tLen f₉.1 + 1 ≤ zO s + tLen f₉.1 + 1 + (if f₉.2.1 = -1 then 1 + (tLen f₉.2.2 : Int) else 0) := by split <;> omega
    refine ⟨SGT_ext _ hW.1 _ (fun z₉ z0 z1 => h1 z₉ (by omega)) h.1, fun e => by rw [h1 _ (by omega)]; exact h.2.1 e, fun e => ?_, fun e => by rw [h1 _ (by omega)]; exact h.2.2.2.1 e, zM_ext s hW.2.2.2 (fun z₉ z1 => h1 z₉ (by omega)) h.2.2.2.2⟩
    rw [if_pos e] at h1
    exact ⟨SGT_ext _ hW.2.1 _ (fun z₉ z0 z1 => h1 z₉ (by omega)) (h.2.2.1 e).1, by rw [h1 _ (by omega)]; exact (h.2.2.1 e).2⟩
def zF (op₉ ib : Int → Int) : Zs → Prop
  | [] => True
  | f₉ :: s => (f₉.2.1 ≤ 0 → op₉ s.length = 40 ∧ ib s.length = if f₉.2.1 = -1 then 1 else 0) ∧ (1 ≤ f₉.2.1 → op₉ s.length = 48 + f₉.2.1) ∧ zF op₉ ib s
theorem zF_ext {op₉ ib op' ib' : Int → Int} : ∀ s : Zs, (∀ z₉ : Int, 0 ≤ z₉ → z₉ < s.length → op' z₉ = op₉ z₉ ∧ ib' z₉ = ib z₉) → zF op₉ ib s → zF op' ib' s
  | [], _, _ => trivial
  | f₉ :: s, h1, h => by
    have eN₉ : (f₉ :: s).length = s.length + 1 := rfl
    rw [eN₉] at h1
    have g₉ := h1 s.length (by omega) (by omega)
    exact ⟨fun e => by rw [g₉.1, g₉.2]; exact h.1 e, fun e => by rw [g₉.1]; exact h.2.1 e, zF_ext s (fun z₉ z0 z1 => h1 z₉ z0 (by omega)) h.2.2⟩
def FQ (rs op₉ ib : Int → Int) (dp lk₉ rz : Int) (s : Zs) (u₉ : Tr) (fg : Int) : Prop := (zW s ∧ wf u₉) ∧ (dp = s.length + (if fg = 0 then 0 else 1) ∧ dp ≤ 3) ∧ (lk₉ = zK s + tLks u₉ ∧ lk₉ ≤ 24) ∧ (0 ≤ fg ∧ fg ≤ 9) ∧ rz = zO s + tLen u₉ + (if fg = 0 then 0 else 1) ∧ zM rs s ∧ SGT rs u₉ (zO s) ∧ (fg ≠ 0 → rs (zO s + tLen u₉) = 48 + fg ∧ op₉ s.length = 48 + fg) ∧ zF op₉ ib s
theorem FQ.rz0 {rs op₉ ib : Int → Int} {dp lk₉ rz : Int} {s : Zs} {u₉ : Tr} {fg : Int} (h : FQ rs op₉ ib dp lk₉ rz s u₉ fg) : 0 ≤ rz := by
  have h0 := zO_rg s
  have h1 := h.2.2.2.2.1
  split at h1 <;> omega
theorem FQ.add {rs op₉ ib : Int → Int} {dp lk₉ rz c : Int} {s : Zs} {u₉ : Tr} (h : FQ rs op₉ ib dp lk₉ rz s u₉ 0) (hc₉ : okc c) (hl : lk₉ + (if c = 46 then 0 else 1) ≤ 24) : FQ (up rs rz c) op₉ ib dp (lk₉ + if c = 46 then 0 else 1) (rz + 1) s (tSn u₉ (.nest c .nil)) 0 := by
  obtain ⟨⟨hW, hu⟩, hd₉, hk, hf, hz, hm₉, hs, -, hF⟩ := h
  rw [if_pos rfl] at hd₉ hz
  have h0 := zO_rg s
  have eL := tLen_sn u₉ hu (.nest c .nil)
  have eK := tLks_sn u₉ hu (.nest c .nil)
  have e1₉ : tLen (.append (.nest c .nil) .nil) = 1 := rfl
  have e2₉ : tLks (.append (.nest c .nil) .nil) = (if c = 46 then 0 else 1) + 0 := rfl
  refine ⟨⟨hW, wf_sn u₉ hu _ ⟨hc₉, trivial⟩⟩, ⟨by rw [if_pos rfl]; exact hd₉.1, hd₉.2⟩, ⟨?_, hl⟩, hf, ?_, zM_ext s hW (fun z₉ z1 => up_ne _ _ (by omega)) hm₉, ?_, fun e => absurd rfl e, hF⟩
  · rw [eK, e2₉]
    by_cases e : c = 46
    · rw [if_pos e, if_pos e]; omega
    · rw [if_neg e, if_neg e]; omega
  · rw [if_pos rfl, eL, e1₉]; omega
  · refine SGT_sn u₉ hu _ _ (SGT_ext u₉ hu _ (fun z₉ z0 z1 => up_ne _ _ (by omega)) hs) ⟨?_, trivial⟩
    rw [show zO s + (tLen u₉ : Int) = rz by omega, up_self]
theorem FQ.opn {rs op₉ ib : Int → Int} {dp lk₉ rz : Int} {s : Zs} {u₉ : Tr} (h : FQ rs op₉ ib dp lk₉ rz s u₉ 0) (h3 : dp < 3) : FQ (up rs rz 40) (up op₉ dp 40) (up ib dp 0) (dp + 1) lk₉ (rz + 1) ((u₉, 0, .nil) :: s) .nil 0 := by
  obtain ⟨⟨hW, hu⟩, hd₉, hk, hf, hz, hm₉, hs, -, hF⟩ := h
  rw [if_pos rfl] at hd₉ hz
  have h0 := zO_rg s
  have hd1 : dp = s.length := by omega
  have eO : zO ((u₉, 0, .nil) :: s) = zO s + tLen u₉ + 1 + 0 := rfl
  have eK : zK ((u₉, 0, .nil) :: s) = zK s + tLks u₉ + 0 := rfl
  have eN₉ : ((u₉, 0, .nil) :: s : Zs).length = s.length + 1 := rfl
  have e1₉ : tLen .nil = 0 := rfl
  have e2₉ : tLks .nil = 0 := rfl
  refine ⟨⟨⟨hu, trivial, by show (-1 : Int) ≤ 0 ∧ (0 : Int) ≤ 9; omega, hW⟩, trivial⟩, ⟨by rw [if_pos rfl, eN₉]; omega, by omega⟩, ⟨by rw [eK, e2₉]; omega, hk.2⟩, hf, by rw [if_pos rfl, eO, e1₉]; omega, ⟨SGT_ext u₉ hu _ (fun z₉ z0 z1 => up_ne _ _ (by omega)) hs, fun _ => by show up rs rz 40 (zO s + tLen u₉) = 40; rw [show zO s + (tLen u₉ : Int) = rz by omega, up_self], fun e => absurd (show (0 : Int) = -1 from e) (by decide), fun e => absurd (show (1 : Int) ≤ 0 from e) (by decide), zM_ext s hW (fun z₉ z1 => up_ne _ _ (by omega)) hm₉⟩, trivial, fun e => absurd rfl e, ⟨fun _ => ⟨by rw [← hd1, up_self], by rw [← hd1, up_self]; rfl⟩, fun e => absurd (show (1 : Int) ≤ 0 from e) (by decide), zF_ext s (fun z₉ z0 z1 => ⟨up_ne _ _ (by omega), up_ne _ _ (by omega)⟩) hF⟩⟩
theorem FQ.fig {rs op₉ ib : Int → Int} {dp lk₉ rz c : Int} {s : Zs} {u₉ : Tr} (h : FQ rs op₉ ib dp lk₉ rz s u₉ 0) (h3 : dp < 3) (hc₉ : 49 ≤ c ∧ c ≤ 57) : FQ (up rs rz c) (up op₉ dp c) (up ib dp 0) (dp + 1) lk₉ (rz + 1) s u₉ (c - 48) := by
  obtain ⟨⟨hW, hu⟩, hd₉, hk, hf, hz, hm₉, hs, -, hF⟩ := h
  rw [if_pos rfl] at hd₉ hz
  have h0 := zO_rg s
  have hd1 : dp = s.length := by omega
  refine ⟨⟨hW, hu⟩, ⟨by rw [if_neg (by omega)]; omega, by omega⟩, hk, by omega, by rw [if_neg (by omega)]; omega, zM_ext s hW (fun z₉ z1 => up_ne _ _ (by omega)) hm₉, SGT_ext u₉ hu _ (fun z₉ z0 z1 => up_ne _ _ (by omega)) hs, fun _ => ⟨by rw [show zO s + (tLen u₉ : Int) = rz by omega, up_self]; omega, by rw [← hd1, up_self]; omega⟩, zF_ext s (fun z₉ z0 z1 => ⟨up_ne _ _ (by omega), up_ne _ _ (by omega)⟩) hF⟩
theorem FQ.f91 {rs op₉ ib : Int → Int} {dp lk₉ rz fg : Int} {s : Zs} {u₉ : Tr} (h : FQ rs op₉ ib dp lk₉ rz s u₉ fg) (hg : fg ≠ 0) : FQ rs op₉ ib dp lk₉ rz ((u₉, fg, .nil) :: s) .nil 0 := by
  obtain ⟨⟨hW, hu⟩, hd₉, hk, hf, hz, hm₉, hs, hp, hF⟩ := h
  rw [if_neg hg] at hd₉ hz
  have h0 := zO_rg s
  have eO : zO ((u₉, fg, .nil) :: s) = zO s + tLen u₉ + 1 + (if fg = -1 then 1 + ((tLen .nil : Nat) : Int) else 0) := rfl
  have eK : zK ((u₉, fg, .nil) :: s) = zK s + tLks u₉ + (if fg = -1 then ((tLks .nil : Nat) : Int) else 0) := rfl
  have eN₉ : ((u₉, fg, .nil) :: s : Zs).length = s.length + 1 := rfl
  rw [if_neg (by omega)] at eO eK
  have e1₉ : tLen .nil = 0 := rfl
  have e2₉ : tLks .nil = 0 := rfl
  have hp := hp hg
  refine ⟨⟨⟨hu, trivial, by show (-1 : Int) ≤ fg ∧ fg ≤ 9; omega, hW⟩, trivial⟩, ⟨by rw [if_pos rfl, eN₉]; omega, hd₉.2⟩, ⟨by rw [eK, e2₉]; omega, hk.2⟩, by omega, by rw [if_pos rfl, eO, e1₉]; omega, ⟨hs, fun e => absurd (show fg ≤ 0 from e) (by omega), fun e => absurd (show fg = -1 from e) (by omega), fun _ => hp.1, hm₉⟩, trivial, fun e => absurd rfl e, ⟨fun e => absurd (show fg ≤ 0 from e) (by omega), fun _ => hp.2, hF⟩⟩
theorem FQ.bar {rs op₉ ib : Int → Int} {dp lk₉ rz : Int} {f₉ : Zf} {s : Zs} {u₉ : Tr} (h : FQ rs op₉ ib dp lk₉ rz (f₉ :: s) u₉ 0) (hf0 : f₉.2.1 = 0) : FQ (up rs rz 124) op₉ (up ib (dp - 1) 1) dp lk₉ (rz + 1) ((f₉.1, -1, u₉) :: s) .nil 0 := by
  obtain ⟨⟨hW, hu⟩, hd₉, hk, hf, hz, hm₉, hs, -, hF⟩ := h
  rw [if_pos rfl] at hd₉ hz
  have h0 := zO_rg s
  have eO1 : zO (f₉ :: s) = zO s + tLen f₉.1 + 1 + (if f₉.2.1 = -1 then 1 + (tLen f₉.2.2 : Int) else 0) := rfl
  have eK1 : zK (f₉ :: s) = zK s + tLks f₉.1 + (if f₉.2.1 = -1 then (tLks f₉.2.2 : Int) else 0) := rfl
  rw [if_neg (by omega)] at eO1 eK1
  have eN1 : (f₉ :: s).length = s.length + 1 := rfl
  have eO : zO ((f₉.1, -1, u₉) :: s) = zO s + tLen f₉.1 + 1 + (1 + (tLen u₉ : Int)) := rfl
  have eK : zK ((f₉.1, -1, u₉) :: s) = zK s + tLks f₉.1 + (tLks u₉ : Int) := rfl
  have eN₉ : ((f₉.1, -1, u₉) :: s : Zs).length = s.length + 1 := rfl
  have e1₉ : tLen .nil = 0 := rfl
  have e2₉ : tLks .nil = 0 := rfl
  rw [eO1] at hz hs
  rw [eK1] at hk
  rw [eN1] at hd₉
  refine ⟨⟨⟨hW.1, hu, by show (-1 : Int) ≤ -1 ∧ (-1 : Int) ≤ 9; omega, hW.2.2.2⟩, trivial⟩, ⟨by rw [if_pos rfl, eN₉]; omega, hd₉.2⟩, ⟨by rw [eK, e2₉]; omega, hk.2⟩, hf, by rw [if_pos rfl, eO, e1₉]; omega, ⟨SGT_ext _ hW.1 _ (fun z₉ z0 z1 => up_ne _ _ (by omega)) hm₉.1, fun _ => by rw [up_ne _ _ (by show zO s + (tLen f₉.1 : Int) ≠ rz; omega)]; exact hm₉.2.1 (by omega), fun _ => ⟨SGT_ext u₉ hu _ (fun z₉ z0 z1 => up_ne _ _ (by have z1 : z₉ < zO s + tLen f₉.1 + 1 + tLen u₉ := z1; omega)) (by rw [Int.add_zero] at hs; exact hs), by show up rs rz 124 (zO s + tLen f₉.1 + 1 + tLen u₉) = 124; rw [show zO s + (tLen f₉.1 : Int) + 1 + tLen u₉ = rz by omega, up_self]⟩, fun e => absurd (show (1 : Int) ≤ -1 from e) (by decide), zM_ext s hW.2.2.2 (fun z₉ z1 => up_ne _ _ (by omega)) hm₉.2.2.2.2⟩, trivial, fun e => absurd rfl e, ⟨fun _ => ⟨(hF.1 (by omega)).1, by rw [show ((s.length : Nat) : Int) = dp - 1 by omega, up_self]; rfl⟩, fun e => absurd (show (1 : Int) ≤ -1 from e) (by decide), zF_ext s (fun z₉ z0 z1 => ⟨rfl, up_ne _ _ (by omega)⟩) hF.2.2⟩⟩
theorem FQ.clo {rs op₉ ib : Int → Int} {dp lk₉ rz : Int} {f₉ : Zf} {s : Zs} {u₉ : Tr} (h : FQ rs op₉ ib dp lk₉ rz (f₉ :: s) u₉ 0) (hf0 : f₉.2.1 = -1) : FQ (up rs rz 41) op₉ ib (dp - 1) lk₉ (rz + 1) s (tSn f₉.1 (.append f₉.2.2 u₉)) 0 := by
  obtain ⟨⟨hW, hu⟩, hd₉, hk, hf, hz, hm₉, hs, -, hF⟩ := h
  rw [if_pos rfl] at hd₉ hz
  have h0 := zO_rg s
  have eO1 : zO (f₉ :: s) = zO s + tLen f₉.1 + 1 + (if f₉.2.1 = -1 then 1 + (tLen f₉.2.2 : Int) else 0) := rfl
  have eK1 : zK (f₉ :: s) = zK s + tLks f₉.1 + (if f₉.2.1 = -1 then (tLks f₉.2.2 : Int) else 0) := rfl
  rw [if_pos hf0] at eO1 eK1
  have eN1 : (f₉ :: s).length = s.length + 1 := rfl
  have eL := tLen_sn f₉.1 hW.1 (.append f₉.2.2 u₉)
  have eK := tLks_sn f₉.1 hW.1 (.append f₉.2.2 u₉)
  have e1₉ : tLen (.append (.append f₉.2.2 u₉) .nil) = 3 + tLen f₉.2.2 + tLen u₉ + 0 := rfl
  have e2₉ : tLks (.append (.append f₉.2.2 u₉) .nil) = tLks f₉.2.2 + tLks u₉ + 0 := rfl
  rw [eO1] at hz hs
  rw [eK1] at hk
  rw [eN1] at hd₉
  have hm3 := hm₉.2.2.1 hf0
  have hm2 := hm₉.2.1 (by omega)
  refine ⟨⟨hW.2.2.2, wf_sn f₉.1 hW.1 _ ⟨hW.2.1, hu, trivial⟩⟩, ⟨by rw [if_pos rfl]; omega, by omega⟩, ⟨by rw [eK, e2₉]; omega, hk.2⟩, hf, by rw [if_pos rfl, eL, e1₉]; omega, zM_ext s hW.2.2.2 (fun z₉ z1 => up_ne _ _ (by omega)) hm₉.2.2.2.2, ?_, fun e => absurd rfl e, hF.2.2⟩
  refine SGT_sn f₉.1 hW.1 _ _ (SGT_ext _ hW.1 _ (fun z₉ z0 z1 => up_ne _ _ (by omega)) hm₉.1) ⟨⟨?_, ?_, ?_⟩, ?_, ?_, trivial⟩
  · rw [up_ne _ _ (by omega)]; exact hm2
  · rw [up_ne _ _ (by omega)]; exact hm3.2
  · rw [show zO s + (tLen f₉.1 : Int) + 2 + tLen f₉.2.2 + tLen u₉ = rz by omega, up_self]
  · exact SGT_ext _ hW.2.1 _ (fun z₉ z0 z1 => up_ne _ _ (by omega)) hm3.1
  · exact SGT_ext u₉ hu _ (fun z₉ z0 z1 => up_ne _ _ (by omega)) (by rw [show zO s + (tLen f₉.1 : Int) + 2 + tLen f₉.2.2 = zO s + tLen f₉.1 + 1 + (1 + tLen f₉.2.2) by omega]; exact hs)
theorem FQ.bak {rs op₉ ib : Int → Int} {dp lk₉ rz : Int} {f₉ : Zf} {s : Zs} {u₉ : Tr} (h : FQ rs op₉ ib dp lk₉ rz (f₉ :: s) u₉ 0) (hf0 : 1 ≤ f₉.2.1) : FQ (up rs rz 93) op₉ ib (dp - 1) lk₉ (rz + 1) s (tSn f₉.1 (.tag f₉.2.1.toNat u₉)) 0 := by
  obtain ⟨⟨hW, hu⟩, hd₉, hk, hf, hz, hm₉, hs, -, hF⟩ := h
  rw [if_pos rfl] at hd₉ hz
  have h0 := zO_rg s
  have hW3 := hW.2.2.1
  have eO1 : zO (f₉ :: s) = zO s + tLen f₉.1 + 1 + (if f₉.2.1 = -1 then 1 + (tLen f₉.2.2 : Int) else 0) := rfl
  have eK1 : zK (f₉ :: s) = zK s + tLks f₉.1 + (if f₉.2.1 = -1 then (tLks f₉.2.2 : Int) else 0) := rfl
  rw [if_neg (by omega)] at eO1 eK1
  have eN1 : (f₉ :: s).length = s.length + 1 := rfl
  have eL := tLen_sn f₉.1 hW.1 (.tag f₉.2.1.toNat u₉)
  have eK := tLks_sn f₉.1 hW.1 (.tag f₉.2.1.toNat u₉)
  have e1₉ : tLen (.append (.tag f₉.2.1.toNat u₉) .nil) = 2 + tLen u₉ + 0 := rfl
  have e2₉ : tLks (.append (.tag f₉.2.1.toNat u₉) .nil) = tLks u₉ + 0 := rfl
  rw [eO1] at hz hs
  rw [eK1] at hk
  rw [eN1] at hd₉
  have hm4 := hm₉.2.2.2.1 hf0
  refine ⟨⟨hW.2.2.2, wf_sn f₉.1 hW.1 _ ⟨by show 1 ≤ f₉.2.1.toNat ∧ f₉.2.1.toNat ≤ 9; omega, hu, trivial⟩⟩, ⟨by rw [if_pos rfl]; omega, by omega⟩, ⟨by rw [eK, e2₉]; omega, hk.2⟩, hf, by rw [if_pos rfl, eL, e1₉]; omega, zM_ext s hW.2.2.2 (fun z₉ z1 => up_ne _ _ (by omega)) hm₉.2.2.2.2, ?_, fun e => absurd rfl e, hF.2.2⟩
  refine SGT_sn f₉.1 hW.1 _ _ (SGT_ext _ hW.1 _ (fun z₉ z0 z1 => up_ne _ _ (by omega)) hm₉.1) ⟨⟨?_, ?_⟩, ?_, trivial⟩
  · rw [up_ne _ _ (by omega), hm4]; omega
  · rw [show zO s + (tLen f₉.1 : Int) + 1 + tLen u₉ = rz by omega, up_self]
  · exact SGT_ext u₉ hu _ (fun z₉ z0 z1 => up_ne _ _ (by omega)) (by rw [Int.add_zero] at hs; exact hs)
theorem FQ.top {rs op₉ ib : Int → Int} {dp lk₉ rz : Int} {f₉ : Zf} {s : Zs} {u₉ : Tr} (h : FQ rs op₉ ib dp lk₉ rz (f₉ :: s) u₉ 0) : 0 < dp ∧ (-1 ≤ f₉.2.1 ∧ f₉.2.1 ≤ 9) ∧ (f₉.2.1 ≤ 0 → op₉ (dp - 1) = 40 ∧ ib (dp - 1) = if f₉.2.1 = -1 then 1 else 0) ∧ (1 ≤ f₉.2.1 → op₉ (dp - 1) = 48 + f₉.2.1) := by
  obtain ⟨⟨hW, hu⟩, hd₉, hk, hf, hz, hm₉, hs, -, hF⟩ := h
  rw [if_pos rfl] at hd₉
  have eN1 : (f₉ :: s).length = s.length + 1 := rfl
  rw [eN1] at hd₉
  have e : dp - 1 = s.length := by omega
  rw [e]
  exact ⟨by omega, hW.2.2.1, hF.1, hF.2.1⟩
def fW (E : En) (σ : Nat → va_E) (un sz₉ tl hi₉ mi ak rt cn : Int) (ρ : Nat → va_E) (rs op₉ ib : Int → Int) (rz : Int) : Prop := ρ 94 = mOb E un sz₉ tl rz hi₉ mi ak rt cn ∧ ρ 102 = ai E 80 rs ∧ ρ 103 = ai E 4 op₉ ∧ ρ 104 = az E 4 ib ∧ ∀ q₉, ¬ (q₉ = 94 ∨ (102 ≤ q₉ ∧ q₉ ≤ 104)) → ρ q₉ = σ q₉
set_option maxHeartbeats 4000000 in
theorem fq_run {E : En} {σ : Nat → va_E} {un sz₉ tl hi₉ mi ak rt cn : Int} {tx : Int → Int} (htl : 0 ≤ tl ∧ tl ≤ 80) (htx : ∀ z₉ : Int, 0 ≤ z₉ → z₉ < tl → 0 ≤ tx z₉ ∧ tx z₉ ≤ 127) (H₉ : (Nat → va_E) → Int → Int → Int → Int → Prop)
  (h_sp0 : ∀ (ii dp lk₉ rz : Int) (rs op₉ ib : Int → Int) (ρ : Nat → va_E), fW E σ un sz₉ tl hi₉ mi ak rt cn ρ rs op₉ ib rz → 0 ≤ ii ∧ ii < tl → (0 ≤ dp ∧ dp ≤ 3) ∧ (0 ≤ lk₉ ∧ lk₉ ≤ 24) ∧ 0 ≤ rz ∧ rz ≤ ii → tx ii = 32 → (∀ ρ', fW E σ un sz₉ tl hi₉ mi ak rt cn ρ' rs op₉ ib rz → H₉ ρ' (ii + 1) 0 lk₉ dp) → H₉ ρ ii 0 lk₉ dp)
  (h_sp1 : ∀ (ii dp lk₉ rz : Int) (rs op₉ ib : Int → Int) (ρ : Nat → va_E), fW E σ un sz₉ tl hi₉ mi ak rt cn ρ rs op₉ ib rz → 0 ≤ ii ∧ ii < tl → (0 ≤ dp ∧ dp ≤ 3) ∧ (0 ≤ lk₉ ∧ lk₉ ≤ 24) ∧ 0 ≤ rz ∧ rz ≤ ii → tx ii = 32 → (∀ ρ', fW E σ un sz₉ tl hi₉ mi ak rt cn ρ' rs op₉ ib rz → H₉ ρ' (ii + 1) 1 lk₉ dp) → H₉ ρ ii 1 lk₉ dp)
  (h_f91 : ∀ (ii dp lk₉ rz : Int) (rs op₉ ib : Int → Int) (ρ : Nat → va_E), fW E σ un sz₉ tl hi₉ mi ak rt cn ρ rs op₉ ib rz → 0 ≤ ii ∧ ii < tl → (0 ≤ dp ∧ dp ≤ 3) ∧ (0 ≤ lk₉ ∧ lk₉ ≤ 24) ∧ 0 ≤ rz ∧ rz ≤ ii → tx ii = 91 → (∀ ρ', fW E σ un sz₉ tl hi₉ mi ak rt cn ρ' rs op₉ ib rz → H₉ ρ' (ii + 1) 0 lk₉ dp) → H₉ ρ ii 1 lk₉ dp)
  (h_fno : ∀ (ii dp lk₉ rz : Int) (rs op₉ ib : Int → Int) (ρ : Nat → va_E), fW E σ un sz₉ tl hi₉ mi ak rt cn ρ rs op₉ ib rz → 0 ≤ ii ∧ ii < tl → (0 ≤ dp ∧ dp ≤ 3) ∧ (0 ≤ lk₉ ∧ lk₉ ≤ 24) ∧ 0 ≤ rz ∧ rz ≤ ii → (0 ≤ tx ii ∧ tx ii ≤ 127) → ¬ tx ii = 32 → ¬ tx ii = 91 → zEnd tx tl = ii → H₉ ρ ii 1 lk₉ dp)
  (h_look : ∀ (ii dp lk₉ rz : Int) (rs op₉ ib : Int → Int) (ρ : Nat → va_E), fW E σ un sz₉ tl hi₉ mi ak rt cn ρ rs op₉ ib rz → 0 ≤ ii ∧ ii < tl → (0 ≤ dp ∧ dp ≤ 3) ∧ (0 ≤ lk₉ ∧ lk₉ ≤ 24) ∧ 0 ≤ rz ∧ rz ≤ ii → 97 ≤ tx ii ∧ tx ii ≤ 102 → lk₉ < 24 → (∀ ρ', fW E σ un sz₉ tl hi₉ mi ak rt cn ρ' (up rs rz (tx ii)) op₉ ib (rz + 1) → H₉ ρ' (ii + 1) 0 (lk₉ + 1) dp) → H₉ ρ ii 0 lk₉ dp)
  (h_lookno : ∀ (ii dp lk₉ rz : Int) (rs op₉ ib : Int → Int) (ρ : Nat → va_E), fW E σ un sz₉ tl hi₉ mi ak rt cn ρ rs op₉ ib rz → 0 ≤ ii ∧ ii < tl → (0 ≤ dp ∧ dp ≤ 3) ∧ (0 ≤ lk₉ ∧ lk₉ ≤ 24) ∧ 0 ≤ rz ∧ rz ≤ ii → 97 ≤ tx ii ∧ tx ii ≤ 102 → 24 ≤ lk₉ → zEnd tx tl = ii → H₉ ρ ii 0 lk₉ dp)
  (h_opn : ∀ (ii dp lk₉ rz : Int) (rs op₉ ib : Int → Int) (ρ : Nat → va_E), fW E σ un sz₉ tl hi₉ mi ak rt cn ρ rs op₉ ib rz → 0 ≤ ii ∧ ii < tl → (0 ≤ dp ∧ dp ≤ 3) ∧ (0 ≤ lk₉ ∧ lk₉ ≤ 24) ∧ 0 ≤ rz ∧ rz ≤ ii → tx ii = 40 → dp < 3 → (∀ ρ', fW E σ un sz₉ tl hi₉ mi ak rt cn ρ' (up rs rz 40) (up op₉ dp 40) (up ib dp 0) (rz + 1) → H₉ ρ' (ii + 1) 0 lk₉ (dp + 1)) → H₉ ρ ii 0 lk₉ dp)
  (h_opnno : ∀ (ii dp lk₉ rz : Int) (rs op₉ ib : Int → Int) (ρ : Nat → va_E), fW E σ un sz₉ tl hi₉ mi ak rt cn ρ rs op₉ ib rz → 0 ≤ ii ∧ ii < tl → (0 ≤ dp ∧ dp ≤ 3) ∧ (0 ≤ lk₉ ∧ lk₉ ≤ 24) ∧ 0 ≤ rz ∧ rz ≤ ii → tx ii = 40 → 3 ≤ dp → zEnd tx tl = ii → H₉ ρ ii 0 lk₉ dp)
  (h_fig : ∀ (ii dp lk₉ rz : Int) (rs op₉ ib : Int → Int) (ρ : Nat → va_E), fW E σ un sz₉ tl hi₉ mi ak rt cn ρ rs op₉ ib rz → 0 ≤ ii ∧ ii < tl → (0 ≤ dp ∧ dp ≤ 3) ∧ (0 ≤ lk₉ ∧ lk₉ ≤ 24) ∧ 0 ≤ rz ∧ rz ≤ ii → 49 ≤ tx ii ∧ tx ii ≤ 57 → dp < 3 → (∀ ρ', fW E σ un sz₉ tl hi₉ mi ak rt cn ρ' (up rs rz (tx ii)) (up op₉ dp (tx ii)) (up ib dp 0) (rz + 1) → H₉ ρ' (ii + 1) 1 lk₉ (dp + 1)) → H₉ ρ ii 0 lk₉ dp)
  (h_figno : ∀ (ii dp lk₉ rz : Int) (rs op₉ ib : Int → Int) (ρ : Nat → va_E), fW E σ un sz₉ tl hi₉ mi ak rt cn ρ rs op₉ ib rz → 0 ≤ ii ∧ ii < tl → (0 ≤ dp ∧ dp ≤ 3) ∧ (0 ≤ lk₉ ∧ lk₉ ≤ 24) ∧ 0 ≤ rz ∧ rz ≤ ii → 49 ≤ tx ii ∧ tx ii ≤ 57 → 3 ≤ dp → zEnd tx tl = ii → H₉ ρ ii 0 lk₉ dp)
  (h_bar : ∀ (ii dp lk₉ rz : Int) (rs op₉ ib : Int → Int) (ρ : Nat → va_E), fW E σ un sz₉ tl hi₉ mi ak rt cn ρ rs op₉ ib rz → 0 ≤ ii ∧ ii < tl → (0 ≤ dp ∧ dp ≤ 3) ∧ (0 ≤ lk₉ ∧ lk₉ ≤ 24) ∧ 0 ≤ rz ∧ rz ≤ ii → tx ii = 124 → 0 < dp → op₉ (dp - 1) = 40 → ib (dp - 1) = 0 → (∀ ρ', fW E σ un sz₉ tl hi₉ mi ak rt cn ρ' (up rs rz 124) op₉ (up ib (dp - 1) 1) (rz + 1) → H₉ ρ' (ii + 1) 0 lk₉ dp) → H₉ ρ ii 0 lk₉ dp)
  (h_barno : ∀ (ii dp lk₉ rz : Int) (rs op₉ ib : Int → Int) (ρ : Nat → va_E), fW E σ un sz₉ tl hi₉ mi ak rt cn ρ rs op₉ ib rz → 0 ≤ ii ∧ ii < tl → (0 ≤ dp ∧ dp ≤ 3) ∧ (0 ≤ lk₉ ∧ lk₉ ≤ 24) ∧ 0 ≤ rz ∧ rz ≤ ii → tx ii = 124 → ¬ (0 < dp ∧ op₉ (dp - 1) = 40 ∧ ib (dp - 1) = 0) → (0 < dp → op₉ (dp - 1) = 40 → 0 ≤ ib (dp - 1) ∧ ib (dp - 1) ≤ 1) → (0 < dp → 0 ≤ op₉ (dp - 1) ∧ op₉ (dp - 1) ≤ 127) → zEnd tx tl = ii → H₉ ρ ii 0 lk₉ dp)
  (h_clo : ∀ (ii dp lk₉ rz : Int) (rs op₉ ib : Int → Int) (ρ : Nat → va_E), fW E σ un sz₉ tl hi₉ mi ak rt cn ρ rs op₉ ib rz → 0 ≤ ii ∧ ii < tl → (0 ≤ dp ∧ dp ≤ 3) ∧ (0 ≤ lk₉ ∧ lk₉ ≤ 24) ∧ 0 ≤ rz ∧ rz ≤ ii → tx ii = 41 → 0 < dp → op₉ (dp - 1) = 40 → ib (dp - 1) = 1 → (∀ ρ', fW E σ un sz₉ tl hi₉ mi ak rt cn ρ' (up rs rz 41) op₉ ib (rz + 1) → H₉ ρ' (ii + 1) 0 lk₉ (dp - 1)) → H₉ ρ ii 0 lk₉ dp)
  (h_clono : ∀ (ii dp lk₉ rz : Int) (rs op₉ ib : Int → Int) (ρ : Nat → va_E), fW E σ un sz₉ tl hi₉ mi ak rt cn ρ rs op₉ ib rz → 0 ≤ ii ∧ ii < tl → (0 ≤ dp ∧ dp ≤ 3) ∧ (0 ≤ lk₉ ∧ lk₉ ≤ 24) ∧ 0 ≤ rz ∧ rz ≤ ii → tx ii = 41 → ¬ (0 < dp ∧ op₉ (dp - 1) = 40 ∧ ib (dp - 1) = 1) → (0 < dp → op₉ (dp - 1) = 40 → 0 ≤ ib (dp - 1) ∧ ib (dp - 1) ≤ 1) → (0 < dp → 0 ≤ op₉ (dp - 1) ∧ op₉ (dp - 1) ≤ 127) → zEnd tx tl = ii → H₉ ρ ii 0 lk₉ dp)
  (h_bak : ∀ (ii dp lk₉ rz : Int) (rs op₉ ib : Int → Int) (ρ : Nat → va_E), fW E σ un sz₉ tl hi₉ mi ak rt cn ρ rs op₉ ib rz → 0 ≤ ii ∧ ii < tl → (0 ≤ dp ∧ dp ≤ 3) ∧ (0 ≤ lk₉ ∧ lk₉ ≤ 24) ∧ 0 ≤ rz ∧ rz ≤ ii → tx ii = 93 → 0 < dp → ¬ op₉ (dp - 1) = 40 → 0 ≤ op₉ (dp - 1) ∧ op₉ (dp - 1) ≤ 127 → (∀ ρ', fW E σ un sz₉ tl hi₉ mi ak rt cn ρ' (up rs rz 93) op₉ ib (rz + 1) → H₉ ρ' (ii + 1) 0 lk₉ (dp - 1)) → H₉ ρ ii 0 lk₉ dp)
  (h_bakno : ∀ (ii dp lk₉ rz : Int) (rs op₉ ib : Int → Int) (ρ : Nat → va_E), fW E σ un sz₉ tl hi₉ mi ak rt cn ρ rs op₉ ib rz → 0 ≤ ii ∧ ii < tl → (0 ≤ dp ∧ dp ≤ 3) ∧ (0 ≤ lk₉ ∧ lk₉ ≤ 24) ∧ 0 ≤ rz ∧ rz ≤ ii → tx ii = 93 → ¬ (0 < dp ∧ ¬ op₉ (dp - 1) = 40) → (0 < dp → 0 ≤ op₉ (dp - 1) ∧ op₉ (dp - 1) ≤ 127) → zEnd tx tl = ii → H₉ ρ ii 0 lk₉ dp)
  (h_dot : ∀ (ii dp lk₉ rz : Int) (rs op₉ ib : Int → Int) (ρ : Nat → va_E), fW E σ un sz₉ tl hi₉ mi ak rt cn ρ rs op₉ ib rz → 0 ≤ ii ∧ ii < tl → (0 ≤ dp ∧ dp ≤ 3) ∧ (0 ≤ lk₉ ∧ lk₉ ≤ 24) ∧ 0 ≤ rz ∧ rz ≤ ii → tx ii = 46 → (∀ ρ', fW E σ un sz₉ tl hi₉ mi ak rt cn ρ' (up rs rz 46) op₉ ib (rz + 1) → H₉ ρ' (ii + 1) 0 lk₉ dp) → H₉ ρ ii 0 lk₉ dp)
  (h_oth : ∀ (ii dp lk₉ rz : Int) (rs op₉ ib : Int → Int) (ρ : Nat → va_E), fW E σ un sz₉ tl hi₉ mi ak rt cn ρ rs op₉ ib rz → 0 ≤ ii ∧ ii < tl → (0 ≤ dp ∧ dp ≤ 3) ∧ (0 ≤ lk₉ ∧ lk₉ ≤ 24) ∧ 0 ≤ rz ∧ rz ≤ ii → (0 ≤ tx ii ∧ tx ii ≤ 127) → ¬ tx ii = 32 → ¬ (97 ≤ tx ii ∧ tx ii ≤ 102) → ¬ (49 ≤ tx ii ∧ tx ii ≤ 57) → ¬ tx ii = 46 → ¬ tx ii = 40 → ¬ tx ii = 124 → ¬ tx ii = 41 → ¬ tx ii = 93 → zEnd tx tl = ii → H₉ ρ ii 0 lk₉ dp)
  (h_endT : ∀ (dp lk₉ rz fb : Int) (rs op₉ ib : Int → Int) (ρ : Nat → va_E), fW E σ un sz₉ tl hi₉ mi ak rt cn ρ rs op₉ ib rz → (0 ≤ dp ∧ dp ≤ 3) → ((fb = 0 ∧ 0 < dp) ∨ fb = 1) → zEnd tx tl = tl → H₉ ρ tl fb lk₉ dp)
  (h_endN : ∀ (lk₉ rz : Int) (rs op₉ ib : Int → Int) (ρ : Nat → va_E), fW E σ un sz₉ tl hi₉ mi ak rt cn ρ rs op₉ ib rz → zEnd tx tl = -1 → (∃ t9, zR tx tl.toNat = .inr ([], t9, 0) ∧ wf t9 ∧ SGT rs t9 0 ∧ rz = tLen t9) → H₉ ρ tl 0 lk₉ 0) :
  ∀ (n₉ i₉ : Nat), (i₉ : Int) + n₉ = tl → ∀ (s : Zs) (u₉ : Tr) (fg dp lk₉ rz : Int) (rs op₉ ib : Int → Int) (ρ : Nat → va_E), zR tx i₉ = .inr (s, u₉, fg) → FQ rs op₉ ib dp lk₉ rz s u₉ fg → rz ≤ i₉ → fW E σ un sz₉ tl hi₉ mi ak rt cn ρ rs op₉ ib rz → H₉ ρ i₉ (if fg = 0 then 0 else 1) lk₉ dp := by
  intro n₉
  induction n₉ with
  | zero =>
    intro i₉ hin s u₉ fg dp lk₉ rz rs op₉ ib ρ hz hq hrz hW
    have ei : (i₉ : Int) = tl := by omega
    have ei2 : tl.toNat = i₉ := by omega
    rw [← ei2] at hz
    have he := zEnd_at hz
    have hd₉ := hq.2.1
    rw [ei]
    by_cases e : fg = 0
    · subst e
      rw [if_pos rfl] at hd₉ ⊢
      by_cases e2₉ : s.length = 0
      · rw [if_pos ⟨e2₉, rfl⟩] at he
        have es : s = [] := List.eq_nil_of_length_eq_zero e2₉
        subst es
        have hd0 : dp = 0 := by have := hd₉.1; rw [e2₉] at this; omega
        rw [hd0]
        have hz5 := hq.2.2.2.2.1
        rw [if_pos rfl] at hz5
        refine h_endN lk₉ rz rs op₉ ib ρ hW he ⟨u₉, hz, hq.1.2, hq.2.2.2.2.2.2.1, ?_⟩
        have e0₉ : zO [] = 0 := rfl
        rw [hz5, e0₉]; omega
      · rw [if_neg (fun z₉ => e2₉ z₉.1)] at he
        exact h_endT dp lk₉ rz 0 rs op₉ ib ρ hW (by omega) (Or.inl ⟨rfl, by omega⟩) he
    · rw [if_neg e] at hd₉ ⊢
      rw [if_neg (fun z₉ => e z₉.2)] at he
      exact h_endT dp lk₉ rz 1 rs op₉ ib ρ hW (by omega) (Or.inr rfl) he
  | succ n₉ ih₉ =>
    intro i₉ hin s u₉ fg dp lk₉ rz rs op₉ ib ρ hz hq hrz hW
    have hlt : 0 ≤ (i₉ : Int) ∧ (i₉ : Int) < tl := by omega
    have hc₉ := htx i₉ hlt.1 hlt.2
    have hrz0 := hq.rz0
    have hd3 := hq.2.1
    have hk3 := hq.2.2.1
    have hzk := zK_rg s
    have hcm : (0 ≤ dp ∧ dp ≤ 3) ∧ (0 ≤ lk₉ ∧ lk₉ ≤ 24) ∧ 0 ≤ rz ∧ rz ≤ (i₉ : Int) := by
      refine ⟨⟨?_, hd3.2⟩, ⟨by omega, hk3.2⟩, hrz0, hrz⟩
      have := hd3.1
      split at this <;> omega
    have nx : ∀ {s' : Zs} {u' : Tr} {fg' dp' lk' rz' : Int} {rs' op' ib' : Int → Int} {ρ' : Nat → va_E}, zst (tx i₉) s u₉ fg = some (s', u', fg') → FQ rs' op' ib' dp' lk' rz' s' u' fg' → rz' ≤ (i₉ : Int) + 1 → fW E σ un sz₉ tl hi₉ mi ak rt cn ρ' rs' op' ib' rz' → H₉ ρ' ((i₉ : Int) + 1) (if fg' = 0 then 0 else 1) lk' dp' := by
      intro s' u' fg' dp' lk' rz' rs' op' ib' ρ' h1 h2 h3 h4
      have q₉ := ih₉ (i₉ + 1) (by omega) s' u' fg' dp' lk' rz' rs' op' ib' ρ' (zR_yes hz h1) h2 (by omega) h4
      rw [show (((i₉ + 1 : Nat)) : Int) = (i₉ : Int) + 1 by omega] at q₉
      exact q₉
    have no₉ : zst (tx i₉) s u₉ fg = none → zEnd tx tl = i₉ := fun h1 => zEnd_no hz h1 hlt.2
    by_cases c32₉ : tx i₉ = 32
    · have hz1 : zst (tx i₉) s u₉ fg = some (s, u₉, fg) := by unfold zst; rw [if_pos c32₉]
      by_cases e : fg = 0
      · rw [if_pos e]
        refine h_sp0 i₉ dp lk₉ rz rs op₉ ib ρ hW hlt hcm c32₉ (fun ρ' W' => ?_)
        have q₉ := nx hz1 hq (by omega) W'
        rw [if_pos e] at q₉
        exact q₉
      · rw [if_neg e]
        refine h_sp1 i₉ dp lk₉ rz rs op₉ ib ρ hW hlt hcm c32₉ (fun ρ' W' => ?_)
        have q₉ := nx hz1 hq (by omega) W'
        rw [if_neg e] at q₉
        exact q₉
    by_cases e : fg = 0
    · subst e
      rw [if_pos rfl]
      have hd1 := hd3.1
      rw [if_pos rfl] at hd1
      by_cases c1₉ : 97 ≤ tx i₉ ∧ tx i₉ ≤ 102
      · by_cases c2₉ : zK s + tLks u₉ < 24
        · have hz1 : zst (tx i₉) s u₉ 0 = some (s, tSn u₉ (.nest (tx i₉) .nil), 0) := by unfold zst; rw [if_neg c32₉, if_neg (by decide), if_pos c1₉, if_pos c2₉]
          refine h_look i₉ dp lk₉ rz rs op₉ ib ρ hW hlt hcm c1₉ (by omega) (fun ρ' W' => ?_)
          have q2₉ := hq.add (c := tx i₉) (Or.inl c1₉) (by rw [if_neg (by omega)]; omega)
          rw [if_neg (by omega)] at q2₉
          exact nx hz1 q2₉ (by omega) W'
        · have hz1 : zst (tx i₉) s u₉ 0 = none := by unfold zst; rw [if_neg c32₉, if_neg (by decide), if_pos c1₉, if_neg c2₉]
          exact h_lookno i₉ dp lk₉ rz rs op₉ ib ρ hW hlt hcm c1₉ (by omega) (no₉ hz1)
      by_cases c3₉ : 49 ≤ tx i₉ ∧ tx i₉ ≤ 57
      · by_cases c2₉ : s.length < 3
        · have hz1 : zst (tx i₉) s u₉ 0 = some (s, u₉, tx i₉ - 48) := by unfold zst; rw [if_neg c32₉, if_neg (by decide), if_neg c1₉, if_pos c3₉, if_pos c2₉]
          refine h_fig i₉ dp lk₉ rz rs op₉ ib ρ hW hlt hcm c3₉ (by omega) (fun ρ' W' => ?_)
          have q₉ := nx hz1 (hq.fig (by omega) c3₉) (by omega) W'
          rw [if_neg (by omega)] at q₉
          exact q₉
        · have hz1 : zst (tx i₉) s u₉ 0 = none := by unfold zst; rw [if_neg c32₉, if_neg (by decide), if_neg c1₉, if_pos c3₉, if_neg c2₉]
          exact h_figno i₉ dp lk₉ rz rs op₉ ib ρ hW hlt hcm c3₉ (by omega) (no₉ hz1)
      by_cases c46₉ : tx i₉ = 46
      · have hz1 : zst (tx i₉) s u₉ 0 = some (s, tSn u₉ (.nest 46 .nil), 0) := by unfold zst; rw [if_neg c32₉, if_neg (by decide), if_neg c1₉, if_neg c3₉, if_pos c46₉]
        refine h_dot i₉ dp lk₉ rz rs op₉ ib ρ hW hlt hcm c46₉ (fun ρ' W' => ?_)
        have q2₉ := hq.add (c := 46) (Or.inr rfl) (by rw [if_pos rfl]; omega)
        rw [if_pos rfl, Int.add_zero] at q2₉
        exact nx hz1 q2₉ (by omega) W'
      by_cases c40₉ : tx i₉ = 40
      · by_cases c2₉ : s.length < 3
        · have hz1 : zst (tx i₉) s u₉ 0 = some ((u₉, 0, .nil) :: s, .nil, 0) := by unfold zst; rw [if_neg c32₉, if_neg (by decide), if_neg c1₉, if_neg c3₉, if_neg c46₉, if_pos c40₉, if_pos c2₉]
          exact h_opn i₉ dp lk₉ rz rs op₉ ib ρ hW hlt hcm c40₉ (by omega) (fun ρ' W' => nx hz1 (hq.opn (by omega)) (by omega) W')
        · have hz1 : zst (tx i₉) s u₉ 0 = none := by unfold zst; rw [if_neg c32₉, if_neg (by decide), if_neg c1₉, if_neg c3₉, if_neg c46₉, if_pos c40₉, if_neg c2₉]
          exact h_opnno i₉ dp lk₉ rz rs op₉ ib ρ hW hlt hcm c40₉ (by omega) (no₉ hz1)
      have frm : (0 < dp → op₉ (dp - 1) = 40 → 0 ≤ ib (dp - 1) ∧ ib (dp - 1) ≤ 1) ∧ (0 < dp → 0 ≤ op₉ (dp - 1) ∧ op₉ (dp - 1) ≤ 127) := by
        cases s with
        | nil => exact ⟨fun h => absurd h (by have : (([] : Zs).length : Int) = 0 := rfl; omega), fun h => absurd h (by have : (([] : Zs).length : Int) = 0 := rfl; omega)⟩
        | cons f₉ r₉ =>
          have tp := hq.top
          by_cases e2₉ : f₉.2.1 ≤ 0
          · have q₉ := tp.2.2.1 e2₉
            exact ⟨fun _ _ => by rw [q₉.2]; split <;> omega, fun _ => by omega⟩
          · have q₉ := tp.2.2.2 (by omega)
            exact ⟨fun _ _ => by omega, fun _ => by omega⟩
      by_cases c124 : tx i₉ = 124
      · cases s with
        | nil =>
          have hz1 : zst (tx i₉) [] u₉ 0 = none := by unfold zst; rw [if_neg c32₉, if_neg (by decide), if_neg c1₉, if_neg c3₉, if_neg c46₉, if_neg c40₉, if_pos c124]
          exact h_barno i₉ dp lk₉ rz rs op₉ ib ρ hW hlt hcm c124 (fun z₉ => absurd z₉.1 (by have : (([] : Zs).length : Int) = 0 := rfl; omega)) frm.1 frm.2 (no₉ hz1)
        | cons f₉ r₉ =>
          have tp := hq.top
          by_cases c2₉ : f₉.2.1 = 0
          · have hz1 : zst (tx i₉) (f₉ :: r₉) u₉ 0 = some ((f₉.1, -1, u₉) :: r₉, .nil, 0) := by unfold zst; rw [if_neg c32₉, if_neg (by decide), if_neg c1₉, if_neg c3₉, if_neg c46₉, if_neg c40₉, if_pos c124]; show (if f₉.2.1 = 0 then _ else _) = _; rw [if_pos c2₉]
            have q₉ := tp.2.2.1 (by omega)
            rw [if_neg (by omega)] at q₉
            exact h_bar i₉ dp lk₉ rz rs op₉ ib ρ hW hlt hcm c124 tp.1 q₉.1 q₉.2 (fun ρ' W' => nx hz1 (hq.bar c2₉) (by omega) W')
          · have hz1 : zst (tx i₉) (f₉ :: r₉) u₉ 0 = none := by unfold zst; rw [if_neg c32₉, if_neg (by decide), if_neg c1₉, if_neg c3₉, if_neg c46₉, if_neg c40₉, if_pos c124]; show (if f₉.2.1 = 0 then _ else _) = _; rw [if_neg c2₉]
            refine h_barno i₉ dp lk₉ rz rs op₉ ib ρ hW hlt hcm c124 (fun z₉ => ?_) frm.1 frm.2 (no₉ hz1)
            by_cases e2₉ : f₉.2.1 ≤ 0
            · have q₉ := (tp.2.2.1 e2₉).2
              rw [if_pos (by omega)] at q₉
              omega
            · have q₉ := tp.2.2.2 (by omega)
              omega
      by_cases c41 : tx i₉ = 41
      · cases s with
        | nil =>
          have hz1 : zst (tx i₉) [] u₉ 0 = none := by unfold zst; rw [if_neg c32₉, if_neg (by decide), if_neg c1₉, if_neg c3₉, if_neg c46₉, if_neg c40₉, if_neg c124, if_pos c41]
          exact h_clono i₉ dp lk₉ rz rs op₉ ib ρ hW hlt hcm c41 (fun z₉ => absurd z₉.1 (by have : (([] : Zs).length : Int) = 0 := rfl; omega)) frm.1 frm.2 (no₉ hz1)
        | cons f₉ r₉ =>
          have tp := hq.top
          by_cases c2₉ : f₉.2.1 = -1
          · have hz1 : zst (tx i₉) (f₉ :: r₉) u₉ 0 = some (r₉, tSn f₉.1 (.append f₉.2.2 u₉), 0) := by unfold zst; rw [if_neg c32₉, if_neg (by decide), if_neg c1₉, if_neg c3₉, if_neg c46₉, if_neg c40₉, if_neg c124, if_pos c41]; show (if f₉.2.1 = -1 then _ else _) = _; rw [if_pos c2₉]
            have q₉ := tp.2.2.1 (by omega)
            rw [if_pos c2₉] at q₉
            exact h_clo i₉ dp lk₉ rz rs op₉ ib ρ hW hlt hcm c41 tp.1 q₉.1 q₉.2 (fun ρ' W' => nx hz1 (hq.clo c2₉) (by omega) W')
          · have hz1 : zst (tx i₉) (f₉ :: r₉) u₉ 0 = none := by unfold zst; rw [if_neg c32₉, if_neg (by decide), if_neg c1₉, if_neg c3₉, if_neg c46₉, if_neg c40₉, if_neg c124, if_pos c41]; show (if f₉.2.1 = -1 then _ else _) = _; rw [if_neg c2₉]
            refine h_clono i₉ dp lk₉ rz rs op₉ ib ρ hW hlt hcm c41 (fun z₉ => ?_) frm.1 frm.2 (no₉ hz1)
            by_cases e2₉ : f₉.2.1 ≤ 0
            · have q₉ := (tp.2.2.1 e2₉).2
              rw [if_neg c2₉] at q₉
              omega
            · have q₉ := tp.2.2.2 (by omega)
              omega
      by_cases c93 : tx i₉ = 93
      · cases s with
        | nil =>
          have hz1 : zst (tx i₉) [] u₉ 0 = none := by unfold zst; rw [if_neg c32₉, if_neg (by decide), if_neg c1₉, if_neg c3₉, if_neg c46₉, if_neg c40₉, if_neg c124, if_neg c41, if_pos c93]
          exact h_bakno i₉ dp lk₉ rz rs op₉ ib ρ hW hlt hcm c93 (fun z₉ => absurd z₉.1 (by have : (([] : Zs).length : Int) = 0 := rfl; omega)) frm.2 (no₉ hz1)
        | cons f₉ r₉ =>
          have tp := hq.top
          by_cases c2₉ : 1 ≤ f₉.2.1
          · have hz1 : zst (tx i₉) (f₉ :: r₉) u₉ 0 = some (r₉, tSn f₉.1 (.tag f₉.2.1.toNat u₉), 0) := by unfold zst; rw [if_neg c32₉, if_neg (by decide), if_neg c1₉, if_neg c3₉, if_neg c46₉, if_neg c40₉, if_neg c124, if_neg c41, if_pos c93]; show (if 1 ≤ f₉.2.1 then _ else _) = _; rw [if_pos c2₉]
            have q₉ := tp.2.2.2 c2₉
            exact h_bak i₉ dp lk₉ rz rs op₉ ib ρ hW hlt hcm c93 tp.1 (by omega) (by omega) (fun ρ' W' => nx hz1 (hq.bak c2₉) (by omega) W')
          · have hz1 : zst (tx i₉) (f₉ :: r₉) u₉ 0 = none := by unfold zst; rw [if_neg c32₉, if_neg (by decide), if_neg c1₉, if_neg c3₉, if_neg c46₉, if_neg c40₉, if_neg c124, if_neg c41, if_pos c93]; show (if 1 ≤ f₉.2.1 then _ else _) = _; rw [if_neg c2₉]
            exact h_bakno i₉ dp lk₉ rz rs op₉ ib ρ hW hlt hcm c93 (fun z₉ => z₉.2 (tp.2.2.1 (by omega)).1) frm.2 (no₉ hz1)
      have hz1 : zst (tx i₉) s u₉ 0 = none := by unfold zst; rw [if_neg c32₉, if_neg (by decide), if_neg c1₉, if_neg c3₉, if_neg c46₉, if_neg c40₉, if_neg c124, if_neg c41, if_neg c93]
      exact h_oth i₉ dp lk₉ rz rs op₉ ib ρ hW hlt hcm hc₉ c32₉ c1₉ c3₉ c46₉ c40₉ c124 c41 c93 (no₉ hz1)
    · rw [if_neg e]
      by_cases c91 : tx i₉ = 91
      · have hz1 : zst (tx i₉) s u₉ fg = some ((u₉, fg, .nil) :: s, .nil, 0) := by unfold zst; rw [if_neg c32₉, if_pos e, if_pos c91]
        exact h_f91 i₉ dp lk₉ rz rs op₉ ib ρ hW hlt hcm c91 (fun ρ' W' => nx hz1 (hq.f91 e) (by omega) W')
      · have hz1 : zst (tx i₉) s u₉ fg = none := by unfold zst; rw [if_neg c32₉, if_pos e, if_neg c91]
        exact h_fno i₉ dp lk₉ rz rs op₉ ib ρ hW hlt hcm hc₉ c32₉ c91 (no₉ hz1)
