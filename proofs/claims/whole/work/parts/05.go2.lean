/-! The layer, second half: fields, arrays, calls, returns, switches. -/
/-- what a pool entry says of a field: class number ci, place kf, final or not, its type -/
def FL (own : String) (idx ci kf : Nat) (fin : Bool) (t : FieldType) : Prop := ∃ (C : String) (T : u_T) (n : Nat) (ty : Nat → FieldType), vwCl[ci]? = some (C, T, n) ∧ kf < n ∧ (∀ w ∈ u_ws C T n, w ∈ GW) ∧ Cond.fieldLink own idx (T kf).1 (T kf).2.1 (T kf).2.2.1 ∈ GW ∧ (∀ k, k < n → parseFieldDescriptor (T k).2.2.1 = some (ty k)) ∧ (∀ a, a < n → ∀ b, b < n → a ≠ b → (T a).2.1 ≠ (T b).2.1) ∧ (T kf).2.2.2 = fin ∧ ty kf = t
/-- what a class's pool entry says of a method of an object of class number ci -/
def MV (own : String) (idx : Nat) (M : Mth) (ci n : Nat) : Prop := (∃ (T : u_T) (nf : Nat), vwCl[ci]? = some (M.1.cls, T, nf)) ∧ Cond.methodLink own idx M.1 ∈ GW ∧ Cond.instanceMethod M.1 ∈ GW ∧ Cond.selects M.1.cls M.1 M.1 ∈ GW ∧ Cond.initialized M.1.cls ∈ GW ∧ Cond.code M.1 M.2.1 M.2.2.1 M.2.2.2 ∈ GW ∧ (M.1.cls ≠ "java/lang/invoke/MethodHandle" ∧ M.1.cls ≠ "java/lang/invoke/VarHandle" ∧ (parseMethodDescriptor M.1.desc).map (fun d => d.parameters.length) = some n) ∧ M.2.2.1 ≤ 21
def MS (own : String) (idx : Nat) (M : Mth) (n : Nat) : Prop := Cond.methodLink own idx M.1 ∈ GW ∧ Cond.static M.1 ∈ GW ∧ Cond.initialized M.1.cls ∈ GW ∧ Cond.code M.1 M.2.1 M.2.2.1 M.2.2.2 ∈ GW ∧ (M.1.cls ≠ "java/lang/invoke/MethodHandle" ∧ M.1.cls ≠ "java/lang/invoke/VarHandle" ∧ (parseMethodDescriptor M.1.desc).map (fun d => d.parameters.length) = some n) ∧ M.2.2.1 ≤ 21
def MN (own : String) (idx : Nat) (M : Mth) (host : String) (n : Nat) : Prop := Cond.methodLinkNest own idx M.1 host ∈ nestW ∧ Cond.static M.1 ∈ GW ∧ Cond.initialized M.1.cls ∈ GW ∧ Cond.code M.1 M.2.1 M.2.2.1 M.2.2.2 ∈ GW ∧ (M.1.cls ≠ "java/lang/invoke/MethodHandle" ∧ M.1.cls ≠ "java/lang/invoke/VarHandle" ∧ (parseMethodDescriptor M.1.desc).map (fun d => d.parameters.length) = some n) ∧ M.2.2.1 ≤ 21
/-- one long beside another -/
def lc (a b : Int) : Int := if b < a then 1 else if a = b then 0 else -1
theorem lc_of {a b : Int} (ha : rgl a) (hb : rgl b) : lg_cmp (lI a) (lI b) = iI (lc a b) := by
  unfold lg_cmp lc
  simp only [gt_iff_lt, lI_lt hb ha, lI_eq ha hb]
  split
  · rfl
  · split <;> rfl
theorem lc_rg (a b : Int) : rg (lc a b) := by unfold lc; split; (first | (constructor <;> decide)); split <;> constructor <;> decide
theorem lc_lt (a b : Int) : lc a b < 0 ↔ a < b := by unfold lc; split; omega; split <;> omega
theorem lc_le (a b : Int) : lc a b ≤ 0 ↔ a ≤ b := by unfold lc; split; omega; split <;> omega
theorem lc_ge (a b : Int) : 0 ≤ lc a b ↔ b ≤ a := by unfold lc; split; omega; split <;> omega
theorem lc_gt (a b : Int) : 0 < lc a b ↔ b < a := by unfold lc; split; omega; split <;> omega
theorem lc_eq (a b : Int) : lc a b = 0 ↔ a = b := by unfold lc; split; omega; split <;> omega
theorem upd_up (g : Int → Int) {a : Int} (h0 : 0 ≤ a) (x : Int) : upd (fun j => iI (g (j : Nat))) a.toNat (iI x) = fun j : Nat => iI (up g a x j) := by
  funext j
  by_cases h : j = a.toNat
  · subst h
    simp [upd, up, Int.toNat_of_nonneg h0]
  · have h2 : ¬ ((j : Int) = a) := by omega
    simp [upd, up, h, h2]
theorem updL_up (g : Int → Int) {a : Int} (h0 : 0 ≤ a) (x : Int) : vp_updL (fun j => lI (g (j : Nat))) a.toNat (lI x) = fun j : Nat => lI (up g a x j) := by
  funext j
  by_cases h : j = a.toNat
  · subst h
    simp [vp_updL, up, Int.toNat_of_nonneg h0]
  · have h2 : ¬ ((j : Int) = a) := by omega
    simp [vp_updL, up, h, h2]
theorem updQ_up (E : En) (g : Int → Int) {a : Int} (h0 : 0 ≤ a) {x : Nat} : va_up (fun j : Nat => rfo E (g j)) a.toNat (some (ez E + x)) = fun j : Nat => rfo E (up g a x j) := by
  funext j
  by_cases h : j = a.toNat
  · subst h
    simp [va_up, up, Int.toNat_of_nonneg h0, rfo]
  · have h2 : ¬ ((j : Int) = a) := by omega
    simp [va_up, up, h, h2]
section GO
variable {E : En} {p : Program} {e : Env} {R : Room} {s : State} {m : MethodId} {args : Array Value} {below : List Frame} {meth : Method} {c : Code} {Q : State → Prop} {cc : ByteArray} {nL : Nat} {own : String} {d : Nat} {k : Nat × Nat} {N : Nat} {σ : Nat → va_E} {lv lv' : List (Nat × Value)} {st : List Value} {pc : Nat}
theorem at_of {i : Nat} {x : va_E} (hi : i < N) (hc : σ i = x) : (wd E N σ)[i]? = some (ez E + i, x) := (wd_at hi).trans (congrArg (fun y => some (ez E + i, y)) hc)
theorem go_get (hF : Fx E cc nL own d p R s m args c) {idx ci kf i : Nat} {fin : Bool} {t : FieldType} {v : Value} {fs : List Value} (hf : FL own idx ci kf fin t) (hd : decode cc pc = .ok (.getfield idx, 3)) (hi : i < N) (hc : σ i = ob ci fs) (hv : fs[kf]? = some v) (h : Go E p e R s m args below meth c Q nL k N σ lv (v :: st) (pc + 3)) : Go E p e R s m args below meth c Q nL k N σ lv (vr E i :: st) pc := fun H locs ls hP hS hl => by
  obtain ⟨C, T, n, ty, h1, h2, h3, h4, -⟩ := hf
  exact va_get hF.1 hF.2.1 hF.2.2.2.2.1 h3 hF.2.2.2.1 hF.2.2.2.2.2.1.1 hP i (at_of hi hc) h1 kf h2 (hF.2.2.2.2.1 _ h4) (fun _ h => h) hv hd (h H locs ls hP hS hl)
theorem go_put (hF : Fx E cc nL own d p R s m args c) {idx ci kf i : Nat} {t : FieldType} {v : Value} {fs : List Value} (fs' : List Value) (hf : FL own idx ci kf false t) (hd : decode cc pc = .ok (.putfield idx, 3)) (hi : i < N) (hc : σ i = ob ci fs) (hs : fs.set kf v = fs') (hn : narrow t v = v) (hft : fits t v = true) (hl0 : kf < fs.length)
    (h : ∀ σ' : Nat → va_E, σ' i = ob ci fs' → (∀ j, j ≠ i → σ' j = σ j) → Go E p e R s m args below meth c Q nL k N σ' lv st (pc + 3)) : Go E p e R s m args below meth c Q nL k N σ lv (v :: vr E i :: st) pc := fun H locs ls hP hS hl => by
  obtain ⟨C, T, n, ty, h1, h2, h3, h4, h5, h6, h7, h8⟩ := hf
  refine va_put hF.1 hF.2.1 hF.2.2.2.2.1 h3 ty h5 h6 hF.2.2.2.1 hF.2.2.2.2.2.1.1 hP wd_D hS i (at_of hi hc) h1 kf h2 (hF.2.2.2.2.1 _ h4) (fun _ h => h) h7 (ty := t) (by rw [h5 kf h2, h8]) hn hft hl0 hd (fun H1 locs1 hP1 _ hS1 => ?_)
  refine h (va_up σ i (ob ci fs')) (va_up_self _ _ _) (fun j hj => va_up_ne _ _ hj) H1 locs1 ls ?_ hS1 hl
  have e := wd_set (E := E) (N := N) (σ := σ) (σ' := va_up σ i (ob ci fs')) (i := i) (x := ob ci fs') (va_up_self _ _ _) (fun j hj => va_up_ne _ _ hj)
  rw [Hp, ← e, ← hs]
  exact hP1
/-- a final field, in a constructor -/
theorem go_putF (hF : Fx E cc nL own d p R s m args c) {idx ci kf i : Nat} {t : FieldType} {v : Value} {fs : List Value} (fs' : List Value) (hf : FL own idx ci kf true t) (hdec : ∀ (C : String) (T : u_T) (n : Nat), vwCl[ci]? = some (C, T, n) → (T kf).1 = own) (hin : meth.name = "<init>") (hd : decode cc pc = .ok (.putfield idx, 3)) (hi : i < N) (hc : σ i = ob ci fs) (hs : fs.set kf v = fs') (hn : narrow t v = v) (hft : fits t v = true) (hl0 : kf < fs.length)
    (h : ∀ σ' : Nat → va_E, σ' i = ob ci fs' → (∀ j, j ≠ i → σ' j = σ j) → Go E p e R s m args below meth c Q nL k N σ' lv st (pc + 3)) : Go E p e R s m args below meth c Q nL k N σ lv (v :: vr E i :: st) pc := fun H locs ls hP hS hl => by
  obtain ⟨C, T, n, ty, h1, h2, h3, h4, h5, h6, h7, h8⟩ := hf
  refine va_putF hF.1 hF.2.1 hF.2.2.2.2.1 h3 ty h5 h6 hF.2.2.2.1 hF.2.2.2.2.2.1.1 hP wd_D hS i (at_of hi hc) h1 kf h2 (hF.2.2.2.2.1 _ h4) (fun _ h => h) h7 hin (hdec _ _ _ h1) (ty := t) (by rw [h5 kf h2, h8]) hn hft hl0 hd (fun H1 locs1 hP1 _ hS1 => ?_)
  refine h (va_up σ i (ob ci fs')) (va_up_self _ _ _) (fun j hj => va_up_ne _ _ hj) H1 locs1 ls ?_ hS1 hl
  have e := wd_set (E := E) (N := N) (σ := σ) (σ' := va_up σ i (ob ci fs')) (i := i) (x := ob ci fs') (va_up_self _ _ _) (fun j hj => va_up_ne _ _ hj)
  rw [Hp, ← e, ← hs]
  exact hP1
theorem go_iald (hF : Fx E cc nL own d p R s m args c) {i n : Nat} {g : Int → Int} {a : Int} (hd : decode cc pc = .ok (.iaload, 1)) (hi : i < N) (hc : σ i = ai E n g) (h0 : 0 ≤ a ∧ a < n) (h : Go E p e R s m args below meth c Q nL k N σ lv (vi (g a) :: st) (pc + 1)) (hn : n ≤ 65536 := by decide) : Go E p e R s m args below meth c Q nL k N σ lv (vi a :: vr E i :: st) pc := fun H locs ls hP hS hl => by
  refine va_iald hF.1 hF.2.1 hF.2.2.2.2.2.1.1 hP i 0 (at_of hi hc) rfl (iI_in h0.1 h0.2 hn) hd ?_
  rw [iI_cl h0.1 h0.2 hn, Int.toNat_of_nonneg h0.1]
  exact h H locs ls hP hS hl
theorem go_lald (hF : Fx E cc nL own d p R s m args c) {i n : Nat} {g : Int → Int} {a : Int} (hd : decode cc pc = .ok (.laload, 1)) (hi : i < N) (hc : σ i = al E n g) (h0 : 0 ≤ a ∧ a < n) (h : Go E p e R s m args below meth c Q nL k N σ lv (vl (g a) :: st) (pc + 1)) (hn : n ≤ 65536 := by decide) : Go E p e R s m args below meth c Q nL k N σ lv (vi a :: vr E i :: st) pc := fun H locs ls hP hS hl => by
  refine va_lald hF.1 hF.2.1 hF.2.2.2.2.2.1.1 hP i 1 (at_of hi hc) rfl (iI_in h0.1 h0.2 hn) hd ?_
  rw [iI_cl h0.1 h0.2 hn, Int.toNat_of_nonneg h0.1]
  exact h H locs ls hP hS hl
theorem go_zald (hF : Fx E cc nL own d p R s m args c) {i n : Nat} {g : Int → Int} {a : Int} (hd : decode cc pc = .ok (.baload, 1)) (hi : i < N) (hc : σ i = az E n g) (h0 : 0 ≤ a ∧ a < n) (h : Go E p e R s m args below meth c Q nL k N σ lv (vi (g a) :: st) (pc + 1)) (hn : n ≤ 65536 := by decide) : Go E p e R s m args below meth c Q nL k N σ lv (vi a :: vr E i :: st) pc := fun H locs ls hP hS hl => by
  refine va_zald hF.1 hF.2.1 hF.2.2.2.2.2.1.1 hP i 2 (at_of hi hc) rfl (iI_in h0.1 h0.2 hn) hd ?_
  rw [iI_cl h0.1 h0.2 hn, Int.toNat_of_nonneg h0.1]
  exact h H locs ls hP hS hl
theorem go_aald (hF : Fx E cc nL own d p R s m args c) {i n : Nat} (t : Nat) {C : String} {g : Int → Int} {a : Int} (b : Nat) (hd : decode cc pc = .ok (.aaload, 1)) (ht : (eT E)[t]? = some (ec E t, .object C)) (hi : i < N) (hc : σ i = ar E t n g) (h0 : 0 ≤ a ∧ a < n) (hb : g a = b) (h : Go E p e R s m args below meth c Q nL k N σ lv (vr E b :: st) (pc + 1)) (hn : n ≤ 65536 := by decide) : Go E p e R s m args below meth c Q nL k N σ lv (vi a :: vr E i :: st) pc := fun H locs ls hP hS hl => by
  refine va_aldq hF.1 hF.2.1 hF.2.2.2.2.2.1.1 hP i t (at_of hi hc) ht (iI_in h0.1 h0.2 hn) hd ?_
  rw [iI_cl h0.1 h0.2 hn, Int.toNat_of_nonneg h0.1, hb, show rfo E (b : Int) = some (ez E + b) by simp [rfo]]
  exact h H locs ls hP hS hl
theorem go_iast (hF : Fx E cc nL own d p R s m args c) {i n : Nat} {g : Int → Int} {a x : Int} (hd : decode cc pc = .ok (.iastore, 1)) (hi : i < N) (hc : σ i = ai E n g) (h0 : 0 ≤ a ∧ a < n) (h : ∀ σ' : Nat → va_E, σ' i = ai E n (up g a x) → (∀ j, j ≠ i → σ' j = σ j) → Go E p e R s m args below meth c Q nL k N σ' lv st (pc + 1)) (hn : n ≤ 65536 := by decide) : Go E p e R s m args below meth c Q nL k N σ lv (vi x :: vi a :: vr E i :: st) pc := fun H locs ls hP hS hl => by
  refine va_iast hF.1 hF.2.1 hF.2.2.2.2.2.1.1 hP wd_D hS i 0 (at_of hi hc) rfl (iI_in h0.1 h0.2 hn) hd (fun H1 locs1 hP1 _ hS1 => ?_)
  refine h (va_up σ i (ai E n (up g a x))) (va_up_self _ _ _) (fun j hj => va_up_ne _ _ hj) H1 locs1 ls ?_ hS1 hl
  have e := wd_set (E := E) (N := N) (σ := σ) (σ' := va_up σ i (ai E n (up g a x))) (i := i) (x := ai E n (up g a x)) (va_up_self _ _ _) (fun j hj => va_up_ne _ _ hj)
  rw [iI_cl h0.1 h0.2 hn, upd_up g h0.1] at hP1
  rw [Hp, ← e]
  exact hP1
theorem go_last (hF : Fx E cc nL own d p R s m args c) {i n : Nat} {g : Int → Int} {a x : Int} (hd : decode cc pc = .ok (.lastore, 1)) (hi : i < N) (hc : σ i = al E n g) (h0 : 0 ≤ a ∧ a < n) (h : ∀ σ' : Nat → va_E, σ' i = al E n (up g a x) → (∀ j, j ≠ i → σ' j = σ j) → Go E p e R s m args below meth c Q nL k N σ' lv st (pc + 1)) (hn : n ≤ 65536 := by decide) : Go E p e R s m args below meth c Q nL k N σ lv (vl x :: vi a :: vr E i :: st) pc := fun H locs ls hP hS hl => by
  refine va_last hF.1 hF.2.1 hF.2.2.2.2.2.1.1 hP wd_D hS i 1 (at_of hi hc) rfl (iI_in h0.1 h0.2 hn) hd (fun H1 locs1 hP1 _ hS1 => ?_)
  refine h (va_up σ i (al E n (up g a x))) (va_up_self _ _ _) (fun j hj => va_up_ne _ _ hj) H1 locs1 ls ?_ hS1 hl
  have e := wd_set (E := E) (N := N) (σ := σ) (σ' := va_up σ i (al E n (up g a x))) (i := i) (x := al E n (up g a x)) (va_up_self _ _ _) (fun j hj => va_up_ne _ _ hj)
  rw [iI_cl h0.1 h0.2 hn, updL_up g h0.1] at hP1
  rw [Hp, ← e]
  exact hP1
theorem go_zast (hF : Fx E cc nL own d p R s m args c) {i n : Nat} {g : Int → Int} {a x : Int} (hd : decode cc pc = .ok (.bastore, 1)) (hi : i < N) (hc : σ i = az E n g) (h0 : 0 ≤ a ∧ a < n) (hx : x = 0 ∨ x = 1) (h : ∀ σ' : Nat → va_E, σ' i = az E n (up g a x) → (∀ j, j ≠ i → σ' j = σ j) → Go E p e R s m args below meth c Q nL k N σ' lv st (pc + 1)) (hn : n ≤ 65536 := by decide) : Go E p e R s m args below meth c Q nL k N σ lv (vi x :: vi a :: vr E i :: st) pc := fun H locs ls hP hS hl => by
  refine va_zast hF.1 hF.2.1 hF.2.2.2.2.2.1.1 hP wd_D hS i 2 (at_of hi hc) rfl (iI_in h0.1 h0.2 hn) hd (fun H1 locs1 hP1 _ hS1 => ?_)
  refine h (va_up σ i (az E n (up g a x))) (va_up_self _ _ _) (fun j hj => va_up_ne _ _ hj) H1 locs1 ls ?_ hS1 hl
  have e := wd_set (E := E) (N := N) (σ := σ) (σ' := va_up σ i (az E n (up g a x))) (i := i) (x := az E n (up g a x)) (va_up_self _ _ _) (fun j hj => va_up_ne _ _ hj)
  have e2 : vp_nar .boolean (iI x) = iI x := by rcases hx with rfl | rfl <;> decide
  rw [iI_cl h0.1 h0.2 hn, e2, upd_up g h0.1] at hP1
  rw [Hp, ← e]
  exact hP1
theorem go_aast (hF : Fx E cc nL own d p R s m args c) {i n b : Nat} (t ci : Nat) {C : String} {T : u_T} {nf : Nat} {fs : List Value} {g : Int → Int} {a : Int} (hd : decode cc pc = .ok (.aastore, 1)) (ht : (eT E)[t]? = some (ec E t, .object C)) (hcl : vwCl[ci]? = some (C, T, nf)) (hi : i < N) (hc : σ i = ar E t n g) (hb : b < N) (hcb : σ b = ob ci fs) (h0 : 0 ≤ a ∧ a < n) (h : ∀ σ' : Nat → va_E, σ' i = ar E t n (up g a b) → (∀ j, j ≠ i → σ' j = σ j) → Go E p e R s m args below meth c Q nL k N σ' lv st (pc + 1)) (hn : n ≤ 65536 := by decide) : Go E p e R s m args below meth c Q nL k N σ lv (vr E b :: vi a :: vr E i :: st) pc := fun H locs ls hP hS hl => by
  refine va_astq hF.1 hF.2.1 hF.2.2.2.2.2.1.1 hP wd_D hS i t b ci (r := (C, T, nf)) (at_of hi hc) ht (at_of hb hcb) hcl (iI_in h0.1 h0.2 hn) hd (fun H1 locs1 hP1 _ hS1 => ?_)
  refine h (va_up σ i (ar E t n (up g a b))) (va_up_self _ _ _) (fun j hj => va_up_ne _ _ hj) H1 locs1 ls ?_ hS1 hl
  have e := wd_set (E := E) (N := N) (σ := σ) (σ' := va_up σ i (ar E t n (up g a b))) (i := i) (x := ar E t n (up g a b)) (va_up_self _ _ _) (fun j hj => va_up_ne _ _ hj)
  rw [iI_cl h0.1 h0.2 hn, updQ_up E g h0.1] at hP1
  rw [Hp, ← e]
  exact hP1
theorem go_alen (hF : Fx E cc nL own d p R s m args c) {i n : Nat} {g : Int → Int} (hd : decode cc pc = .ok (.arraylength, 1)) (hi : i < N) (hc : σ i = ai E n g) (h : Go E p e R s m args below meth c Q nL k N σ lv (vi n :: st) (pc + 1)) : Go E p e R s m args below meth c Q nL k N σ lv (vr E i :: st) pc := fun H locs ls hP hS hl => 
  va_alen hF.1 hF.2.1 hF.2.2.2.2.2.1.1 hP i 0 (at_of hi hc) (ty := .int) rfl (show Int32.ofNat n = iI n by rw [iI]; exact (Int32.ofInt_eq_ofNat).symm) hd (h H locs ls hP hS hl)
theorem size_of {H : Heap} {locs : List Loc} {T : State} (hP : Hp E N σ H) (hT : T.heap = H) (X : Stand p E.1 e R s m args below meth c T locs k.1 k.2) (hz : s.heap.size + k.1 = ez E + N) (hN : N ≠ 0 ∨ k.1 = 0) : H.size = ez E + N := by
  have h2 : T.heap.size ≤ s.heap.size + k.1 := X.same.2.2.1
  have h4 : s.heap.size ≤ T.heap.size := X.same.2.1
  rw [hT] at h2 h4
  by_cases h0 : N = 0
  · rcases hN with h | h <;> omega
  · have h3 : ez E + (N - 1) < H.size := (hP (N - 1) _ (wd_at (by omega))).lt
    omega
/-- calls: what a run of the callee is -/
theorem go_run {mc ms : Nat} {a : Array Value} {st0 : List Value} {post : Option Value → Nat → (Nat → va_E) → Prop}
    (hr : ∀ H locs ls, Hp E N σ H → va_S (eA E) s.heap H locs → lv_has ls nL lv → (mc ≠ 0 → H.size = ez E + N) → va_Run p E.1 e R s m args below meth c H locs k.1 k.2 mc ms (F0 m pc ls st0) st (Qp E post a) (eA E)) (hz : mc ≠ 0 → s.heap.size + k.1 = ez E + N ∧ (N ≠ 0 ∨ k.1 = 0))
    (h : ∀ r N' σ', post r N' σ' → Go E p e R s m args below meth c Q nL (k.1 + mc, k.2 + ms) N' σ' lv (r.toList ++ st) (pc + 3)) : Go E p e R s m args below meth c Q nL k N σ lv st0 pc := by
  intro H locs ls hP hS hl T hT X
  have hsz : mc ≠ 0 → H.size = ez E + N := fun hm => size_of hP hT X (hz hm).1 (hz hm).2
  obtain ⟨v, st₀, t, T', L, h0, X', hL, e1, e2, ⟨⟨r, N', σ', hv, hp, hP'⟩, hz', hk⟩, hgo⟩ := hr H locs ls hP hS hl hsz T hT X
  cases hv
  rw [h0] at hz' hk
  obtain ⟨t2, a1, b1⟩ := h _ N' σ' hp T'.heap (locs ++ L) ls (by rw [e1]; exact hP') ⟨Nat.le_trans hS.1 (by rw [e1]; exact hz'), fun q h1 h2 => by rw [e1, hk q (Nat.lt_of_lt_of_le h1 hS.1) h2]; exact hS.2.1 q h1 h2, fun q hq => by
      rcases List.mem_append.mp hq with h | h
      · exact hS.2.2 q h
      · exact hL q h⟩ hl T' rfl X'
  exact ⟨t2, hgo t2 a1, b1⟩
theorem LW_good {M M' : Mth} (h : Cond.code M.1 M.2.1 M.2.2.1 M.2.2.2 ∈ GW) : GoodIn GW (LW M) := by
  intro w hw
  rcases List.mem_cons.mp hw with rfl | hw
  · exact ⟨h, GW_good h⟩
  · exact ⟨hw, GW_good hw⟩
theorem pc_blind {mc : Nat} {as : List Value} : FrameBlind (va_Pc as (fun U => (Hp E N σ U.heap ∧ (mc ≠ 0 → U.heap.size = ez E + N)) ∧ Kx E U)) := fun a U g mk q => by
  obtain ⟨q0, q1, qK⟩ := q
  exact ⟨q0, q1, qK.calling⟩
/-- a call of an object's own method -/
theorem go_callV (hF : Fx E cc nL own d p R s m args c) {M : Mth} {idx ci n i d' mc ms : Nat} {fs : List Value} {st0 : List Value} {post : Option Value → Nat → (Nat → va_E) → Prop} (as : List Value) (st : List Value) (hM : MV own idx M ci n) (hd : decode cc pc = .ok (.invokevirtual idx, 3)) (hi : i < N) (hc : σ i = ob ci fs) (hC : CT E M d' mc ms (vr E i :: as) N σ post) (hst : st0 = as.reverse ++ vr E i :: st) (hn : as.length = n) (hw : (st.map fun v => v.category).sum ≤ 8) (hdd : d' + 1 ≤ d) (hf : k.1 + mc ≤ R.cells ∧ k.2 + ms ≤ R.slots) (hz : mc ≠ 0 → s.heap.size + k.1 = ez E + N ∧ (N ≠ 0 ∨ k.1 = 0))
    (h : ∀ r N' σ', post r N' σ' → Go E p e R s m args below meth c Q nL (k.1 + mc, k.2 + ms) N' σ' lv (r.toList ++ st) (pc + 3)) : Go E p e R s m args below meth c Q nL k N σ lv st0 pc := by
  obtain ⟨⟨T, nf, h1⟩, h2, h3, h4, h5, h6, ⟨h7, h8, h9⟩, h10⟩ := hM
  refine go_run (mc := mc) (ms := ms) (a := (vr E i :: as).toArray) (st := st) (post := post) (fun H locs ls hP hS hl hsz => ?_) hz h
  have hts := hF.2.2.2.2.1
  refine va_runV (As := as) (rest := st) (C := M.1.cls) (bytes := M.2.1) (maxL := M.2.2.1) (ret := M.2.2.2) (n := n) ⟨hF.1, hF.2.1, hF.2.2.1, hF.2.2.2.1, hts⟩ hC ⟨callB_of n hts (LW_good (M' := M) h6) rfl rfl rfl (hts _ h5) (hts _ h2) ⟨h7, h8, h9⟩ ?_, hts _ h3, hts _ h4⟩ ⟨pc_blind, ?_, ?_⟩ rfl hn hl.1 hst (lv_room hw) hd hf
  · have a1 := hF.2.2.2.2.2.2.1
    have a2 := hF.2.2.2.2.2.2.2
    exact ⟨by show d' + 1 ≤ R.frames; omega, by show 8 + (M.2.2.1 + 11) + 40 * d' ≤ R.locals; omega⟩
  · exact va_recv hF.2.2.2.2.2.1.1 hP (ci := ci) (q := (M.1.cls, T, nf)) h1 (q0 := i) (at_of hi hc)
  · exact fun U hU hW => ⟨rfl, ⟨by rw [hU]; exact hP, fun hm => by rw [hU]; exact hsz hm⟩, Kx.warm hW hF.2.2.2.2.2.1⟩
theorem go_callS (hF : Fx E cc nL own d p R s m args c) {M : Mth} {idx n d' mc ms : Nat} {st0 : List Value} {post : Option Value → Nat → (Nat → va_E) → Prop} (as : List Value) (st : List Value) (hM : MS own idx M n) (hd : decode cc pc = .ok (.invokestatic idx, 3)) (hC : CT E M d' mc ms as N σ post) (hst : st0 = as.reverse ++ st) (hn : as.length = n) (hw : (st.map fun v => v.category).sum ≤ 8) (hdd : d' + 1 ≤ d) (hf : k.1 + mc ≤ R.cells ∧ k.2 + ms ≤ R.slots) (hz : mc ≠ 0 → s.heap.size + k.1 = ez E + N ∧ (N ≠ 0 ∨ k.1 = 0))
    (h : ∀ r N' σ', post r N' σ' → Go E p e R s m args below meth c Q nL (k.1 + mc, k.2 + ms) N' σ' lv (r.toList ++ st) (pc + 3)) : Go E p e R s m args below meth c Q nL k N σ lv st0 pc := by
  obtain ⟨h2, h3, h5, h6, ⟨h7, h8, h9⟩, h10⟩ := hM
  refine go_run (mc := mc) (ms := ms) (a := as.toArray) (st := st) (post := post) (fun H locs ls hP hS hl hsz => ?_) hz h
  have hts := hF.2.2.2.2.1
  refine va_runS (As := as) (rest := st) (bytes := M.2.1) (maxL := M.2.2.1) (ret := M.2.2.2) (n := n) ⟨hF.1, hF.2.1, hF.2.2.1, hF.2.2.2.1, hts⟩ hC ⟨callB_of n hts (LW_good (M' := M) h6) rfl rfl rfl (hts _ h5) (hts _ h2) ⟨h7, h8, h9⟩ ?_, hts _ h3⟩ ⟨pc_blind, ?_⟩ rfl hn hl.1 hst (lv_room hw) hd hf
  · have a1 := hF.2.2.2.2.2.2.1
    have a2 := hF.2.2.2.2.2.2.2
    exact ⟨by show d' + 1 ≤ R.frames; omega, by show 8 + (M.2.2.1 + 11) + 40 * d' ≤ R.locals; omega⟩
  · exact fun U hU hW => ⟨rfl, ⟨by rw [hU]; exact hP, fun hm => by rw [hU]; exact hsz hm⟩, Kx.warm hW hF.2.2.2.2.2.1⟩
theorem go_callN (hF : Fx E cc nL own d p R s m args c) {M : Mth} {idx n d' mc ms : Nat} {host : String} {st0 : List Value} {post : Option Value → Nat → (Nat → va_E) → Prop} (as : List Value) (st : List Value) (hM : MN own idx M host n) (hd : decode cc pc = .ok (.invokestatic idx, 3)) (hC : CT E M d' mc ms as N σ post) (hst : st0 = as.reverse ++ st) (hn : as.length = n) (hw : (st.map fun v => v.category).sum ≤ 8) (hdd : d' + 1 ≤ d) (hf : k.1 + mc ≤ R.cells ∧ k.2 + ms ≤ R.slots) (hz : mc ≠ 0 → s.heap.size + k.1 = ez E + N ∧ (N ≠ 0 ∨ k.1 = 0))
    (h : ∀ r N' σ', post r N' σ' → Go E p e R s m args below meth c Q nL (k.1 + mc, k.2 + ms) N' σ' lv (r.toList ++ st) (pc + 3)) : Go E p e R s m args below meth c Q nL k N σ lv st0 pc := by
  obtain ⟨h2, h3, h5, h6, ⟨h7, h8, h9⟩, h10⟩ := hM
  refine go_run (mc := mc) (ms := ms) (a := as.toArray) (st := st) (post := post) (fun H locs ls hP hS hl hsz => ?_) hz h
  have hts := hF.2.2.2.2.1
  refine va_runSN (As := as) (rest := st) (host := host) (bytes := M.2.1) (maxL := M.2.2.1) (ret := M.2.2.2) (n := n) ⟨hF.1, hF.2.1, hF.2.2.1, hF.2.2.2.1, hts⟩ hC ⟨va_cnB n hts (LW_good (M' := M) h6) rfl rfl rfl (hF.2.2.2.2.2.1.2.1 _ h2) (hts _ h5) ⟨h7, h8, h9⟩ ?_, hts _ h3, trivial⟩ ⟨pc_blind, ?_⟩ rfl hn hl.1 hst (lv_room hw) hd hf
  · have a1 := hF.2.2.2.2.2.2.1
    have a2 := hF.2.2.2.2.2.2.2
    exact ⟨by show d' + 1 ≤ R.frames; omega, by show 8 + (M.2.2.1 + 11) + 40 * d' ≤ R.locals; omega⟩
  · exact fun U hU hW => ⟨rfl, ⟨by rw [hU]; exact hP, fun hm => by rw [hU]; exact hsz hm⟩, Kx.warm hW hF.2.2.2.2.2.1⟩
-- the three kinds of answers, of calls that make nothing
theorem go_callVI (hF : Fx E cc nL own d p R s m args c) {M : Mth} {idx ci n i d' : Nat} {fs : List Value} {st0 : List Value} {post : Int → (Nat → va_E) → Prop} (as : List Value) (st : List Value) (hM : MV own idx M ci n) (hd : decode cc pc = .ok (.invokevirtual idx, 3)) (hi : i < N) (hc : σ i = ob ci fs) (hC : CI E M d' (vr E i :: as) N σ post) (hst : st0 = as.reverse ++ vr E i :: st) (hn : as.length = n) (hw : (st.map fun v => v.category).sum ≤ 8) (hdd : d' + 1 ≤ d) (hf : k.1 ≤ R.cells ∧ k.2 ≤ R.slots) (h : ∀ (x : Int) (σ' : Nat → va_E), post x σ' → Go E p e R s m args below meth c Q nL k N σ' lv (vi x :: st) (pc + 3)) : Go E p e R s m args below meth c Q nL k N σ lv st0 pc :=
  go_callV hF as st hM hd hi hc hC hst hn hw hdd hf (fun q => absurd rfl q) (fun r N' σ' hp => by obtain ⟨rfl, x, rfl, hp⟩ := hp; exact h x σ' hp)
theorem go_callVL (hF : Fx E cc nL own d p R s m args c) {M : Mth} {idx ci n i d' : Nat} {fs : List Value} {st0 : List Value} {post : Int → (Nat → va_E) → Prop} (as : List Value) (st : List Value) (hM : MV own idx M ci n) (hd : decode cc pc = .ok (.invokevirtual idx, 3)) (hi : i < N) (hc : σ i = ob ci fs) (hC : CL E M d' (vr E i :: as) N σ post) (hst : st0 = as.reverse ++ vr E i :: st) (hn : as.length = n) (hw : (st.map fun v => v.category).sum ≤ 8) (hdd : d' + 1 ≤ d) (hf : k.1 ≤ R.cells ∧ k.2 ≤ R.slots) (h : ∀ (x : Int) (σ' : Nat → va_E), post x σ' → Go E p e R s m args below meth c Q nL k N σ' lv (vl x :: st) (pc + 3)) : Go E p e R s m args below meth c Q nL k N σ lv st0 pc :=
  go_callV hF as st hM hd hi hc hC hst hn hw hdd hf (fun q => absurd rfl q) (fun r N' σ' hp => by obtain ⟨rfl, x, rfl, hp⟩ := hp; exact h x σ' hp)
theorem go_callVV (hF : Fx E cc nL own d p R s m args c) {M : Mth} {idx ci n i d' : Nat} {fs : List Value} {st0 : List Value} {post : (Nat → va_E) → Prop} (as : List Value) (st : List Value) (hM : MV own idx M ci n) (hd : decode cc pc = .ok (.invokevirtual idx, 3)) (hi : i < N) (hc : σ i = ob ci fs) (hC : CV E M d' (vr E i :: as) N σ post) (hst : st0 = as.reverse ++ vr E i :: st) (hn : as.length = n) (hw : (st.map fun v => v.category).sum ≤ 8) (hdd : d' + 1 ≤ d) (hf : k.1 ≤ R.cells ∧ k.2 ≤ R.slots) (h : ∀ σ' : Nat → va_E, post σ' → Go E p e R s m args below meth c Q nL k N σ' lv st (pc + 3)) : Go E p e R s m args below meth c Q nL k N σ lv st0 pc :=
  go_callV hF as st hM hd hi hc hC hst hn hw hdd hf (fun q => absurd rfl q) (fun r N' σ' hp => by obtain ⟨rfl, rfl, hp⟩ := hp; exact h σ' hp)
theorem go_callSI (hF : Fx E cc nL own d p R s m args c) {M : Mth} {idx n d' : Nat} {st0 : List Value} {post : Int → (Nat → va_E) → Prop} (as : List Value) (st : List Value) (hM : MS own idx M n) (hd : decode cc pc = .ok (.invokestatic idx, 3))  (hC : CI E M d' as N σ post) (hst : st0 = as.reverse ++ st) (hn : as.length = n) (hw : (st.map fun v => v.category).sum ≤ 8) (hdd : d' + 1 ≤ d) (hf : k.1 ≤ R.cells ∧ k.2 ≤ R.slots) (h : ∀ (x : Int) (σ' : Nat → va_E), post x σ' → Go E p e R s m args below meth c Q nL k N σ' lv (vi x :: st) (pc + 3)) : Go E p e R s m args below meth c Q nL k N σ lv st0 pc :=
  go_callS hF as st hM hd hC hst hn hw hdd hf (fun q => absurd rfl q) (fun r N' σ' hp => by obtain ⟨rfl, x, rfl, hp⟩ := hp; exact h x σ' hp)
theorem go_callSL (hF : Fx E cc nL own d p R s m args c) {M : Mth} {idx n d' : Nat} {st0 : List Value} {post : Int → (Nat → va_E) → Prop} (as : List Value) (st : List Value) (hM : MS own idx M n) (hd : decode cc pc = .ok (.invokestatic idx, 3))  (hC : CL E M d' as N σ post) (hst : st0 = as.reverse ++ st) (hn : as.length = n) (hw : (st.map fun v => v.category).sum ≤ 8) (hdd : d' + 1 ≤ d) (hf : k.1 ≤ R.cells ∧ k.2 ≤ R.slots) (h : ∀ (x : Int) (σ' : Nat → va_E), post x σ' → Go E p e R s m args below meth c Q nL k N σ' lv (vl x :: st) (pc + 3)) : Go E p e R s m args below meth c Q nL k N σ lv st0 pc :=
  go_callS hF as st hM hd hC hst hn hw hdd hf (fun q => absurd rfl q) (fun r N' σ' hp => by obtain ⟨rfl, x, rfl, hp⟩ := hp; exact h x σ' hp)
theorem go_callSV (hF : Fx E cc nL own d p R s m args c) {M : Mth} {idx n d' : Nat} {st0 : List Value} {post : (Nat → va_E) → Prop} (as : List Value) (st : List Value) (hM : MS own idx M n) (hd : decode cc pc = .ok (.invokestatic idx, 3))  (hC : CV E M d' as N σ post) (hst : st0 = as.reverse ++ st) (hn : as.length = n) (hw : (st.map fun v => v.category).sum ≤ 8) (hdd : d' + 1 ≤ d) (hf : k.1 ≤ R.cells ∧ k.2 ≤ R.slots) (h : ∀ σ' : Nat → va_E, post σ' → Go E p e R s m args below meth c Q nL k N σ' lv st (pc + 3)) : Go E p e R s m args below meth c Q nL k N σ lv st0 pc :=
  go_callS hF as st hM hd hC hst hn hw hdd hf (fun q => absurd rfl q) (fun r N' σ' hp => by obtain ⟨rfl, rfl, hp⟩ := hp; exact h σ' hp)
theorem go_callNI (hF : Fx E cc nL own d p R s m args c) {M : Mth} {idx n d' : Nat} {host : String} {st0 : List Value} {post : Int → (Nat → va_E) → Prop} (as : List Value) (st : List Value) (hM : MN own idx M host n) (hd : decode cc pc = .ok (.invokestatic idx, 3))  (hC : CI E M d' as N σ post) (hst : st0 = as.reverse ++ st) (hn : as.length = n) (hw : (st.map fun v => v.category).sum ≤ 8) (hdd : d' + 1 ≤ d) (hf : k.1 ≤ R.cells ∧ k.2 ≤ R.slots) (h : ∀ (x : Int) (σ' : Nat → va_E), post x σ' → Go E p e R s m args below meth c Q nL k N σ' lv (vi x :: st) (pc + 3)) : Go E p e R s m args below meth c Q nL k N σ lv st0 pc :=
  go_callN hF as st hM hd hC hst hn hw hdd hf (fun q => absurd rfl q) (fun r N' σ' hp => by obtain ⟨rfl, x, rfl, hp⟩ := hp; exact h x σ' hp)
theorem go_callNL (hF : Fx E cc nL own d p R s m args c) {M : Mth} {idx n d' : Nat} {host : String} {st0 : List Value} {post : Int → (Nat → va_E) → Prop} (as : List Value) (st : List Value) (hM : MN own idx M host n) (hd : decode cc pc = .ok (.invokestatic idx, 3))  (hC : CL E M d' as N σ post) (hst : st0 = as.reverse ++ st) (hn : as.length = n) (hw : (st.map fun v => v.category).sum ≤ 8) (hdd : d' + 1 ≤ d) (hf : k.1 ≤ R.cells ∧ k.2 ≤ R.slots) (h : ∀ (x : Int) (σ' : Nat → va_E), post x σ' → Go E p e R s m args below meth c Q nL k N σ' lv (vl x :: st) (pc + 3)) : Go E p e R s m args below meth c Q nL k N σ lv st0 pc :=
  go_callN hF as st hM hd hC hst hn hw hdd hf (fun q => absurd rfl q) (fun r N' σ' hp => by obtain ⟨rfl, x, rfl, hp⟩ := hp; exact h x σ' hp)
theorem go_callNV (hF : Fx E cc nL own d p R s m args c) {M : Mth} {idx n d' : Nat} {host : String} {st0 : List Value} {post : (Nat → va_E) → Prop} (as : List Value) (st : List Value) (hM : MN own idx M host n) (hd : decode cc pc = .ok (.invokestatic idx, 3))  (hC : CV E M d' as N σ post) (hst : st0 = as.reverse ++ st) (hn : as.length = n) (hw : (st.map fun v => v.category).sum ≤ 8) (hdd : d' + 1 ≤ d) (hf : k.1 ≤ R.cells ∧ k.2 ≤ R.slots) (h : ∀ σ' : Nat → va_E, post σ' → Go E p e R s m args below meth c Q nL k N σ' lv st (pc + 3)) : Go E p e R s m args below meth c Q nL k N σ lv st0 pc :=
  go_callN hF as st hM hd hC hst hn hw hdd hf (fun q => absurd rfl q) (fun r N' σ' hp => by obtain ⟨rfl, rfl, hp⟩ := hp; exact h σ' hp)
theorem go_iret {post : Int → (Nat → va_E) → Prop} {x : Int} (hF : Fx E cc nL own d p R s m args c) (hr : meth.sig.returnType = some .int) (hlk : meth.locks = false) (hd : decode cc pc = .ok (.ireturn, 1)) (hp : post x σ) : Go E p e R s m args below meth c (MQ below (Qp E (pI N post)) args s k.1 k.2 (eA E)) nL k N σ lv [vi x] pc := fun H locs ls hP hS hl =>
  W.iret hF.1 hF.2.1 hr (fun t ht hW => ⟨⟨_, N, σ, rfl, ⟨rfl, x, rfl, hp⟩, by rw [ht]; exact hP⟩, hS.F ht⟩) hS.2.2 hd hlk
theorem go_zret {post : Int → (Nat → va_E) → Prop} {x : Int} (hF : Fx E cc nL own d p R s m args c) (hr : meth.sig.returnType = some .boolean) (hlk : meth.locks = false) (hd : decode cc pc = .ok (.ireturn, 1)) (hx : x = 0 ∨ x = 1) (hp : post x σ) : Go E p e R s m args below meth c (MQ below (Qp E (pI N post)) args s k.1 k.2 (eA E)) nL k N σ lv [vi x] pc := fun H locs ls hP hS hl =>
  W.zret hF.1 hF.2.1 hr (by rcases hx with rfl | rfl <;> decide) (fun t ht hW => ⟨⟨_, N, σ, rfl, ⟨rfl, x, rfl, hp⟩, by rw [ht]; exact hP⟩, hS.F ht⟩) hS.2.2 hd hlk
theorem go_lret {post : Int → (Nat → va_E) → Prop} {x : Int} (hF : Fx E cc nL own d p R s m args c) (hr : meth.sig.returnType = some .long) (hlk : meth.locks = false) (hd : decode cc pc = .ok (.lreturn, 1)) (hp : post x σ) : Go E p e R s m args below meth c (MQ below (Qp E (pL N post)) args s k.1 k.2 (eA E)) nL k N σ lv [vl x] pc := fun H locs ls hP hS hl =>
  W.lret hF.1 hF.2.1 hr (fun t ht hW => ⟨⟨_, N, σ, rfl, ⟨rfl, x, rfl, hp⟩, by rw [ht]; exact hP⟩, hS.F ht⟩) hS.2.2 hd hlk
theorem go_vret {post : (Nat → va_E) → Prop} (hF : Fx E cc nL own d p R s m args c) (hr : meth.sig.returnType = none) (hlk : meth.locks = false) (hd : decode cc pc = .ok (.return_, 1)) (hp : post σ) : Go E p e R s m args below meth c (MQ below (Qp E (pV N post)) args s k.1 k.2 (eA E)) nL k N σ lv [] pc := fun H locs ls hP hS hl =>
  W.vret hF.1 hF.2.1 hr (fun t ht hW => ⟨⟨_, N, σ, rfl, ⟨rfl, rfl, hp⟩, by rw [ht]; exact hP⟩, hS.F ht⟩) hS.2.2 hd hlk
/-- a return from a method that makes cells -/
theorem go_vretN {post : Option Value → Nat → (Nat → va_E) → Prop} (hF : Fx E cc nL own d p R s m args c) (hr : meth.sig.returnType = none) (hlk : meth.locks = false) (hd : decode cc pc = .ok (.return_, 1)) (hp : post none N σ) : Go E p e R s m args below meth c (MQ below (Qp E post) args s k.1 k.2 (eA E)) nL k N σ lv [] pc := fun H locs ls hP hS hl =>
  W.vret hF.1 hF.2.1 hr (fun t ht hW => ⟨⟨_, N, σ, rfl, hp, by rw [ht]; exact hP⟩, hS.F ht⟩) hS.2.2 hd hlk
theorem go_ldc (hF : Fx E cc nL own d p R s m args c) {idx : Nat} {v : Int} (hw : Cond.constant own idx (iI v) ∈ GW) (hd : decode cc pc = .ok (.ldc idx, 2)) (h : Go E p e R s m args below meth c Q nL k N σ lv (vi v :: st) (pc + 2)) : Go E p e R s m args below meth c Q nL k N σ lv st pc := fun H locs ls hP hS hl => lv_ldc hF.1 hF.2.1 hF.2.2.2.1 (hF.2.2.2.2.1 _ hw) hd (h H locs ls hP hS hl)
theorem go_ldcw (hF : Fx E cc nL own d p R s m args c) {idx : Nat} {v : Int} (hw : Cond.constant own idx (iI v) ∈ GW) (hd : decode cc pc = .ok (.ldc_w idx, 3)) (h : Go E p e R s m args below meth c Q nL k N σ lv (vi v :: st) (pc + 3)) : Go E p e R s m args below meth c Q nL k N σ lv st pc := fun H locs ls hP hS hl => lv_ldcw hF.1 hF.2.1 hF.2.2.2.1 (hF.2.2.2.2.1 _ hw) hd (h H locs ls hP hS hl)
theorem go_ldc2 (hF : Fx E cc nL own d p R s m args c) {idx : Nat} {v : Int} (hw : Cond.constantLong own idx (lI v) ∈ GW) (hd : decode cc pc = .ok (.ldc2_w idx, 3)) (h : Go E p e R s m args below meth c Q nL k N σ lv (vl v :: st) (pc + 3)) : Go E p e R s m args below meth c Q nL k N σ lv st pc := fun H locs ls hP hS hl => lv_ldc2 hF.1 hF.2.1 hF.2.2.2.1 (hF.2.2.2.2.1 _ hw) hd (h H locs ls hP hS hl)
theorem go_lcmp (hF : Fx E cc nL own d p R s m args c) {a b : Int} (hd : decode cc pc = .ok (.lcmp, 1)) (ha : rgl a) (hb : rgl b) (h : Go E p e R s m args below meth c Q nL k N σ lv (vi (lc a b) :: st) (pc + 1)) : Go E p e R s m args below meth c Q nL k N σ lv (vl b :: vl a :: st) pc := fun H locs ls hP hS hl => W.lcmp hF.1 hF.2.1 hd (by rw [lc_of ha hb]; exact h H locs ls hP hS hl)
theorem go_tableIn (hF : Fx E cc nL own d p R s m args c) (tgt : Nat) {dflt lo hi : Int} {offs : Array Int} {len : Nat} {a : Int} {off : Int} (hd : decode cc pc = .ok (.tableswitch dflt lo hi offs, len)) (ha : rg a) (h1 : lo ≤ a ∧ a ≤ hi) (ho : offs[(a - lo).toNat]? = some off) (ht : (pc : Int) + off = (tgt : Int)) (h : Go E p e R s m args below meth c Q nL k N σ lv st tgt) : Go E p e R s m args below meth c Q nL k N σ lv (vi a :: st) pc := fun H locs ls hP hS hl =>
  lv_tableIn hF.1 hF.2.1 hd (by rw [iI_toInt ha]; omega) (by rw [iI_toInt ha]; omega) (by rw [iI_toInt ha]; exact ho) ht (h H locs ls hP hS hl)
theorem go_tableOut (hF : Fx E cc nL own d p R s m args c) (tgt : Nat) {dflt lo hi : Int} {offs : Array Int} {len : Nat} {a : Int} (hd : decode cc pc = .ok (.tableswitch dflt lo hi offs, len)) (ha : rg a) (h1 : a < lo ∨ hi < a) (ht : (pc : Int) + dflt = (tgt : Int)) (h : Go E p e R s m args below meth c Q nL k N σ lv st tgt) : Go E p e R s m args below meth c Q nL k N σ lv (vi a :: st) pc := fun H locs ls hP hS hl =>
  lv_tableOut hF.1 hF.2.1 hd (by rw [iI_toInt ha]; exact h1) ht (h H locs ls hP hS hl)
theorem go_lookup (hF : Fx E cc nL own d p R s m args c) (tgt : Nat) {dflt : Int} {ps : Array (Int × Int)} {len : Nat} {a : Int} {off : Int} (hd : decode cc pc = .ok (.lookupswitch dflt ps, len)) (hp : (ps.toList.zip (ps.toList.drop 1)).all (fun (a, next) => a.1 < next.1) = true) (ha : rg a) (ho : Op.lookupswitch.offset ps.toList dflt a = off) (ht : (pc : Int) + off = (tgt : Int)) (h : Go E p e R s m args below meth c Q nL k N σ lv st tgt) : Go E p e R s m args below meth c Q nL k N σ lv (vi a :: st) pc := fun H locs ls hP hS hl =>
  lv_lookup hF.1 hF.2.1 hd hp (by rw [iI_toInt ha]; exact ho) ht (h H locs ls hP hS hl)
/-- Math.max, Math.min -/
theorem go_mmax (hF : Fx E cc nL own d p R s m args c) {idx : Nat} {a b : Int} (hM : MS own idx (Lib.Math.max.name, Lib.Math.max.code, 2, some .int) 2) (hd : decode cc pc = .ok (.invokestatic idx, 3)) (ha : rg a) (hb : rg b) (hw : (st.map fun v => v.category).sum ≤ 8) (hdd : 1 ≤ d) (hf : k.1 ≤ R.cells ∧ k.2 ≤ R.slots) (h : Go E p e R s m args below meth c Q nL k N σ lv (vi (max a b) :: st) (pc + 3)) : Go E p e R s m args below meth c Q nL k N σ lv (vi b :: vi a :: st) pc := fun H locs ls hP hS hl => by
  have hts := hF.2.2.2.2.1
  have a1 := hF.2.2.2.2.2.2.1
  have a2 := hF.2.2.2.2.2.2.2
  refine va_mmax hF.1 hF.2.1 (hF.2.2.1.trans hl.1.symm) hF.2.2.2.1 (hts _ hM.1) (hts _ hM.2.1) (hts _ hM.2.2.1) (hts _ hM.2.2.2.1) (by omega) (by omega) hf.1 hf.2 hd ?_
  have e : (if iI a < iI b then iI b else iI a) = iI (max a b) := by
    simp only [iI_lt ha hb]
    split
    · rw [Int.max_eq_right (by omega)]
    · rw [Int.max_eq_left (by omega)]
  rw [e]
  exact h H locs ls hP hS hl
theorem go_mmin (hF : Fx E cc nL own d p R s m args c) {idx : Nat} {a b : Int} (hM : MS own idx (Lib.Math.min.name, Lib.Math.min.code, 2, some .int) 2) (hd : decode cc pc = .ok (.invokestatic idx, 3)) (ha : rg a) (hb : rg b) (hw : (st.map fun v => v.category).sum ≤ 8) (hdd : 1 ≤ d) (hf : k.1 ≤ R.cells ∧ k.2 ≤ R.slots) (h : Go E p e R s m args below meth c Q nL k N σ lv (vi (min a b) :: st) (pc + 3)) : Go E p e R s m args below meth c Q nL k N σ lv (vi b :: vi a :: st) pc := fun H locs ls hP hS hl => by
  have hts := hF.2.2.2.2.1
  have a1 := hF.2.2.2.2.2.2.1
  have a2 := hF.2.2.2.2.2.2.2
  refine va_mmin hF.1 hF.2.1 (hF.2.2.1.trans hl.1.symm) hF.2.2.2.1 (hts _ hM.1) (hts _ hM.2.1) (hts _ hM.2.2.1) (hts _ hM.2.2.2.1) (by omega) (by omega) hf.1 hf.2 hd ?_
  have e : (if iI b < iI a then iI b else iI a) = iI (min a b) := by
    simp only [iI_lt hb ha]
    split
    · rw [Int.min_eq_right (by omega)]
    · rw [Int.min_eq_left (by omega)]
  rw [e]
  exact h H locs ls hP hS hl
theorem go_mminl (hF : Fx E cc nL own d p R s m args c) {idx : Nat} {a b : Int} (hM : MS own idx (Lib.MathLoose.min_long.x, Lib.MathLoose.min_long.code, 4, some .long) 2) (hd : decode cc pc = .ok (.invokestatic idx, 3)) (ha : rgl a) (hb : rgl b) (hw : (st.map fun v => v.category).sum ≤ 8) (hdd : 1 ≤ d) (hf : k.1 ≤ R.cells ∧ k.2 ≤ R.slots) (h : Go E p e R s m args below meth c Q nL k N σ lv (vl (min a b) :: st) (pc + 3)) : Go E p e R s m args below meth c Q nL k N σ lv (vl b :: vl a :: st) pc := fun H locs ls hP hS hl => by
  have hts := hF.2.2.2.2.1
  have a1 := hF.2.2.2.2.2.2.1
  have a2 := hF.2.2.2.2.2.2.2
  refine va_mmin_long hF.1 hF.2.1 (hF.2.2.1.trans hl.1.symm) hF.2.2.2.1 (hts _ hM.1) (hts _ hM.2.1) (hts _ hM.2.2.1) (hts _ hM.2.2.2.1) (by omega) (by omega) hf.1 hf.2 hd ?_
  have e : (if lI b < lI a then lI b else lI a) = lI (min a b) := by
    simp only [lI_lt hb ha]
    split
    · rw [Int.min_eq_right (by omega)]
    · rw [Int.min_eq_left (by omega)]
  rw [e]
  exact h H locs ls hP hS hl
/-- System.arraycopy of a whole row of ints onto another -/
theorem go_copy (hF : Fx E cc nL own d p R s m args c) {idx : Nat} {i j n : Nat} {f g : Int → Int} (hM : Cond.methodLink own idx arraycopyName ∈ GW ∧ Cond.native arraycopyName ∈ GW ∧ Cond.static arraycopyName ∈ GW ∧ Cond.initialized "java/lang/System" ∈ GW) (hd : decode cc pc = .ok (.invokestatic idx, 3)) (hi : i < N) (hci : σ i = ai E n f) (hj : j < N) (hcj : σ j = ai E n g) (hw : (st.map fun v => v.category).sum ≤ 8) (hdd : 1 ≤ d) (hloc : nativeFrameWords "java/lang/System" "arraycopy" 5 + 11 + 8 ≤ 40) (h : ∀ σ' : Nat → va_E, σ' j = ai E n f → (∀ q, q ≠ j → σ' q = σ q) → Go E p e R s m args below meth c Q nL k N σ' lv st (pc + 3)) (hn : n ≤ 65536 := by decide) : Go E p e R s m args below meth c Q nL k N σ lv (vi n :: vi 0 :: vr E j :: vi 0 :: vr E i :: st) pc := fun H locs ls hP hS hl => by
  have hts := hF.2.2.2.2.1
  have a1 := hF.2.2.2.2.2.2.1
  have a2 := hF.2.2.2.2.2.2.2
  have z0 : ¬ iI 0 < 0 := by decide
  have zc : (iI 0).toNatClampNeg = 0 := by decide
  have nr : rg (n : Int) := ⟨by omega, by omega⟩
  have n0 : ¬ iI n < 0 := fun q => by
    have := (iI_lt (b := 0) nr ⟨by decide, by decide⟩).mp q
    omega
  have nc : (iI n).toNatClampNeg = n := by
    show (iI n).toInt.toNat = n
    rw [iI_toInt nr]; rfl
  refine va_copyi hF.1 hF.2.1 (hF.2.2.1.trans hl.1.symm) hF.2.2.2.1 (hts _ hM.1) (hts _ hM.2.1) (hts _ hM.2.2.1) (hts _ hM.2.2.2) hF.2.2.2.2.2.1.1 hP wd_D hS i j 0 0 (at_of hi hci) (at_of hj hcj) rfl rfl rfl z0 z0 n0 (by rw [zc, nc]; omega) (by rw [zc, nc]; omega) (fun _ _ => rfl) (by omega) (by omega) hd (fun H1 locs1 hP1 _ hS1 => ?_)
  refine h (va_up σ j (ai E n f)) (va_up_self _ _ _) (fun q hq => va_up_ne _ _ hq) H1 locs1 ls ?_ hS1 hl
  have e := wd_set (E := E) (N := N) (σ := σ) (σ' := va_up σ j (ai E n f)) (i := j) (x := ai E n f) (va_up_self _ _ _) (fun q hq => va_up_ne _ _ hq)
  rw [zc, nc] at hP1
  rw [Hp, ← e]
  intro q x hx
  have hq0 := hP1 q
  by_cases hqj : q = j
  · subst hqj
    have hlen : q < (wd E N σ).length := by simpa [wd] using hj
    rw [List.getElem?_set_self hlen] at hx hq0
    cases hx
    have h3 := hq0 _ rfl
    have hec : vp_cell (ec E 0) (n, Sum.inl (va_cpy (fun j => iI (f (j : Nat))) (fun j => iI (g (j : Nat))) 0 0 n)) = vp_cell (ec E 0) (n, Sum.inl (fun j : Nat => iI (f j))) := by
      rw [vp_cell_i, vp_cell_i]
      unfold arrV
      congr 1
      apply Array.ext
      · simp
      · intro t ht1 ht2
        simp [va_cpy]
        try (intro hh; simp at ht2; omega)
    have h4 : H1[ez E + q]? = some (vp_cell (ec E 0) (n, Sum.inl (va_cpy (fun j => iI (f (j : Nat))) (fun j => iI (g (j : Nat))) 0 0 n))) := h3
    rw [hec] at h4
    exact h4
  · rw [List.getElem?_set_ne (Ne.symm hqj)] at hx
    rw [List.getElem?_set_ne (Ne.symm hqj)] at hq0
    exact hq0 x hx
end GO
