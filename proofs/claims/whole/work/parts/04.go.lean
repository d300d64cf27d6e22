/-! My own layer over the machine: numbers as Int, the heap as a function of cell numbers (cell i lies at z + i), one rule an instruction. -/
def iI (e : Int) : Int32 := Int32.ofInt e
def lI (e : Int) : Int64 := Int64.ofInt e
def vi (e : Int) : Value := .int (iI e)
def vl (e : Int) : Value := .long (lI e)
abbrev rg (e : Int) : Prop := -2147483648 ≤ e ∧ e < 2147483648
abbrev rgl (e : Int) : Prop := -9223372036854775808 ≤ e ∧ e < 9223372036854775808
theorem iI_toInt {e : Int} (h : rg e) : (iI e).toInt = e := Int32.toInt_ofInt_of_le (by have := h.1; omega) (by have := h.2; omega)
theorem lI_toInt {e : Int} (h : rgl e) : (lI e).toInt = e := Int64.toInt_ofInt_of_le (by have := h.1; omega) (by have := h.2; omega)
theorem iI_of (x : Int32) : iI x.toInt = x := Int32.ofInt_toInt x
theorem iI_rg (x : Int32) : rg x.toInt := ⟨by have := Int32.le_toInt x; omega, by have := Int32.toInt_lt x; omega⟩
theorem iI_lt {a b : Int} (ha : rg a) (hb : rg b) : iI a < iI b ↔ a < b := by rw [Int32.lt_iff_toInt_lt, iI_toInt ha, iI_toInt hb]
theorem iI_le {a b : Int} (ha : rg a) (hb : rg b) : iI a ≤ iI b ↔ a ≤ b := by rw [Int32.le_iff_toInt_le, iI_toInt ha, iI_toInt hb]
theorem iI_eq {a b : Int} (ha : rg a) (hb : rg b) : iI a = iI b ↔ a = b := by rw [← Int32.toInt_inj, iI_toInt ha, iI_toInt hb]
theorem iI_0 : iI 0 = 0 := rfl
theorem lI_lt {a b : Int} (ha : rgl a) (hb : rgl b) : lI a < lI b ↔ a < b := by rw [Int64.lt_iff_toInt_lt, lI_toInt ha, lI_toInt hb]
theorem lI_le {a b : Int} (ha : rgl a) (hb : rgl b) : lI a ≤ lI b ↔ a ≤ b := by rw [Int64.le_iff_toInt_le, lI_toInt ha, lI_toInt hb]
theorem lI_eq {a b : Int} (ha : rgl a) (hb : rgl b) : lI a = lI b ↔ a = b := by rw [← Int64.toInt_inj, lI_toInt ha, lI_toInt hb]
theorem iI_in {a : Int} {n : Nat} (h0 : 0 ≤ a) (h1 : a < n) (hn : n ≤ 65536) : vp_in (iI a) n := by
  rw [vp_in_iff, iI_toInt ⟨by omega, by omega⟩]
  exact ⟨h0, h1⟩
theorem iI_cl {a : Int} {n : Nat} (h0 : 0 ≤ a) (h1 : a < n) (hn : n ≤ 65536) : (iI a).toNatClampNeg = a.toNat := by
  show (iI a).toInt.toNat = a.toNat
  rw [iI_toInt ⟨by omega, by omega⟩]
theorem iI_add (a b : Int) : iI a + iI b = iI (a + b) := (Int32.ofInt_add a b).symm
theorem iI_sub (a b : Int) : iI a - iI b = iI (a - b) := (Int32.ofInt_sub a b).symm
theorem iI_mul (a b : Int) : iI a * iI b = iI (a * b) := (Int32.ofInt_mul a b).symm
theorem lI_add (a b : Int) : lI a + lI b = lI (a + b) := (Int64.ofInt_add a b).symm
theorem lI_mul (a b : Int) : lI a * lI b = lI (a * b) := (Int64.ofInt_mul a b).symm
theorem lI_sub (a b : Int) : lI a - lI b = lI (a - b) := (Int64.ofInt_sub a b).symm
theorem iI_l {a : Int} (h : rg a) : (iI a).toInt64 = lI a := by
  rw [← Int64.toInt_inj, Int32.toInt_toInt64, iI_toInt h, lI_toInt ⟨by omega, by omega⟩]
theorem lI_i (a : Int) : (lI a).toInt32 = iI a := Int64.toInt32_ofInt
theorem iI_div {a b : Int} (ha : 0 ≤ a) (ha2 : a < 2147483648) (hb : 0 < b) (hb2 : b < 2147483648) : iI a / iI b = iI (a / b) := by
  have h1 : 0 ≤ a / b := Int.ediv_nonneg ha (Int.le_of_lt hb)
  have h2 : a / b ≤ a := Int.ediv_le_self b ha
  rw [← Int32.toInt_inj, Int32.toInt_div_of_ne_right _ _ (fun h => by have := congrArg Int32.toInt h; rw [iI_toInt ⟨by omega, by omega⟩] at this; have h3 : (-1 : Int32).toInt = -1 := by decide
                                                                      omega), iI_toInt ⟨by omega, by omega⟩, iI_toInt ⟨by omega, by omega⟩, iI_toInt ⟨by omega, by omega⟩, Int.tdiv_eq_ediv_of_nonneg ha]
theorem lI_div {a b : Int} (ha : 0 ≤ a) (ha2 : a < 9223372036854775808) (hb : 0 < b) (hb2 : b < 9223372036854775808) : lI a / lI b = lI (a / b) := by
  have h1 : 0 ≤ a / b := Int.ediv_nonneg ha (Int.le_of_lt hb)
  have h2 : a / b ≤ a := Int.ediv_le_self b ha
  rw [← Int64.toInt_inj, Int64.toInt_div_of_ne_right _ _ (fun h => by have := congrArg Int64.toInt h; rw [lI_toInt ⟨by omega, by omega⟩] at this; have h3 : (-1 : Int64).toInt = -1 := by decide
                                                                      omega), lI_toInt ⟨by omega, by omega⟩, lI_toInt ⟨by omega, by omega⟩, lI_toInt ⟨by omega, by omega⟩, Int.tdiv_eq_ediv_of_nonneg ha]
/-- a row of numbers with one place changed -/
def up (g : Int → Int) (e v : Int) : Int → Int := fun k => if k = e then v else g k
theorem up_self (g : Int → Int) (e v : Int) : up g e v e = v := by simp [up]
theorem up_ne (g : Int → Int) {e k : Int} (v : Int) (h : k ≠ e) : up g e v k = g k := by simp [up, h]
-- the launch, the classes' numbers, the fields' slots, the arrays' classes, the first address
abbrev En : Type := Launch × (Nat → ClassId) × (Nat → Nat → Nat) × (Nat → ClassId) × Nat
def eD (E : En) : va_G := (E.2.1, E.2.2.1)
def ez (E : En) : Nat := E.2.2.2.2
def ec (E : En) (k : Nat) : ClassId := E.2.2.2.1 k
def eT (E : En) : List (ClassId × FieldType) := [(ec E 0, .int), (ec E 1, .long), (ec E 2, .boolean), (ec E 3, .object RX0), (ec E 4, .object RX1), (ec E 5, .object RX4)]
def eA (E : En) : Nat → Prop := fun q => ez E ≤ q
def vr (E : En) (i : Nat) : Value := .ref (ez E + i)
def ob (ci : Nat) (fs : List Value) : va_E := .inr (ci, fs)
def ai (E : En) (n : Nat) (g : Int → Int) : va_E := .inl (ec E 0, n, .inl (fun j => iI (g j)))
def al (E : En) (n : Nat) (g : Int → Int) : va_E := .inl (ec E 1, n, .inr (.inl (fun j => lI (g j))))
def az (E : En) (n : Nat) (g : Int → Int) : va_E := .inl (ec E 2, n, .inl (fun j => iI (g j)))
/-- an array of references: by the numbers of the cells, -1 where none is -/
def rfo (E : En) (x : Int) : Option Nat := if x < 0 then none else some (ez E + x.toNat)
def ar (E : En) (t : Nat) (n : Nat) (g : Int → Int) : va_E := .inl (ec E t, n, .inr (.inr (.inr (.inr (fun j => rfo E (g j))))))
def wd (E : En) (N : Nat) (σ : Nat → va_E) : va_W := (List.range N).map (fun i => (ez E + i, σ i))
theorem wd_at {E : En} {N : Nat} {σ : Nat → va_E} {i : Nat} (h : i < N) : (wd E N σ)[i]? = some (ez E + i, σ i) := by
  simp [wd, h]
theorem wd_of {E : En} {N : Nat} {σ : Nat → va_E} {i : Nat} {q : Nat × va_E} (h : (wd E N σ)[i]? = some q) : i < N ∧ q = (ez E + i, σ i) := by
  have hl : i < (wd E N σ).length := (List.getElem?_eq_some_iff.mp h).1
  have hN : i < N := by simpa [wd] using hl
  rw [wd_at hN] at h
  exact ⟨hN, (Option.some.inj h).symm⟩
theorem wd_D {E : En} {N : Nat} {σ : Nat → va_E} : va_D (eA E) (wd E N σ) := by
  refine ⟨fun i j p q hi hj h => ?_, fun k q hk => ?_⟩
  · obtain ⟨-, rfl⟩ := wd_of hi
    obtain ⟨-, rfl⟩ := wd_of hj
    have h : ez E + i = ez E + j := h
    omega
  · obtain ⟨-, rfl⟩ := wd_of hk
    exact Nat.le_add_right _ _
theorem wd_set {E : En} {N : Nat} {σ σ' : Nat → va_E} {i : Nat} {x : va_E} (h1 : σ' i = x) (h2 : ∀ j, j ≠ i → σ' j = σ j) : (wd E N σ).set i (ez E + i, x) = wd E N σ' := by
  apply List.ext_getElem?
  intro j
  by_cases hj : j < N
  · by_cases hji : j = i
    · subst hji
      rw [List.getElem?_set_self (by simpa [wd] using hj), wd_at hj, h1]
    · rw [List.getElem?_set_ne (Ne.symm hji), wd_at hj, wd_at hj, h2 j hji]
  · rw [List.getElem?_eq_none (by simp [wd]; omega), List.getElem?_eq_none (by simp [wd]; omega)]
def Hp (E : En) (N : Nat) (σ : Nat → va_E) (H : Heap) : Prop := va_P (eD E) vwCl (wd E N σ) H
/-- the tables' words that ride along with every method -/
def GW : List Cond := lw_tbl.filter goodWord
theorem GW_in {w : Cond} (h : w ∈ lw_tbl) (hg : goodWord w = true) : w ∈ GW := List.mem_filter.mpr ⟨h, hg⟩
theorem GW_good {w : Cond} (h : w ∈ GW) : (w.onTables && w.keeps) = true ∨ ∃ ty, w = .arrayClass ty := good_of_word (List.mem_filter.mp h).2
abbrev Mth : Type := MethodName × ByteArray × Nat × Option FieldType
def LW (M : Mth) : List Cond := .code M.1 M.2.1 M.2.2.1 M.2.2.2 :: GW
def rmD (d mc ms : Nat) : Room := { frames := d, cells := mc, slots := ms, locals := 40 * d }
def nestW : List Cond := [.methodLinkNest "CacheBounds" 9 ⟨"CacheBounds$Cache", "<init>", "()V"⟩ "CacheBounds", .methodLinkNest "CacheBounds$History" 22 ⟨"CacheBounds$Cache", "<init>", "()V"⟩ "CacheBounds", .methodLinkNest "CacheBounds" 36 ⟨"CacheBounds$Reader", "<init>", "()V"⟩ "CacheBounds", .methodLinkNest "CacheBounds$Reader" 24 ⟨"CacheBounds$Program", "<init>", "()V"⟩ "CacheBounds", .methodLinkNest "CacheBounds" 43 ⟨"CacheBounds$Program", "<init>", "()V"⟩ "CacheBounds", .methodLinkNest "CacheBounds$Following" 35 ⟨"CacheBounds$Ages", "<init>", "()V"⟩ "CacheBounds", .methodLinkNest "CacheBounds$Explorer" 27 ⟨"CacheBounds$Cache", "<init>", "()V"⟩ "CacheBounds", .methodLinkNest "CacheBounds" 64 ⟨"CacheBounds$Runner", "<init>", "()V"⟩ "CacheBounds", .methodLinkNest "CacheBounds$Following" 96 ⟨"CacheBounds", "isWithin", "(III)Z"⟩ "CacheBounds", .methodLinkNest "CacheBounds$Following" 49 ⟨"CacheBounds", "isLine", "(I)Z"⟩ "CacheBounds", .methodLinkNest "CacheBounds$Ages" 24 ⟨"CacheBounds", "isLine", "(I)Z"⟩ "CacheBounds", .methodLinkNest "CacheBounds$Explorer" 72 ⟨"CacheBounds", "isWithin", "(III)Z"⟩ "CacheBounds"]
/-- what is known of the tables at every moment -/
def Kx (E : En) (U : State) : Prop := va_K (eD E) vwCl (eT E) U ∧ (∀ w ∈ nestW, va_Nw w U) ∧ va_AO RX0 U ∧ va_AO RX1 U ∧ va_AO RX4 U
def nestForm (w : Cond) : Prop := ∃ a i x h, w = .methodLinkNest a i x h
theorem nest_form : ∀ w ∈ nestW, nestForm w := by
  intro w hw
  simp only [nestW, List.mem_cons, List.not_mem_nil, or_false] at hw
  rcases hw with rfl | rfl | rfl | rfl | rfl | rfl | rfl | rfl | rfl | rfl | rfl | rfl <;> exact ⟨_, _, _, _, rfl⟩
theorem Kx.warm {E : En} {s U : State} (hW : s.WarmedH U.vm) (h : Kx E s) : Kx E U := by
  refine ⟨va_K.moved hW.alike h.1, fun w hw => ?_, va_AO.moved hW.alike h.2.2.1, va_AO.moved hW.alike h.2.2.2.1, va_AO.moved hW.alike h.2.2.2.2⟩
  obtain ⟨a, i, x, y, rfl⟩ := nest_form w hw
  exact va_Nw.warmM hW (h.2.1 _ hw)
theorem Kx.calling {E : En} {U : State} {g : JFrame} {mk : MethodId} {a : Array Value} (h : Kx E U) : Kx E (U.calling g mk a) := by
  refine ⟨va_K.moved (u := U) (U := U.calling g mk a) (Vm.Alike.refl U.vm) h.1, fun w hw => ?_, va_AO.moved (u := U) (U := U.calling g mk a) (Vm.Alike.refl U.vm) h.2.2.1, va_AO.moved (u := U) (U := U.calling g mk a) (Vm.Alike.refl U.vm) h.2.2.2.1, va_AO.moved (u := U) (U := U.calling g mk a) (Vm.Alike.refl U.vm) h.2.2.2.2⟩
  obtain ⟨a, i, x, y, rfl⟩ := nest_form w hw
  exact va_Nw.same rfl (u := U) rfl (h.2.1 _ hw)
/-- a method's end: what it answers, the cells behind it -/
def Qp (E : En) (post : Option Value → Nat → (Nat → va_E) → Prop) : Array Value → State → Outcome → State → Prop := fun _ st oc t => (∃ (r : Option Value) (N' : Nat) (σ' : Nat → va_E), oc = .returned r ∧ post r N' σ' ∧ Hp E N' σ' t.heap) ∧ va_F (eA E) st t
/-- a method's contract -/
def CT (E : En) (M : Mth) (d mc ms : Nat) (as : List Value) (N : Nat) (σ : Nat → va_E) (post : Option Value → Nat → (Nat → va_E) → Prop) : Prop :=
  Met E.1 M.1 (LW M) (rmD d mc ms) (va_Pc as (fun U => (Hp E N σ U.heap ∧ (mc ≠ 0 → U.heap.size = ez E + N)) ∧ Kx E U)) (Qp E post) mc ms (eA E)
def pI (N : Nat) (post : Int → (Nat → va_E) → Prop) : Option Value → Nat → (Nat → va_E) → Prop := fun r N' σ' => N' = N ∧ ∃ x : Int, r = some (vi x) ∧ post x σ'
def pL (N : Nat) (post : Int → (Nat → va_E) → Prop) : Option Value → Nat → (Nat → va_E) → Prop := fun r N' σ' => N' = N ∧ ∃ x : Int, r = some (vl x) ∧ post x σ'
def pV (N : Nat) (post : (Nat → va_E) → Prop) : Option Value → Nat → (Nat → va_E) → Prop := fun r N' σ' => N' = N ∧ r = none ∧ post σ'
/-- contracts of methods that make nothing: an int, a long, nothing -/
def CI (E : En) (M : Mth) (d : Nat) (as : List Value) (N : Nat) (σ : Nat → va_E) (post : Int → (Nat → va_E) → Prop) : Prop := CT E M d 0 0 as N σ (pI N post)
def CL (E : En) (M : Mth) (d : Nat) (as : List Value) (N : Nat) (σ : Nat → va_E) (post : Int → (Nat → va_E) → Prop) : Prop := CT E M d 0 0 as N σ (pL N post)
def CV (E : En) (M : Mth) (d : Nat) (as : List Value) (N : Nat) (σ : Nat → va_E) (post : (Nat → va_E) → Prop) : Prop := CT E M d 0 0 as N σ (pV N post)
def Go (E : En) (p : Program) (e : Env) (R : Room) (s : State) (m : MethodId) (args : Array Value) (below : List Frame) (meth : Method) (c : Code) (Q : State → Prop) (nL : Nat) (k : Nat × Nat) (N : Nat) (σ : Nat → va_E) (lv : List (Nat × Value)) (st : List Value) (pc : Nat) : Prop :=
  ∀ (H : Heap) (locs : List Loc) (ls : Array Slot), Hp E N σ H → va_S (eA E) s.heap H locs → lv_has ls nL lv → W p E.1 e R s m args below meth c H locs k.1 k.2 Q (F0 m pc ls st)
def Fx (E : En) (cc : ByteArray) (nL : Nat) (own : String) (d : Nat) (p : Program) (R : Room) (s : State) (m : MethodId) (args : Array Value) (c : Code) : Prop :=
  p.tables.exec = Jvm.exec ∧ c.code = cc ∧ c.maxLocals = nL ∧ s.vm.findClass own = some m.cls ∧ (∀ w ∈ GW, w.before args s = true) ∧ Kx E s ∧ d ≤ R.frames ∧ 40 * d ≤ R.locals
section GO
variable {E : En} {p : Program} {e : Env} {R : Room} {s : State} {m : MethodId} {args : Array Value} {below : List Frame} {meth : Method} {c : Code} {Q : State → Prop} {cc : ByteArray} {nL : Nat} {own : String} {d : Nat} {k : Nat × Nat} {N : Nat} {σ : Nat → va_E} {lv lv' : List (Nat × Value)} {st : List Value} {pc : Nat}
/-- the body of a method -/
theorem CT.of {M : Mth} {mc ms : Nat} {as : List Value} {post : Option Value → Nat → (Nat → va_E) → Prop} (hy : plainName M.1.cls = true) (hd : M.1.cls = own) (hn : (lg_sl as).length ≤ M.2.2.1)
    (body : ∀ p e s m args below meth c, Fx E M.2.1 M.2.2.1 own d p (rmD d mc ms) s m args c → meth.sig.returnType = M.2.2.2 → meth.locks = false → meth.name = M.1.name → (mc ≠ 0 → s.heap.size = ez E + N) →
      Go E p e (rmD d mc ms) s m args below meth c (MQ below (Qp E post) args s mc ms (eA E)) M.2.2.1 (0, 0) N σ (lv_args 0 as) [] 0) : CT E M d mc ms as N σ post := by
  refine Met.ofW (cc := M.2.1) (maxL := M.2.2.1) (ret := M.2.2.2) hy rfl ?_
  intro p e s m args below meth c s₁ B hml hv
  obtain ⟨rfl, ⟨hP, hz⟩, hK⟩ := hv
  have hts := atoms_spec (ws := LW M) B.pre
  have hown : s.vm.findClass own = some m.cls := by rw [← hd]; exact findClass_of_methodNamed B.named
  have hl := lv_entry as (n := M.2.2.1) hn
  rw [lg_entry_eq]
  exact body p e s m _ below meth c ⟨B.exec, B.bytes, hml, hown, fun w hw => hts w (List.mem_cons_of_mem _ hw), hK, Nat.le_refl _, Nat.le_refl _⟩ B.returns B.notSynchronized (name_of_methodNamed B.named B.method).1 hz _ _ _ hP va_S.rf hl
theorem go_iconst (hF : Fx E cc nL own d p R s m args c) {n : Int} (hd : decode cc pc = .ok (.iconst n, 1)) (h : Go E p e R s m args below meth c Q nL k N σ lv (vi n :: st) (pc + 1)) : Go E p e R s m args below meth c Q nL k N σ lv st pc := fun H locs ls hP hS hl => lv_iconst hF.1 hF.2.1 hd rfl (h H locs ls hP hS hl)
theorem go_bipush (hF : Fx E cc nL own d p R s m args c) {n : Int} (hd : decode cc pc = .ok (.bipush n, 2)) (hv : (Int8.ofInt n).toInt32 = iI n := by decide) (h : Go E p e R s m args below meth c Q nL k N σ lv (vi n :: st) (pc + 2)) : Go E p e R s m args below meth c Q nL k N σ lv st pc := fun H locs ls hP hS hl => lv_bipush hF.1 hF.2.1 hd hv (h H locs ls hP hS hl)
theorem go_sipush (hF : Fx E cc nL own d p R s m args c) {n : Int} (hd : decode cc pc = .ok (.sipush n, 3)) (hv : (Int16.ofInt n).toInt32 = iI n := by decide) (h : Go E p e R s m args below meth c Q nL k N σ lv (vi n :: st) (pc + 3)) : Go E p e R s m args below meth c Q nL k N σ lv st pc := fun H locs ls hP hS hl => lv_sipush hF.1 hF.2.1 hd hv (h H locs ls hP hS hl)
theorem go_lconst (hF : Fx E cc nL own d p R s m args c) {n : Fin 2} {v : Int} (hd : decode cc pc = .ok (.lconst n, 1)) (hv : Int64.ofNat (n : Nat) = lI v := by decide) (h : Go E p e R s m args below meth c Q nL k N σ lv (vl v :: st) (pc + 1)) : Go E p e R s m args below meth c Q nL k N σ lv st pc := fun H locs ls hP hS hl => lv_lconst hF.1 hF.2.1 hd hv (h H locs ls hP hS hl)
theorem go_iload_n (hF : Fx E cc nL own d p R s m args c) {j : Fin 4} {x : Int} (hd : decode cc pc = .ok (.iload_n j, 1)) (a : Nat) (hl0 : lv[a]? = some ((j : Nat), vi x)) (h : Go E p e R s m args below meth c Q nL k N σ lv (vi x :: st) (pc + 1)) : Go E p e R s m args below meth c Q nL k N σ lv st pc := fun H locs ls hP hS hl => lv_iload_n hF.1 hF.2.1 hd rfl (lv_at hl a hl0) (h H locs ls hP hS hl)
theorem go_iload (hF : Fx E cc nL own d p R s m args c) {j : Nat} {x : Int} (hd : decode cc pc = .ok (.iload j, 2)) (a : Nat) (hl0 : lv[a]? = some (j, vi x)) (h : Go E p e R s m args below meth c Q nL k N σ lv (vi x :: st) (pc + 2)) : Go E p e R s m args below meth c Q nL k N σ lv st pc := fun H locs ls hP hS hl => lv_iload hF.1 hF.2.1 hd (lv_at hl a hl0) (h H locs ls hP hS hl)
theorem go_lload_n (hF : Fx E cc nL own d p R s m args c) {j : Fin 4} {x : Int} (hd : decode cc pc = .ok (.lload_n j, 1)) (a : Nat) (hl0 : lv[a]? = some ((j : Nat), vl x)) (h : Go E p e R s m args below meth c Q nL k N σ lv (vl x :: st) (pc + 1)) : Go E p e R s m args below meth c Q nL k N σ lv st pc := fun H locs ls hP hS hl => lv_lload_n hF.1 hF.2.1 hd rfl (lv_at hl a hl0) (h H locs ls hP hS hl)
theorem go_lload (hF : Fx E cc nL own d p R s m args c) {j : Nat} {x : Int} (hd : decode cc pc = .ok (.lload j, 2)) (a : Nat) (hl0 : lv[a]? = some (j, vl x)) (h : Go E p e R s m args below meth c Q nL k N σ lv (vl x :: st) (pc + 2)) : Go E p e R s m args below meth c Q nL k N σ lv st pc := fun H locs ls hP hS hl => lv_lload hF.1 hF.2.1 hd (lv_at hl a hl0) (h H locs ls hP hS hl)
theorem go_aload_n (hF : Fx E cc nL own d p R s m args c) {j : Fin 4} {x : Nat} (hd : decode cc pc = .ok (.aload_n j, 1)) (a : Nat) (hl0 : lv[a]? = some ((j : Nat), vr E x)) (h : Go E p e R s m args below meth c Q nL k N σ lv (vr E x :: st) (pc + 1)) : Go E p e R s m args below meth c Q nL k N σ lv st pc := fun H locs ls hP hS hl => lv_aload_n hF.1 hF.2.1 hd rfl (lv_at hl a hl0) (h H locs ls hP hS hl)
theorem go_aload (hF : Fx E cc nL own d p R s m args c) {j : Nat} {x : Nat} (hd : decode cc pc = .ok (.aload j, 2)) (a : Nat) (hl0 : lv[a]? = some (j, vr E x)) (h : Go E p e R s m args below meth c Q nL k N σ lv (vr E x :: st) (pc + 2)) : Go E p e R s m args below meth c Q nL k N σ lv st pc := fun H locs ls hP hS hl => lv_aload hF.1 hF.2.1 hd (lv_at hl a hl0) (h H locs ls hP hS hl)
theorem go_istore_n (hF : Fx E cc nL own d p R s m args c) (lv' : List (Nat × Value)) {j : Fin 4} {x : Int} (hd : decode cc pc = .ok (.istore_n j, 1)) (hl0 : ((j : Nat), vi x) :: lv.filter (fun q => !(q.1 == (j : Nat)) && !(q.1 + 1 == (j : Nat) && q.2.category == 2)) = lv') (hn : (j : Nat) < nL := by decide) (h : Go E p e R s m args below meth c Q nL k N σ lv' st (pc + 1)) : Go E p e R s m args below meth c Q nL k N σ lv (vi x :: st) pc := fun H locs ls hP hS hl => lv_istore_n hF.1 hF.2.1 hd rfl hl hn hl0 (fun ls hl => (h H locs ls hP hS hl))
theorem go_istore (hF : Fx E cc nL own d p R s m args c) (lv' : List (Nat × Value)) {j : Nat} {x : Int} (hd : decode cc pc = .ok (.istore j, 2)) (hl0 : (j, vi x) :: lv.filter (fun q => !(q.1 == j) && !(q.1 + 1 == j && q.2.category == 2)) = lv') (hn : j < nL := by decide) (h : Go E p e R s m args below meth c Q nL k N σ lv' st (pc + 2)) : Go E p e R s m args below meth c Q nL k N σ lv (vi x :: st) pc := fun H locs ls hP hS hl => lv_istore hF.1 hF.2.1 hd hl hn hl0 (fun ls hl => (h H locs ls hP hS hl))
theorem go_astore_n (hF : Fx E cc nL own d p R s m args c) (lv' : List (Nat × Value)) {j : Fin 4} {x : Nat} (hd : decode cc pc = .ok (.astore_n j, 1)) (hl0 : ((j : Nat), vr E x) :: lv.filter (fun q => !(q.1 == (j : Nat)) && !(q.1 + 1 == (j : Nat) && q.2.category == 2)) = lv') (hn : (j : Nat) < nL := by decide) (h : Go E p e R s m args below meth c Q nL k N σ lv' st (pc + 1)) : Go E p e R s m args below meth c Q nL k N σ lv (vr E x :: st) pc := fun H locs ls hP hS hl => lv_astore_n hF.1 hF.2.1 hd rfl hl hn hl0 (fun ls hl => (h H locs ls hP hS hl))
theorem go_astore (hF : Fx E cc nL own d p R s m args c) (lv' : List (Nat × Value)) {j : Nat} {x : Nat} (hd : decode cc pc = .ok (.astore j, 2)) (hl0 : (j, vr E x) :: lv.filter (fun q => !(q.1 == j) && !(q.1 + 1 == j && q.2.category == 2)) = lv') (hn : j < nL := by decide) (h : Go E p e R s m args below meth c Q nL k N σ lv' st (pc + 2)) : Go E p e R s m args below meth c Q nL k N σ lv (vr E x :: st) pc := fun H locs ls hP hS hl => lv_astore hF.1 hF.2.1 hd hl hn hl0 (fun ls hl => (h H locs ls hP hS hl))
theorem go_lstore_n (hF : Fx E cc nL own d p R s m args c) (lv' : List (Nat × Value)) {j : Fin 4} {x : Int} (hd : decode cc pc = .ok (.lstore_n j, 1)) (hl0 : ((j : Nat), vl x) :: lv.filter (fun q => !(q.1 == (j : Nat)) && (!(q.1 == (j : Nat) + 1) && !(q.1 + 1 == (j : Nat) && q.2.category == 2))) = lv') (hn : (j : Nat) + 1 < nL := by decide) (h : Go E p e R s m args below meth c Q nL k N σ lv' st (pc + 1)) : Go E p e R s m args below meth c Q nL k N σ lv (vl x :: st) pc := fun H locs ls hP hS hl => lv_lstore_n hF.1 hF.2.1 hd rfl hl hn hl0 (fun ls hl => (h H locs ls hP hS hl))
theorem go_lstore (hF : Fx E cc nL own d p R s m args c) (lv' : List (Nat × Value)) {j : Nat} {x : Int} (hd : decode cc pc = .ok (.lstore j, 2)) (hl0 : (j, vl x) :: lv.filter (fun q => !(q.1 == j) && (!(q.1 == j + 1) && !(q.1 + 1 == j && q.2.category == 2))) = lv') (hn : j + 1 < nL := by decide) (h : Go E p e R s m args below meth c Q nL k N σ lv' st (pc + 2)) : Go E p e R s m args below meth c Q nL k N σ lv (vl x :: st) pc := fun H locs ls hP hS hl => lv_lstore hF.1 hF.2.1 hd hl hn hl0 (fun ls hl => (h H locs ls hP hS hl))
theorem go_iinc (hF : Fx E cc nL own d p R s m args c) (lv' : List (Nat × Value)) {j : Nat} {n x : Int} (hd : decode cc pc = .ok (.iinc j n, 3)) (a : Nat) (hl1 : lv[a]? = some (j, vi x)) (hl0 : (j, vi (x + n)) :: lv.filter (fun q => !(q.1 == j) && !(q.1 + 1 == j && q.2.category == 2)) = lv') (hn : j < nL := by decide) (h : Go E p e R s m args below meth c Q nL k N σ lv' st (pc + 3)) : Go E p e R s m args below meth c Q nL k N σ lv st pc := fun H locs ls hP hS hl => lv_iinc (v := iI (x + n)) hF.1 hF.2.1 hd hl hl1 (iI_add x n) hn hl0 (fun ls hl => (h H locs ls hP hS hl))
/-- fewer locals, or in another order -/
theorem go_lv (lv' : List (Nat × Value)) (ks : List Nat) (hl0 : lv_pick lv ks = lv') (h : Go E p e R s m args below meth c Q nL k N σ lv' st pc) : Go E p e R s m args below meth c Q nL k N σ lv st pc := fun H locs ls hP hS hl => h H locs ls hP hS (lv_sub hl ks hl0)
theorem go_iadd (hF : Fx E cc nL own d p R s m args c) {a b : Int} (hd : decode cc pc = .ok (.iadd, 1)) (h : Go E p e R s m args below meth c Q nL k N σ lv (vi (a + b) :: st) (pc + 1)) : Go E p e R s m args below meth c Q nL k N σ lv (vi b :: vi a :: st) pc := fun H locs ls hP hS hl => lv_iadd hF.1 hF.2.1 hd (by rw [iI_add]; exact h H locs ls hP hS hl)
theorem go_isub (hF : Fx E cc nL own d p R s m args c) {a b : Int} (hd : decode cc pc = .ok (.isub, 1)) (h : Go E p e R s m args below meth c Q nL k N σ lv (vi (a - b) :: st) (pc + 1)) : Go E p e R s m args below meth c Q nL k N σ lv (vi b :: vi a :: st) pc := fun H locs ls hP hS hl => lv_isub hF.1 hF.2.1 hd (by rw [iI_sub]; exact h H locs ls hP hS hl)
theorem go_imul (hF : Fx E cc nL own d p R s m args c) {a b : Int} (hd : decode cc pc = .ok (.imul, 1)) (h : Go E p e R s m args below meth c Q nL k N σ lv (vi (a * b) :: st) (pc + 1)) : Go E p e R s m args below meth c Q nL k N σ lv (vi b :: vi a :: st) pc := fun H locs ls hP hS hl => lv_imul hF.1 hF.2.1 hd (by rw [iI_mul]; exact h H locs ls hP hS hl)
theorem go_ladd (hF : Fx E cc nL own d p R s m args c) {a b : Int} (hd : decode cc pc = .ok (.ladd, 1)) (h : Go E p e R s m args below meth c Q nL k N σ lv (vl (a + b) :: st) (pc + 1)) : Go E p e R s m args below meth c Q nL k N σ lv (vl b :: vl a :: st) pc := fun H locs ls hP hS hl => lv_ladd hF.1 hF.2.1 hd (by rw [lI_add]; exact h H locs ls hP hS hl)
theorem go_lmul (hF : Fx E cc nL own d p R s m args c) {a b : Int} (hd : decode cc pc = .ok (.lmul, 1)) (h : Go E p e R s m args below meth c Q nL k N σ lv (vl (a * b) :: st) (pc + 1)) : Go E p e R s m args below meth c Q nL k N σ lv (vl b :: vl a :: st) pc := fun H locs ls hP hS hl => lv_lmul hF.1 hF.2.1 hd (by rw [lI_mul]; exact h H locs ls hP hS hl)
theorem go_iand (hF : Fx E cc nL own d p R s m args c) {a b : Int} (r : Int) (hr : iI a &&& iI b = iI r) (hd : decode cc pc = .ok (.iand, 1)) (h : Go E p e R s m args below meth c Q nL k N σ lv (vi r :: st) (pc + 1)) : Go E p e R s m args below meth c Q nL k N σ lv (vi b :: vi a :: st) pc := fun H locs ls hP hS hl => lv_iand hF.1 hF.2.1 hd (by rw [hr]; exact h H locs ls hP hS hl)
theorem go_ior (hF : Fx E cc nL own d p R s m args c) {a b : Int} (r : Int) (hr : iI a ||| iI b = iI r) (hd : decode cc pc = .ok (.ior, 1)) (h : Go E p e R s m args below meth c Q nL k N σ lv (vi r :: st) (pc + 1)) : Go E p e R s m args below meth c Q nL k N σ lv (vi b :: vi a :: st) pc := fun H locs ls hP hS hl => lv_ior hF.1 hF.2.1 hd (by rw [hr]; exact h H locs ls hP hS hl)
theorem go_ishl (hF : Fx E cc nL own d p R s m args c) {a b : Int} (r : Int) (hr : iI a <<< (iI b &&& 31) = iI r) (hd : decode cc pc = .ok (.ishl, 1)) (h : Go E p e R s m args below meth c Q nL k N σ lv (vi r :: st) (pc + 1)) : Go E p e R s m args below meth c Q nL k N σ lv (vi b :: vi a :: st) pc := fun H locs ls hP hS hl => lv_ishl hF.1 hF.2.1 hd (by rw [hr]; exact h H locs ls hP hS hl)
theorem go_ishr (hF : Fx E cc nL own d p R s m args c) {a b : Int} (r : Int) (hr : iI a >>> (iI b &&& 31) = iI r) (hd : decode cc pc = .ok (.ishr, 1)) (h : Go E p e R s m args below meth c Q nL k N σ lv (vi r :: st) (pc + 1)) : Go E p e R s m args below meth c Q nL k N σ lv (vi b :: vi a :: st) pc := fun H locs ls hP hS hl => lv_ishr hF.1 hF.2.1 hd (by rw [hr]; exact h H locs ls hP hS hl)
theorem go_iushr (hF : Fx E cc nL own d p R s m args c) {a b : Int} (r : Int) (hr : ((iI a).toUInt32 >>> ((iI b).toUInt32 &&& Int32.toUInt32 31)).toInt32 = iI r) (hd : decode cc pc = .ok (.iushr, 1)) (h : Go E p e R s m args below meth c Q nL k N σ lv (vi r :: st) (pc + 1)) : Go E p e R s m args below meth c Q nL k N σ lv (vi b :: vi a :: st) pc := fun H locs ls hP hS hl => lv_iushr hF.1 hF.2.1 hd hr (h H locs ls hP hS hl)
theorem go_idiv (hF : Fx E cc nL own d p R s m args c) {a b : Int} (hd : decode cc pc = .ok (.idiv, 1)) (h1 : 0 ≤ a ∧ a < 2147483648 := by omega) (h2 : 0 < b ∧ b < 2147483648 := by omega) (h : Go E p e R s m args below meth c Q nL k N σ lv (vi (a / b) :: st) (pc + 1)) : Go E p e R s m args below meth c Q nL k N σ lv (vi b :: vi a :: st) pc := fun H locs ls hP hS hl => lv_idiv hF.1 hF.2.1 hd (fun q => absurd ((iI_eq (b := 0) ⟨by omega, by omega⟩ ⟨by omega, by omega⟩).mp q) (by omega)) (by rw [iI_div h1.1 h1.2 h2.1 h2.2]; exact h H locs ls hP hS hl)
theorem go_irem (hF : Fx E cc nL own d p R s m args c) {a b : Int} (hd : decode cc pc = .ok (.irem, 1)) (h1 : 0 ≤ a ∧ a < 2147483648 := by omega) (h2 : 0 < b ∧ b < 2147483648 := by omega) (h : Go E p e R s m args below meth c Q nL k N σ lv (vi (a % b) :: st) (pc + 1)) : Go E p e R s m args below meth c Q nL k N σ lv (vi b :: vi a :: st) pc := fun H locs ls hP hS hl => lv_irem hF.1 hF.2.1 hd (fun q => absurd ((iI_eq (b := 0) ⟨by omega, by omega⟩ ⟨by omega, by omega⟩).mp q) (by omega)) (by rw [iI_div h1.1 h1.2 h2.1 h2.2, iI_mul, iI_sub, show a - a / b * b = a % b by rw [Int.emod_def, Int.mul_comm]]; exact h H locs ls hP hS hl)
theorem go_ldiv (hF : Fx E cc nL own d p R s m args c) {a b : Int} (hd : decode cc pc = .ok (.ldiv, 1)) (h1 : 0 ≤ a ∧ a < 9223372036854775808 := by omega) (h2 : 0 < b ∧ b < 9223372036854775808 := by omega) (h : Go E p e R s m args below meth c Q nL k N σ lv (vl (a / b) :: st) (pc + 1)) : Go E p e R s m args below meth c Q nL k N σ lv (vl b :: vl a :: st) pc := fun H locs ls hP hS hl => lv_ldiv hF.1 hF.2.1 hd (fun q => absurd ((lI_eq (b := 0) ⟨by omega, by omega⟩ ⟨by omega, by omega⟩).mp q) (by omega)) (by rw [lI_div h1.1 h1.2 h2.1 h2.2]; exact h H locs ls hP hS hl)
theorem go_lrem (hF : Fx E cc nL own d p R s m args c) {a b : Int} (hd : decode cc pc = .ok (.lrem, 1)) (h1 : 0 ≤ a ∧ a < 9223372036854775808 := by omega) (h2 : 0 < b ∧ b < 9223372036854775808 := by omega) (h : Go E p e R s m args below meth c Q nL k N σ lv (vl (a % b) :: st) (pc + 1)) : Go E p e R s m args below meth c Q nL k N σ lv (vl b :: vl a :: st) pc := fun H locs ls hP hS hl => lv_lrem hF.1 hF.2.1 hd (fun q => absurd ((lI_eq (b := 0) ⟨by omega, by omega⟩ ⟨by omega, by omega⟩).mp q) (by omega)) (by rw [lI_div h1.1 h1.2 h2.1 h2.2, lI_mul, lI_sub, show a - a / b * b = a % b by rw [Int.emod_def, Int.mul_comm]]; exact h H locs ls hP hS hl)
theorem go_i2l (hF : Fx E cc nL own d p R s m args c) {a : Int} (hd : decode cc pc = .ok (.i2l, 1)) (h1 : rg a := by omega) (h : Go E p e R s m args below meth c Q nL k N σ lv (vl a :: st) (pc + 1)) : Go E p e R s m args below meth c Q nL k N σ lv (vi a :: st) pc := fun H locs ls hP hS hl => lv_i2l hF.1 hF.2.1 hd (iI_l h1) (h H locs ls hP hS hl)
theorem go_l2i (hF : Fx E cc nL own d p R s m args c) {a : Int} (hd : decode cc pc = .ok (.l2i, 1)) (h : Go E p e R s m args below meth c Q nL k N σ lv (vi a :: st) (pc + 1)) : Go E p e R s m args below meth c Q nL k N σ lv (vl a :: st) pc := fun H locs ls hP hS hl => lv_l2i hF.1 hF.2.1 hd (lI_i a) (h H locs ls hP hS hl)
theorem go_dup (hF : Fx E cc nL own d p R s m args c) {v : Value} (hd : decode cc pc = .ok (.dup, 1)) (hv : v.category = 1 := by rfl) (h : Go E p e R s m args below meth c Q nL k N σ lv (v :: v :: st) (pc + 1)) : Go E p e R s m args below meth c Q nL k N σ lv (v :: st) pc := fun H locs ls hP hS hl => lv_dup hF.1 hF.2.1 hd hv (h H locs ls hP hS hl)
theorem go_dup2 (hF : Fx E cc nL own d p R s m args c) {v w : Value} (hd : decode cc pc = .ok (.dup2, 1)) (hv : v.category = 1 := by rfl) (hw : w.category = 1 := by rfl) (h : Go E p e R s m args below meth c Q nL k N σ lv (v :: w :: v :: w :: st) (pc + 1)) : Go E p e R s m args below meth c Q nL k N σ lv (v :: w :: st) pc := fun H locs ls hP hS hl => lv_dup2_11 hF.1 hF.2.1 hd hv hw (h H locs ls hP hS hl)
theorem go_pop (hF : Fx E cc nL own d p R s m args c) {v : Value} (hd : decode cc pc = .ok (.pop, 1)) (hv : v.category = 1 := by rfl) (h : Go E p e R s m args below meth c Q nL k N σ lv st (pc + 1)) : Go E p e R s m args below meth c Q nL k N σ lv (v :: st) pc := fun H locs ls hP hS hl => lv_pop hF.1 hF.2.1 hd hv (h H locs ls hP hS hl)
theorem go_goto (hF : Fx E cc nL own d p R s m args c) (tgt : Nat) {off : Int} (hd : decode cc pc = .ok (.goto off, 3))  (ht : (pc : Int) + off = (tgt : Int) := by decide) (h : Go E p e R s m args below meth c Q nL k N σ lv st tgt) : Go E p e R s m args below meth c Q nL k N σ lv st pc := fun H locs ls hP hS hl => lv_goto hF.1 hF.2.1 hd ht (h H locs ls hP hS hl)
theorem go_icmp_eq (hF : Fx E cc nL own d p R s m args c) (tgt : Nat) {off : Int} {a b : Int} (hd : decode cc pc = .ok (.if_icmp .eq off, 3)) (ht : (pc : Int) + off = (tgt : Int)) (ha : rg a) (hb : rg b) (h1 : a = b → Go E p e R s m args below meth c Q nL k N σ lv st tgt) (h2 : ¬ a = b → Go E p e R s m args below meth c Q nL k N σ lv st (pc + 3)) : Go E p e R s m args below meth c Q nL k N σ lv (vi b :: vi a :: st) pc := fun H locs ls hP hS hl => lv_icmp_eq hF.1 hF.2.1 hd ht (fun q => h1 ((iI_eq ha hb).mp q) H locs ls hP hS hl) (fun q => h2 (fun z => q ((iI_eq ha hb).mpr z)) H locs ls hP hS hl)
theorem go_icmp_ne (hF : Fx E cc nL own d p R s m args c) (tgt : Nat) {off : Int} {a b : Int} (hd : decode cc pc = .ok (.if_icmp .ne off, 3)) (ht : (pc : Int) + off = (tgt : Int)) (ha : rg a) (hb : rg b) (h1 : ¬ a = b → Go E p e R s m args below meth c Q nL k N σ lv st tgt) (h2 : a = b → Go E p e R s m args below meth c Q nL k N σ lv st (pc + 3)) : Go E p e R s m args below meth c Q nL k N σ lv (vi b :: vi a :: st) pc := fun H locs ls hP hS hl => lv_icmp_ne hF.1 hF.2.1 hd ht (fun q => h1 (fun z => q ((iI_eq ha hb).mpr z)) H locs ls hP hS hl) (fun q => h2 ((iI_eq ha hb).mp q) H locs ls hP hS hl)
theorem go_icmp_lt (hF : Fx E cc nL own d p R s m args c) (tgt : Nat) {off : Int} {a b : Int} (hd : decode cc pc = .ok (.if_icmp .lt off, 3)) (ht : (pc : Int) + off = (tgt : Int)) (ha : rg a) (hb : rg b) (h1 : a < b → Go E p e R s m args below meth c Q nL k N σ lv st tgt) (h2 : b ≤ a → Go E p e R s m args below meth c Q nL k N σ lv st (pc + 3)) : Go E p e R s m args below meth c Q nL k N σ lv (vi b :: vi a :: st) pc := fun H locs ls hP hS hl => lv_icmp_lt hF.1 hF.2.1 hd ht (fun q => h1 ((iI_lt ha hb).mp q) H locs ls hP hS hl) (fun q => h2 (Int.not_lt.mp (fun z => q ((iI_lt ha hb).mpr z))) H locs ls hP hS hl)
theorem go_icmp_ge (hF : Fx E cc nL own d p R s m args c) (tgt : Nat) {off : Int} {a b : Int} (hd : decode cc pc = .ok (.if_icmp .ge off, 3)) (ht : (pc : Int) + off = (tgt : Int)) (ha : rg a) (hb : rg b) (h1 : b ≤ a → Go E p e R s m args below meth c Q nL k N σ lv st tgt) (h2 : a < b → Go E p e R s m args below meth c Q nL k N σ lv st (pc + 3)) : Go E p e R s m args below meth c Q nL k N σ lv (vi b :: vi a :: st) pc := fun H locs ls hP hS hl => lv_icmp_ge hF.1 hF.2.1 hd ht (fun q => h1 ((iI_le hb ha).mp q) H locs ls hP hS hl) (fun q => h2 (Int.not_le.mp (fun z => q ((iI_le hb ha).mpr z))) H locs ls hP hS hl)
theorem go_icmp_gt (hF : Fx E cc nL own d p R s m args c) (tgt : Nat) {off : Int} {a b : Int} (hd : decode cc pc = .ok (.if_icmp .gt off, 3)) (ht : (pc : Int) + off = (tgt : Int)) (ha : rg a) (hb : rg b) (h1 : b < a → Go E p e R s m args below meth c Q nL k N σ lv st tgt) (h2 : a ≤ b → Go E p e R s m args below meth c Q nL k N σ lv st (pc + 3)) : Go E p e R s m args below meth c Q nL k N σ lv (vi b :: vi a :: st) pc := fun H locs ls hP hS hl => lv_icmp_gt hF.1 hF.2.1 hd ht (fun q => h1 ((iI_lt hb ha).mp q) H locs ls hP hS hl) (fun q => h2 (Int.not_lt.mp (fun z => q ((iI_lt hb ha).mpr z))) H locs ls hP hS hl)
theorem go_icmp_le (hF : Fx E cc nL own d p R s m args c) (tgt : Nat) {off : Int} {a b : Int} (hd : decode cc pc = .ok (.if_icmp .le off, 3)) (ht : (pc : Int) + off = (tgt : Int)) (ha : rg a) (hb : rg b) (h1 : a ≤ b → Go E p e R s m args below meth c Q nL k N σ lv st tgt) (h2 : b < a → Go E p e R s m args below meth c Q nL k N σ lv st (pc + 3)) : Go E p e R s m args below meth c Q nL k N σ lv (vi b :: vi a :: st) pc := fun H locs ls hP hS hl => lv_icmp_le hF.1 hF.2.1 hd ht (fun q => h1 ((iI_le ha hb).mp q) H locs ls hP hS hl) (fun q => h2 (Int.not_le.mp (fun z => q ((iI_le ha hb).mpr z))) H locs ls hP hS hl)
theorem go_if_eq (hF : Fx E cc nL own d p R s m args c) (tgt : Nat) {off : Int} {a : Int} (hd : decode cc pc = .ok (.ifCond .eq off, 3)) (ht : (pc : Int) + off = (tgt : Int)) (ha : rg a) (h1 : a = 0 → Go E p e R s m args below meth c Q nL k N σ lv st tgt) (h2 : ¬ a = 0 → Go E p e R s m args below meth c Q nL k N σ lv st (pc + 3)) : Go E p e R s m args below meth c Q nL k N σ lv (vi a :: st) pc := fun H locs ls hP hS hl => lv_if_eq hF.1 hF.2.1 hd ht (fun q => h1 ((iI_eq (b := 0) ha ⟨by decide, by decide⟩).mp q) H locs ls hP hS hl) (fun q => h2 (fun y => q ((iI_eq (b := 0) ha ⟨by decide, by decide⟩).mpr y)) H locs ls hP hS hl)
theorem go_if_ne (hF : Fx E cc nL own d p R s m args c) (tgt : Nat) {off : Int} {a : Int} (hd : decode cc pc = .ok (.ifCond .ne off, 3)) (ht : (pc : Int) + off = (tgt : Int)) (ha : rg a) (h1 : ¬ a = 0 → Go E p e R s m args below meth c Q nL k N σ lv st tgt) (h2 : a = 0 → Go E p e R s m args below meth c Q nL k N σ lv st (pc + 3)) : Go E p e R s m args below meth c Q nL k N σ lv (vi a :: st) pc := fun H locs ls hP hS hl => lv_if_ne hF.1 hF.2.1 hd ht (fun q => h1 (fun y => q ((iI_eq (b := 0) ha ⟨by decide, by decide⟩).mpr y)) H locs ls hP hS hl) (fun q => h2 ((iI_eq (b := 0) ha ⟨by decide, by decide⟩).mp q) H locs ls hP hS hl)
theorem go_if_lt (hF : Fx E cc nL own d p R s m args c) (tgt : Nat) {off : Int} {a : Int} (hd : decode cc pc = .ok (.ifCond .lt off, 3)) (ht : (pc : Int) + off = (tgt : Int)) (ha : rg a) (h1 : a < 0 → Go E p e R s m args below meth c Q nL k N σ lv st tgt) (h2 : 0 ≤ a → Go E p e R s m args below meth c Q nL k N σ lv st (pc + 3)) : Go E p e R s m args below meth c Q nL k N σ lv (vi a :: st) pc := fun H locs ls hP hS hl => lv_if_lt hF.1 hF.2.1 hd ht (fun q => h1 ((iI_lt (b := 0) ha ⟨by decide, by decide⟩).mp q) H locs ls hP hS hl) (fun q => h2 (Int.not_lt.mp (fun y => q ((iI_lt (b := 0) ha ⟨by decide, by decide⟩).mpr y))) H locs ls hP hS hl)
theorem go_if_ge (hF : Fx E cc nL own d p R s m args c) (tgt : Nat) {off : Int} {a : Int} (hd : decode cc pc = .ok (.ifCond .ge off, 3)) (ht : (pc : Int) + off = (tgt : Int)) (ha : rg a) (h1 : 0 ≤ a → Go E p e R s m args below meth c Q nL k N σ lv st tgt) (h2 : a < 0 → Go E p e R s m args below meth c Q nL k N σ lv st (pc + 3)) : Go E p e R s m args below meth c Q nL k N σ lv (vi a :: st) pc := fun H locs ls hP hS hl => lv_if_ge hF.1 hF.2.1 hd ht (fun q => h1 ((iI_le (a := 0) ⟨by decide, by decide⟩ ha).mp q) H locs ls hP hS hl) (fun q => h2 (Int.not_le.mp (fun y => q ((iI_le (a := 0) ⟨by decide, by decide⟩ ha).mpr y))) H locs ls hP hS hl)
theorem go_if_gt (hF : Fx E cc nL own d p R s m args c) (tgt : Nat) {off : Int} {a : Int} (hd : decode cc pc = .ok (.ifCond .gt off, 3)) (ht : (pc : Int) + off = (tgt : Int)) (ha : rg a) (h1 : 0 < a → Go E p e R s m args below meth c Q nL k N σ lv st tgt) (h2 : a ≤ 0 → Go E p e R s m args below meth c Q nL k N σ lv st (pc + 3)) : Go E p e R s m args below meth c Q nL k N σ lv (vi a :: st) pc := fun H locs ls hP hS hl => lv_if_gt hF.1 hF.2.1 hd ht (fun q => h1 ((iI_lt (a := 0) ⟨by decide, by decide⟩ ha).mp q) H locs ls hP hS hl) (fun q => h2 (Int.not_lt.mp (fun y => q ((iI_lt (a := 0) ⟨by decide, by decide⟩ ha).mpr y))) H locs ls hP hS hl)
theorem go_if_le (hF : Fx E cc nL own d p R s m args c) (tgt : Nat) {off : Int} {a : Int} (hd : decode cc pc = .ok (.ifCond .le off, 3)) (ht : (pc : Int) + off = (tgt : Int)) (ha : rg a) (h1 : a ≤ 0 → Go E p e R s m args below meth c Q nL k N σ lv st tgt) (h2 : 0 < a → Go E p e R s m args below meth c Q nL k N σ lv st (pc + 3)) : Go E p e R s m args below meth c Q nL k N σ lv (vi a :: st) pc := fun H locs ls hP hS hl => lv_if_le hF.1 hF.2.1 hd ht (fun q => h1 ((iI_le (b := 0) ha ⟨by decide, by decide⟩).mp q) H locs ls hP hS hl) (fun q => h2 (Int.not_le.mp (fun y => q ((iI_le (b := 0) ha ⟨by decide, by decide⟩).mpr y))) H locs ls hP hS hl)
end GO
