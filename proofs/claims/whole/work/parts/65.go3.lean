/-! The layer, third part: new objects and arrays, constructors, the script. -/
theorem wd_push {E : En} {N : Nat} {σ σ' : Nat → va_E} {x : va_E} (h1 : σ' N = x) (h2 : ∀ j, j < N → σ' j = σ j) : wd E N σ ++ [(ez E + N, x)] = wd E (N + 1) σ' := by
  unfold wd
  rw [List.range_succ, List.map_append, List.map_cons, List.map_nil, h1]
  congr 1
  refine List.map_congr_left (fun j hj => ?_)
  rw [h2 j (List.mem_range.mp hj)]
def nxt (σ : Nat → va_E) (N : Nat) (x : va_E) : Nat → va_E := fun j => if j < N then σ j else x
theorem nxt_new (σ : Nat → va_E) (N : Nat) (x : va_E) : nxt σ N x N = x := if_neg (Nat.lt_irrefl N)
theorem nxt_old (σ : Nat → va_E) (N : Nat) (x : va_E) (j : Nat) (hj : j < N) : nxt σ N x j = σ j := if_pos hj
theorem Hp_push {E : En} {N : Nat} {σ : Nat → va_E} {H H1 : Heap} {x : va_E} (hP : Hp E N σ H) (hsz : H.size = ez E + N) (o1 : ∀ q, q < ez E + N → H1[q]? = H[q]?) (hx : va_at (eD E) vwCl (ez E + N, x) H1) : Hp E (N + 1) (nxt σ N x) H1 := by
  have e := wd_push (E := E) (N := N) (σ := σ) (σ' := nxt σ N x) (x := x) (nxt_new σ N x) (nxt_old σ N x)
  have hkk : ∀ (j : Nat) (y : Nat × va_E), (wd E N σ)[j]? = some y → H1[y.1]? = H[y.1]? := fun j y hy => o1 y.1 (by have h := (hP j y hy).lt; rw [hsz] at h; exact h)
  have q : va_P (eD E) vwCl (wd E N σ ++ [(ez E + N, x)]) H1 := (va_P.kept hP hkk).app (fun j y hy => by
    have hz : j < 1 := (List.getElem?_eq_some_iff.mp hy).1
    rw [show j = 0 by omega] at hy
    have hy : (ez E + N, x) = y := Option.some.inj hy
    rw [← hy]
    exact hx)
  rw [e] at q
  exact q
theorem va_S_push {A : Nat → Prop} {H0 H H1 : Heap} {locs : List Loc} {n : Nat} (hS : va_S A H0 H locs) (hsz : H.size = n) (z1 : H1.size = n + 1) (o1 : ∀ q, q < n → H1[q]? = H[q]?) : va_S A H0 H1 locs := ⟨Nat.le_trans hS.1 (by omega), fun x h1 h2 => (o1 x (by have := hS.1; omega)).trans (hS.2.1 x h1 h2), hS.2.2⟩
/-- what a pool entry says of a class whose objects are made: its number, its fields at first -/
def NW (own : String) (idx ci : Nat) (fs : List Value) : Prop := ∃ (C : String) (T : u_T) (n : Nat) (ty : Nat → FieldType), vwCl[ci]? = some (C, T, n) ∧ (∀ w ∈ u_ws C T n, w ∈ GW) ∧ (∀ k, k < n → parseFieldDescriptor (T k).2.2.1 = some (ty k)) ∧ Cond.classLink own idx C ∈ GW ∧ Cond.instantiable C n ∈ GW ∧ Cond.initialized C ∈ GW ∧ (∀ j, j < n → defaultValue (ty j) = vp_V fs j) ∧ fs.length = n
/-- a constructor -/
def MI (own : String) (idx : Nat) (y : MethodName) (bs : ByteArray) (nl : Nat) : Prop := Cond.methodLink own idx y ∈ GW ∧ Cond.instanceMethod y ∈ GW ∧ Cond.initialized y.cls ∈ GW ∧ Cond.code y bs nl none ∈ GW ∧ (y.cls ≠ "java/lang/invoke/MethodHandle" ∧ y.cls ≠ "java/lang/invoke/VarHandle" ∧ (parseMethodDescriptor y.desc).map (fun d => d.parameters.length) = some 0) ∧ y.name = "<init>" ∧ nl ≤ 21
def MIN (own : String) (idx : Nat) (y : MethodName) (bs : ByteArray) (nl : Nat) (host : String) : Prop := Cond.methodLinkNest own idx y host ∈ nestW ∧ Cond.instanceMethod y ∈ GW ∧ Cond.initialized y.cls ∈ GW ∧ Cond.code y bs nl none ∈ GW ∧ (y.cls ≠ "java/lang/invoke/MethodHandle" ∧ y.cls ≠ "java/lang/invoke/VarHandle" ∧ (parseMethodDescriptor y.desc).map (fun d => d.parameters.length) = some 0) ∧ y.name = "<init>" ∧ nl ≤ 21
/-- a constructor's contract: so many cells are new -/
def CK (E : En) (M : Mth) (d mc ms : Nat) (as : List Value) (N : Nat) (σ : Nat → va_E) (post : (Nat → va_E) → Prop) : Prop := CT E M d mc ms as N σ (fun r N' σ' => r = none ∧ N' = N + mc ∧ post σ')
section GO
variable {E : En} {p : Program} {e : Env} {R : Room} {s : State} {m : MethodId} {args : Array Value} {below : List Frame} {meth : Method} {c : Code} {Q : State → Prop} {cc : ByteArray} {nL : Nat} {own : String} {d : Nat} {k : Nat × Nat} {N : Nat} {σ : Nat → va_E} {lv lv' : List (Nat × Value)} {st : List Value} {pc : Nat}
theorem go_new (hF : Fx E cc nL own d p R s m args c) (k' : Nat × Nat) (N' : Nat) {idx ci : Nat} {fs : List Value} (hW : NW own idx ci fs) (hd : decode cc pc = .ok (.new idx, 3)) (hz : s.heap.size + k.1 = ez E + N) (hz2 : N ≠ 0 ∨ k.1 = 0) (hk1 : k.1 + 1 ≤ R.cells) (hk2 : k.2 + fs.length ≤ R.slots) (hk' : k' = (k.1 + 1, k.2 + fs.length)) (hN' : N' = N + 1)
    (h : ∀ σ' : Nat → va_E, σ' N = ob ci fs → (∀ j, j < N → σ' j = σ j) → Go E p e R s m args below meth c Q nL k' N' σ' lv (vr E N :: st) (pc + 3)) : Go E p e R s m args below meth c Q nL k N σ lv st pc := by
  intro H locs ls hP hS hl T hT X
  subst hk' hN'
  have hsz := size_of hP hT X hz hz2
  obtain ⟨C, Tt, n, ty, h1, h2, h3, h4, h5, h6, h7, h8⟩ := hW
  subst h8
  have hts := hF.2.2.2.2.1
  have hKn := hF.2.2.2.2.2.1.1.1 ci _ h1
  suffices key : W p E.1 e R s m args below meth c H locs k.1 k.2 Q (F0 m pc ls (st)) from key T hT X
  refine W.newcK hF.1 hF.2.1 hF.2.2.2.1 (hts _ h4) (hts _ h5) (hts _ h6) rfl hd hk1 hk2 hKn.2.1 hsz (fun H1 kC hkC e1 z1 o1 => ?_)
  exact h (nxt σ N (ob ci fs)) (nxt_new _ _ _) (nxt_old _ _ _) H1 locs ls (Hp_push hP hsz o1 ⟨_, h1, (u_born ty hts h2 hKn hkC e1 h3).to h7⟩) (va_S_push hS hsz z1 o1) hl
theorem go_newa (hF : Fx E cc nL own d p R s m args c) (k' : Nat × Nat) (N' : Nat) {atype : ArrayType} {ty : FieldType} (t n : Nat) {a0 : vp_A} (harr : Cond.arrayClass (newarray.typeOf atype) ∈ GW) (hty : newarray.typeOf atype = ty) (ht : (eT E)[t]? = some (ec E t, ty)) (hp : ∀ (U : State) (cA : ClassId), va_RA U cA ty → U.vm.findClass ("[" ++ ty.toString) = some cA) (ha : ∀ cA : ClassId, vp_cell cA a0 = arrV cA n (fun _ => defaultValue ty)) (hn0 : ¬ iI (n : Int) < 0) (hn1 : (iI (n : Int)).toNatClampNeg = n) (hby : n * componentBytes ty ≤ 536870912)
    (hd : decode cc pc = .ok (.newarray atype, 2)) (hz : s.heap.size + k.1 = ez E + N) (hz2 : N ≠ 0 ∨ k.1 = 0) (hk1 : k.1 + 1 ≤ R.cells) (hk2 : k.2 + n ≤ R.slots) (hk' : k' = (k.1 + 1, k.2 + n)) (hN' : N' = N + 1)
    (h : ∀ σ' : Nat → va_E, σ' N = .inl (ec E t, a0) → (∀ j, j < N → σ' j = σ j) → Go E p e R s m args below meth c Q nL k' N' σ' lv (vr E N :: st) (pc + 2)) : Go E p e R s m args below meth c Q nL k N σ lv (vi (n : Int) :: st) pc := by
  intro H locs ls hP hS hl T hT X
  subst hk' hN' hty
  have hsz := size_of hP hT X hz hz2
  have hts := hF.2.2.2.2.1
  suffices key : W p E.1 e R s m args below meth c H locs k.1 k.2 Q (F0 m pc ls (vi (n : Int) :: st)) from key T hT X
  refine va_newaK hF.1 hF.2.1 (hts _ harr) rfl hd rfl hn0 hn1 hby hk1 hk2 hsz (fun H1 cA e1 z1 o1 hAr hNm => ?_)
  have hcA : cA = ec E t := Option.some.inj (hNm.symm.trans (hp s _ (hF.2.2.2.2.2.1.1.2 t _ ht).2))
  subst hcA
  exact h (nxt σ N (.inl (ec E t, a0))) (nxt_new _ _ _) (nxt_old _ _ _) H1 locs ls (Hp_push hP hsz o1 (by show H1[ez E + N]? = some (vp_cell _ _); rw [ha]; exact e1)) (va_S_push hS hsz z1 o1) hl
theorem go_newq (hF : Fx E cc nL own d p R s m args c) (k' : Nat × Nat) (N' : Nat) {idx : Nat} {C : String} (t n : Nat) (hcl : Cond.classLink own idx C ∈ GW) (hov : Kx E s → va_AO C s) (ht : (eT E)[t]? = some (ec E t, .object C)) (hn0 : ¬ iI (n : Int) < 0) (hn1 : (iI (n : Int)).toNatClampNeg = n) (hby : n * 4 ≤ 536870912)
    (hd : decode cc pc = .ok (.anewarray idx, 3)) (hz : s.heap.size + k.1 = ez E + N) (hz2 : N ≠ 0 ∨ k.1 = 0) (hk1 : k.1 + 1 ≤ R.cells) (hk2 : k.2 + n ≤ R.slots) (hk' : k' = (k.1 + 1, k.2 + n)) (hN' : N' = N + 1)
    (h : ∀ σ' : Nat → va_E, σ' N = ar E t n (fun _ => -1) → (∀ j, j < N → σ' j = σ j) → Go E p e R s m args below meth c Q nL k' N' σ' lv (vr E N :: st) (pc + 3)) : Go E p e R s m args below meth c Q nL k N σ lv (vi (n : Int) :: st) pc := by
  intro H locs ls hP hS hl T hT X
  subst hk' hN'
  have hsz := size_of hP hT X hz hz2
  have hts := hF.2.2.2.2.1
  suffices key : W p E.1 e R s m args below meth c H locs k.1 k.2 Q (F0 m pc ls (vi (n : Int) :: st)) from key T hT X
  refine W.anew hF.1 hF.2.1 hF.2.2.2.1 (hts _ hcl) (va_AO.use (hov hF.2.2.2.2.2.1)) rfl hd rfl hn0 (by rw [hn1]; exact hby) hk1 (by rw [hn1]; exact hk2) (fun cA kA comp f1 f2 f3 f4 => ?_)
  obtain ⟨kB, cB9, -, -, -, g4⟩ := (hF.2.2.2.2.2.1.1.2 t _ ht).2
  have hcA : cA = ec E t := Option.some.inj (f1.symm.trans g4)
  subst hcA
  rw [hn1]
  generalize hH1 : H.push ({ cls := ec E t, slots := Array.replicate n .null, vm := .none } : Cell) = H1
  have z1 : H1.size = H.size + 1 := by rw [← hH1, Array.size_push]
  have e1 : H1[H.size]? = some (arrV (ec E t) n (fun _ => .null)) := by rw [← hH1, Array.getElem?_push_size, ← arrV_new]
  have o1 : ∀ q : Nat, q < H.size → H1[q]? = H[q]? := fun q hq => by rw [← hH1, Array.getElem?_push, if_neg (Nat.ne_of_lt hq)]
  rw [hsz] at e1 z1
  rw [hsz] at o1 ⊢
  exact h (nxt σ N (ar E t n (fun _ => -1))) (nxt_new _ _ _) (nxt_old _ _ _) H1 locs ls (Hp_push hP hsz o1 (by show H1[ez E + N]? = some (vp_cell _ _); rw [vp_cell_q]; exact e1)) (va_S_push hS hsz z1 o1) hl
theorem go_callI (hF : Fx E cc nL own d p R s m args c) (k' : Nat × Nat) (N' : Nat) {y : MethodName} {bs : ByteArray} {nl idx i d' mc ms : Nat} {post : (Nat → va_E) → Prop} (hM : MI own idx y bs nl) (hd : decode cc pc = .ok (.invokespecial idx, 3)) (hC : CK E (y, bs, nl, none) d' mc ms [vr E i] N σ post) (hw : (st.map fun v => v.category).sum ≤ 8) (hdd : d' + 1 ≤ d) (hk1 : k.1 + mc ≤ R.cells) (hk2 : k.2 + ms ≤ R.slots) (hz : mc ≠ 0 → s.heap.size + k.1 = ez E + N) (hz2 : mc ≠ 0 → N ≠ 0 ∨ k.1 = 0) (hk' : k' = (k.1 + mc, k.2 + ms)) (hN' : N' = N + mc)
    (h : ∀ σ', post σ' → Go E p e R s m args below meth c Q nL k' N' σ' lv st (pc + 3)) : Go E p e R s m args below meth c Q nL k N σ lv (vr E i :: st) pc := by
  subst hk' hN'
  obtain ⟨h2, h3, h5, h6, ⟨h7, h8, h9⟩, h10, h11⟩ := hM
  refine go_run (mc := mc) (ms := ms) (a := [vr E i].toArray) (st := st) (post := fun r N' σ' => r = none ∧ N' = N + mc ∧ post σ') (fun H locs ls hP hS hl hsz => ?_) (fun hm => ⟨hz hm, hz2 hm⟩) (fun r N1 σ' hp => ?_)
  · have hts := hF.2.2.2.2.1
    refine va_runI (As := []) (rest := st) (bytes := bs) (maxL := nl) (n := 0) ⟨hF.1, hF.2.1, hF.2.2.1, hF.2.2.2.1, hts⟩ hC ⟨callB_of 0 hts (LW_good (M' := (y, bs, nl, none)) h6) rfl rfl rfl (hts _ h5) (hts _ h2) ⟨h7, h8, h9⟩ ?_, h10, hts _ h3⟩ ⟨pc_blind, ?_⟩ rfl rfl hl.1 rfl (lv_room hw) hd ⟨hk1, hk2⟩
    · have a1 := hF.2.2.2.2.2.2.1
      have a2 := hF.2.2.2.2.2.2.2
      exact ⟨by show d' + 1 ≤ R.frames; omega, by show 8 + (nl + 11) + 40 * d' ≤ R.locals; omega⟩
    · exact fun U hU hW => ⟨rfl, ⟨by rw [hU]; exact hP, fun hm => by rw [hU]; exact hsz hm⟩, Kx.warm hW hF.2.2.2.2.2.1⟩
  · obtain ⟨rfl, rfl, hp⟩ := hp
    exact h σ' hp
theorem go_callIN (hF : Fx E cc nL own d p R s m args c) (k' : Nat × Nat) (N' : Nat) {y : MethodName} {bs : ByteArray} {host : String} {nl idx i d' mc ms : Nat} {post : (Nat → va_E) → Prop} (hM : MIN own idx y bs nl host) (hd : decode cc pc = .ok (.invokespecial idx, 3)) (hC : CK E (y, bs, nl, none) d' mc ms [vr E i] N σ post) (hw : (st.map fun v => v.category).sum ≤ 8) (hdd : d' + 1 ≤ d) (hk1 : k.1 + mc ≤ R.cells) (hk2 : k.2 + ms ≤ R.slots) (hz : mc ≠ 0 → s.heap.size + k.1 = ez E + N) (hz2 : mc ≠ 0 → N ≠ 0 ∨ k.1 = 0) (hk' : k' = (k.1 + mc, k.2 + ms)) (hN' : N' = N + mc)
    (h : ∀ σ', post σ' → Go E p e R s m args below meth c Q nL k' N' σ' lv st (pc + 3)) : Go E p e R s m args below meth c Q nL k N σ lv (vr E i :: st) pc := by
  subst hk' hN'
  obtain ⟨h2, h3, h5, h6, ⟨h7, h8, h9⟩, h10, h11⟩ := hM
  refine go_run (mc := mc) (ms := ms) (a := [vr E i].toArray) (st := st) (post := fun r N' σ' => r = none ∧ N' = N + mc ∧ post σ') (fun H locs ls hP hS hl hsz => ?_) (fun hm => ⟨hz hm, hz2 hm⟩) (fun r N1 σ' hp => ?_)
  · have hts := hF.2.2.2.2.1
    refine va_runIN (As := []) (rest := st) (host := host) (bytes := bs) (maxL := nl) (n := 0) ⟨hF.1, hF.2.1, hF.2.2.1, hF.2.2.2.1, hts⟩ hC ⟨va_cnB 0 hts (LW_good (M' := (y, bs, nl, none)) h6) rfl rfl rfl (hF.2.2.2.2.2.1.2.1 _ h2) (hts _ h5) ⟨h7, h8, h9⟩ ?_, h10, hts _ h3⟩ ⟨pc_blind, ?_⟩ rfl rfl hl.1 rfl (lv_room hw) hd ⟨hk1, hk2⟩
    · have a1 := hF.2.2.2.2.2.2.1
      have a2 := hF.2.2.2.2.2.2.2
      exact ⟨by show d' + 1 ≤ R.frames; omega, by show 8 + (nl + 11) + 40 * d' ≤ R.locals; omega⟩
    · exact fun U hU hW => ⟨rfl, ⟨by rw [hU]; exact hP, fun hm => by rw [hU]; exact hsz hm⟩, Kx.warm hW hF.2.2.2.2.2.1⟩
  · obtain ⟨rfl, rfl, hp⟩ := hp
    exact h σ' hp
theorem go_objInit (hF : Fx E cc nL own d p R s m args c) {idx i : Nat} (hl0 : Cond.methodLink own idx Lib.objectInit ∈ GW) (hi0 : Cond.instanceMethod Lib.objectInit ∈ GW) (hc0 : Cond.code Lib.objectInit ⟨#[0xb1]⟩ 1 none ∈ GW) (hd : decode cc pc = .ok (.invokespecial idx, 3)) (hw : (st.map fun v => v.category).sum ≤ 8) (hd1 : 1 ≤ d) (h : Go E p e R s m args below meth c Q nL k N σ lv st (pc + 3)) : Go E p e R s m args below meth c Q nL k N σ lv (vr E i :: st) pc := fun H locs ls hP hS hl => by
  have hts := hF.2.2.2.2.1
  have a1 := hF.2.2.2.2.2.2.1
  have a2 := hF.2.2.2.2.2.2.2
  have a3 := lv_room (m := m) (pc := pc) (ls := ls) (rest := vr E i :: st) hw
  exact W.objInit hF.1 hF.2.1 hF.2.2.2.1 (hts _ hl0) (hts _ hi0) (hts _ hc0) rfl (hl.1.trans hF.2.2.1.symm) rfl hd (by omega) (by omega) (h H locs ls hP hS hl)
theorem go_vretK {post : (Nat → va_E) → Prop} {N0 mc ms : Nat} (hF : Fx E cc nL own d p R s m args c) (hr : meth.sig.returnType = none) (hlk : meth.locks = false) (hQ : Q = MQ below (Qp E (fun r N' σ' => r = none ∧ N' = N0 + mc ∧ post σ')) args s mc ms (eA E)) (hk : k = (mc, ms)) (hN : N = N0 + mc) (hd : decode cc pc = .ok (.return_, 1)) (hp : post σ) : Go E p e R s m args below meth c Q nL k N σ lv [] pc := by
  subst hk hN
  rw [hQ]
  exact go_vretN (k := (mc, ms)) hF hr hlk hd ⟨rfl, rfl, hp⟩
-- the script
theorem go_aloadR (hF : Fx E cc nL own d p R s m args c) {j : Fin 4} {x : Nat} (hd : decode cc pc = .ok (.aload_n j, 1)) (a : Nat) (hl0 : lv[a]? = some ((j : Nat), .ref x)) (h : Go E p e R s m args below meth c Q nL k N σ lv (.ref x :: st) (pc + 1)) : Go E p e R s m args below meth c Q nL k N σ lv st pc := fun H locs ls hP hS hl => lv_aload_n hF.1 hF.2.1 hd rfl (lv_at hl a hl0) (h H locs ls hP hS hl)
theorem go_sld (hF : Fx E cc nL own d p R s m args c) {b L : Nat} {xs : Nat → Int32} (hX : va_X b L xs s s.heap) (hbl : b < s.heap.size) (hbA : ¬ eA E b) {a : Int} (h0 : 0 ≤ a ∧ a < L) (hL : L ≤ 65536) (hd : decode cc pc = .ok (.iaload, 1)) (h : Go E p e R s m args below meth c Q nL k N σ lv (vi (xs a.toNat).toInt :: st) (pc + 1)) : Go E p e R s m args below meth c Q nL k N σ lv (vi a :: .ref b :: st) pc := fun H locs ls hP hS hl => by
  refine va_sld hF.1 hF.2.1 hX hbl hbA hS (iI_in h0.1 h0.2 hL) hd ?_
  rw [iI_cl h0.1 h0.2 hL]
  have q := h H locs ls hP hS hl
  rw [vi, iI_of] at q
  exact q
theorem go_slen (hF : Fx E cc nL own d p R s m args c) {b L : Nat} {xs : Nat → Int32} (hX : va_X b L xs s s.heap) (hbl : b < s.heap.size) (hbA : ¬ eA E b) (hd : decode cc pc = .ok (.arraylength, 1)) (h : Go E p e R s m args below meth c Q nL k N σ lv (vi (L : Int) :: st) (pc + 1)) : Go E p e R s m args below meth c Q nL k N σ lv (.ref b :: st) pc := fun H locs ls hP hS hl => by
  refine va_slen hF.1 hF.2.1 hX hbl hbA hS hd ?_
  exact h H locs ls hP hS hl
end GO
theorem oi_1 : Cond.instanceMethod Lib.objectInit ∈ GW := GW_1 87 (by decide +kernel) rfl
theorem oi_2 : Cond.code Lib.objectInit ⟨#[0xb1]⟩ 1 none ∈ GW := GW_1 88 (by decide +kernel) rfl

theorem ol_X10_1 : Cond.methodLink RX10 1 Lib.objectInit ∈ GW := GW_1 86 (by decide +kernel) rfl
theorem ol_X1_3 : Cond.methodLink RX1 3 Lib.objectInit ∈ GW := GW_1 94 (by decide +kernel) rfl
theorem ol_X5_3 : Cond.methodLink RX5 3 Lib.objectInit ∈ GW := GW_1 122 (by decide +kernel) rfl
theorem ol_X7_3 : Cond.methodLink RX7 3 Lib.objectInit ∈ GW := GW_1 142 (by decide +kernel) rfl
theorem ol_X6_3 : Cond.methodLink RX6 3 Lib.objectInit ∈ GW := GW_1 148 (by decide +kernel) rfl
theorem ol_X3_3 : Cond.methodLink RX3 3 Lib.objectInit ∈ GW := GW_1 216 (by decide +kernel) rfl
theorem ol_X0_3 : Cond.methodLink RX0 3 Lib.objectInit ∈ GW := GW_1 223 (by decide +kernel) rfl
theorem ol_X2_3 : Cond.methodLink RX2 3 Lib.objectInit ∈ GW := GW_1 257 (by decide +kernel) rfl
theorem ol_X4_3 : Cond.methodLink RX4 3 Lib.objectInit ∈ GW := GW_1 264 (by decide +kernel) rfl
theorem ol_X9_3 : Cond.methodLink RX9 3 Lib.objectInit ∈ GW := GW_1 305 (by decide +kernel) rfl
theorem ol_X11_1 : Cond.methodLink RX11 1 Lib.objectInit ∈ GW := GW_1 896 (by decide +kernel) rfl
theorem cl_L_7 : Cond.classLink RL 7 RX10 ∈ GW := GW_1 81 (by decide +kernel) rfl
theorem nw_L_7 : NW RL 7 9 [.null, .null, .null, .null, vi 0, .null, .null, .null, .null, .null, .null, vi 0, vi 0, vi 0] := ⟨RX10, TX10, 14, tyX10, rfl, inG_X10, tyX10_ok, cl_L_7, GW_1 82 (by decide +kernel) rfl, GW_1 65 (by decide +kernel) rfl, fun j hj => by rcases (show j = 0 ∨ j = 1 ∨ j = 2 ∨ j = 3 ∨ j = 4 ∨ j = 5 ∨ j = 6 ∨ j = 7 ∨ j = 8 ∨ j = 9 ∨ j = 10 ∨ j = 11 ∨ j = 12 ∨ j = 13 by omega) with rfl | rfl | rfl | rfl | rfl | rfl | rfl | rfl | rfl | rfl | rfl | rfl | rfl | rfl <;> rfl, rfl⟩
theorem cl_X10_7 : Cond.classLink RX10 7 RX1 ∈ GW := GW_1 89 (by decide +kernel) rfl
theorem nw_X10_7 : NW RX10 7 1 [vi 0, vi 0, vi 0, vi 0] := ⟨RX1, TX1, 4, tyX1, rfl, inG_X1, tyX1_ok, cl_X10_7, GW_1 90 (by decide +kernel) rfl, GW_1 66 (by decide +kernel) rfl, fun j hj => by rcases (show j = 0 ∨ j = 1 ∨ j = 2 ∨ j = 3 by omega) with rfl | rfl | rfl | rfl <;> rfl, rfl⟩
theorem cl_X10_19 : Cond.classLink RX10 19 RX5 ∈ GW := GW_1 117 (by decide +kernel) rfl
theorem nw_X10_19 : NW RX10 19 5 [.null, vi 0, vi 0] := ⟨RX5, TX5, 3, tyX5, rfl, inG_X5, tyX5_ok, cl_X10_19, GW_1 118 (by decide +kernel) rfl, GW_1 67 (by decide +kernel) rfl, fun j hj => by rcases (show j = 0 ∨ j = 1 ∨ j = 2 by omega) with rfl | rfl | rfl <;> rfl, rfl⟩
theorem cl_X5_9 : Cond.classLink RX5 9 RX1 ∈ GW := GW_1 123 (by decide +kernel) rfl
theorem nw_X5_9 : NW RX5 9 1 [vi 0, vi 0, vi 0, vi 0] := ⟨RX1, TX1, 4, tyX1, rfl, inG_X1, tyX1_ok, cl_X5_9, GW_1 90 (by decide +kernel) rfl, GW_1 66 (by decide +kernel) rfl, fun j hj => by rcases (show j = 0 ∨ j = 1 ∨ j = 2 ∨ j = 3 by omega) with rfl | rfl | rfl | rfl <;> rfl, rfl⟩
theorem cl_X10_34 : Cond.classLink RX10 34 RX7 ∈ GW := GW_1 137 (by decide +kernel) rfl
theorem nw_X10_34 : NW RX10 34 7 [.null, vi 0, vi 0, .null] := ⟨RX7, TX7, 4, tyX7, rfl, inG_X7, tyX7_ok, cl_X10_34, GW_1 138 (by decide +kernel) rfl, GW_1 68 (by decide +kernel) rfl, fun j hj => by rcases (show j = 0 ∨ j = 1 ∨ j = 2 ∨ j = 3 by omega) with rfl | rfl | rfl | rfl <;> rfl, rfl⟩
theorem cl_X7_22 : Cond.classLink RX7 22 RX6 ∈ GW := GW_1 143 (by decide +kernel) rfl
theorem nw_X7_22 : NW RX7 22 6 [.null, .null, .null, .null, .null, .null, vi 0, vi 0, vi 0, vi 0, vi 0, vi 0] := ⟨RX6, TX6, 12, tyX6, rfl, inG_X6, tyX6_ok, cl_X7_22, GW_1 144 (by decide +kernel) rfl, GW_1 69 (by decide +kernel) rfl, fun j hj => by rcases (show j = 0 ∨ j = 1 ∨ j = 2 ∨ j = 3 ∨ j = 4 ∨ j = 5 ∨ j = 6 ∨ j = 7 ∨ j = 8 ∨ j = 9 ∨ j = 10 ∨ j = 11 by omega) with rfl | rfl | rfl | rfl | rfl | rfl | rfl | rfl | rfl | rfl | rfl | rfl <;> rfl, rfl⟩
theorem cl_X10_41 : Cond.classLink RX10 41 RX6 ∈ GW := GW_1 209 (by decide +kernel) rfl
theorem nw_X10_41 : NW RX10 41 6 [.null, .null, .null, .null, .null, .null, vi 0, vi 0, vi 0, vi 0, vi 0, vi 0] := ⟨RX6, TX6, 12, tyX6, rfl, inG_X6, tyX6_ok, cl_X10_41, GW_1 144 (by decide +kernel) rfl, GW_1 69 (by decide +kernel) rfl, fun j hj => by rcases (show j = 0 ∨ j = 1 ∨ j = 2 ∨ j = 3 ∨ j = 4 ∨ j = 5 ∨ j = 6 ∨ j = 7 ∨ j = 8 ∨ j = 9 ∨ j = 10 ∨ j = 11 by omega) with rfl | rfl | rfl | rfl | rfl | rfl | rfl | rfl | rfl | rfl | rfl | rfl <;> rfl, rfl⟩
theorem cl_X10_48 : Cond.classLink RX10 48 RX3 ∈ GW := GW_1 211 (by decide +kernel) rfl
theorem nw_X10_48 : NW RX10 48 3 [.null, .null, .null, .null, vi 0, vi 0] := ⟨RX3, TX3, 6, tyX3, rfl, inG_X3, tyX3_ok, cl_X10_48, GW_1 212 (by decide +kernel) rfl, GW_1 70 (by decide +kernel) rfl, fun j hj => by rcases (show j = 0 ∨ j = 1 ∨ j = 2 ∨ j = 3 ∨ j = 4 ∨ j = 5 by omega) with rfl | rfl | rfl | rfl | rfl | rfl <;> rfl, rfl⟩
theorem cl_X3_18 : Cond.classLink RX3 18 RX0 ∈ GW := GW_1 217 (by decide +kernel) rfl
theorem nw_X3_18 : NW RX3 18 0 [.null, .null] := ⟨RX0, TX0, 2, tyX0, rfl, inG_X0, tyX0_ok, cl_X3_18, GW_1 219 (by decide +kernel) rfl, GW_1 71 (by decide +kernel) rfl, fun j hj => by rcases (show j = 0 ∨ j = 1 by omega) with rfl | rfl <;> rfl, rfl⟩
theorem cl_X10_55 : Cond.classLink RX10 55 RX2 ∈ GW := GW_1 252 (by decide +kernel) rfl
theorem nw_X10_55 : NW RX10 55 2 [.null, .null, .null, .null, vi 0] := ⟨RX2, TX2, 5, tyX2, rfl, inG_X2, tyX2_ok, cl_X10_55, GW_1 253 (by decide +kernel) rfl, GW_1 72 (by decide +kernel) rfl, fun j hj => by rcases (show j = 0 ∨ j = 1 ∨ j = 2 ∨ j = 3 ∨ j = 4 by omega) with rfl | rfl | rfl | rfl | rfl <;> rfl, rfl⟩
theorem cl_X2_9 : Cond.classLink RX2 9 RX4 ∈ GW := GW_1 258 (by decide +kernel) rfl
theorem nw_X2_9 : NW RX2 9 4 [.null, .null, .null, vi 0] := ⟨RX4, TX4, 4, tyX4, rfl, inG_X4, tyX4_ok, cl_X2_9, GW_1 260 (by decide +kernel) rfl, GW_1 73 (by decide +kernel) rfl, fun j hj => by rcases (show j = 0 ∨ j = 1 ∨ j = 2 ∨ j = 3 by omega) with rfl | rfl | rfl | rfl <;> rfl, rfl⟩
theorem cl_X2_25 : Cond.classLink RX2 25 RX1 ∈ GW := GW_1 282 (by decide +kernel) rfl
theorem nw_X2_25 : NW RX2 25 1 [vi 0, vi 0, vi 0, vi 0] := ⟨RX1, TX1, 4, tyX1, rfl, inG_X1, tyX1_ok, cl_X2_25, GW_1 90 (by decide +kernel) rfl, GW_1 66 (by decide +kernel) rfl, fun j hj => by rcases (show j = 0 ∨ j = 1 ∨ j = 2 ∨ j = 3 by omega) with rfl | rfl | rfl | rfl <;> rfl, rfl⟩
theorem cl_X10_62 : Cond.classLink RX10 62 RX9 ∈ GW := GW_1 300 (by decide +kernel) rfl
theorem nw_X10_62 : NW RX10 62 8 [vi 0, vi 0, vi 0, vi 0, vi 0] := ⟨RX9, TX9, 5, tyX9, rfl, inG_X9, tyX9_ok, cl_X10_62, GW_1 301 (by decide +kernel) rfl, GW_1 75 (by decide +kernel) rfl, fun j hj => by rcases (show j = 0 ∨ j = 1 ∨ j = 2 ∨ j = 3 ∨ j = 4 by omega) with rfl | rfl | rfl | rfl | rfl <;> rfl, rfl⟩
theorem cl_L_10 : Cond.classLink RL 10 RX11 ∈ GW := GW_1 891 (by decide +kernel) rfl
theorem nw_L_10 : NW RL 10 10 [.null, .null, vi 0, .null, .null, .null, .null, vi 0, .null, vi 0, .null, vi 0, .null, .null, .null, .null, .null, .null, .null, .null, .null, .null, .null, .null, .null, .null, .null, .null, .null, vi 0, vi 0, vi 0, vi 0, vi 0] := ⟨RX11, TX11, 34, tyX11, rfl, inG_X11, tyX11_ok, cl_L_10, GW_1 892 (by decide +kernel) rfl, GW_1 76 (by decide +kernel) rfl, fun j hj => by rcases (show j = 0 ∨ j = 1 ∨ j = 2 ∨ j = 3 ∨ j = 4 ∨ j = 5 ∨ j = 6 ∨ j = 7 ∨ j = 8 ∨ j = 9 ∨ j = 10 ∨ j = 11 ∨ j = 12 ∨ j = 13 ∨ j = 14 ∨ j = 15 ∨ j = 16 ∨ j = 17 ∨ j = 18 ∨ j = 19 ∨ j = 20 ∨ j = 21 ∨ j = 22 ∨ j = 23 ∨ j = 24 ∨ j = 25 ∨ j = 26 ∨ j = 27 ∨ j = 28 ∨ j = 29 ∨ j = 30 ∨ j = 31 ∨ j = 32 ∨ j = 33 by omega) with rfl | rfl | rfl | rfl | rfl | rfl | rfl | rfl | rfl | rfl | rfl | rfl | rfl | rfl | rfl | rfl | rfl | rfl | rfl | rfl | rfl | rfl | rfl | rfl | rfl | rfl | rfl | rfl | rfl | rfl | rfl | rfl | rfl | rfl <;> rfl, rfl⟩
theorem ac_int : Cond.arrayClass (newarray.typeOf .int) ∈ GW := GW_1 194 (by decide +kernel) rfl
theorem ac_boolean : Cond.arrayClass (newarray.typeOf .boolean) ∈ GW := GW_1 1000 (by decide +kernel) rfl
theorem ac_long : Cond.arrayClass (newarray.typeOf .long) ∈ GW := GW_1 1001 (by decide +kernel) rfl
theorem mi_L_9 : MI RL 9 yX10_init cX10_init 1 := ⟨GW_1 83 (by decide +kernel) rfl, GW_1 84 (by decide +kernel) rfl, GW_1 65 (by decide +kernel) rfl, GW_1 85 (by decide +kernel) rfl, ⟨by decide, by decide, by decide +kernel⟩, rfl, by decide⟩
theorem mi_X10_21 : MI RX10 21 yX5_init cX5_init 2 := ⟨GW_1 119 (by decide +kernel) rfl, GW_1 120 (by decide +kernel) rfl, GW_1 67 (by decide +kernel) rfl, GW_1 121 (by decide +kernel) rfl, ⟨by decide, by decide, by decide +kernel⟩, rfl, by decide⟩
theorem mi_X10_50 : MI RX10 50 yX3_init cX3_init 2 := ⟨GW_1 213 (by decide +kernel) rfl, GW_1 214 (by decide +kernel) rfl, GW_1 70 (by decide +kernel) rfl, GW_1 215 (by decide +kernel) rfl, ⟨by decide, by decide, by decide +kernel⟩, rfl, by decide⟩
theorem mi_X10_57 : MI RX10 57 yX2_init cX2_init 2 := ⟨GW_1 254 (by decide +kernel) rfl, GW_1 255 (by decide +kernel) rfl, GW_1 72 (by decide +kernel) rfl, GW_1 256 (by decide +kernel) rfl, ⟨by decide, by decide, by decide +kernel⟩, rfl, by decide⟩
theorem mi_X2_20 : MI RX2 20 yX4_init cX4_init 1 := ⟨GW_1 261 (by decide +kernel) rfl, GW_1 262 (by decide +kernel) rfl, GW_1 73 (by decide +kernel) rfl, GW_1 263 (by decide +kernel) rfl, ⟨by decide, by decide, by decide +kernel⟩, rfl, by decide⟩
theorem mi_L_12 : MI RL 12 yX11_init cX11_init 1 := ⟨GW_1 893 (by decide +kernel) rfl, GW_1 894 (by decide +kernel) rfl, GW_1 76 (by decide +kernel) rfl, GW_1 895 (by decide +kernel) rfl, ⟨by decide, by decide, by decide +kernel⟩, rfl, by decide⟩
theorem mi_X10_9 : MIN RX10 9 yX1_init cX1_init 1 "CacheBounds" := ⟨List.mem_of_getElem? (i := 0) (by decide +kernel), GW_1 92 (by decide +kernel) rfl, GW_1 66 (by decide +kernel) rfl, GW_1 93 (by decide +kernel) rfl, ⟨by decide, by decide, by decide +kernel⟩, rfl, by decide⟩
theorem mi_X5_22 : MIN RX5 22 yX1_init cX1_init 1 "CacheBounds" := ⟨List.mem_of_getElem? (i := 1) (by decide +kernel), GW_1 92 (by decide +kernel) rfl, GW_1 66 (by decide +kernel) rfl, GW_1 93 (by decide +kernel) rfl, ⟨by decide, by decide, by decide +kernel⟩, rfl, by decide⟩
theorem mi_X10_36 : MIN RX10 36 yX7_init cX7_init 1 "CacheBounds" := ⟨List.mem_of_getElem? (i := 2) (by decide +kernel), GW_1 140 (by decide +kernel) rfl, GW_1 68 (by decide +kernel) rfl, GW_1 141 (by decide +kernel) rfl, ⟨by decide, by decide, by decide +kernel⟩, rfl, by decide⟩
theorem mi_X7_24 : MIN RX7 24 yX6_init cX6_init 1 "CacheBounds" := ⟨List.mem_of_getElem? (i := 3) (by decide +kernel), GW_1 146 (by decide +kernel) rfl, GW_1 69 (by decide +kernel) rfl, GW_1 147 (by decide +kernel) rfl, ⟨by decide, by decide, by decide +kernel⟩, rfl, by decide⟩
theorem mi_X10_43 : MIN RX10 43 yX6_init cX6_init 1 "CacheBounds" := ⟨List.mem_of_getElem? (i := 4) (by decide +kernel), GW_1 146 (by decide +kernel) rfl, GW_1 69 (by decide +kernel) rfl, GW_1 147 (by decide +kernel) rfl, ⟨by decide, by decide, by decide +kernel⟩, rfl, by decide⟩
theorem mi_X3_35 : MIN RX3 35 yX0_init cX0_init 1 "CacheBounds" := ⟨List.mem_of_getElem? (i := 5) (by decide +kernel), GW_1 221 (by decide +kernel) rfl, GW_1 71 (by decide +kernel) rfl, GW_1 222 (by decide +kernel) rfl, ⟨by decide, by decide, by decide +kernel⟩, rfl, by decide⟩
theorem mi_X2_27 : MIN RX2 27 yX1_init cX1_init 1 "CacheBounds" := ⟨List.mem_of_getElem? (i := 6) (by decide +kernel), GW_1 92 (by decide +kernel) rfl, GW_1 66 (by decide +kernel) rfl, GW_1 93 (by decide +kernel) rfl, ⟨by decide, by decide, by decide +kernel⟩, rfl, by decide⟩
theorem mi_X10_64 : MIN RX10 64 yX9_init cX9_init 1 "CacheBounds" := ⟨List.mem_of_getElem? (i := 7) (by decide +kernel), GW_1 303 (by decide +kernel) rfl, GW_1 75 (by decide +kernel) rfl, GW_1 304 (by decide +kernel) rfl, ⟨by decide, by decide, by decide +kernel⟩, rfl, by decide⟩
