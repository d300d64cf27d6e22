/-! Pure methods: the heap stays. -/
def CP (E : En) (M : Mth) (d : Nat) (as : List Value) (N : Nat) (σ : Nat → va_E) (x : Int) : Prop := CI E M d as N σ (fun r σ' => r = x ∧ σ' = σ)
def CPL (E : En) (M : Mth) (d : Nat) (as : List Value) (N : Nat) (σ : Nat → va_E) (x : Int) : Prop := CL E M d as N σ (fun r σ' => r = x ∧ σ' = σ)
section GO
variable {E : En} {p : Program} {e : Env} {R : Room} {s : State} {m : MethodId} {args : Array Value} {below : List Frame} {meth : Method} {c : Code} {Q : State → Prop} {cc : ByteArray} {nL : Nat} {own : String} {d : Nat} {k : Nat × Nat} {N : Nat} {σ : Nat → va_E} {lv lv' : List (Nat × Value)} {st : List Value} {pc : Nat}

theorem go_callVP (hF : Fx E cc nL own d p R s m args c) {M : Mth} {idx ci n i d' : Nat} {fs : List Value} {st0 : List Value} {x : Int} (as : List Value) (st : List Value) (hM : MV own idx M ci n) (hd : decode cc pc = .ok (.invokevirtual idx, 3)) (hi : i < N) (hc : σ i = ob ci fs) (hC : CP E M d' (vr E i :: as) N σ x) (hst : st0 = as.reverse ++ vr E i :: st) (hn : as.length = n) (hw : (st.map fun v => v.category).sum ≤ 8) (hdd : d' + 1 ≤ d) (hf : k.1 ≤ R.cells ∧ k.2 ≤ R.slots) (h : Go E p e R s m args below meth c Q nL k N σ lv (vi x :: st) (pc + 3)) : Go E p e R s m args below meth c Q nL k N σ lv st0 pc :=
  go_callVI hF as st hM hd hi hc hC hst hn hw hdd hf (fun y σ' hp => by rw [hp.1, hp.2]; exact h)
theorem go_callVPL (hF : Fx E cc nL own d p R s m args c) {M : Mth} {idx ci n i d' : Nat} {fs : List Value} {st0 : List Value} {x : Int} (as : List Value) (st : List Value) (hM : MV own idx M ci n) (hd : decode cc pc = .ok (.invokevirtual idx, 3)) (hi : i < N) (hc : σ i = ob ci fs) (hC : CPL E M d' (vr E i :: as) N σ x) (hst : st0 = as.reverse ++ vr E i :: st) (hn : as.length = n) (hw : (st.map fun v => v.category).sum ≤ 8) (hdd : d' + 1 ≤ d) (hf : k.1 ≤ R.cells ∧ k.2 ≤ R.slots) (h : Go E p e R s m args below meth c Q nL k N σ lv (vl x :: st) (pc + 3)) : Go E p e R s m args below meth c Q nL k N σ lv st0 pc :=
  go_callVL hF as st hM hd hi hc hC hst hn hw hdd hf (fun y σ' hp => by rw [hp.1, hp.2]; exact h)
theorem go_callSP (hF : Fx E cc nL own d p R s m args c) {M : Mth} {idx n d' : Nat} {st0 : List Value} {x : Int} (as : List Value) (st : List Value) (hM : MS own idx M n) (hd : decode cc pc = .ok (.invokestatic idx, 3))  (hC : CP E M d' as N σ x) (hst : st0 = as.reverse ++ st) (hn : as.length = n) (hw : (st.map fun v => v.category).sum ≤ 8) (hdd : d' + 1 ≤ d) (hf : k.1 ≤ R.cells ∧ k.2 ≤ R.slots) (h : Go E p e R s m args below meth c Q nL k N σ lv (vi x :: st) (pc + 3)) : Go E p e R s m args below meth c Q nL k N σ lv st0 pc :=
  go_callSI hF as st hM hd hC hst hn hw hdd hf (fun y σ' hp => by rw [hp.1, hp.2]; exact h)
theorem go_callSPL (hF : Fx E cc nL own d p R s m args c) {M : Mth} {idx n d' : Nat} {st0 : List Value} {x : Int} (as : List Value) (st : List Value) (hM : MS own idx M n) (hd : decode cc pc = .ok (.invokestatic idx, 3))  (hC : CPL E M d' as N σ x) (hst : st0 = as.reverse ++ st) (hn : as.length = n) (hw : (st.map fun v => v.category).sum ≤ 8) (hdd : d' + 1 ≤ d) (hf : k.1 ≤ R.cells ∧ k.2 ≤ R.slots) (h : Go E p e R s m args below meth c Q nL k N σ lv (vl x :: st) (pc + 3)) : Go E p e R s m args below meth c Q nL k N σ lv st0 pc :=
  go_callSL hF as st hM hd hC hst hn hw hdd hf (fun y σ' hp => by rw [hp.1, hp.2]; exact h)
theorem go_callNP (hF : Fx E cc nL own d p R s m args c) {M : Mth} {idx n d' : Nat} {host : String} {st0 : List Value} {x : Int} (as : List Value) (st : List Value) (hM : MN own idx M host n) (hd : decode cc pc = .ok (.invokestatic idx, 3))  (hC : CP E M d' as N σ x) (hst : st0 = as.reverse ++ st) (hn : as.length = n) (hw : (st.map fun v => v.category).sum ≤ 8) (hdd : d' + 1 ≤ d) (hf : k.1 ≤ R.cells ∧ k.2 ≤ R.slots) (h : Go E p e R s m args below meth c Q nL k N σ lv (vi x :: st) (pc + 3)) : Go E p e R s m args below meth c Q nL k N σ lv st0 pc :=
  go_callNI hF as st hM hd hC hst hn hw hdd hf (fun y σ' hp => by rw [hp.1, hp.2]; exact h)
theorem go_callNPL (hF : Fx E cc nL own d p R s m args c) {M : Mth} {idx n d' : Nat} {host : String} {st0 : List Value} {x : Int} (as : List Value) (st : List Value) (hM : MN own idx M host n) (hd : decode cc pc = .ok (.invokestatic idx, 3))  (hC : CPL E M d' as N σ x) (hst : st0 = as.reverse ++ st) (hn : as.length = n) (hw : (st.map fun v => v.category).sum ≤ 8) (hdd : d' + 1 ≤ d) (hf : k.1 ≤ R.cells ∧ k.2 ≤ R.slots) (h : Go E p e R s m args below meth c Q nL k N σ lv (vl x :: st) (pc + 3)) : Go E p e R s m args below meth c Q nL k N σ lv st0 pc :=
  go_callNL hF as st hM hd hC hst hn hw hdd hf (fun y σ' hp => by rw [hp.1, hp.2]; exact h)
end GO
def bI (q : Prop) [Decidable q] : Int := if q then 1 else 0
theorem bI_t {q : Prop} [Decidable q] (h : q) : bI q = 1 := if_pos h
theorem bI_f {q : Prop} [Decidable q] (h : ¬ q) : bI q = 0 := if_neg h
theorem bI_rg (q : Prop) [Decidable q] : rg (bI q) := by unfold bI; split <;> constructor <;> decide
theorem bI_0 (q : Prop) [Decidable q] : bI q = 0 ↔ ¬ q := by unfold bI; split <;> simp [*]

theorem iN (n : Nat) : iI (n : Int) = nI n := Int32.ofInt_eq_ofNat
theorem b_shl {a : Int} (k p : Nat) (hp : 2 ^ k = p) (hs : ((iI k &&& 31).toBitVec.smod 32).toNat = k) (h0 : 0 ≤ a ∧ a * p < 4294967296) : iI a <<< (iI k &&& 31) = iI (a * p) := by
  obtain ⟨n, rfl⟩ := Int.eq_ofNat_of_zero_le h0.1
  rw [iN n, pk_shlN _ k hs (by rw [hp]; have := h0.2; omega), hp, ← iN, Int.natCast_mul]
theorem b_shr {a : Int} (k p : Nat) (hp : 2 ^ k = p) (hs : ((iI k &&& 31).toBitVec.smod 32).toNat = k) (h0 : 0 ≤ a ∧ a < 2147483648) : iI a >>> (iI k &&& 31) = iI (a / p) := by
  obtain ⟨n, rfl⟩ := Int.eq_ofNat_of_zero_le h0.1
  rw [iN n, pk_shrN (by have := h0.2; omega) _ k hs, hp, ← iN, Int.natCast_ediv]
theorem b_and {a : Int} (m : Int) (k p : Nat) (hp : 2 ^ k = p) (hm : (iI m).toBitVec.toNat = 2 ^ k - 1) (h0 : 0 ≤ a ∧ a < 4294967296) : iI a &&& iI m = iI (a % p) := by
  obtain ⟨n, rfl⟩ := Int.eq_ofNat_of_zero_le h0.1
  rw [iN n, pk_andN (by have := h0.2; omega) k hm, hp, ← iN, Int.natCast_emod]
theorem b_or {a b : Int} (k p : Nat) (hp : 2 ^ k = p) (h0 : 0 ≤ a) (h1 : 0 ≤ b ∧ b < p) : iI (a * p) ||| iI b = iI (a * p + b) := by
  obtain ⟨n, rfl⟩ := Int.eq_ofNat_of_zero_le h0
  obtain ⟨m, rfl⟩ := Int.eq_ofNat_of_zero_le h1.1
  have e1 : ((n : Int) * (p : Int)) = ((n * p : Nat) : Int) := (Int.natCast_mul n p).symm
  rw [e1, iN, iN, ← Int.natCast_add, iN]
  apply Int32.toBitVec_inj.1
  show BitVec.ofNat 32 (n * p) ||| BitVec.ofNat 32 m = BitVec.ofNat 32 (n * p + m)
  have hm : m < 2 ^ k := by rw [hp]; omega
  rw [show n * p + m = n * p ||| m by rw [← hp, Nat.mul_comm, Nat.two_pow_add_eq_or_of_lt hm]]
  apply BitVec.eq_of_getLsbD_eq
  intro i hi
  simp [hi]

set_option maxHeartbeats 4000000 in
set_option maxRecDepth 100000 in
theorem c_X10_isWithin (E : En) (N : Nat) (σ : Nat → va_E) (n lo hi : Int) (hn : rg n) (hlo : rg lo) (hhi : rg hi) : CP E M_X10_isWithin 1 [vi n, vi lo, vi hi] N σ (bI (lo ≤ n ∧ n ≤ hi)) := by
  refine CT.of (own := RX10) (by decide) rfl (Nat.le_of_ble_eq_true rfl) ?_
  intro p e s m args below meth c hF hr hlk hnm hz
  refine go_iload_n (pc := 0) hF dX10_isWithin_0 0 rfl ?_
  refine go_iload_n (pc := 1) hF dX10_isWithin_1 1 rfl ?_
  refine go_icmp_lt (pc := 2) hF 14 dX10_isWithin_2 (by decide) (by omega) (by omega) (fun b2 => ?_) (fun b2 => ?_)
  · refine go_iconst (pc := 14) hF dX10_isWithin_14 ?_
    exact go_zret hF hr hlk dX10_isWithin_15 (by decide) ⟨by first | (rw [bI_t (by omega)]) | (rw [bI_f (by omega)]), rfl⟩
  · refine go_iload_n (pc := 5) hF dX10_isWithin_5 0 rfl ?_
    refine go_iload_n (pc := 6) hF dX10_isWithin_6 2 rfl ?_
    refine go_icmp_gt (pc := 7) hF 14 dX10_isWithin_7 (by decide) (by omega) (by omega) (fun b7 => ?_) (fun b7 => ?_)
    · refine go_iconst (pc := 14) hF dX10_isWithin_14 ?_
      exact go_zret hF hr hlk dX10_isWithin_15 (by decide) ⟨by first | (rw [bI_t (by omega)]) | (rw [bI_f (by omega)]), rfl⟩
    · refine go_iconst (pc := 10) hF dX10_isWithin_10 ?_
      refine go_goto (pc := 11) hF 15 dX10_isWithin_11 (by decide) ?_
      exact go_zret hF hr hlk dX10_isWithin_15 (by decide) ⟨by first | (rw [bI_t (by omega)]) | (rw [bI_f (by omega)]), rfl⟩
set_option maxHeartbeats 4000000 in
set_option maxRecDepth 100000 in
theorem c_X10_isLine (E : En) (N : Nat) (σ : Nat → va_E) (line : Int) (hline : rg line) : CP E M_X10_isLine 2 [vi line] N σ (bI (0 ≤ line ∧ line ≤ 5)) := by
  refine CT.of (own := RX10) (by decide) rfl (Nat.le_of_ble_eq_true rfl) ?_
  intro p e s m args below meth c hF hr hlk hnm hz
  refine go_iload_n (pc := 0) hF dX10_isLine_0 0 rfl ?_
  refine go_iconst (pc := 1) hF dX10_isLine_1 ?_
  refine go_iconst (pc := 2) hF dX10_isLine_2 ?_
  refine go_callSP (pc := 3) hF [vi line, vi 0, vi 5] [] ms_X10_81 dX10_isLine_3 (c_X10_isWithin E N σ line 0 5 (by omega) ⟨by decide, by decide⟩ ⟨by decide, by decide⟩) rfl rfl (Nat.le_of_ble_eq_true rfl) (by decide) ⟨Nat.zero_le _, Nat.zero_le _⟩ ?_
  exact go_zret hF hr hlk dX10_isLine_6 (by unfold bI; split <;> simp) ⟨rfl, rfl⟩
/-- the line at a place of the class's own number for a row; none: -1 -/
def cL (row place : Int) : Int := if place = 0 then row % 8 - 1 else if place = 1 then row / 8 % 8 - 1 else if place = 2 then row / 64 % 8 - 1 else -1

theorem b_or1 {a b : Int} (k p : Nat) (hp : 2 ^ k = p) (h0 : 0 ≤ a ∧ a < p) (h1 : 0 ≤ b ∧ b % p = 0) : iI a ||| iI b = iI (a + b) := by
  have hp0 : 0 < (p : Int) := by omega
  have e : b = b / p * p := by
    have := Int.emod_add_mul_ediv b p
    rw [h1.2, Int.mul_comm] at this
    omega
  rw [e, Int32.or_comm, b_or k p hp (Int.ediv_nonneg h1.1 (by omega)) h0, Int.add_comm]
/-- a row with the line at a place moved nearer to the front -/
def mv (row f t : Int) : Int := if f = 0 then row else if f = 1 then row / 8 % 8 + 8 * (row % 8) + 64 * (row / 64) else if t = 0 then row / 64 % 8 + 8 * (row % 64) else row % 8 + 8 * (row / 64 % 8) + 64 * (row / 8 % 8)
def cSize (row : Int) : Int := bI (cL row 0 ≠ -1) + bI (cL row 1 ≠ -1) + bI (cL row 2 ≠ -1)
def cPlace (row x : Int) : Int := if row % 8 = x + 1 then 0 else if row / 8 % 8 = x + 1 then 1 else if row / 64 % 8 = x + 1 then 2 else -1
def p8 (w : Int) : Int := if w = 1 then 8 else if w = 2 then 64 else 512
def cMiss (row x w : Int) : Int := (row * 8 + (x + 1)) % p8 w
def cHit (row pl w kd : Int) : Int := if kd = 0 then mv row pl 0 else if kd = 1 then row else if kd = 2 then (if pl = 0 then row else mv row pl (pl - 1)) else (if pl = w - 1 then row else mv row pl 0)

set_option maxHeartbeats 4000000 in
set_option maxRecDepth 100000 in
theorem c_X8_lineAt (E : En) (N : Nat) (σ : Nat → va_E) (row place : Int) (h0 : 0 ≤ row ∧ row < 512) (hpl : rg place) : CP E M_X8_lineAt 1 [vi row, vi place] N σ (cL row place) := by
  refine CT.of (own := RX8) (by decide) rfl (Nat.le_of_ble_eq_true rfl) ?_
  intro p e s m args below meth c hF hr hlk hnm hz
  refine go_iload_n (pc := 0) hF dX8_lineAt_0 1 rfl ?_
  refine go_if_lt (pc := 1) hF 9 dX8_lineAt_1 (by decide) (by omega) (fun b1 => ?_) (fun b1 => ?_)
  · refine go_iconst (pc := 9) hF dX8_lineAt_9 ?_
    exact go_iret hF hr hlk dX8_lineAt_10 ⟨by unfold cL; repeat (first | omega | (rw [if_pos (by omega)]) | (rw [if_neg (by omega)])), rfl⟩
  · refine go_iload_n (pc := 4) hF dX8_lineAt_4 1 rfl ?_
    refine go_iconst (pc := 5) hF dX8_lineAt_5 ?_
    refine go_icmp_lt (pc := 6) hF 11 dX8_lineAt_6 (by decide) (by omega) ⟨by decide, by decide⟩ (fun b6 => ?_) (fun b6 => ?_)
    · obtain rfl | rfl | rfl : place = 0 ∨ place = 1 ∨ place = 2 := by omega
      · refine go_iload_n (pc := 11) hF dX8_lineAt_11 0 rfl ?_
        refine go_iconst (pc := 12) hF dX8_lineAt_12 ?_
        refine go_iload_n (pc := 13) hF dX8_lineAt_13 1 rfl ?_
        refine go_imul (pc := 14) hF dX8_lineAt_14 ?_
        refine go_ishr (pc := 15) hF (row / 1) (b_shr 0 1 (by decide) (by decide) (by omega)) dX8_lineAt_15 ?_
        refine go_bipush (pc := 16) hF dX8_lineAt_16 (by decide) ?_
        refine go_iand (pc := 18) hF ((row / 1) % 8) (b_and 7 3 8 (by decide) (by decide) (by omega)) dX8_lineAt_18 ?_
        refine go_iconst (pc := 19) hF dX8_lineAt_19 ?_
        refine go_isub (pc := 20) hF dX8_lineAt_20 ?_
        exact go_iret hF hr hlk dX8_lineAt_21 ⟨by unfold cL; repeat (first | omega | (rw [if_pos (by omega)]) | (rw [if_neg (by omega)])), rfl⟩
      · refine go_iload_n (pc := 11) hF dX8_lineAt_11 0 rfl ?_
        refine go_iconst (pc := 12) hF dX8_lineAt_12 ?_
        refine go_iload_n (pc := 13) hF dX8_lineAt_13 1 rfl ?_
        refine go_imul (pc := 14) hF dX8_lineAt_14 ?_
        refine go_ishr (pc := 15) hF (row / 8) (b_shr 3 8 (by decide) (by decide) (by omega)) dX8_lineAt_15 ?_
        refine go_bipush (pc := 16) hF dX8_lineAt_16 (by decide) ?_
        refine go_iand (pc := 18) hF ((row / 8) % 8) (b_and 7 3 8 (by decide) (by decide) (by omega)) dX8_lineAt_18 ?_
        refine go_iconst (pc := 19) hF dX8_lineAt_19 ?_
        refine go_isub (pc := 20) hF dX8_lineAt_20 ?_
        exact go_iret hF hr hlk dX8_lineAt_21 ⟨by unfold cL; repeat (first | omega | (rw [if_pos (by omega)]) | (rw [if_neg (by omega)])), rfl⟩
      · refine go_iload_n (pc := 11) hF dX8_lineAt_11 0 rfl ?_
        refine go_iconst (pc := 12) hF dX8_lineAt_12 ?_
        refine go_iload_n (pc := 13) hF dX8_lineAt_13 1 rfl ?_
        refine go_imul (pc := 14) hF dX8_lineAt_14 ?_
        refine go_ishr (pc := 15) hF (row / 64) (b_shr 6 64 (by decide) (by decide) (by omega)) dX8_lineAt_15 ?_
        refine go_bipush (pc := 16) hF dX8_lineAt_16 (by decide) ?_
        refine go_iand (pc := 18) hF ((row / 64) % 8) (b_and 7 3 8 (by decide) (by decide) (by omega)) dX8_lineAt_18 ?_
        refine go_iconst (pc := 19) hF dX8_lineAt_19 ?_
        refine go_isub (pc := 20) hF dX8_lineAt_20 ?_
        exact go_iret hF hr hlk dX8_lineAt_21 ⟨by unfold cL; repeat (first | omega | (rw [if_pos (by omega)]) | (rw [if_neg (by omega)])), rfl⟩
    · refine go_iconst (pc := 9) hF dX8_lineAt_9 ?_
      exact go_iret hF hr hlk dX8_lineAt_10 ⟨by unfold cL; repeat (first | omega | (rw [if_pos (by omega)]) | (rw [if_neg (by omega)])), rfl⟩
theorem cL_rg {row place : Int} (h : 0 ≤ row ∧ row < 512) : -1 ≤ cL row place ∧ cL row place ≤ 6 := by 
  unfold cL
  repeat' split
  all_goals omega

set_option maxHeartbeats 4000000 in
set_option maxRecDepth 100000 in
theorem c_X8_placeOf (E : En) (N : Nat) (σ : Nat → va_E) (row x : Int) (h0 : 0 ≤ row ∧ row < 512) (hx : -1 ≤ x ∧ x ≤ 7) : CP E M_X8_placeOf 1 [vi row, vi x] N σ (cPlace row x) := by
  refine CT.of (own := RX8) (by decide) rfl (Nat.le_of_ble_eq_true rfl) ?_
  intro p e s m args below meth c hF hr hlk hnm hz
  refine go_iconst (pc := 0) hF dX8_placeOf_0 ?_
  refine go_istore_n (pc := 1) hF [(2, vi 0), (0, vi row), (1, vi x)] dX8_placeOf_1 rfl (by decide) ?_
  refine go_iload_n (pc := 2) hF dX8_placeOf_2 0 rfl ?_
  refine go_iconst (pc := 3) hF dX8_placeOf_3 ?_
  refine go_icmp_ge (pc := 4) hF 29 dX8_placeOf_4 (by decide) ⟨by decide, by decide⟩ ⟨by decide, by decide⟩ (fun b4 => ?_) (fun b4 => ?_)
  · exact absurd b4 (by decide)
  · refine go_iload_n (pc := 7) hF dX8_placeOf_7 1 rfl ?_
    refine go_iconst (pc := 8) hF dX8_placeOf_8 ?_
    refine go_iload_n (pc := 9) hF dX8_placeOf_9 0 rfl ?_
    refine go_imul (pc := 10) hF dX8_placeOf_10 ?_
    refine go_ishr (pc := 11) hF (row / 1) (b_shr 0 1 (by decide) (by decide) (by omega)) dX8_placeOf_11 ?_
    refine go_bipush (pc := 12) hF dX8_placeOf_12 (by decide) ?_
    refine go_iand (pc := 14) hF ((row / 1) % 8) (b_and 7 3 8 (by decide) (by decide) (by omega)) dX8_placeOf_14 ?_
    refine go_iload_n (pc := 15) hF dX8_placeOf_15 2 rfl ?_
    refine go_iconst (pc := 16) hF dX8_placeOf_16 ?_
    refine go_iadd (pc := 17) hF dX8_placeOf_17 ?_
    refine go_icmp_ne (pc := 18) hF 23 dX8_placeOf_18 (by decide) (by omega) (by omega) (fun b18 => ?_) (fun b18 => ?_)
    · refine go_iinc (pc := 23) hF [(2, vi 1), (0, vi row), (1, vi x)] dX8_placeOf_23 0 rfl rfl (by decide) ?_
      refine go_goto (pc := 26) hF 2 dX8_placeOf_26 (by decide) ?_
      refine go_iload_n (pc := 2) hF dX8_placeOf_2 0 rfl ?_
      refine go_iconst (pc := 3) hF dX8_placeOf_3 ?_
      refine go_icmp_ge (pc := 4) hF 29 dX8_placeOf_4 (by decide) ⟨by decide, by decide⟩ ⟨by decide, by decide⟩ (fun b4 => ?_) (fun b4 => ?_)
      · exact absurd b4 (by decide)
      · refine go_iload_n (pc := 7) hF dX8_placeOf_7 1 rfl ?_
        refine go_iconst (pc := 8) hF dX8_placeOf_8 ?_
        refine go_iload_n (pc := 9) hF dX8_placeOf_9 0 rfl ?_
        refine go_imul (pc := 10) hF dX8_placeOf_10 ?_
        refine go_ishr (pc := 11) hF (row / 8) (b_shr 3 8 (by decide) (by decide) (by omega)) dX8_placeOf_11 ?_
        refine go_bipush (pc := 12) hF dX8_placeOf_12 (by decide) ?_
        refine go_iand (pc := 14) hF ((row / 8) % 8) (b_and 7 3 8 (by decide) (by decide) (by omega)) dX8_placeOf_14 ?_
        refine go_iload_n (pc := 15) hF dX8_placeOf_15 2 rfl ?_
        refine go_iconst (pc := 16) hF dX8_placeOf_16 ?_
        refine go_iadd (pc := 17) hF dX8_placeOf_17 ?_
        refine go_icmp_ne (pc := 18) hF 23 dX8_placeOf_18 (by decide) (by omega) (by omega) (fun b18 => ?_) (fun b18 => ?_)
        · refine go_iinc (pc := 23) hF [(2, vi 2), (0, vi row), (1, vi x)] dX8_placeOf_23 0 rfl rfl (by decide) ?_
          refine go_goto (pc := 26) hF 2 dX8_placeOf_26 (by decide) ?_
          refine go_iload_n (pc := 2) hF dX8_placeOf_2 0 rfl ?_
          refine go_iconst (pc := 3) hF dX8_placeOf_3 ?_
          refine go_icmp_ge (pc := 4) hF 29 dX8_placeOf_4 (by decide) ⟨by decide, by decide⟩ ⟨by decide, by decide⟩ (fun b4 => ?_) (fun b4 => ?_)
          · exact absurd b4 (by decide)
          · refine go_iload_n (pc := 7) hF dX8_placeOf_7 1 rfl ?_
            refine go_iconst (pc := 8) hF dX8_placeOf_8 ?_
            refine go_iload_n (pc := 9) hF dX8_placeOf_9 0 rfl ?_
            refine go_imul (pc := 10) hF dX8_placeOf_10 ?_
            refine go_ishr (pc := 11) hF (row / 64) (b_shr 6 64 (by decide) (by decide) (by omega)) dX8_placeOf_11 ?_
            refine go_bipush (pc := 12) hF dX8_placeOf_12 (by decide) ?_
            refine go_iand (pc := 14) hF ((row / 64) % 8) (b_and 7 3 8 (by decide) (by decide) (by omega)) dX8_placeOf_14 ?_
            refine go_iload_n (pc := 15) hF dX8_placeOf_15 2 rfl ?_
            refine go_iconst (pc := 16) hF dX8_placeOf_16 ?_
            refine go_iadd (pc := 17) hF dX8_placeOf_17 ?_
            refine go_icmp_ne (pc := 18) hF 23 dX8_placeOf_18 (by decide) (by omega) (by omega) (fun b18 => ?_) (fun b18 => ?_)
            · refine go_iinc (pc := 23) hF [(2, vi 3), (0, vi row), (1, vi x)] dX8_placeOf_23 0 rfl rfl (by decide) ?_
              refine go_goto (pc := 26) hF 2 dX8_placeOf_26 (by decide) ?_
              refine go_iload_n (pc := 2) hF dX8_placeOf_2 0 rfl ?_
              refine go_iconst (pc := 3) hF dX8_placeOf_3 ?_
              refine go_icmp_ge (pc := 4) hF 29 dX8_placeOf_4 (by decide) ⟨by decide, by decide⟩ ⟨by decide, by decide⟩ (fun b4 => ?_) (fun b4 => ?_)
              · refine go_iconst (pc := 29) hF dX8_placeOf_29 ?_
                exact go_iret hF hr hlk dX8_placeOf_30 ⟨by unfold cPlace; repeat (first | omega | (rw [if_pos (by omega)]) | (rw [if_neg (by omega)])), rfl⟩
              · exact absurd b4 (by decide)
            · refine go_iload_n (pc := 21) hF dX8_placeOf_21 0 rfl ?_
              exact go_iret hF hr hlk dX8_placeOf_22 ⟨by unfold cPlace; repeat (first | omega | (rw [if_pos (by omega)]) | (rw [if_neg (by omega)])), rfl⟩
        · refine go_iload_n (pc := 21) hF dX8_placeOf_21 0 rfl ?_
          exact go_iret hF hr hlk dX8_placeOf_22 ⟨by unfold cPlace; repeat (first | omega | (rw [if_pos (by omega)]) | (rw [if_neg (by omega)])), rfl⟩
    · refine go_iload_n (pc := 21) hF dX8_placeOf_21 0 rfl ?_
      exact go_iret hF hr hlk dX8_placeOf_22 ⟨by unfold cPlace; repeat (first | omega | (rw [if_pos (by omega)]) | (rw [if_neg (by omega)])), rfl⟩
set_option maxHeartbeats 4000000 in
set_option maxRecDepth 100000 in
theorem c_X8_moved_00 (E : En) (N : Nat) (σ : Nat → va_E) (row : Int) (h0 : 0 ≤ row ∧ row < 512) : CP E M_X8_moved 1 [vi row, vi 0, vi 0] N σ (mv row 0 0) := by
  refine CT.of (own := RX8) (by decide) rfl (Nat.le_of_ble_eq_true rfl) ?_
  intro p e s m args below meth c hF hr hlk hnm hz
  refine go_iload_n (pc := 0) hF dX8_moved_0 0 rfl ?_
  refine go_iconst (pc := 1) hF dX8_moved_1 ?_
  refine go_iconst (pc := 2) hF dX8_moved_2 ?_
  refine go_iload_n (pc := 3) hF dX8_moved_3 1 rfl ?_
  refine go_imul (pc := 4) hF dX8_moved_4 ?_
  refine go_ishl (pc := 5) hF 1 (by decide) dX8_moved_5 ?_
  refine go_iconst (pc := 6) hF dX8_moved_6 ?_
  refine go_isub (pc := 7) hF dX8_moved_7 ?_
  refine go_iand (pc := 8) hF (row % 1) (b_and 0 0 1 (by decide) (by decide) (by omega)) dX8_moved_8 ?_
  refine go_istore_n (pc := 9) hF [(3, vi (row % 1)), (0, vi row), (1, vi 0), (2, vi 0)] dX8_moved_9 rfl (by decide) ?_
  refine go_iload_n (pc := 10) hF dX8_moved_10 1 rfl ?_
  refine go_iconst (pc := 11) hF dX8_moved_11 ?_
  refine go_iconst (pc := 12) hF dX8_moved_12 ?_
  refine go_iload_n (pc := 13) hF dX8_moved_13 3 rfl ?_
  refine go_imul (pc := 14) hF dX8_moved_14 ?_
  refine go_ishl (pc := 15) hF 1 (by decide) dX8_moved_15 ?_
  refine go_iconst (pc := 16) hF dX8_moved_16 ?_
  refine go_isub (pc := 17) hF dX8_moved_17 ?_
  refine go_iand (pc := 18) hF (row % 1) (b_and 0 0 1 (by decide) (by decide) (by omega)) dX8_moved_18 ?_
  refine go_istore (pc := 19) hF [(4, vi (row % 1)), (3, vi (row % 1)), (0, vi row), (1, vi 0), (2, vi 0)] dX8_moved_19 rfl (by decide) ?_
  refine go_iload_n (pc := 21) hF dX8_moved_21 2 rfl ?_
  refine go_iconst (pc := 22) hF dX8_moved_22 ?_
  refine go_iload_n (pc := 23) hF dX8_moved_23 3 rfl ?_
  refine go_imul (pc := 24) hF dX8_moved_24 ?_
  refine go_ishr (pc := 25) hF (row / 1) (b_shr 0 1 (by decide) (by decide) (by omega)) dX8_moved_25 ?_
  refine go_bipush (pc := 26) hF dX8_moved_26 (by decide) ?_
  refine go_iand (pc := 28) hF ((row / 1) % 8) (b_and 7 3 8 (by decide) (by decide) (by omega)) dX8_moved_28 ?_
  refine go_istore (pc := 29) hF [(5, vi ((row / 1) % 8)), (4, vi (row % 1)), (3, vi (row % 1)), (0, vi row), (1, vi 0), (2, vi 0)] dX8_moved_29 rfl (by decide) ?_
  refine go_iload_n (pc := 31) hF dX8_moved_31 3 rfl ?_
  refine go_iload_n (pc := 32) hF dX8_moved_32 2 rfl ?_
  refine go_isub (pc := 33) hF dX8_moved_33 ?_
  refine go_iload (pc := 34) hF dX8_moved_34 0 rfl ?_
  refine go_iconst (pc := 36) hF dX8_moved_36 ?_
  refine go_iload_n (pc := 37) hF dX8_moved_37 4 rfl ?_
  refine go_imul (pc := 38) hF dX8_moved_38 ?_
  refine go_ishl (pc := 39) hF (((row / 1) % 8) * 1) (b_shl 0 1 (by decide) (by decide) (by omega)) dX8_moved_39 ?_
  refine go_isub (pc := 40) hF dX8_moved_40 ?_
  refine go_istore (pc := 41) hF [(6, vi ((row - (row % 1)) - (((row / 1) % 8) * 1))), (5, vi ((row / 1) % 8)), (4, vi (row % 1)), (3, vi (row % 1)), (0, vi row), (1, vi 0), (2, vi 0)] dX8_moved_41 rfl (by decide) ?_
  refine go_iload (pc := 43) hF dX8_moved_43 2 rfl ?_
  refine go_iload (pc := 45) hF dX8_moved_45 1 rfl ?_
  refine go_iconst (pc := 47) hF dX8_moved_47 ?_
  refine go_iload_n (pc := 48) hF dX8_moved_48 6 rfl ?_
  refine go_imul (pc := 49) hF dX8_moved_49 ?_
  refine go_ishl (pc := 50) hF (((row / 1) % 8) * 1) (b_shl 0 1 (by decide) (by decide) (by omega)) dX8_moved_50 ?_
  refine go_ior (pc := 51) hF ((row % 1) + (((row / 1) % 8) * 1)) (b_or1 0 1 (by decide) (by omega) (by omega)) dX8_moved_51 ?_
  refine go_iload_n (pc := 52) hF dX8_moved_52 3 rfl ?_
  refine go_iload (pc := 53) hF dX8_moved_53 2 rfl ?_
  refine go_isub (pc := 55) hF dX8_moved_55 ?_
  refine go_iconst (pc := 56) hF dX8_moved_56 ?_
  refine go_ishl (pc := 57) hF (((row % 1) - (row % 1)) * 8) (b_shl 3 8 (by decide) (by decide) (by omega)) dX8_moved_57 ?_
  refine go_ior (pc := 58) hF (((row % 1) + (((row / 1) % 8) * 1)) + (((row % 1) - (row % 1)) * 8)) (b_or1 3 8 (by decide) (by omega) (by omega)) dX8_moved_58 ?_
  refine go_iload (pc := 59) hF dX8_moved_59 0 rfl ?_
  refine go_ior (pc := 61) hF ((((row % 1) + (((row / 1) % 8) * 1)) + (((row % 1) - (row % 1)) * 8)) + ((row - (row % 1)) - (((row / 1) % 8) * 1))) (b_or1 3 8 (by decide) (by omega) (by omega)) dX8_moved_61 ?_
  exact go_iret hF hr hlk dX8_moved_62 ⟨by simp only [mv]; simp; omega, rfl⟩
set_option maxHeartbeats 4000000 in
set_option maxRecDepth 100000 in
theorem c_X8_moved_10 (E : En) (N : Nat) (σ : Nat → va_E) (row : Int) (h0 : 0 ≤ row ∧ row < 512) : CP E M_X8_moved 1 [vi row, vi 1, vi 0] N σ (mv row 1 0) := by
  refine CT.of (own := RX8) (by decide) rfl (Nat.le_of_ble_eq_true rfl) ?_
  intro p e s m args below meth c hF hr hlk hnm hz
  refine go_iload_n (pc := 0) hF dX8_moved_0 0 rfl ?_
  refine go_iconst (pc := 1) hF dX8_moved_1 ?_
  refine go_iconst (pc := 2) hF dX8_moved_2 ?_
  refine go_iload_n (pc := 3) hF dX8_moved_3 1 rfl ?_
  refine go_imul (pc := 4) hF dX8_moved_4 ?_
  refine go_ishl (pc := 5) hF 8 (by decide) dX8_moved_5 ?_
  refine go_iconst (pc := 6) hF dX8_moved_6 ?_
  refine go_isub (pc := 7) hF dX8_moved_7 ?_
  refine go_iand (pc := 8) hF (row % 8) (b_and 7 3 8 (by decide) (by decide) (by omega)) dX8_moved_8 ?_
  refine go_istore_n (pc := 9) hF [(3, vi (row % 8)), (0, vi row), (1, vi 1), (2, vi 0)] dX8_moved_9 rfl (by decide) ?_
  refine go_iload_n (pc := 10) hF dX8_moved_10 1 rfl ?_
  refine go_iconst (pc := 11) hF dX8_moved_11 ?_
  refine go_iconst (pc := 12) hF dX8_moved_12 ?_
  refine go_iload_n (pc := 13) hF dX8_moved_13 3 rfl ?_
  refine go_imul (pc := 14) hF dX8_moved_14 ?_
  refine go_ishl (pc := 15) hF 1 (by decide) dX8_moved_15 ?_
  refine go_iconst (pc := 16) hF dX8_moved_16 ?_
  refine go_isub (pc := 17) hF dX8_moved_17 ?_
  refine go_iand (pc := 18) hF (row % 1) (b_and 0 0 1 (by decide) (by decide) (by omega)) dX8_moved_18 ?_
  refine go_istore (pc := 19) hF [(4, vi (row % 1)), (3, vi (row % 8)), (0, vi row), (1, vi 1), (2, vi 0)] dX8_moved_19 rfl (by decide) ?_
  refine go_iload_n (pc := 21) hF dX8_moved_21 2 rfl ?_
  refine go_iconst (pc := 22) hF dX8_moved_22 ?_
  refine go_iload_n (pc := 23) hF dX8_moved_23 3 rfl ?_
  refine go_imul (pc := 24) hF dX8_moved_24 ?_
  refine go_ishr (pc := 25) hF (row / 8) (b_shr 3 8 (by decide) (by decide) (by omega)) dX8_moved_25 ?_
  refine go_bipush (pc := 26) hF dX8_moved_26 (by decide) ?_
  refine go_iand (pc := 28) hF ((row / 8) % 8) (b_and 7 3 8 (by decide) (by decide) (by omega)) dX8_moved_28 ?_
  refine go_istore (pc := 29) hF [(5, vi ((row / 8) % 8)), (4, vi (row % 1)), (3, vi (row % 8)), (0, vi row), (1, vi 1), (2, vi 0)] dX8_moved_29 rfl (by decide) ?_
  refine go_iload_n (pc := 31) hF dX8_moved_31 3 rfl ?_
  refine go_iload_n (pc := 32) hF dX8_moved_32 2 rfl ?_
  refine go_isub (pc := 33) hF dX8_moved_33 ?_
  refine go_iload (pc := 34) hF dX8_moved_34 0 rfl ?_
  refine go_iconst (pc := 36) hF dX8_moved_36 ?_
  refine go_iload_n (pc := 37) hF dX8_moved_37 4 rfl ?_
  refine go_imul (pc := 38) hF dX8_moved_38 ?_
  refine go_ishl (pc := 39) hF (((row / 8) % 8) * 8) (b_shl 3 8 (by decide) (by decide) (by omega)) dX8_moved_39 ?_
  refine go_isub (pc := 40) hF dX8_moved_40 ?_
  refine go_istore (pc := 41) hF [(6, vi ((row - (row % 8)) - (((row / 8) % 8) * 8))), (5, vi ((row / 8) % 8)), (4, vi (row % 1)), (3, vi (row % 8)), (0, vi row), (1, vi 1), (2, vi 0)] dX8_moved_41 rfl (by decide) ?_
  refine go_iload (pc := 43) hF dX8_moved_43 2 rfl ?_
  refine go_iload (pc := 45) hF dX8_moved_45 1 rfl ?_
  refine go_iconst (pc := 47) hF dX8_moved_47 ?_
  refine go_iload_n (pc := 48) hF dX8_moved_48 6 rfl ?_
  refine go_imul (pc := 49) hF dX8_moved_49 ?_
  refine go_ishl (pc := 50) hF (((row / 8) % 8) * 1) (b_shl 0 1 (by decide) (by decide) (by omega)) dX8_moved_50 ?_
  refine go_ior (pc := 51) hF ((row % 1) + (((row / 8) % 8) * 1)) (b_or1 0 1 (by decide) (by omega) (by omega)) dX8_moved_51 ?_
  refine go_iload_n (pc := 52) hF dX8_moved_52 3 rfl ?_
  refine go_iload (pc := 53) hF dX8_moved_53 2 rfl ?_
  refine go_isub (pc := 55) hF dX8_moved_55 ?_
  refine go_iconst (pc := 56) hF dX8_moved_56 ?_
  refine go_ishl (pc := 57) hF (((row % 8) - (row % 1)) * 8) (b_shl 3 8 (by decide) (by decide) (by omega)) dX8_moved_57 ?_
  refine go_ior (pc := 58) hF (((row % 1) + (((row / 8) % 8) * 1)) + (((row % 8) - (row % 1)) * 8)) (b_or1 3 8 (by decide) (by omega) (by omega)) dX8_moved_58 ?_
  refine go_iload (pc := 59) hF dX8_moved_59 0 rfl ?_
  refine go_ior (pc := 61) hF ((((row % 1) + (((row / 8) % 8) * 1)) + (((row % 8) - (row % 1)) * 8)) + ((row - (row % 8)) - (((row / 8) % 8) * 8))) (b_or1 6 64 (by decide) (by omega) (by omega)) dX8_moved_61 ?_
  exact go_iret hF hr hlk dX8_moved_62 ⟨by simp only [mv]; simp; omega, rfl⟩
set_option maxHeartbeats 4000000 in
set_option maxRecDepth 100000 in
theorem c_X8_moved_20 (E : En) (N : Nat) (σ : Nat → va_E) (row : Int) (h0 : 0 ≤ row ∧ row < 512) : CP E M_X8_moved 1 [vi row, vi 2, vi 0] N σ (mv row 2 0) := by
  refine CT.of (own := RX8) (by decide) rfl (Nat.le_of_ble_eq_true rfl) ?_
  intro p e s m args below meth c hF hr hlk hnm hz
  refine go_iload_n (pc := 0) hF dX8_moved_0 0 rfl ?_
  refine go_iconst (pc := 1) hF dX8_moved_1 ?_
  refine go_iconst (pc := 2) hF dX8_moved_2 ?_
  refine go_iload_n (pc := 3) hF dX8_moved_3 1 rfl ?_
  refine go_imul (pc := 4) hF dX8_moved_4 ?_
  refine go_ishl (pc := 5) hF 64 (by decide) dX8_moved_5 ?_
  refine go_iconst (pc := 6) hF dX8_moved_6 ?_
  refine go_isub (pc := 7) hF dX8_moved_7 ?_
  refine go_iand (pc := 8) hF (row % 64) (b_and 63 6 64 (by decide) (by decide) (by omega)) dX8_moved_8 ?_
  refine go_istore_n (pc := 9) hF [(3, vi (row % 64)), (0, vi row), (1, vi 2), (2, vi 0)] dX8_moved_9 rfl (by decide) ?_
  refine go_iload_n (pc := 10) hF dX8_moved_10 1 rfl ?_
  refine go_iconst (pc := 11) hF dX8_moved_11 ?_
  refine go_iconst (pc := 12) hF dX8_moved_12 ?_
  refine go_iload_n (pc := 13) hF dX8_moved_13 3 rfl ?_
  refine go_imul (pc := 14) hF dX8_moved_14 ?_
  refine go_ishl (pc := 15) hF 1 (by decide) dX8_moved_15 ?_
  refine go_iconst (pc := 16) hF dX8_moved_16 ?_
  refine go_isub (pc := 17) hF dX8_moved_17 ?_
  refine go_iand (pc := 18) hF (row % 1) (b_and 0 0 1 (by decide) (by decide) (by omega)) dX8_moved_18 ?_
  refine go_istore (pc := 19) hF [(4, vi (row % 1)), (3, vi (row % 64)), (0, vi row), (1, vi 2), (2, vi 0)] dX8_moved_19 rfl (by decide) ?_
  refine go_iload_n (pc := 21) hF dX8_moved_21 2 rfl ?_
  refine go_iconst (pc := 22) hF dX8_moved_22 ?_
  refine go_iload_n (pc := 23) hF dX8_moved_23 3 rfl ?_
  refine go_imul (pc := 24) hF dX8_moved_24 ?_
  refine go_ishr (pc := 25) hF (row / 64) (b_shr 6 64 (by decide) (by decide) (by omega)) dX8_moved_25 ?_
  refine go_bipush (pc := 26) hF dX8_moved_26 (by decide) ?_
  refine go_iand (pc := 28) hF ((row / 64) % 8) (b_and 7 3 8 (by decide) (by decide) (by omega)) dX8_moved_28 ?_
  refine go_istore (pc := 29) hF [(5, vi ((row / 64) % 8)), (4, vi (row % 1)), (3, vi (row % 64)), (0, vi row), (1, vi 2), (2, vi 0)] dX8_moved_29 rfl (by decide) ?_
  refine go_iload_n (pc := 31) hF dX8_moved_31 3 rfl ?_
  refine go_iload_n (pc := 32) hF dX8_moved_32 2 rfl ?_
  refine go_isub (pc := 33) hF dX8_moved_33 ?_
  refine go_iload (pc := 34) hF dX8_moved_34 0 rfl ?_
  refine go_iconst (pc := 36) hF dX8_moved_36 ?_
  refine go_iload_n (pc := 37) hF dX8_moved_37 4 rfl ?_
  refine go_imul (pc := 38) hF dX8_moved_38 ?_
  refine go_ishl (pc := 39) hF (((row / 64) % 8) * 64) (b_shl 6 64 (by decide) (by decide) (by omega)) dX8_moved_39 ?_
  refine go_isub (pc := 40) hF dX8_moved_40 ?_
  refine go_istore (pc := 41) hF [(6, vi ((row - (row % 64)) - (((row / 64) % 8) * 64))), (5, vi ((row / 64) % 8)), (4, vi (row % 1)), (3, vi (row % 64)), (0, vi row), (1, vi 2), (2, vi 0)] dX8_moved_41 rfl (by decide) ?_
  refine go_iload (pc := 43) hF dX8_moved_43 2 rfl ?_
  refine go_iload (pc := 45) hF dX8_moved_45 1 rfl ?_
  refine go_iconst (pc := 47) hF dX8_moved_47 ?_
  refine go_iload_n (pc := 48) hF dX8_moved_48 6 rfl ?_
  refine go_imul (pc := 49) hF dX8_moved_49 ?_
  refine go_ishl (pc := 50) hF (((row / 64) % 8) * 1) (b_shl 0 1 (by decide) (by decide) (by omega)) dX8_moved_50 ?_
  refine go_ior (pc := 51) hF ((row % 1) + (((row / 64) % 8) * 1)) (b_or1 0 1 (by decide) (by omega) (by omega)) dX8_moved_51 ?_
  refine go_iload_n (pc := 52) hF dX8_moved_52 3 rfl ?_
  refine go_iload (pc := 53) hF dX8_moved_53 2 rfl ?_
  refine go_isub (pc := 55) hF dX8_moved_55 ?_
  refine go_iconst (pc := 56) hF dX8_moved_56 ?_
  refine go_ishl (pc := 57) hF (((row % 64) - (row % 1)) * 8) (b_shl 3 8 (by decide) (by decide) (by omega)) dX8_moved_57 ?_
  refine go_ior (pc := 58) hF (((row % 1) + (((row / 64) % 8) * 1)) + (((row % 64) - (row % 1)) * 8)) (b_or1 3 8 (by decide) (by omega) (by omega)) dX8_moved_58 ?_
  refine go_iload (pc := 59) hF dX8_moved_59 0 rfl ?_
  refine go_ior (pc := 61) hF ((((row % 1) + (((row / 64) % 8) * 1)) + (((row % 64) - (row % 1)) * 8)) + ((row - (row % 64)) - (((row / 64) % 8) * 64))) (b_or1 9 512 (by decide) (by omega) (by omega)) dX8_moved_61 ?_
  exact go_iret hF hr hlk dX8_moved_62 ⟨by simp only [mv]; simp; omega, rfl⟩
set_option maxHeartbeats 4000000 in
set_option maxRecDepth 100000 in
theorem c_X8_moved_21 (E : En) (N : Nat) (σ : Nat → va_E) (row : Int) (h0 : 0 ≤ row ∧ row < 512) : CP E M_X8_moved 1 [vi row, vi 2, vi 1] N σ (mv row 2 1) := by
  refine CT.of (own := RX8) (by decide) rfl (Nat.le_of_ble_eq_true rfl) ?_
  intro p e s m args below meth c hF hr hlk hnm hz
  refine go_iload_n (pc := 0) hF dX8_moved_0 0 rfl ?_
  refine go_iconst (pc := 1) hF dX8_moved_1 ?_
  refine go_iconst (pc := 2) hF dX8_moved_2 ?_
  refine go_iload_n (pc := 3) hF dX8_moved_3 1 rfl ?_
  refine go_imul (pc := 4) hF dX8_moved_4 ?_
  refine go_ishl (pc := 5) hF 64 (by decide) dX8_moved_5 ?_
  refine go_iconst (pc := 6) hF dX8_moved_6 ?_
  refine go_isub (pc := 7) hF dX8_moved_7 ?_
  refine go_iand (pc := 8) hF (row % 64) (b_and 63 6 64 (by decide) (by decide) (by omega)) dX8_moved_8 ?_
  refine go_istore_n (pc := 9) hF [(3, vi (row % 64)), (0, vi row), (1, vi 2), (2, vi 1)] dX8_moved_9 rfl (by decide) ?_
  refine go_iload_n (pc := 10) hF dX8_moved_10 1 rfl ?_
  refine go_iconst (pc := 11) hF dX8_moved_11 ?_
  refine go_iconst (pc := 12) hF dX8_moved_12 ?_
  refine go_iload_n (pc := 13) hF dX8_moved_13 3 rfl ?_
  refine go_imul (pc := 14) hF dX8_moved_14 ?_
  refine go_ishl (pc := 15) hF 8 (by decide) dX8_moved_15 ?_
  refine go_iconst (pc := 16) hF dX8_moved_16 ?_
  refine go_isub (pc := 17) hF dX8_moved_17 ?_
  refine go_iand (pc := 18) hF (row % 8) (b_and 7 3 8 (by decide) (by decide) (by omega)) dX8_moved_18 ?_
  refine go_istore (pc := 19) hF [(4, vi (row % 8)), (3, vi (row % 64)), (0, vi row), (1, vi 2), (2, vi 1)] dX8_moved_19 rfl (by decide) ?_
  refine go_iload_n (pc := 21) hF dX8_moved_21 2 rfl ?_
  refine go_iconst (pc := 22) hF dX8_moved_22 ?_
  refine go_iload_n (pc := 23) hF dX8_moved_23 3 rfl ?_
  refine go_imul (pc := 24) hF dX8_moved_24 ?_
  refine go_ishr (pc := 25) hF (row / 64) (b_shr 6 64 (by decide) (by decide) (by omega)) dX8_moved_25 ?_
  refine go_bipush (pc := 26) hF dX8_moved_26 (by decide) ?_
  refine go_iand (pc := 28) hF ((row / 64) % 8) (b_and 7 3 8 (by decide) (by decide) (by omega)) dX8_moved_28 ?_
  refine go_istore (pc := 29) hF [(5, vi ((row / 64) % 8)), (4, vi (row % 8)), (3, vi (row % 64)), (0, vi row), (1, vi 2), (2, vi 1)] dX8_moved_29 rfl (by decide) ?_
  refine go_iload_n (pc := 31) hF dX8_moved_31 3 rfl ?_
  refine go_iload_n (pc := 32) hF dX8_moved_32 2 rfl ?_
  refine go_isub (pc := 33) hF dX8_moved_33 ?_
  refine go_iload (pc := 34) hF dX8_moved_34 0 rfl ?_
  refine go_iconst (pc := 36) hF dX8_moved_36 ?_
  refine go_iload_n (pc := 37) hF dX8_moved_37 4 rfl ?_
  refine go_imul (pc := 38) hF dX8_moved_38 ?_
  refine go_ishl (pc := 39) hF (((row / 64) % 8) * 64) (b_shl 6 64 (by decide) (by decide) (by omega)) dX8_moved_39 ?_
  refine go_isub (pc := 40) hF dX8_moved_40 ?_
  refine go_istore (pc := 41) hF [(6, vi ((row - (row % 64)) - (((row / 64) % 8) * 64))), (5, vi ((row / 64) % 8)), (4, vi (row % 8)), (3, vi (row % 64)), (0, vi row), (1, vi 2), (2, vi 1)] dX8_moved_41 rfl (by decide) ?_
  refine go_iload (pc := 43) hF dX8_moved_43 2 rfl ?_
  refine go_iload (pc := 45) hF dX8_moved_45 1 rfl ?_
  refine go_iconst (pc := 47) hF dX8_moved_47 ?_
  refine go_iload_n (pc := 48) hF dX8_moved_48 6 rfl ?_
  refine go_imul (pc := 49) hF dX8_moved_49 ?_
  refine go_ishl (pc := 50) hF (((row / 64) % 8) * 8) (b_shl 3 8 (by decide) (by decide) (by omega)) dX8_moved_50 ?_
  refine go_ior (pc := 51) hF ((row % 8) + (((row / 64) % 8) * 8)) (b_or1 3 8 (by decide) (by omega) (by omega)) dX8_moved_51 ?_
  refine go_iload_n (pc := 52) hF dX8_moved_52 3 rfl ?_
  refine go_iload (pc := 53) hF dX8_moved_53 2 rfl ?_
  refine go_isub (pc := 55) hF dX8_moved_55 ?_
  refine go_iconst (pc := 56) hF dX8_moved_56 ?_
  refine go_ishl (pc := 57) hF (((row % 64) - (row % 8)) * 8) (b_shl 3 8 (by decide) (by decide) (by omega)) dX8_moved_57 ?_
  refine go_ior (pc := 58) hF (((row % 8) + (((row / 64) % 8) * 8)) + (((row % 64) - (row % 8)) * 8)) (b_or1 6 64 (by decide) (by omega) (by omega)) dX8_moved_58 ?_
  refine go_iload (pc := 59) hF dX8_moved_59 0 rfl ?_
  refine go_ior (pc := 61) hF ((((row % 8) + (((row / 64) % 8) * 8)) + (((row % 64) - (row % 8)) * 8)) + ((row - (row % 64)) - (((row / 64) % 8) * 64))) (b_or1 9 512 (by decide) (by omega) (by omega)) dX8_moved_61 ?_
  exact go_iret hF hr hlk dX8_moved_62 ⟨by simp only [mv]; simp; omega, rfl⟩
set_option maxHeartbeats 4000000 in
set_option maxRecDepth 100000 in
theorem c_X8_sizeOf (E : En) (N : Nat) (σ : Nat → va_E) (row : Int) (h0 : 0 ≤ row ∧ row < 512) : CP E M_X8_sizeOf 2 [vi row] N σ (cSize row) := by
  refine CT.of (own := RX8) (by decide) rfl (Nat.le_of_ble_eq_true rfl) ?_
  intro p e s m args below meth c hF hr hlk hnm hz
  refine go_iconst (pc := 0) hF dX8_sizeOf_0 ?_
  refine go_istore_n (pc := 1) hF [(1, vi 0), (0, vi row)] dX8_sizeOf_1 rfl (by decide) ?_
  refine go_iconst (pc := 2) hF dX8_sizeOf_2 ?_
  refine go_istore_n (pc := 3) hF [(2, vi 0), (1, vi 0), (0, vi row)] dX8_sizeOf_3 rfl (by decide) ?_
  refine go_iload_n (pc := 4) hF dX8_sizeOf_4 0 rfl ?_
  refine go_iconst (pc := 5) hF dX8_sizeOf_5 ?_
  refine go_icmp_ge (pc := 6) hF 32 dX8_sizeOf_6 (by decide) ⟨by decide, by decide⟩ ⟨by decide, by decide⟩ (fun b6 => ?_) (fun b6 => ?_)
  · exact absurd b6 (by decide)
  · refine go_iload_n (pc := 9) hF dX8_sizeOf_9 1 rfl ?_
    refine go_iload_n (pc := 10) hF dX8_sizeOf_10 2 rfl ?_
    refine go_iload_n (pc := 11) hF dX8_sizeOf_11 0 rfl ?_
    refine go_callSP (pc := 12) hF [vi row, vi 0] [vi 0] ms_X8_9 dX8_sizeOf_12 (c_X8_lineAt E N σ row 0 (by omega) ⟨by decide, by decide⟩) rfl rfl (Nat.le_of_ble_eq_true rfl) (by decide) ⟨Nat.zero_le _, Nat.zero_le _⟩ ?_
    have z12 := cL_rg (place := 0) h0
    refine go_iconst (pc := 15) hF dX8_sizeOf_15 ?_
    refine go_icmp_eq (pc := 16) hF 23 dX8_sizeOf_16 (by decide) (by omega) ⟨by decide, by decide⟩ (fun b16 => ?_) (fun b16 => ?_)
    · refine go_iconst (pc := 23) hF dX8_sizeOf_23 ?_
      refine go_iadd (pc := 24) hF dX8_sizeOf_24 ?_
      refine go_istore_n (pc := 25) hF [(1, vi 0), (2, vi 0), (0, vi row)] dX8_sizeOf_25 rfl (by decide) ?_
      refine go_iinc (pc := 26) hF [(2, vi 1), (1, vi 0), (0, vi row)] dX8_sizeOf_26 1 rfl rfl (by decide) ?_
      refine go_goto (pc := 29) hF 4 dX8_sizeOf_29 (by decide) ?_
      refine go_iload_n (pc := 4) hF dX8_sizeOf_4 0 rfl ?_
      refine go_iconst (pc := 5) hF dX8_sizeOf_5 ?_
      refine go_icmp_ge (pc := 6) hF 32 dX8_sizeOf_6 (by decide) ⟨by decide, by decide⟩ ⟨by decide, by decide⟩ (fun b6 => ?_) (fun b6 => ?_)
      · exact absurd b6 (by decide)
      · refine go_iload_n (pc := 9) hF dX8_sizeOf_9 1 rfl ?_
        refine go_iload_n (pc := 10) hF dX8_sizeOf_10 2 rfl ?_
        refine go_iload_n (pc := 11) hF dX8_sizeOf_11 0 rfl ?_
        refine go_callSP (pc := 12) hF [vi row, vi 1] [vi 0] ms_X8_9 dX8_sizeOf_12 (c_X8_lineAt E N σ row 1 (by omega) ⟨by decide, by decide⟩) rfl rfl (Nat.le_of_ble_eq_true rfl) (by decide) ⟨Nat.zero_le _, Nat.zero_le _⟩ ?_
        have z28 := cL_rg (place := 1) h0
        refine go_iconst (pc := 15) hF dX8_sizeOf_15 ?_
        refine go_icmp_eq (pc := 16) hF 23 dX8_sizeOf_16 (by decide) (by omega) ⟨by decide, by decide⟩ (fun b16 => ?_) (fun b16 => ?_)
        · refine go_iconst (pc := 23) hF dX8_sizeOf_23 ?_
          refine go_iadd (pc := 24) hF dX8_sizeOf_24 ?_
          refine go_istore_n (pc := 25) hF [(1, vi 0), (2, vi 1), (0, vi row)] dX8_sizeOf_25 rfl (by decide) ?_
          refine go_iinc (pc := 26) hF [(2, vi 2), (1, vi 0), (0, vi row)] dX8_sizeOf_26 1 rfl rfl (by decide) ?_
          refine go_goto (pc := 29) hF 4 dX8_sizeOf_29 (by decide) ?_
          refine go_iload_n (pc := 4) hF dX8_sizeOf_4 0 rfl ?_
          refine go_iconst (pc := 5) hF dX8_sizeOf_5 ?_
          refine go_icmp_ge (pc := 6) hF 32 dX8_sizeOf_6 (by decide) ⟨by decide, by decide⟩ ⟨by decide, by decide⟩ (fun b6 => ?_) (fun b6 => ?_)
          · exact absurd b6 (by decide)
          · refine go_iload_n (pc := 9) hF dX8_sizeOf_9 1 rfl ?_
            refine go_iload_n (pc := 10) hF dX8_sizeOf_10 2 rfl ?_
            refine go_iload_n (pc := 11) hF dX8_sizeOf_11 0 rfl ?_
            refine go_callSP (pc := 12) hF [vi row, vi 2] [vi 0] ms_X8_9 dX8_sizeOf_12 (c_X8_lineAt E N σ row 2 (by omega) ⟨by decide, by decide⟩) rfl rfl (Nat.le_of_ble_eq_true rfl) (by decide) ⟨Nat.zero_le _, Nat.zero_le _⟩ ?_
            have z44 := cL_rg (place := 2) h0
            refine go_iconst (pc := 15) hF dX8_sizeOf_15 ?_
            refine go_icmp_eq (pc := 16) hF 23 dX8_sizeOf_16 (by decide) (by omega) ⟨by decide, by decide⟩ (fun b16 => ?_) (fun b16 => ?_)
            · refine go_iconst (pc := 23) hF dX8_sizeOf_23 ?_
              refine go_iadd (pc := 24) hF dX8_sizeOf_24 ?_
              refine go_istore_n (pc := 25) hF [(1, vi 0), (2, vi 2), (0, vi row)] dX8_sizeOf_25 rfl (by decide) ?_
              refine go_iinc (pc := 26) hF [(2, vi 3), (1, vi 0), (0, vi row)] dX8_sizeOf_26 1 rfl rfl (by decide) ?_
              refine go_goto (pc := 29) hF 4 dX8_sizeOf_29 (by decide) ?_
              refine go_iload_n (pc := 4) hF dX8_sizeOf_4 0 rfl ?_
              refine go_iconst (pc := 5) hF dX8_sizeOf_5 ?_
              refine go_icmp_ge (pc := 6) hF 32 dX8_sizeOf_6 (by decide) ⟨by decide, by decide⟩ ⟨by decide, by decide⟩ (fun b6 => ?_) (fun b6 => ?_)
              · refine go_iload_n (pc := 32) hF dX8_sizeOf_32 1 rfl ?_
                exact go_iret hF hr hlk dX8_sizeOf_33 ⟨by unfold cSize; repeat (first | omega | (rw [bI_t (by assumption)]) | (rw [bI_f (by simpa using (by assumption))])), rfl⟩
              · exact absurd b6 (by decide)
            · refine go_iconst (pc := 19) hF dX8_sizeOf_19 ?_
              refine go_goto (pc := 20) hF 24 dX8_sizeOf_20 (by decide) ?_
              refine go_iadd (pc := 24) hF dX8_sizeOf_24 ?_
              refine go_istore_n (pc := 25) hF [(1, vi 1), (2, vi 2), (0, vi row)] dX8_sizeOf_25 rfl (by decide) ?_
              refine go_iinc (pc := 26) hF [(2, vi 3), (1, vi 1), (0, vi row)] dX8_sizeOf_26 1 rfl rfl (by decide) ?_
              refine go_goto (pc := 29) hF 4 dX8_sizeOf_29 (by decide) ?_
              refine go_iload_n (pc := 4) hF dX8_sizeOf_4 0 rfl ?_
              refine go_iconst (pc := 5) hF dX8_sizeOf_5 ?_
              refine go_icmp_ge (pc := 6) hF 32 dX8_sizeOf_6 (by decide) ⟨by decide, by decide⟩ ⟨by decide, by decide⟩ (fun b6 => ?_) (fun b6 => ?_)
              · refine go_iload_n (pc := 32) hF dX8_sizeOf_32 1 rfl ?_
                exact go_iret hF hr hlk dX8_sizeOf_33 ⟨by unfold cSize; repeat (first | omega | (rw [bI_t (by assumption)]) | (rw [bI_f (by simpa using (by assumption))])), rfl⟩
              · exact absurd b6 (by decide)
        · refine go_iconst (pc := 19) hF dX8_sizeOf_19 ?_
          refine go_goto (pc := 20) hF 24 dX8_sizeOf_20 (by decide) ?_
          refine go_iadd (pc := 24) hF dX8_sizeOf_24 ?_
          refine go_istore_n (pc := 25) hF [(1, vi 1), (2, vi 1), (0, vi row)] dX8_sizeOf_25 rfl (by decide) ?_
          refine go_iinc (pc := 26) hF [(2, vi 2), (1, vi 1), (0, vi row)] dX8_sizeOf_26 1 rfl rfl (by decide) ?_
          refine go_goto (pc := 29) hF 4 dX8_sizeOf_29 (by decide) ?_
          refine go_iload_n (pc := 4) hF dX8_sizeOf_4 0 rfl ?_
          refine go_iconst (pc := 5) hF dX8_sizeOf_5 ?_
          refine go_icmp_ge (pc := 6) hF 32 dX8_sizeOf_6 (by decide) ⟨by decide, by decide⟩ ⟨by decide, by decide⟩ (fun b6 => ?_) (fun b6 => ?_)
          · exact absurd b6 (by decide)
          · refine go_iload_n (pc := 9) hF dX8_sizeOf_9 1 rfl ?_
            refine go_iload_n (pc := 10) hF dX8_sizeOf_10 2 rfl ?_
            refine go_iload_n (pc := 11) hF dX8_sizeOf_11 0 rfl ?_
            refine go_callSP (pc := 12) hF [vi row, vi 2] [vi 1] ms_X8_9 dX8_sizeOf_12 (c_X8_lineAt E N σ row 2 (by omega) ⟨by decide, by decide⟩) rfl rfl (Nat.le_of_ble_eq_true rfl) (by decide) ⟨Nat.zero_le _, Nat.zero_le _⟩ ?_
            have z84 := cL_rg (place := 2) h0
            refine go_iconst (pc := 15) hF dX8_sizeOf_15 ?_
            refine go_icmp_eq (pc := 16) hF 23 dX8_sizeOf_16 (by decide) (by omega) ⟨by decide, by decide⟩ (fun b16 => ?_) (fun b16 => ?_)
            · refine go_iconst (pc := 23) hF dX8_sizeOf_23 ?_
              refine go_iadd (pc := 24) hF dX8_sizeOf_24 ?_
              refine go_istore_n (pc := 25) hF [(1, vi 1), (2, vi 2), (0, vi row)] dX8_sizeOf_25 rfl (by decide) ?_
              refine go_iinc (pc := 26) hF [(2, vi 3), (1, vi 1), (0, vi row)] dX8_sizeOf_26 1 rfl rfl (by decide) ?_
              refine go_goto (pc := 29) hF 4 dX8_sizeOf_29 (by decide) ?_
              refine go_iload_n (pc := 4) hF dX8_sizeOf_4 0 rfl ?_
              refine go_iconst (pc := 5) hF dX8_sizeOf_5 ?_
              refine go_icmp_ge (pc := 6) hF 32 dX8_sizeOf_6 (by decide) ⟨by decide, by decide⟩ ⟨by decide, by decide⟩ (fun b6 => ?_) (fun b6 => ?_)
              · refine go_iload_n (pc := 32) hF dX8_sizeOf_32 1 rfl ?_
                exact go_iret hF hr hlk dX8_sizeOf_33 ⟨by unfold cSize; repeat (first | omega | (rw [bI_t (by assumption)]) | (rw [bI_f (by simpa using (by assumption))])), rfl⟩
              · exact absurd b6 (by decide)
            · refine go_iconst (pc := 19) hF dX8_sizeOf_19 ?_
              refine go_goto (pc := 20) hF 24 dX8_sizeOf_20 (by decide) ?_
              refine go_iadd (pc := 24) hF dX8_sizeOf_24 ?_
              refine go_istore_n (pc := 25) hF [(1, vi 2), (2, vi 2), (0, vi row)] dX8_sizeOf_25 rfl (by decide) ?_
              refine go_iinc (pc := 26) hF [(2, vi 3), (1, vi 2), (0, vi row)] dX8_sizeOf_26 1 rfl rfl (by decide) ?_
              refine go_goto (pc := 29) hF 4 dX8_sizeOf_29 (by decide) ?_
              refine go_iload_n (pc := 4) hF dX8_sizeOf_4 0 rfl ?_
              refine go_iconst (pc := 5) hF dX8_sizeOf_5 ?_
              refine go_icmp_ge (pc := 6) hF 32 dX8_sizeOf_6 (by decide) ⟨by decide, by decide⟩ ⟨by decide, by decide⟩ (fun b6 => ?_) (fun b6 => ?_)
              · refine go_iload_n (pc := 32) hF dX8_sizeOf_32 1 rfl ?_
                exact go_iret hF hr hlk dX8_sizeOf_33 ⟨by unfold cSize; repeat (first | omega | (rw [bI_t (by assumption)]) | (rw [bI_f (by simpa using (by assumption))])), rfl⟩
              · exact absurd b6 (by decide)
    · refine go_iconst (pc := 19) hF dX8_sizeOf_19 ?_
      refine go_goto (pc := 20) hF 24 dX8_sizeOf_20 (by decide) ?_
      refine go_iadd (pc := 24) hF dX8_sizeOf_24 ?_
      refine go_istore_n (pc := 25) hF [(1, vi 1), (2, vi 0), (0, vi row)] dX8_sizeOf_25 rfl (by decide) ?_
      refine go_iinc (pc := 26) hF [(2, vi 1), (1, vi 1), (0, vi row)] dX8_sizeOf_26 1 rfl rfl (by decide) ?_
      refine go_goto (pc := 29) hF 4 dX8_sizeOf_29 (by decide) ?_
      refine go_iload_n (pc := 4) hF dX8_sizeOf_4 0 rfl ?_
      refine go_iconst (pc := 5) hF dX8_sizeOf_5 ?_
      refine go_icmp_ge (pc := 6) hF 32 dX8_sizeOf_6 (by decide) ⟨by decide, by decide⟩ ⟨by decide, by decide⟩ (fun b6 => ?_) (fun b6 => ?_)
      · exact absurd b6 (by decide)
      · refine go_iload_n (pc := 9) hF dX8_sizeOf_9 1 rfl ?_
        refine go_iload_n (pc := 10) hF dX8_sizeOf_10 2 rfl ?_
        refine go_iload_n (pc := 11) hF dX8_sizeOf_11 0 rfl ?_
        refine go_callSP (pc := 12) hF [vi row, vi 1] [vi 1] ms_X8_9 dX8_sizeOf_12 (c_X8_lineAt E N σ row 1 (by omega) ⟨by decide, by decide⟩) rfl rfl (Nat.le_of_ble_eq_true rfl) (by decide) ⟨Nat.zero_le _, Nat.zero_le _⟩ ?_
        have z124 := cL_rg (place := 1) h0
        refine go_iconst (pc := 15) hF dX8_sizeOf_15 ?_
        refine go_icmp_eq (pc := 16) hF 23 dX8_sizeOf_16 (by decide) (by omega) ⟨by decide, by decide⟩ (fun b16 => ?_) (fun b16 => ?_)
        · refine go_iconst (pc := 23) hF dX8_sizeOf_23 ?_
          refine go_iadd (pc := 24) hF dX8_sizeOf_24 ?_
          refine go_istore_n (pc := 25) hF [(1, vi 1), (2, vi 1), (0, vi row)] dX8_sizeOf_25 rfl (by decide) ?_
          refine go_iinc (pc := 26) hF [(2, vi 2), (1, vi 1), (0, vi row)] dX8_sizeOf_26 1 rfl rfl (by decide) ?_
          refine go_goto (pc := 29) hF 4 dX8_sizeOf_29 (by decide) ?_
          refine go_iload_n (pc := 4) hF dX8_sizeOf_4 0 rfl ?_
          refine go_iconst (pc := 5) hF dX8_sizeOf_5 ?_
          refine go_icmp_ge (pc := 6) hF 32 dX8_sizeOf_6 (by decide) ⟨by decide, by decide⟩ ⟨by decide, by decide⟩ (fun b6 => ?_) (fun b6 => ?_)
          · exact absurd b6 (by decide)
          · refine go_iload_n (pc := 9) hF dX8_sizeOf_9 1 rfl ?_
            refine go_iload_n (pc := 10) hF dX8_sizeOf_10 2 rfl ?_
            refine go_iload_n (pc := 11) hF dX8_sizeOf_11 0 rfl ?_
            refine go_callSP (pc := 12) hF [vi row, vi 2] [vi 1] ms_X8_9 dX8_sizeOf_12 (c_X8_lineAt E N σ row 2 (by omega) ⟨by decide, by decide⟩) rfl rfl (Nat.le_of_ble_eq_true rfl) (by decide) ⟨Nat.zero_le _, Nat.zero_le _⟩ ?_
            have z140 := cL_rg (place := 2) h0
            refine go_iconst (pc := 15) hF dX8_sizeOf_15 ?_
            refine go_icmp_eq (pc := 16) hF 23 dX8_sizeOf_16 (by decide) (by omega) ⟨by decide, by decide⟩ (fun b16 => ?_) (fun b16 => ?_)
            · refine go_iconst (pc := 23) hF dX8_sizeOf_23 ?_
              refine go_iadd (pc := 24) hF dX8_sizeOf_24 ?_
              refine go_istore_n (pc := 25) hF [(1, vi 1), (2, vi 2), (0, vi row)] dX8_sizeOf_25 rfl (by decide) ?_
              refine go_iinc (pc := 26) hF [(2, vi 3), (1, vi 1), (0, vi row)] dX8_sizeOf_26 1 rfl rfl (by decide) ?_
              refine go_goto (pc := 29) hF 4 dX8_sizeOf_29 (by decide) ?_
              refine go_iload_n (pc := 4) hF dX8_sizeOf_4 0 rfl ?_
              refine go_iconst (pc := 5) hF dX8_sizeOf_5 ?_
              refine go_icmp_ge (pc := 6) hF 32 dX8_sizeOf_6 (by decide) ⟨by decide, by decide⟩ ⟨by decide, by decide⟩ (fun b6 => ?_) (fun b6 => ?_)
              · refine go_iload_n (pc := 32) hF dX8_sizeOf_32 1 rfl ?_
                exact go_iret hF hr hlk dX8_sizeOf_33 ⟨by unfold cSize; repeat (first | omega | (rw [bI_t (by assumption)]) | (rw [bI_f (by simpa using (by assumption))])), rfl⟩
              · exact absurd b6 (by decide)
            · refine go_iconst (pc := 19) hF dX8_sizeOf_19 ?_
              refine go_goto (pc := 20) hF 24 dX8_sizeOf_20 (by decide) ?_
              refine go_iadd (pc := 24) hF dX8_sizeOf_24 ?_
              refine go_istore_n (pc := 25) hF [(1, vi 2), (2, vi 2), (0, vi row)] dX8_sizeOf_25 rfl (by decide) ?_
              refine go_iinc (pc := 26) hF [(2, vi 3), (1, vi 2), (0, vi row)] dX8_sizeOf_26 1 rfl rfl (by decide) ?_
              refine go_goto (pc := 29) hF 4 dX8_sizeOf_29 (by decide) ?_
              refine go_iload_n (pc := 4) hF dX8_sizeOf_4 0 rfl ?_
              refine go_iconst (pc := 5) hF dX8_sizeOf_5 ?_
              refine go_icmp_ge (pc := 6) hF 32 dX8_sizeOf_6 (by decide) ⟨by decide, by decide⟩ ⟨by decide, by decide⟩ (fun b6 => ?_) (fun b6 => ?_)
              · refine go_iload_n (pc := 32) hF dX8_sizeOf_32 1 rfl ?_
                exact go_iret hF hr hlk dX8_sizeOf_33 ⟨by unfold cSize; repeat (first | omega | (rw [bI_t (by assumption)]) | (rw [bI_f (by simpa using (by assumption))])), rfl⟩
              · exact absurd b6 (by decide)
        · refine go_iconst (pc := 19) hF dX8_sizeOf_19 ?_
          refine go_goto (pc := 20) hF 24 dX8_sizeOf_20 (by decide) ?_
          refine go_iadd (pc := 24) hF dX8_sizeOf_24 ?_
          refine go_istore_n (pc := 25) hF [(1, vi 2), (2, vi 1), (0, vi row)] dX8_sizeOf_25 rfl (by decide) ?_
          refine go_iinc (pc := 26) hF [(2, vi 2), (1, vi 2), (0, vi row)] dX8_sizeOf_26 1 rfl rfl (by decide) ?_
          refine go_goto (pc := 29) hF 4 dX8_sizeOf_29 (by decide) ?_
          refine go_iload_n (pc := 4) hF dX8_sizeOf_4 0 rfl ?_
          refine go_iconst (pc := 5) hF dX8_sizeOf_5 ?_
          refine go_icmp_ge (pc := 6) hF 32 dX8_sizeOf_6 (by decide) ⟨by decide, by decide⟩ ⟨by decide, by decide⟩ (fun b6 => ?_) (fun b6 => ?_)
          · exact absurd b6 (by decide)
          · refine go_iload_n (pc := 9) hF dX8_sizeOf_9 1 rfl ?_
            refine go_iload_n (pc := 10) hF dX8_sizeOf_10 2 rfl ?_
            refine go_iload_n (pc := 11) hF dX8_sizeOf_11 0 rfl ?_
            refine go_callSP (pc := 12) hF [vi row, vi 2] [vi 2] ms_X8_9 dX8_sizeOf_12 (c_X8_lineAt E N σ row 2 (by omega) ⟨by decide, by decide⟩) rfl rfl (Nat.le_of_ble_eq_true rfl) (by decide) ⟨Nat.zero_le _, Nat.zero_le _⟩ ?_
            have z180 := cL_rg (place := 2) h0
            refine go_iconst (pc := 15) hF dX8_sizeOf_15 ?_
            refine go_icmp_eq (pc := 16) hF 23 dX8_sizeOf_16 (by decide) (by omega) ⟨by decide, by decide⟩ (fun b16 => ?_) (fun b16 => ?_)
            · refine go_iconst (pc := 23) hF dX8_sizeOf_23 ?_
              refine go_iadd (pc := 24) hF dX8_sizeOf_24 ?_
              refine go_istore_n (pc := 25) hF [(1, vi 2), (2, vi 2), (0, vi row)] dX8_sizeOf_25 rfl (by decide) ?_
              refine go_iinc (pc := 26) hF [(2, vi 3), (1, vi 2), (0, vi row)] dX8_sizeOf_26 1 rfl rfl (by decide) ?_
              refine go_goto (pc := 29) hF 4 dX8_sizeOf_29 (by decide) ?_
              refine go_iload_n (pc := 4) hF dX8_sizeOf_4 0 rfl ?_
              refine go_iconst (pc := 5) hF dX8_sizeOf_5 ?_
              refine go_icmp_ge (pc := 6) hF 32 dX8_sizeOf_6 (by decide) ⟨by decide, by decide⟩ ⟨by decide, by decide⟩ (fun b6 => ?_) (fun b6 => ?_)
              · refine go_iload_n (pc := 32) hF dX8_sizeOf_32 1 rfl ?_
                exact go_iret hF hr hlk dX8_sizeOf_33 ⟨by unfold cSize; repeat (first | omega | (rw [bI_t (by assumption)]) | (rw [bI_f (by simpa using (by assumption))])), rfl⟩
              · exact absurd b6 (by decide)
            · refine go_iconst (pc := 19) hF dX8_sizeOf_19 ?_
              refine go_goto (pc := 20) hF 24 dX8_sizeOf_20 (by decide) ?_
              refine go_iadd (pc := 24) hF dX8_sizeOf_24 ?_
              refine go_istore_n (pc := 25) hF [(1, vi 3), (2, vi 2), (0, vi row)] dX8_sizeOf_25 rfl (by decide) ?_
              refine go_iinc (pc := 26) hF [(2, vi 3), (1, vi 3), (0, vi row)] dX8_sizeOf_26 1 rfl rfl (by decide) ?_
              refine go_goto (pc := 29) hF 4 dX8_sizeOf_29 (by decide) ?_
              refine go_iload_n (pc := 4) hF dX8_sizeOf_4 0 rfl ?_
              refine go_iconst (pc := 5) hF dX8_sizeOf_5 ?_
              refine go_icmp_ge (pc := 6) hF 32 dX8_sizeOf_6 (by decide) ⟨by decide, by decide⟩ ⟨by decide, by decide⟩ (fun b6 => ?_) (fun b6 => ?_)
              · refine go_iload_n (pc := 32) hF dX8_sizeOf_32 1 rfl ?_
                exact go_iret hF hr hlk dX8_sizeOf_33 ⟨by unfold cSize; repeat (first | omega | (rw [bI_t (by assumption)]) | (rw [bI_f (by simpa using (by assumption))])), rfl⟩
              · exact absurd b6 (by decide)
set_option maxHeartbeats 4000000 in
set_option maxRecDepth 100000 in
theorem c_X8_cutTo_1 (E : En) (N : Nat) (σ : Nat → va_E) (row : Int) (h0 : 0 ≤ row ∧ row < 4096) : CP E M_X8_cutTo 1 [vi row, vi 1] N σ (row % p8 1) := by
  refine CT.of (own := RX8) (by decide) rfl (Nat.le_of_ble_eq_true rfl) ?_
  intro p e s m args below meth c hF hr hlk hnm hz
  refine go_iload_n (pc := 0) hF dX8_cutTo_0 0 rfl ?_
  refine go_iconst (pc := 1) hF dX8_cutTo_1 ?_
  refine go_iconst (pc := 2) hF dX8_cutTo_2 ?_
  refine go_iload_n (pc := 3) hF dX8_cutTo_3 1 rfl ?_
  refine go_imul (pc := 4) hF dX8_cutTo_4 ?_
  refine go_ishl (pc := 5) hF 8 (by decide) dX8_cutTo_5 ?_
  refine go_iconst (pc := 6) hF dX8_cutTo_6 ?_
  refine go_isub (pc := 7) hF dX8_cutTo_7 ?_
  refine go_iand (pc := 8) hF (row % 8) (b_and 7 3 8 (by decide) (by decide) (by omega)) dX8_cutTo_8 ?_
  exact go_iret hF hr hlk dX8_cutTo_9 ⟨by rfl, rfl⟩
set_option maxHeartbeats 4000000 in
set_option maxRecDepth 100000 in
theorem c_X8_cutTo_2 (E : En) (N : Nat) (σ : Nat → va_E) (row : Int) (h0 : 0 ≤ row ∧ row < 4096) : CP E M_X8_cutTo 1 [vi row, vi 2] N σ (row % p8 2) := by
  refine CT.of (own := RX8) (by decide) rfl (Nat.le_of_ble_eq_true rfl) ?_
  intro p e s m args below meth c hF hr hlk hnm hz
  refine go_iload_n (pc := 0) hF dX8_cutTo_0 0 rfl ?_
  refine go_iconst (pc := 1) hF dX8_cutTo_1 ?_
  refine go_iconst (pc := 2) hF dX8_cutTo_2 ?_
  refine go_iload_n (pc := 3) hF dX8_cutTo_3 1 rfl ?_
  refine go_imul (pc := 4) hF dX8_cutTo_4 ?_
  refine go_ishl (pc := 5) hF 64 (by decide) dX8_cutTo_5 ?_
  refine go_iconst (pc := 6) hF dX8_cutTo_6 ?_
  refine go_isub (pc := 7) hF dX8_cutTo_7 ?_
  refine go_iand (pc := 8) hF (row % 64) (b_and 63 6 64 (by decide) (by decide) (by omega)) dX8_cutTo_8 ?_
  exact go_iret hF hr hlk dX8_cutTo_9 ⟨by rfl, rfl⟩
set_option maxHeartbeats 4000000 in
set_option maxRecDepth 100000 in
theorem c_X8_cutTo_3 (E : En) (N : Nat) (σ : Nat → va_E) (row : Int) (h0 : 0 ≤ row ∧ row < 4096) : CP E M_X8_cutTo 1 [vi row, vi 3] N σ (row % p8 3) := by
  refine CT.of (own := RX8) (by decide) rfl (Nat.le_of_ble_eq_true rfl) ?_
  intro p e s m args below meth c hF hr hlk hnm hz
  refine go_iload_n (pc := 0) hF dX8_cutTo_0 0 rfl ?_
  refine go_iconst (pc := 1) hF dX8_cutTo_1 ?_
  refine go_iconst (pc := 2) hF dX8_cutTo_2 ?_
  refine go_iload_n (pc := 3) hF dX8_cutTo_3 1 rfl ?_
  refine go_imul (pc := 4) hF dX8_cutTo_4 ?_
  refine go_ishl (pc := 5) hF 512 (by decide) dX8_cutTo_5 ?_
  refine go_iconst (pc := 6) hF dX8_cutTo_6 ?_
  refine go_isub (pc := 7) hF dX8_cutTo_7 ?_
  refine go_iand (pc := 8) hF (row % 512) (b_and 511 9 512 (by decide) (by decide) (by omega)) dX8_cutTo_8 ?_
  exact go_iret hF hr hlk dX8_cutTo_9 ⟨by rfl, rfl⟩
theorem c_X8_cutTo (E : En) (N : Nat) (σ : Nat → va_E) (row w : Int) (h0 : 0 ≤ row ∧ row < 4096) (hw : 1 ≤ w ∧ w ≤ 3) : CP E M_X8_cutTo 1 [vi row, vi w] N σ (row % p8 w) := by
  obtain rfl | rfl | rfl : w = 1 ∨ w = 2 ∨ w = 3 := by omega
  · exact c_X8_cutTo_1 E N σ row h0
  · exact c_X8_cutTo_2 E N σ row h0
  · exact c_X8_cutTo_3 E N σ row h0
set_option maxHeartbeats 4000000 in
set_option maxRecDepth 100000 in
theorem c_X8_afterMiss (E : En) (N : Nat) (σ : Nat → va_E) (row x w : Int) (h0 : 0 ≤ row ∧ row < 512) (hx : 0 ≤ x ∧ x ≤ 5) (hw : 1 ≤ w ∧ w ≤ 3) : CP E M_X8_afterMiss 2 [vi row, vi x, vi w] N σ (cMiss row x w) := by
  refine CT.of (own := RX8) (by decide) rfl (Nat.le_of_ble_eq_true rfl) ?_
  intro p e s m args below meth c hF hr hlk hnm hz
  refine go_iload_n (pc := 0) hF dX8_afterMiss_0 0 rfl ?_
  refine go_iconst (pc := 1) hF dX8_afterMiss_1 ?_
  refine go_ishl (pc := 2) hF (row * 8) (b_shl 3 8 (by decide) (by decide) (by omega)) dX8_afterMiss_2 ?_
  refine go_iload_n (pc := 3) hF dX8_afterMiss_3 1 rfl ?_
  refine go_iconst (pc := 4) hF dX8_afterMiss_4 ?_
  refine go_iadd (pc := 5) hF dX8_afterMiss_5 ?_
  refine go_ior (pc := 6) hF ((row * 8) + (x + 1)) (b_or 3 8 (by decide) (by omega) (by omega)) dX8_afterMiss_6 ?_
  refine go_iload_n (pc := 7) hF dX8_afterMiss_7 2 rfl ?_
  refine go_callSP (pc := 8) hF [vi ((row * 8) + (x + 1)), vi w] [] ms_X8_15 dX8_afterMiss_8 (c_X8_cutTo E N σ ((row * 8) + (x + 1)) w (by omega) (by omega)) rfl rfl (Nat.le_of_ble_eq_true rfl) (by decide) ⟨Nat.zero_le _, Nat.zero_le _⟩ ?_
  exact go_iret hF hr hlk dX8_afterMiss_11 ⟨by rfl, rfl⟩
set_option maxHeartbeats 4000000 in
set_option maxRecDepth 100000 in
theorem c_X8_afterHit_0 (E : En) (N : Nat) (σ : Nat → va_E) (row w kd : Int) (h0 : 0 ≤ row ∧ row < 512) (hw : 1 ≤ w ∧ w ≤ 3) (hk : 0 ≤ kd ∧ kd ≤ 3) : CP E M_X8_afterHit 2 [vi row, vi 0, vi w, vi kd] N σ (cHit row 0 w kd) := by
  refine CT.of (own := RX8) (by decide) rfl (Nat.le_of_ble_eq_true rfl) ?_
  intro p e s m args below meth c hF hr hlk hnm hz
  obtain rfl | rfl | rfl | rfl : kd = 0 ∨ kd = 1 ∨ kd = 2 ∨ kd = 3 := by omega
  · refine go_iload_n (pc := 0) hF dX8_afterHit_0 3 rfl ?_
    refine go_tableIn (pc := 1) hF 28 dX8_afterHit_1 ⟨by decide, by decide⟩ (by decide) rfl (by decide) ?_
    refine go_iload_n (pc := 28) hF dX8_afterHit_28 0 rfl ?_
    refine go_iload_n (pc := 29) hF dX8_afterHit_29 1 rfl ?_
    refine go_iconst (pc := 30) hF dX8_afterHit_30 ?_
    refine go_callSP (pc := 31) hF [vi row, vi 0, vi 0] [] ms_X8_18 dX8_afterHit_31 (c_X8_moved_00 E N σ row (by omega)) rfl rfl (Nat.le_of_ble_eq_true rfl) (by decide) ⟨Nat.zero_le _, Nat.zero_le _⟩ ?_
    exact go_iret hF hr hlk dX8_afterHit_34 ⟨by unfold cHit; repeat (first | rfl | (rw [if_pos (by omega)]) | (rw [if_neg (by omega)])), rfl⟩
  · refine go_iload_n (pc := 0) hF dX8_afterHit_0 3 rfl ?_
    refine go_tableIn (pc := 1) hF 35 dX8_afterHit_1 ⟨by decide, by decide⟩ (by decide) rfl (by decide) ?_
    refine go_iload_n (pc := 35) hF dX8_afterHit_35 0 rfl ?_
    exact go_iret hF hr hlk dX8_afterHit_36 ⟨by unfold cHit; repeat (first | rfl | (rw [if_pos (by omega)]) | (rw [if_neg (by omega)])), rfl⟩
  · refine go_iload_n (pc := 0) hF dX8_afterHit_0 3 rfl ?_
    refine go_tableIn (pc := 1) hF 37 dX8_afterHit_1 ⟨by decide, by decide⟩ (by decide) rfl (by decide) ?_
    refine go_iload_n (pc := 37) hF dX8_afterHit_37 1 rfl ?_
    refine go_if_ne (pc := 38) hF 45 dX8_afterHit_38 (by decide) ⟨by decide, by decide⟩ (fun b38 => ?_) (fun b38 => ?_)
    · exact absurd b38 (by decide)
    · refine go_iload_n (pc := 41) hF dX8_afterHit_41 0 rfl ?_
      refine go_goto (pc := 42) hF 53 dX8_afterHit_42 (by decide) ?_
      exact go_iret hF hr hlk dX8_afterHit_53 ⟨by unfold cHit; repeat (first | rfl | (rw [if_pos (by omega)]) | (rw [if_neg (by omega)])), rfl⟩
  · refine go_iload_n (pc := 0) hF dX8_afterHit_0 3 rfl ?_
    refine go_tableOut (pc := 1) hF 54 dX8_afterHit_1 ⟨by decide, by decide⟩ (by decide) (by decide) ?_
    refine go_iload_n (pc := 54) hF dX8_afterHit_54 1 rfl ?_
    refine go_iload_n (pc := 55) hF dX8_afterHit_55 2 rfl ?_
    refine go_iconst (pc := 56) hF dX8_afterHit_56 ?_
    refine go_isub (pc := 57) hF dX8_afterHit_57 ?_
    refine go_icmp_ne (pc := 58) hF 65 dX8_afterHit_58 (by decide) ⟨by decide, by decide⟩ (by omega) (fun b58 => ?_) (fun b58 => ?_)
    · refine go_iload_n (pc := 65) hF dX8_afterHit_65 0 rfl ?_
      refine go_iload_n (pc := 66) hF dX8_afterHit_66 1 rfl ?_
      refine go_iconst (pc := 67) hF dX8_afterHit_67 ?_
      refine go_callSP (pc := 68) hF [vi row, vi 0, vi 0] [] ms_X8_18 dX8_afterHit_68 (c_X8_moved_00 E N σ row (by omega)) rfl rfl (Nat.le_of_ble_eq_true rfl) (by decide) ⟨Nat.zero_le _, Nat.zero_le _⟩ ?_
      exact go_iret hF hr hlk dX8_afterHit_71 ⟨by unfold cHit; repeat (first | rfl | (rw [if_pos (by omega)]) | (rw [if_neg (by omega)])), rfl⟩
    · refine go_iload_n (pc := 61) hF dX8_afterHit_61 0 rfl ?_
      refine go_goto (pc := 62) hF 71 dX8_afterHit_62 (by decide) ?_
      exact go_iret hF hr hlk dX8_afterHit_71 ⟨by unfold cHit; repeat (first | rfl | (rw [if_pos (by omega)]) | (rw [if_neg (by omega)])), rfl⟩
set_option maxHeartbeats 4000000 in
set_option maxRecDepth 100000 in
theorem c_X8_afterHit_1 (E : En) (N : Nat) (σ : Nat → va_E) (row w kd : Int) (h0 : 0 ≤ row ∧ row < 512) (hw : 1 ≤ w ∧ w ≤ 3) (hk : 0 ≤ kd ∧ kd ≤ 3) : CP E M_X8_afterHit 2 [vi row, vi 1, vi w, vi kd] N σ (cHit row 1 w kd) := by
  refine CT.of (own := RX8) (by decide) rfl (Nat.le_of_ble_eq_true rfl) ?_
  intro p e s m args below meth c hF hr hlk hnm hz
  obtain rfl | rfl | rfl | rfl : kd = 0 ∨ kd = 1 ∨ kd = 2 ∨ kd = 3 := by omega
  · refine go_iload_n (pc := 0) hF dX8_afterHit_0 3 rfl ?_
    refine go_tableIn (pc := 1) hF 28 dX8_afterHit_1 ⟨by decide, by decide⟩ (by decide) rfl (by decide) ?_
    refine go_iload_n (pc := 28) hF dX8_afterHit_28 0 rfl ?_
    refine go_iload_n (pc := 29) hF dX8_afterHit_29 1 rfl ?_
    refine go_iconst (pc := 30) hF dX8_afterHit_30 ?_
    refine go_callSP (pc := 31) hF [vi row, vi 1, vi 0] [] ms_X8_18 dX8_afterHit_31 (c_X8_moved_10 E N σ row (by omega)) rfl rfl (Nat.le_of_ble_eq_true rfl) (by decide) ⟨Nat.zero_le _, Nat.zero_le _⟩ ?_
    exact go_iret hF hr hlk dX8_afterHit_34 ⟨by unfold cHit; repeat (first | rfl | (rw [if_pos (by omega)]) | (rw [if_neg (by omega)])), rfl⟩
  · refine go_iload_n (pc := 0) hF dX8_afterHit_0 3 rfl ?_
    refine go_tableIn (pc := 1) hF 35 dX8_afterHit_1 ⟨by decide, by decide⟩ (by decide) rfl (by decide) ?_
    refine go_iload_n (pc := 35) hF dX8_afterHit_35 0 rfl ?_
    exact go_iret hF hr hlk dX8_afterHit_36 ⟨by unfold cHit; repeat (first | rfl | (rw [if_pos (by omega)]) | (rw [if_neg (by omega)])), rfl⟩
  · refine go_iload_n (pc := 0) hF dX8_afterHit_0 3 rfl ?_
    refine go_tableIn (pc := 1) hF 37 dX8_afterHit_1 ⟨by decide, by decide⟩ (by decide) rfl (by decide) ?_
    refine go_iload_n (pc := 37) hF dX8_afterHit_37 1 rfl ?_
    refine go_if_ne (pc := 38) hF 45 dX8_afterHit_38 (by decide) ⟨by decide, by decide⟩ (fun b38 => ?_) (fun b38 => ?_)
    · refine go_iload_n (pc := 45) hF dX8_afterHit_45 0 rfl ?_
      refine go_iload_n (pc := 46) hF dX8_afterHit_46 1 rfl ?_
      refine go_iload_n (pc := 47) hF dX8_afterHit_47 1 rfl ?_
      refine go_iconst (pc := 48) hF dX8_afterHit_48 ?_
      refine go_isub (pc := 49) hF dX8_afterHit_49 ?_
      refine go_callSP (pc := 50) hF [vi row, vi 1, vi 0] [] ms_X8_18 dX8_afterHit_50 (c_X8_moved_10 E N σ row (by omega)) rfl rfl (Nat.le_of_ble_eq_true rfl) (by decide) ⟨Nat.zero_le _, Nat.zero_le _⟩ ?_
      exact go_iret hF hr hlk dX8_afterHit_53 ⟨by unfold cHit; repeat (first | rfl | (rw [if_pos (by omega)]) | (rw [if_neg (by omega)])), rfl⟩
    · exact absurd b38 (by decide)
  · refine go_iload_n (pc := 0) hF dX8_afterHit_0 3 rfl ?_
    refine go_tableOut (pc := 1) hF 54 dX8_afterHit_1 ⟨by decide, by decide⟩ (by decide) (by decide) ?_
    refine go_iload_n (pc := 54) hF dX8_afterHit_54 1 rfl ?_
    refine go_iload_n (pc := 55) hF dX8_afterHit_55 2 rfl ?_
    refine go_iconst (pc := 56) hF dX8_afterHit_56 ?_
    refine go_isub (pc := 57) hF dX8_afterHit_57 ?_
    refine go_icmp_ne (pc := 58) hF 65 dX8_afterHit_58 (by decide) ⟨by decide, by decide⟩ (by omega) (fun b58 => ?_) (fun b58 => ?_)
    · refine go_iload_n (pc := 65) hF dX8_afterHit_65 0 rfl ?_
      refine go_iload_n (pc := 66) hF dX8_afterHit_66 1 rfl ?_
      refine go_iconst (pc := 67) hF dX8_afterHit_67 ?_
      refine go_callSP (pc := 68) hF [vi row, vi 1, vi 0] [] ms_X8_18 dX8_afterHit_68 (c_X8_moved_10 E N σ row (by omega)) rfl rfl (Nat.le_of_ble_eq_true rfl) (by decide) ⟨Nat.zero_le _, Nat.zero_le _⟩ ?_
      exact go_iret hF hr hlk dX8_afterHit_71 ⟨by unfold cHit; repeat (first | rfl | (rw [if_pos (by omega)]) | (rw [if_neg (by omega)])), rfl⟩
    · refine go_iload_n (pc := 61) hF dX8_afterHit_61 0 rfl ?_
      refine go_goto (pc := 62) hF 71 dX8_afterHit_62 (by decide) ?_
      exact go_iret hF hr hlk dX8_afterHit_71 ⟨by unfold cHit; repeat (first | rfl | (rw [if_pos (by omega)]) | (rw [if_neg (by omega)])), rfl⟩
set_option maxHeartbeats 4000000 in
set_option maxRecDepth 100000 in
theorem c_X8_afterHit_2 (E : En) (N : Nat) (σ : Nat → va_E) (row w kd : Int) (h0 : 0 ≤ row ∧ row < 512) (hw : 1 ≤ w ∧ w ≤ 3) (hk : 0 ≤ kd ∧ kd ≤ 3) : CP E M_X8_afterHit 2 [vi row, vi 2, vi w, vi kd] N σ (cHit row 2 w kd) := by
  refine CT.of (own := RX8) (by decide) rfl (Nat.le_of_ble_eq_true rfl) ?_
  intro p e s m args below meth c hF hr hlk hnm hz
  obtain rfl | rfl | rfl | rfl : kd = 0 ∨ kd = 1 ∨ kd = 2 ∨ kd = 3 := by omega
  · refine go_iload_n (pc := 0) hF dX8_afterHit_0 3 rfl ?_
    refine go_tableIn (pc := 1) hF 28 dX8_afterHit_1 ⟨by decide, by decide⟩ (by decide) rfl (by decide) ?_
    refine go_iload_n (pc := 28) hF dX8_afterHit_28 0 rfl ?_
    refine go_iload_n (pc := 29) hF dX8_afterHit_29 1 rfl ?_
    refine go_iconst (pc := 30) hF dX8_afterHit_30 ?_
    refine go_callSP (pc := 31) hF [vi row, vi 2, vi 0] [] ms_X8_18 dX8_afterHit_31 (c_X8_moved_20 E N σ row (by omega)) rfl rfl (Nat.le_of_ble_eq_true rfl) (by decide) ⟨Nat.zero_le _, Nat.zero_le _⟩ ?_
    exact go_iret hF hr hlk dX8_afterHit_34 ⟨by unfold cHit; repeat (first | rfl | (rw [if_pos (by omega)]) | (rw [if_neg (by omega)])), rfl⟩
  · refine go_iload_n (pc := 0) hF dX8_afterHit_0 3 rfl ?_
    refine go_tableIn (pc := 1) hF 35 dX8_afterHit_1 ⟨by decide, by decide⟩ (by decide) rfl (by decide) ?_
    refine go_iload_n (pc := 35) hF dX8_afterHit_35 0 rfl ?_
    exact go_iret hF hr hlk dX8_afterHit_36 ⟨by unfold cHit; repeat (first | rfl | (rw [if_pos (by omega)]) | (rw [if_neg (by omega)])), rfl⟩
  · refine go_iload_n (pc := 0) hF dX8_afterHit_0 3 rfl ?_
    refine go_tableIn (pc := 1) hF 37 dX8_afterHit_1 ⟨by decide, by decide⟩ (by decide) rfl (by decide) ?_
    refine go_iload_n (pc := 37) hF dX8_afterHit_37 1 rfl ?_
    refine go_if_ne (pc := 38) hF 45 dX8_afterHit_38 (by decide) ⟨by decide, by decide⟩ (fun b38 => ?_) (fun b38 => ?_)
    · refine go_iload_n (pc := 45) hF dX8_afterHit_45 0 rfl ?_
      refine go_iload_n (pc := 46) hF dX8_afterHit_46 1 rfl ?_
      refine go_iload_n (pc := 47) hF dX8_afterHit_47 1 rfl ?_
      refine go_iconst (pc := 48) hF dX8_afterHit_48 ?_
      refine go_isub (pc := 49) hF dX8_afterHit_49 ?_
      refine go_callSP (pc := 50) hF [vi row, vi 2, vi 1] [] ms_X8_18 dX8_afterHit_50 (c_X8_moved_21 E N σ row (by omega)) rfl rfl (Nat.le_of_ble_eq_true rfl) (by decide) ⟨Nat.zero_le _, Nat.zero_le _⟩ ?_
      exact go_iret hF hr hlk dX8_afterHit_53 ⟨by unfold cHit; repeat (first | rfl | (rw [if_pos (by omega)]) | (rw [if_neg (by omega)])), rfl⟩
    · exact absurd b38 (by decide)
  · refine go_iload_n (pc := 0) hF dX8_afterHit_0 3 rfl ?_
    refine go_tableOut (pc := 1) hF 54 dX8_afterHit_1 ⟨by decide, by decide⟩ (by decide) (by decide) ?_
    refine go_iload_n (pc := 54) hF dX8_afterHit_54 1 rfl ?_
    refine go_iload_n (pc := 55) hF dX8_afterHit_55 2 rfl ?_
    refine go_iconst (pc := 56) hF dX8_afterHit_56 ?_
    refine go_isub (pc := 57) hF dX8_afterHit_57 ?_
    refine go_icmp_ne (pc := 58) hF 65 dX8_afterHit_58 (by decide) ⟨by decide, by decide⟩ (by omega) (fun b58 => ?_) (fun b58 => ?_)
    · refine go_iload_n (pc := 65) hF dX8_afterHit_65 0 rfl ?_
      refine go_iload_n (pc := 66) hF dX8_afterHit_66 1 rfl ?_
      refine go_iconst (pc := 67) hF dX8_afterHit_67 ?_
      refine go_callSP (pc := 68) hF [vi row, vi 2, vi 0] [] ms_X8_18 dX8_afterHit_68 (c_X8_moved_20 E N σ row (by omega)) rfl rfl (Nat.le_of_ble_eq_true rfl) (by decide) ⟨Nat.zero_le _, Nat.zero_le _⟩ ?_
      exact go_iret hF hr hlk dX8_afterHit_71 ⟨by unfold cHit; repeat (first | rfl | (rw [if_pos (by omega)]) | (rw [if_neg (by omega)])), rfl⟩
    · refine go_iload_n (pc := 61) hF dX8_afterHit_61 0 rfl ?_
      refine go_goto (pc := 62) hF 71 dX8_afterHit_62 (by decide) ?_
      exact go_iret hF hr hlk dX8_afterHit_71 ⟨by unfold cHit; repeat (first | rfl | (rw [if_pos (by omega)]) | (rw [if_neg (by omega)])), rfl⟩
theorem c_X8_afterHit (E : En) (N : Nat) (σ : Nat → va_E) (row a w kd : Int) (h0 : 0 ≤ row ∧ row < 512) (ha : 0 ≤ a ∧ a ≤ 2) (hw : 1 ≤ w ∧ w ≤ 3) (hk : 0 ≤ kd ∧ kd ≤ 3) : CP E M_X8_afterHit 2 [vi row, vi a, vi w, vi kd] N σ (cHit row a w kd) := by
  obtain rfl | rfl | rfl : a = 0 ∨ a = 1 ∨ a = 2 := by omega
  · exact c_X8_afterHit_0 E N σ row w kd h0 hw hk
  · exact c_X8_afterHit_1 E N σ row w kd h0 hw hk
  · exact c_X8_afterHit_2 E N σ row w kd h0 hw hk
set_option maxHeartbeats 4000000 in
set_option maxRecDepth 100000 in
theorem c_X11_in (E : En) (N : Nat) (σ : Nat → va_E) (v lo hi : Int) (hv : rgl v) (hlo : rgl lo) (hhi : rgl hi) : CP E M_X11_in 1 [vl v, vl lo, vl hi] N σ (bI (lo ≤ v ∧ v ≤ hi)) := by
  refine CT.of (own := RX11) (by decide) rfl (Nat.le_of_ble_eq_true rfl) ?_
  intro p e s m args below meth c hF hr hlk hnm hz
  refine go_lload_n (pc := 0) hF dX11_in_0 0 rfl ?_
  refine go_lload_n (pc := 1) hF dX11_in_1 1 rfl ?_
  refine go_lcmp (pc := 2) hF dX11_in_2 (by omega) (by omega) ?_
  refine go_if_lt (pc := 3) hF 17 dX11_in_3 (by decide) (lc_rg _ _) (fun b3 => ?_) (fun b3 => ?_)
  · refine go_iconst (pc := 17) hF dX11_in_17 ?_
    exact go_zret hF hr hlk dX11_in_18 (by decide) ⟨by simp only [lc_lt, lc_le, lc_ge, lc_gt] at *; first | (rw [bI_t (by omega)]) | (rw [bI_f (by omega)]), rfl⟩
  · refine go_lload_n (pc := 6) hF dX11_in_6 0 rfl ?_
    refine go_lload (pc := 7) hF dX11_in_7 2 rfl ?_
    refine go_lcmp (pc := 9) hF dX11_in_9 (by omega) (by omega) ?_
    refine go_if_gt (pc := 10) hF 17 dX11_in_10 (by decide) (lc_rg _ _) (fun b10 => ?_) (fun b10 => ?_)
    · refine go_iconst (pc := 17) hF dX11_in_17 ?_
      exact go_zret hF hr hlk dX11_in_18 (by decide) ⟨by simp only [lc_lt, lc_le, lc_ge, lc_gt] at *; first | (rw [bI_t (by omega)]) | (rw [bI_f (by omega)]), rfl⟩
    · refine go_iconst (pc := 13) hF dX11_in_13 ?_
      refine go_goto (pc := 14) hF 18 dX11_in_14 (by decide) ?_
      exact go_zret hF hr hlk dX11_in_18 (by decide) ⟨by simp only [lc_lt, lc_le, lc_ge, lc_gt] at *; first | (rw [bI_t (by omega)]) | (rw [bI_f (by omega)]), rfl⟩
def mAt (row k : Int) : Int := (if k = 0 then row else if k = 1 then row / 7 else row / 49) % 7 - 1
def mLong (row : Int) : Int := if 49 ≤ row then 3 else if 7 ≤ row then 2 else if 0 < row then 1 else 0
def mRowOf (a b c : Int) : Int := a + 1 + 7 * (b + 1) + 49 * (c + 1)
def mPlace (row x : Int) : Int := if mAt row 0 = x then 0 else if mAt row 1 = x then 1 else if mAt row 2 = x then 2 else -1
def mFront (row x was : Int) : Int := if was = 0 then row else if was = 1 then mRowOf x (mAt row 0) (mAt row 2) else mRowOf x (mAt row 0) (mAt row 1)
def mCut (row w : Int) : Int := if w = 1 then row % 7 else if w = 2 then row % 49 else row
def mAfter (row x w kd : Int) : Int := if mPlace row x = -1 then mCut (mFront row x 2) w else if mPlace row x = 0 ∨ kd = 1 ∨ (kd = 3 ∧ mLong row = w ∧ mPlace row x = w - 1) then row else if kd = 2 ∧ mPlace row x = 2 then mRowOf (mAt row 0) x (mAt row 1) else mFront row x (mPlace row x)
theorem mAt_rg {row : Int} (k : Int) (h : 0 ≤ row) : -1 ≤ mAt row k ∧ mAt row k ≤ 5 := by
  unfold mAt
  repeat' split
  all_goals omega
theorem mPlace_rg (row x : Int) : -1 ≤ mPlace row x ∧ mPlace row x ≤ 2 := by
  unfold mPlace
  repeat' split
  all_goals omega
theorem mLong_rg (row : Int) : 0 ≤ mLong row ∧ mLong row ≤ 3 := by
  unfold mLong
  repeat' split
  all_goals omega
theorem mFront_rg {row x : Int} (was : Int) (h : 0 ≤ row ∧ row < 343) (hx : 0 ≤ x ∧ x ≤ 5) : 0 ≤ mFront row x was ∧ mFront row x was < 343 := by
  have h0 := mAt_rg 0 h.1
  have h1 := mAt_rg 1 h.1
  have h2 := mAt_rg 2 h.1
  unfold mFront mRowOf
  repeat' split
  all_goals omega

set_option maxHeartbeats 4000000 in
set_option maxRecDepth 100000 in
theorem c_X11_isLine (E : En) (N : Nat) (σ : Nat → va_E) (x : Int) (hx : rg x) : CP E M_X11_isLine 2 [vi x] N σ (bI (0 ≤ x ∧ x ≤ 5)) := by
  refine CT.of (own := RX11) (by decide) rfl (Nat.le_of_ble_eq_true rfl) ?_
  intro p e s m args below meth c hF hr hlk hnm hz
  refine go_iload_n (pc := 0) hF dX11_isLine_0 0 rfl ?_
  refine go_i2l (pc := 1) hF dX11_isLine_1 (by omega) ?_
  refine go_lconst (pc := 2) (v := 0) hF dX11_isLine_2 (by decide) ?_
  refine go_ldc2 (pc := 3) hF kc_X11_87 dX11_isLine_3 ?_
  refine go_callSP (pc := 6) hF [vl x, vl 0, vl 5] [] ms_X11_89 dX11_isLine_6 (c_X11_in E N σ x 0 5 (by omega) ⟨by decide, by decide⟩ ⟨by decide, by decide⟩) rfl rfl (Nat.le_of_ble_eq_true rfl) (by decide) ⟨Nat.zero_le _, Nat.zero_le _⟩ ?_
  exact go_zret hF hr hlk dX11_isLine_9 (by unfold bI; split <;> simp) ⟨rfl, rfl⟩
set_option maxHeartbeats 4000000 in
set_option maxRecDepth 100000 in
theorem c_X11_isLook (E : En) (N : Nat) (σ : Nat → va_E) (x : Int) (hx : rg x) : CP E M_X11_isLook 2 [vi x] N σ (bI (97 ≤ x ∧ x ≤ 102)) := by
  refine CT.of (own := RX11) (by decide) rfl (Nat.le_of_ble_eq_true rfl) ?_
  intro p e s m args below meth c hF hr hlk hnm hz
  refine go_iload_n (pc := 0) hF dX11_isLook_0 0 rfl ?_
  refine go_i2l (pc := 1) hF dX11_isLook_1 (by omega) ?_
  refine go_ldc2 (pc := 2) hF kc_X11_157 dX11_isLook_2 ?_
  refine go_ldc2 (pc := 5) hF kc_X11_159 dX11_isLook_5 ?_
  refine go_callSP (pc := 8) hF [vl x, vl 97, vl 102] [] ms_X11_89 dX11_isLook_8 (c_X11_in E N σ x 97 102 (by omega) ⟨by decide, by decide⟩ ⟨by decide, by decide⟩) rfl rfl (Nat.le_of_ble_eq_true rfl) (by decide) ⟨Nat.zero_le _, Nat.zero_le _⟩ ?_
  exact go_zret hF hr hlk dX11_isLook_11 (by unfold bI; split <;> simp) ⟨rfl, rfl⟩
set_option maxHeartbeats 4000000 in
set_option maxRecDepth 100000 in
theorem c_X11_isFigure (E : En) (N : Nat) (σ : Nat → va_E) (x : Int) (hx : rg x) : CP E M_X11_isFigure 2 [vi x] N σ (bI (49 ≤ x ∧ x ≤ 57)) := by
  refine CT.of (own := RX11) (by decide) rfl (Nat.le_of_ble_eq_true rfl) ?_
  intro p e s m args below meth c hF hr hlk hnm hz
  refine go_iload_n (pc := 0) hF dX11_isFigure_0 0 rfl ?_
  refine go_i2l (pc := 1) hF dX11_isFigure_1 (by omega) ?_
  refine go_ldc2 (pc := 2) hF kc_X11_161 dX11_isFigure_2 ?_
  refine go_ldc2 (pc := 5) hF kc_X11_163 dX11_isFigure_5 ?_
  refine go_callSP (pc := 8) hF [vl x, vl 49, vl 57] [] ms_X11_89 dX11_isFigure_8 (c_X11_in E N σ x 49 57 (by omega) ⟨by decide, by decide⟩ ⟨by decide, by decide⟩) rfl rfl (Nat.le_of_ble_eq_true rfl) (by decide) ⟨Nat.zero_le _, Nat.zero_le _⟩ ?_
  exact go_zret hF hr hlk dX11_isFigure_11 (by unfold bI; split <;> simp) ⟨rfl, rfl⟩
set_option maxHeartbeats 4000000 in
set_option maxRecDepth 100000 in
theorem c_X11_at (E : En) (N : Nat) (σ : Nat → va_E) (row a : Int) (h0 : 0 ≤ row ∧ row < 343) (ha : rg a) : CP E M_X11_at 1 [vi row, vi a] N σ (mAt row a) := by
  refine CT.of (own := RX11) (by decide) rfl (Nat.le_of_ble_eq_true rfl) ?_
  intro p e s m args below meth c hF hr hlk hnm hz
  refine go_iload_n (pc := 0) hF dX11_at_0 1 rfl ?_
  refine go_if_ne (pc := 1) hF 8 dX11_at_1 (by decide) (by omega) (fun b1 => ?_) (fun b1 => ?_)
  · refine go_iload_n (pc := 8) hF dX11_at_8 1 rfl ?_
    refine go_iconst (pc := 9) hF dX11_at_9 ?_
    refine go_icmp_ne (pc := 10) hF 20 dX11_at_10 (by decide) (by omega) ⟨by decide, by decide⟩ (fun b10 => ?_) (fun b10 => ?_)
    · refine go_iload_n (pc := 20) hF dX11_at_20 0 rfl ?_
      refine go_bipush (pc := 21) hF dX11_at_21 (by decide) ?_
      refine go_idiv (pc := 23) hF dX11_at_23 (by omega) (by decide) ?_
      refine go_bipush (pc := 24) hF dX11_at_24 (by decide) ?_
      refine go_irem (pc := 26) hF dX11_at_26 (by omega) (by decide) ?_
      refine go_iconst (pc := 27) hF dX11_at_27 ?_
      refine go_isub (pc := 28) hF dX11_at_28 ?_
      exact go_iret hF hr hlk dX11_at_29 ⟨by unfold mAt; repeat (first | rfl | omega | (rw [if_pos (by omega)]) | (rw [if_neg (by omega)])), rfl⟩
    · refine go_iload_n (pc := 13) hF dX11_at_13 0 rfl ?_
      refine go_bipush (pc := 14) hF dX11_at_14 (by decide) ?_
      refine go_idiv (pc := 16) hF dX11_at_16 (by omega) (by decide) ?_
      refine go_goto (pc := 17) hF 24 dX11_at_17 (by decide) ?_
      refine go_bipush (pc := 24) hF dX11_at_24 (by decide) ?_
      refine go_irem (pc := 26) hF dX11_at_26 (by omega) (by decide) ?_
      refine go_iconst (pc := 27) hF dX11_at_27 ?_
      refine go_isub (pc := 28) hF dX11_at_28 ?_
      exact go_iret hF hr hlk dX11_at_29 ⟨by unfold mAt; repeat (first | rfl | omega | (rw [if_pos (by omega)]) | (rw [if_neg (by omega)])), rfl⟩
  · refine go_iload_n (pc := 4) hF dX11_at_4 0 rfl ?_
    refine go_goto (pc := 5) hF 24 dX11_at_5 (by decide) ?_
    refine go_bipush (pc := 24) hF dX11_at_24 (by decide) ?_
    refine go_irem (pc := 26) hF dX11_at_26 (by omega) (by decide) ?_
    refine go_iconst (pc := 27) hF dX11_at_27 ?_
    refine go_isub (pc := 28) hF dX11_at_28 ?_
    exact go_iret hF hr hlk dX11_at_29 ⟨by unfold mAt; repeat (first | rfl | omega | (rw [if_pos (by omega)]) | (rw [if_neg (by omega)])), rfl⟩
set_option maxHeartbeats 4000000 in
set_option maxRecDepth 100000 in
theorem c_X11_longOf (E : En) (N : Nat) (σ : Nat → va_E) (row : Int) (hrow : rg row) : CP E M_X11_longOf 1 [vi row] N σ (mLong row) := by
  refine CT.of (own := RX11) (by decide) rfl (Nat.le_of_ble_eq_true rfl) ?_
  intro p e s m args below meth c hF hr hlk hnm hz
  refine go_iload_n (pc := 0) hF dX11_longOf_0 0 rfl ?_
  refine go_bipush (pc := 1) hF dX11_longOf_1 (by decide) ?_
  refine go_icmp_lt (pc := 3) hF 10 dX11_longOf_3 (by decide) (by omega) ⟨by decide, by decide⟩ (fun b3 => ?_) (fun b3 => ?_)
  · refine go_iload_n (pc := 10) hF dX11_longOf_10 0 rfl ?_
    refine go_bipush (pc := 11) hF dX11_longOf_11 (by decide) ?_
    refine go_icmp_lt (pc := 13) hF 20 dX11_longOf_13 (by decide) (by omega) ⟨by decide, by decide⟩ (fun b13 => ?_) (fun b13 => ?_)
    · refine go_iload_n (pc := 20) hF dX11_longOf_20 0 rfl ?_
      refine go_if_le (pc := 21) hF 28 dX11_longOf_21 (by decide) (by omega) (fun b21 => ?_) (fun b21 => ?_)
      · refine go_iconst (pc := 28) hF dX11_longOf_28 ?_
        exact go_iret hF hr hlk dX11_longOf_29 ⟨by unfold mLong; repeat (first | rfl | omega | (rw [if_pos (by omega)]) | (rw [if_neg (by omega)])), rfl⟩
      · refine go_iconst (pc := 24) hF dX11_longOf_24 ?_
        refine go_goto (pc := 25) hF 29 dX11_longOf_25 (by decide) ?_
        exact go_iret hF hr hlk dX11_longOf_29 ⟨by unfold mLong; repeat (first | rfl | omega | (rw [if_pos (by omega)]) | (rw [if_neg (by omega)])), rfl⟩
    · refine go_iconst (pc := 16) hF dX11_longOf_16 ?_
      refine go_goto (pc := 17) hF 29 dX11_longOf_17 (by decide) ?_
      exact go_iret hF hr hlk dX11_longOf_29 ⟨by unfold mLong; repeat (first | rfl | omega | (rw [if_pos (by omega)]) | (rw [if_neg (by omega)])), rfl⟩
  · refine go_iconst (pc := 6) hF dX11_longOf_6 ?_
    refine go_goto (pc := 7) hF 29 dX11_longOf_7 (by decide) ?_
    exact go_iret hF hr hlk dX11_longOf_29 ⟨by unfold mLong; repeat (first | rfl | omega | (rw [if_pos (by omega)]) | (rw [if_neg (by omega)])), rfl⟩
set_option maxHeartbeats 4000000 in
set_option maxRecDepth 100000 in
theorem c_X11_rowOf (E : En) (N : Nat) (σ : Nat → va_E) (a b z : Int)  : CP E M_X11_rowOf 1 [vi a, vi b, vi z] N σ (mRowOf a b z) := by
  refine CT.of (own := RX11) (by decide) rfl (Nat.le_of_ble_eq_true rfl) ?_
  intro p e s m args below meth c hF hr hlk hnm hz
  refine go_iload_n (pc := 0) hF dX11_rowOf_0 0 rfl ?_
  refine go_iconst (pc := 1) hF dX11_rowOf_1 ?_
  refine go_iadd (pc := 2) hF dX11_rowOf_2 ?_
  refine go_bipush (pc := 3) hF dX11_rowOf_3 (by decide) ?_
  refine go_iload_n (pc := 5) hF dX11_rowOf_5 1 rfl ?_
  refine go_iconst (pc := 6) hF dX11_rowOf_6 ?_
  refine go_iadd (pc := 7) hF dX11_rowOf_7 ?_
  refine go_imul (pc := 8) hF dX11_rowOf_8 ?_
  refine go_iadd (pc := 9) hF dX11_rowOf_9 ?_
  refine go_bipush (pc := 10) hF dX11_rowOf_10 (by decide) ?_
  refine go_iload_n (pc := 12) hF dX11_rowOf_12 2 rfl ?_
  refine go_iconst (pc := 13) hF dX11_rowOf_13 ?_
  refine go_iadd (pc := 14) hF dX11_rowOf_14 ?_
  refine go_imul (pc := 15) hF dX11_rowOf_15 ?_
  refine go_iadd (pc := 16) hF dX11_rowOf_16 ?_
  exact go_iret hF hr hlk dX11_rowOf_17 ⟨by rfl, rfl⟩
set_option maxHeartbeats 4000000 in
set_option maxRecDepth 100000 in
theorem c_X11_placeOf (E : En) (N : Nat) (σ : Nat → va_E) (row x : Int) (h0 : 0 ≤ row ∧ row < 343) (hx : rg x) : CP E M_X11_placeOf 2 [vi row, vi x] N σ (mPlace row x) := by
  refine CT.of (own := RX11) (by decide) rfl (Nat.le_of_ble_eq_true rfl) ?_
  intro p e s m args below meth c hF hr hlk hnm hz
  have za0 := mAt_rg 0 h0.1
  have za1 := mAt_rg 1 h0.1
  have za2 := mAt_rg 2 h0.1
  refine go_iload_n (pc := 0) hF dX11_placeOf_0 0 rfl ?_
  refine go_iconst (pc := 1) hF dX11_placeOf_1 ?_
  refine go_callSP (pc := 2) hF [vi row, vi 0] [] ms_X11_93 dX11_placeOf_2 (c_X11_at E N σ row 0 (by omega) (by first | omega | (constructor <;> decide))) rfl rfl (Nat.le_of_ble_eq_true rfl) (by decide) ⟨Nat.zero_le _, Nat.zero_le _⟩ ?_
  refine go_iload_n (pc := 5) hF dX11_placeOf_5 1 rfl ?_
  refine go_icmp_ne (pc := 6) hF 13 dX11_placeOf_6 (by decide) (by omega) (by omega) (fun b6 => ?_) (fun b6 => ?_)
  · refine go_iload_n (pc := 13) hF dX11_placeOf_13 0 rfl ?_
    refine go_iconst (pc := 14) hF dX11_placeOf_14 ?_
    refine go_callSP (pc := 15) hF [vi row, vi 1] [] ms_X11_93 dX11_placeOf_15 (c_X11_at E N σ row 1 (by omega) (by first | omega | (constructor <;> decide))) rfl rfl (Nat.le_of_ble_eq_true rfl) (by decide) ⟨Nat.zero_le _, Nat.zero_le _⟩ ?_
    refine go_iload_n (pc := 18) hF dX11_placeOf_18 1 rfl ?_
    refine go_icmp_ne (pc := 19) hF 26 dX11_placeOf_19 (by decide) (by omega) (by omega) (fun b19 => ?_) (fun b19 => ?_)
    · refine go_iload_n (pc := 26) hF dX11_placeOf_26 0 rfl ?_
      refine go_iconst (pc := 27) hF dX11_placeOf_27 ?_
      refine go_callSP (pc := 28) hF [vi row, vi 2] [] ms_X11_93 dX11_placeOf_28 (c_X11_at E N σ row 2 (by omega) (by first | omega | (constructor <;> decide))) rfl rfl (Nat.le_of_ble_eq_true rfl) (by decide) ⟨Nat.zero_le _, Nat.zero_le _⟩ ?_
      refine go_iload_n (pc := 31) hF dX11_placeOf_31 1 rfl ?_
      refine go_icmp_ne (pc := 32) hF 39 dX11_placeOf_32 (by decide) (by omega) (by omega) (fun b32 => ?_) (fun b32 => ?_)
      · refine go_iconst (pc := 39) hF dX11_placeOf_39 ?_
        exact go_iret hF hr hlk dX11_placeOf_40 ⟨by unfold mPlace; repeat (first | rfl | omega | (rw [if_pos (by omega)]) | (rw [if_neg (by omega)])), rfl⟩
      · refine go_iconst (pc := 35) hF dX11_placeOf_35 ?_
        refine go_goto (pc := 36) hF 40 dX11_placeOf_36 (by decide) ?_
        exact go_iret hF hr hlk dX11_placeOf_40 ⟨by unfold mPlace; repeat (first | rfl | omega | (rw [if_pos (by omega)]) | (rw [if_neg (by omega)])), rfl⟩
    · refine go_iconst (pc := 22) hF dX11_placeOf_22 ?_
      refine go_goto (pc := 23) hF 40 dX11_placeOf_23 (by decide) ?_
      exact go_iret hF hr hlk dX11_placeOf_40 ⟨by unfold mPlace; repeat (first | rfl | omega | (rw [if_pos (by omega)]) | (rw [if_neg (by omega)])), rfl⟩
  · refine go_iconst (pc := 9) hF dX11_placeOf_9 ?_
    refine go_goto (pc := 10) hF 40 dX11_placeOf_10 (by decide) ?_
    exact go_iret hF hr hlk dX11_placeOf_40 ⟨by unfold mPlace; repeat (first | rfl | omega | (rw [if_pos (by omega)]) | (rw [if_neg (by omega)])), rfl⟩
set_option maxHeartbeats 4000000 in
set_option maxRecDepth 100000 in
theorem c_X11_toFront (E : En) (N : Nat) (σ : Nat → va_E) (row x was : Int) (h0 : 0 ≤ row ∧ row < 343) (hx : rg x) (hw : rg was) : CP E M_X11_toFront 2 [vi row, vi x, vi was] N σ (mFront row x was) := by
  refine CT.of (own := RX11) (by decide) rfl (Nat.le_of_ble_eq_true rfl) ?_
  intro p e s m args below meth c hF hr hlk hnm hz
  have za0 := mAt_rg 0 h0.1
  have za1 := mAt_rg 1 h0.1
  have za2 := mAt_rg 2 h0.1
  refine go_iload_n (pc := 0) hF dX11_toFront_0 0 rfl ?_
  refine go_iconst (pc := 1) hF dX11_toFront_1 ?_
  refine go_callSP (pc := 2) hF [vi row, vi 0] [] ms_X11_93 dX11_toFront_2 (c_X11_at E N σ row 0 (by omega) (by first | omega | (constructor <;> decide))) rfl rfl (Nat.le_of_ble_eq_true rfl) (by decide) ⟨Nat.zero_le _, Nat.zero_le _⟩ ?_
  refine go_istore_n (pc := 5) hF [(3, vi (mAt row 0)), (0, vi row), (1, vi x), (2, vi was)] dX11_toFront_5 rfl (by decide) ?_
  refine go_iload_n (pc := 6) hF dX11_toFront_6 1 rfl ?_
  refine go_iconst (pc := 7) hF dX11_toFront_7 ?_
  refine go_callSP (pc := 8) hF [vi row, vi 1] [] ms_X11_93 dX11_toFront_8 (c_X11_at E N σ row 1 (by omega) (by first | omega | (constructor <;> decide))) rfl rfl (Nat.le_of_ble_eq_true rfl) (by decide) ⟨Nat.zero_le _, Nat.zero_le _⟩ ?_
  refine go_istore (pc := 11) hF [(4, vi (mAt row 1)), (3, vi (mAt row 0)), (0, vi row), (1, vi x), (2, vi was)] dX11_toFront_11 rfl (by decide) ?_
  refine go_iload_n (pc := 13) hF dX11_toFront_13 2 rfl ?_
  refine go_iconst (pc := 14) hF dX11_toFront_14 ?_
  refine go_callSP (pc := 15) hF [vi row, vi 2] [] ms_X11_93 dX11_toFront_15 (c_X11_at E N σ row 2 (by omega) (by first | omega | (constructor <;> decide))) rfl rfl (Nat.le_of_ble_eq_true rfl) (by decide) ⟨Nat.zero_le _, Nat.zero_le _⟩ ?_
  refine go_istore (pc := 18) hF [(5, vi (mAt row 2)), (4, vi (mAt row 1)), (3, vi (mAt row 0)), (0, vi row), (1, vi x), (2, vi was)] dX11_toFront_18 rfl (by decide) ?_
  refine go_iload_n (pc := 20) hF dX11_toFront_20 5 rfl ?_
  refine go_if_ne (pc := 21) hF 28 dX11_toFront_21 (by decide) (by omega) (fun b21 => ?_) (fun b21 => ?_)
  · refine go_iload_n (pc := 28) hF dX11_toFront_28 5 rfl ?_
    refine go_iconst (pc := 29) hF dX11_toFront_29 ?_
    refine go_icmp_ne (pc := 30) hF 43 dX11_toFront_30 (by decide) (by omega) ⟨by decide, by decide⟩ (fun b30 => ?_) (fun b30 => ?_)
    · refine go_iload_n (pc := 43) hF dX11_toFront_43 4 rfl ?_
      refine go_iload_n (pc := 44) hF dX11_toFront_44 2 rfl ?_
      refine go_iload (pc := 45) hF dX11_toFront_45 1 rfl ?_
      refine go_callSP (pc := 47) hF [vi x, vi (mAt row 0), vi (mAt row 1)] [] ms_X11_97 dX11_toFront_47 (c_X11_rowOf E N σ x (mAt row 0) (mAt row 1) ) rfl rfl (Nat.le_of_ble_eq_true rfl) (by decide) ⟨Nat.zero_le _, Nat.zero_le _⟩ ?_
      exact go_iret hF hr hlk dX11_toFront_50 ⟨by unfold mFront; repeat (first | rfl | omega | (rw [if_pos (by omega)]) | (rw [if_neg (by omega)])), rfl⟩
    · refine go_iload_n (pc := 33) hF dX11_toFront_33 4 rfl ?_
      refine go_iload_n (pc := 34) hF dX11_toFront_34 2 rfl ?_
      refine go_iload (pc := 35) hF dX11_toFront_35 0 rfl ?_
      refine go_callSP (pc := 37) hF [vi x, vi (mAt row 0), vi (mAt row 2)] [] ms_X11_97 dX11_toFront_37 (c_X11_rowOf E N σ x (mAt row 0) (mAt row 2) ) rfl rfl (Nat.le_of_ble_eq_true rfl) (by decide) ⟨Nat.zero_le _, Nat.zero_le _⟩ ?_
      refine go_goto (pc := 40) hF 50 dX11_toFront_40 (by decide) ?_
      exact go_iret hF hr hlk dX11_toFront_50 ⟨by unfold mFront; repeat (first | rfl | omega | (rw [if_pos (by omega)]) | (rw [if_neg (by omega)])), rfl⟩
  · refine go_iload_n (pc := 24) hF dX11_toFront_24 3 rfl ?_
    refine go_goto (pc := 25) hF 50 dX11_toFront_25 (by decide) ?_
    exact go_iret hF hr hlk dX11_toFront_50 ⟨by unfold mFront; repeat (first | rfl | omega | (rw [if_pos (by omega)]) | (rw [if_neg (by omega)])), rfl⟩
set_option maxHeartbeats 4000000 in
set_option maxRecDepth 100000 in
theorem c_X11_cut (E : En) (N : Nat) (σ : Nat → va_E) (row w : Int) (h0 : 0 ≤ row ∧ row < 343) (hw : rg w) : CP E M_X11_cut 1 [vi row, vi w] N σ (mCut row w) := by
  refine CT.of (own := RX11) (by decide) rfl (Nat.le_of_ble_eq_true rfl) ?_
  intro p e s m args below meth c hF hr hlk hnm hz
  refine go_iload_n (pc := 0) hF dX11_cut_0 1 rfl ?_
  refine go_iconst (pc := 1) hF dX11_cut_1 ?_
  refine go_icmp_ne (pc := 2) hF 12 dX11_cut_2 (by decide) (by omega) ⟨by decide, by decide⟩ (fun b2 => ?_) (fun b2 => ?_)
  · refine go_iload_n (pc := 12) hF dX11_cut_12 1 rfl ?_
    refine go_iconst (pc := 13) hF dX11_cut_13 ?_
    refine go_icmp_ne (pc := 14) hF 24 dX11_cut_14 (by decide) (by omega) ⟨by decide, by decide⟩ (fun b14 => ?_) (fun b14 => ?_)
    · refine go_iload_n (pc := 24) hF dX11_cut_24 0 rfl ?_
      exact go_iret hF hr hlk dX11_cut_25 ⟨by unfold mCut; repeat (first | rfl | omega | (rw [if_pos (by omega)]) | (rw [if_neg (by omega)])), rfl⟩
    · refine go_iload_n (pc := 17) hF dX11_cut_17 0 rfl ?_
      refine go_bipush (pc := 18) hF dX11_cut_18 (by decide) ?_
      refine go_irem (pc := 20) hF dX11_cut_20 (by omega) (by decide) ?_
      refine go_goto (pc := 21) hF 25 dX11_cut_21 (by decide) ?_
      exact go_iret hF hr hlk dX11_cut_25 ⟨by unfold mCut; repeat (first | rfl | omega | (rw [if_pos (by omega)]) | (rw [if_neg (by omega)])), rfl⟩
  · refine go_iload_n (pc := 5) hF dX11_cut_5 0 rfl ?_
    refine go_bipush (pc := 6) hF dX11_cut_6 (by decide) ?_
    refine go_irem (pc := 8) hF dX11_cut_8 (by omega) (by decide) ?_
    refine go_goto (pc := 9) hF 25 dX11_cut_9 (by decide) ?_
    exact go_iret hF hr hlk dX11_cut_25 ⟨by unfold mCut; repeat (first | rfl | omega | (rw [if_pos (by omega)]) | (rw [if_neg (by omega)])), rfl⟩
set_option maxHeartbeats 4000000 in
set_option maxRecDepth 100000 in
theorem c_X11_after (E : En) (N : Nat) (σ : Nat → va_E) (row x w kd : Int) (h0 : 0 ≤ row ∧ row < 343) (hx : 0 ≤ x ∧ x ≤ 5) (hw : rg w ∧ -2147483648 < w) (hk : rg kd) : CP E M_X11_after 3 [vi row, vi x, vi w, vi kd] N σ (mAfter row x w kd) := by
  refine CT.of (own := RX11) (by decide) rfl (Nat.le_of_ble_eq_true rfl) ?_
  intro p e s m args below meth c hF hr hlk hnm hz
  have za0 := mAt_rg 0 h0.1
  have za1 := mAt_rg 1 h0.1
  have za2 := mAt_rg 2 h0.1
  have zp := mPlace_rg row x
  have zl := mLong_rg row
  have zf := mFront_rg 2 h0 hx
  refine go_iload_n (pc := 0) hF dX11_after_0 0 rfl ?_
  refine go_iload_n (pc := 1) hF dX11_after_1 1 rfl ?_
  refine go_callSP (pc := 2) hF [vi row, vi x] [] ms_X11_101 dX11_after_2 (c_X11_placeOf E N σ row x (by omega) (by omega)) rfl rfl (Nat.le_of_ble_eq_true rfl) (by decide) ⟨Nat.zero_le _, Nat.zero_le _⟩ ?_
  refine go_istore (pc := 5) hF [(4, vi (mPlace row x)), (0, vi row), (1, vi x), (2, vi w), (3, vi kd)] dX11_after_5 rfl (by decide) ?_
  refine go_iload (pc := 7) hF dX11_after_7 0 rfl ?_
  refine go_iconst (pc := 9) hF dX11_after_9 ?_
  refine go_icmp_ne (pc := 10) hF 24 dX11_after_10 (by decide) (by omega) ⟨by decide, by decide⟩ (fun b10 => ?_) (fun b10 => ?_)
  · refine go_iload (pc := 24) hF dX11_after_24 0 rfl ?_
    refine go_if_eq (pc := 26) hF 55 dX11_after_26 (by decide) (by omega) (fun b26 => ?_) (fun b26 => ?_)
    · refine go_iconst (pc := 55) hF dX11_after_55 ?_
      refine go_goto (pc := 56) hF 60 dX11_after_56 (by decide) ?_
      refine go_istore (pc := 60) hF [(5, vi 1), (4, vi (mPlace row x)), (0, vi row), (1, vi x), (2, vi w), (3, vi kd)] dX11_after_60 rfl (by decide) ?_
      refine go_iload (pc := 62) hF dX11_after_62 0 rfl ?_
      refine go_if_eq (pc := 64) hF 69 dX11_after_64 (by decide) ⟨by decide, by decide⟩ (fun b64 => ?_) (fun b64 => ?_)
      · exact absurd b64 (by decide)
      · refine go_iload_n (pc := 67) hF dX11_after_67 2 rfl ?_
        exact go_iret hF hr hlk dX11_after_68 ⟨by unfold mAfter; repeat (first | rfl | omega | (rw [if_pos (by omega)]) | (rw [if_neg (by omega)])), rfl⟩
    · refine go_iload_n (pc := 29) hF dX11_after_29 4 rfl ?_
      refine go_iconst (pc := 30) hF dX11_after_30 ?_
      refine go_icmp_eq (pc := 31) hF 55 dX11_after_31 (by decide) (by omega) ⟨by decide, by decide⟩ (fun b31 => ?_) (fun b31 => ?_)
      · refine go_iconst (pc := 55) hF dX11_after_55 ?_
        refine go_goto (pc := 56) hF 60 dX11_after_56 (by decide) ?_
        refine go_istore (pc := 60) hF [(5, vi 1), (4, vi (mPlace row x)), (0, vi row), (1, vi x), (2, vi w), (3, vi kd)] dX11_after_60 rfl (by decide) ?_
        refine go_iload (pc := 62) hF dX11_after_62 0 rfl ?_
        refine go_if_eq (pc := 64) hF 69 dX11_after_64 (by decide) ⟨by decide, by decide⟩ (fun b64 => ?_) (fun b64 => ?_)
        · exact absurd b64 (by decide)
        · refine go_iload_n (pc := 67) hF dX11_after_67 2 rfl ?_
          exact go_iret hF hr hlk dX11_after_68 ⟨by unfold mAfter; repeat (first | rfl | omega | (rw [if_pos (by omega)]) | (rw [if_neg (by omega)])), rfl⟩
      · refine go_iload_n (pc := 34) hF dX11_after_34 4 rfl ?_
        refine go_iconst (pc := 35) hF dX11_after_35 ?_
        refine go_icmp_ne (pc := 36) hF 59 dX11_after_36 (by decide) (by omega) ⟨by decide, by decide⟩ (fun b36 => ?_) (fun b36 => ?_)
        · refine go_iconst (pc := 59) hF dX11_after_59 ?_
          refine go_istore (pc := 60) hF [(5, vi 0), (4, vi (mPlace row x)), (0, vi row), (1, vi x), (2, vi w), (3, vi kd)] dX11_after_60 rfl (by decide) ?_
          refine go_iload (pc := 62) hF dX11_after_62 0 rfl ?_
          refine go_if_eq (pc := 64) hF 69 dX11_after_64 (by decide) ⟨by decide, by decide⟩ (fun b64 => ?_) (fun b64 => ?_)
          · refine go_iload_n (pc := 69) hF dX11_after_69 5 rfl ?_
            refine go_iconst (pc := 70) hF dX11_after_70 ?_
            refine go_icmp_ne (pc := 71) hF 95 dX11_after_71 (by decide) (by omega) ⟨by decide, by decide⟩ (fun b71 => ?_) (fun b71 => ?_)
            · refine go_iload_n (pc := 95) hF dX11_after_95 2 rfl ?_
              refine go_iload_n (pc := 96) hF dX11_after_96 3 rfl ?_
              refine go_iload (pc := 97) hF dX11_after_97 1 rfl ?_
              refine go_callSP (pc := 99) hF [vi row, vi x, vi (mPlace row x)] [] ms_X11_104 dX11_after_99 (c_X11_toFront E N σ row x (mPlace row x) (by omega) (by omega) (by first | omega | (constructor <;> decide))) rfl rfl (Nat.le_of_ble_eq_true rfl) (by decide) ⟨Nat.zero_le _, Nat.zero_le _⟩ ?_
              exact go_iret hF hr hlk dX11_after_102 ⟨by unfold mAfter; repeat (first | rfl | omega | (rw [if_pos (by omega)]) | (rw [if_neg (by omega)])), rfl⟩
            · refine go_iload (pc := 74) hF dX11_after_74 1 rfl ?_
              refine go_iconst (pc := 76) hF dX11_after_76 ?_
              refine go_icmp_ne (pc := 77) hF 95 dX11_after_77 (by decide) (by omega) ⟨by decide, by decide⟩ (fun b77 => ?_) (fun b77 => ?_)
              · refine go_iload_n (pc := 95) hF dX11_after_95 2 rfl ?_
                refine go_iload_n (pc := 96) hF dX11_after_96 3 rfl ?_
                refine go_iload (pc := 97) hF dX11_after_97 1 rfl ?_
                refine go_callSP (pc := 99) hF [vi row, vi x, vi (mPlace row x)] [] ms_X11_104 dX11_after_99 (c_X11_toFront E N σ row x (mPlace row x) (by omega) (by omega) (by first | omega | (constructor <;> decide))) rfl rfl (Nat.le_of_ble_eq_true rfl) (by decide) ⟨Nat.zero_le _, Nat.zero_le _⟩ ?_
                exact go_iret hF hr hlk dX11_after_102 ⟨by unfold mAfter; repeat (first | rfl | omega | (rw [if_pos (by omega)]) | (rw [if_neg (by omega)])), rfl⟩
              · refine go_iload_n (pc := 80) hF dX11_after_80 2 rfl ?_
                refine go_iconst (pc := 81) hF dX11_after_81 ?_
                refine go_callSP (pc := 82) hF [vi row, vi 0] [] ms_X11_93 dX11_after_82 (c_X11_at E N σ row 0 (by omega) (by first | omega | (constructor <;> decide))) rfl rfl (Nat.le_of_ble_eq_true rfl) (by decide) ⟨Nat.zero_le _, Nat.zero_le _⟩ ?_
                refine go_iload_n (pc := 85) hF dX11_after_85 3 rfl ?_
                refine go_iload_n (pc := 86) hF dX11_after_86 2 rfl ?_
                refine go_iconst (pc := 87) hF dX11_after_87 ?_
                refine go_callSP (pc := 88) hF [vi row, vi 1] [vi x, vi (mAt row 0)] ms_X11_93 dX11_after_88 (c_X11_at E N σ row 1 (by omega) (by first | omega | (constructor <;> decide))) rfl rfl (Nat.le_of_ble_eq_true rfl) (by decide) ⟨Nat.zero_le _, Nat.zero_le _⟩ ?_
                refine go_callSP (pc := 91) hF [vi (mAt row 0), vi x, vi (mAt row 1)] [] ms_X11_97 dX11_after_91 (c_X11_rowOf E N σ (mAt row 0) x (mAt row 1) ) rfl rfl (Nat.le_of_ble_eq_true rfl) (by decide) ⟨Nat.zero_le _, Nat.zero_le _⟩ ?_
                exact go_iret hF hr hlk dX11_after_94 ⟨by unfold mAfter; repeat (first | rfl | omega | (rw [if_pos (by omega)]) | (rw [if_neg (by omega)])), rfl⟩
          · exact absurd b64 (by decide)
        · refine go_iload_n (pc := 39) hF dX11_after_39 1 rfl ?_
          refine go_callSP (pc := 40) hF [vi row] [] ms_X11_110 dX11_after_40 (c_X11_longOf E N σ row (by omega)) rfl rfl (Nat.le_of_ble_eq_true rfl) (by decide) ⟨Nat.zero_le _, Nat.zero_le _⟩ ?_
          refine go_iload_n (pc := 43) hF dX11_after_43 3 rfl ?_
          refine go_icmp_ne (pc := 44) hF 59 dX11_after_44 (by decide) (by omega) (by omega) (fun b44 => ?_) (fun b44 => ?_)
          · refine go_iconst (pc := 59) hF dX11_after_59 ?_
            refine go_istore (pc := 60) hF [(5, vi 0), (4, vi (mPlace row x)), (0, vi row), (1, vi x), (2, vi w), (3, vi kd)] dX11_after_60 rfl (by decide) ?_
            refine go_iload (pc := 62) hF dX11_after_62 0 rfl ?_
            refine go_if_eq (pc := 64) hF 69 dX11_after_64 (by decide) ⟨by decide, by decide⟩ (fun b64 => ?_) (fun b64 => ?_)
            · refine go_iload_n (pc := 69) hF dX11_after_69 5 rfl ?_
              refine go_iconst (pc := 70) hF dX11_after_70 ?_
              refine go_icmp_ne (pc := 71) hF 95 dX11_after_71 (by decide) (by omega) ⟨by decide, by decide⟩ (fun b71 => ?_) (fun b71 => ?_)
              · refine go_iload_n (pc := 95) hF dX11_after_95 2 rfl ?_
                refine go_iload_n (pc := 96) hF dX11_after_96 3 rfl ?_
                refine go_iload (pc := 97) hF dX11_after_97 1 rfl ?_
                refine go_callSP (pc := 99) hF [vi row, vi x, vi (mPlace row x)] [] ms_X11_104 dX11_after_99 (c_X11_toFront E N σ row x (mPlace row x) (by omega) (by omega) (by first | omega | (constructor <;> decide))) rfl rfl (Nat.le_of_ble_eq_true rfl) (by decide) ⟨Nat.zero_le _, Nat.zero_le _⟩ ?_
                exact go_iret hF hr hlk dX11_after_102 ⟨by unfold mAfter; repeat (first | rfl | omega | (rw [if_pos (by omega)]) | (rw [if_neg (by omega)])), rfl⟩
              · refine go_iload (pc := 74) hF dX11_after_74 1 rfl ?_
                refine go_iconst (pc := 76) hF dX11_after_76 ?_
                refine go_icmp_ne (pc := 77) hF 95 dX11_after_77 (by decide) (by omega) ⟨by decide, by decide⟩ (fun b77 => ?_) (fun b77 => ?_)
                · refine go_iload_n (pc := 95) hF dX11_after_95 2 rfl ?_
                  refine go_iload_n (pc := 96) hF dX11_after_96 3 rfl ?_
                  refine go_iload (pc := 97) hF dX11_after_97 1 rfl ?_
                  refine go_callSP (pc := 99) hF [vi row, vi x, vi (mPlace row x)] [] ms_X11_104 dX11_after_99 (c_X11_toFront E N σ row x (mPlace row x) (by omega) (by omega) (by first | omega | (constructor <;> decide))) rfl rfl (Nat.le_of_ble_eq_true rfl) (by decide) ⟨Nat.zero_le _, Nat.zero_le _⟩ ?_
                  exact go_iret hF hr hlk dX11_after_102 ⟨by unfold mAfter; repeat (first | rfl | omega | (rw [if_pos (by omega)]) | (rw [if_neg (by omega)])), rfl⟩
                · refine go_iload_n (pc := 80) hF dX11_after_80 2 rfl ?_
                  refine go_iconst (pc := 81) hF dX11_after_81 ?_
                  refine go_callSP (pc := 82) hF [vi row, vi 0] [] ms_X11_93 dX11_after_82 (c_X11_at E N σ row 0 (by omega) (by first | omega | (constructor <;> decide))) rfl rfl (Nat.le_of_ble_eq_true rfl) (by decide) ⟨Nat.zero_le _, Nat.zero_le _⟩ ?_
                  refine go_iload_n (pc := 85) hF dX11_after_85 3 rfl ?_
                  refine go_iload_n (pc := 86) hF dX11_after_86 2 rfl ?_
                  refine go_iconst (pc := 87) hF dX11_after_87 ?_
                  refine go_callSP (pc := 88) hF [vi row, vi 1] [vi x, vi (mAt row 0)] ms_X11_93 dX11_after_88 (c_X11_at E N σ row 1 (by omega) (by first | omega | (constructor <;> decide))) rfl rfl (Nat.le_of_ble_eq_true rfl) (by decide) ⟨Nat.zero_le _, Nat.zero_le _⟩ ?_
                  refine go_callSP (pc := 91) hF [vi (mAt row 0), vi x, vi (mAt row 1)] [] ms_X11_97 dX11_after_91 (c_X11_rowOf E N σ (mAt row 0) x (mAt row 1) ) rfl rfl (Nat.le_of_ble_eq_true rfl) (by decide) ⟨Nat.zero_le _, Nat.zero_le _⟩ ?_
                  exact go_iret hF hr hlk dX11_after_94 ⟨by unfold mAfter; repeat (first | rfl | omega | (rw [if_pos (by omega)]) | (rw [if_neg (by omega)])), rfl⟩
            · exact absurd b64 (by decide)
          · refine go_iload (pc := 47) hF dX11_after_47 0 rfl ?_
            refine go_iload_n (pc := 49) hF dX11_after_49 3 rfl ?_
            refine go_iconst (pc := 50) hF dX11_after_50 ?_
            refine go_isub (pc := 51) hF dX11_after_51 ?_
            refine go_icmp_ne (pc := 52) hF 59 dX11_after_52 (by decide) (by omega) (by omega) (fun b52 => ?_) (fun b52 => ?_)
            · refine go_iconst (pc := 59) hF dX11_after_59 ?_
              refine go_istore (pc := 60) hF [(5, vi 0), (4, vi (mPlace row x)), (0, vi row), (1, vi x), (2, vi w), (3, vi kd)] dX11_after_60 rfl (by decide) ?_
              refine go_iload (pc := 62) hF dX11_after_62 0 rfl ?_
              refine go_if_eq (pc := 64) hF 69 dX11_after_64 (by decide) ⟨by decide, by decide⟩ (fun b64 => ?_) (fun b64 => ?_)
              · refine go_iload_n (pc := 69) hF dX11_after_69 5 rfl ?_
                refine go_iconst (pc := 70) hF dX11_after_70 ?_
                refine go_icmp_ne (pc := 71) hF 95 dX11_after_71 (by decide) (by omega) ⟨by decide, by decide⟩ (fun b71 => ?_) (fun b71 => ?_)
                · refine go_iload_n (pc := 95) hF dX11_after_95 2 rfl ?_
                  refine go_iload_n (pc := 96) hF dX11_after_96 3 rfl ?_
                  refine go_iload (pc := 97) hF dX11_after_97 1 rfl ?_
                  refine go_callSP (pc := 99) hF [vi row, vi x, vi (mPlace row x)] [] ms_X11_104 dX11_after_99 (c_X11_toFront E N σ row x (mPlace row x) (by omega) (by omega) (by first | omega | (constructor <;> decide))) rfl rfl (Nat.le_of_ble_eq_true rfl) (by decide) ⟨Nat.zero_le _, Nat.zero_le _⟩ ?_
                  exact go_iret hF hr hlk dX11_after_102 ⟨by unfold mAfter; repeat (first | rfl | omega | (rw [if_pos (by omega)]) | (rw [if_neg (by omega)])), rfl⟩
                · refine go_iload (pc := 74) hF dX11_after_74 1 rfl ?_
                  refine go_iconst (pc := 76) hF dX11_after_76 ?_
                  refine go_icmp_ne (pc := 77) hF 95 dX11_after_77 (by decide) (by omega) ⟨by decide, by decide⟩ (fun b77 => ?_) (fun b77 => ?_)
                  · refine go_iload_n (pc := 95) hF dX11_after_95 2 rfl ?_
                    refine go_iload_n (pc := 96) hF dX11_after_96 3 rfl ?_
                    refine go_iload (pc := 97) hF dX11_after_97 1 rfl ?_
                    refine go_callSP (pc := 99) hF [vi row, vi x, vi (mPlace row x)] [] ms_X11_104 dX11_after_99 (c_X11_toFront E N σ row x (mPlace row x) (by omega) (by omega) (by first | omega | (constructor <;> decide))) rfl rfl (Nat.le_of_ble_eq_true rfl) (by decide) ⟨Nat.zero_le _, Nat.zero_le _⟩ ?_
                    exact go_iret hF hr hlk dX11_after_102 ⟨by unfold mAfter; repeat (first | rfl | omega | (rw [if_pos (by omega)]) | (rw [if_neg (by omega)])), rfl⟩
                  · refine go_iload_n (pc := 80) hF dX11_after_80 2 rfl ?_
                    refine go_iconst (pc := 81) hF dX11_after_81 ?_
                    refine go_callSP (pc := 82) hF [vi row, vi 0] [] ms_X11_93 dX11_after_82 (c_X11_at E N σ row 0 (by omega) (by first | omega | (constructor <;> decide))) rfl rfl (Nat.le_of_ble_eq_true rfl) (by decide) ⟨Nat.zero_le _, Nat.zero_le _⟩ ?_
                    refine go_iload_n (pc := 85) hF dX11_after_85 3 rfl ?_
                    refine go_iload_n (pc := 86) hF dX11_after_86 2 rfl ?_
                    refine go_iconst (pc := 87) hF dX11_after_87 ?_
                    refine go_callSP (pc := 88) hF [vi row, vi 1] [vi x, vi (mAt row 0)] ms_X11_93 dX11_after_88 (c_X11_at E N σ row 1 (by omega) (by first | omega | (constructor <;> decide))) rfl rfl (Nat.le_of_ble_eq_true rfl) (by decide) ⟨Nat.zero_le _, Nat.zero_le _⟩ ?_
                    refine go_callSP (pc := 91) hF [vi (mAt row 0), vi x, vi (mAt row 1)] [] ms_X11_97 dX11_after_91 (c_X11_rowOf E N σ (mAt row 0) x (mAt row 1) ) rfl rfl (Nat.le_of_ble_eq_true rfl) (by decide) ⟨Nat.zero_le _, Nat.zero_le _⟩ ?_
                    exact go_iret hF hr hlk dX11_after_94 ⟨by unfold mAfter; repeat (first | rfl | omega | (rw [if_pos (by omega)]) | (rw [if_neg (by omega)])), rfl⟩
              · exact absurd b64 (by decide)
            · refine go_iconst (pc := 55) hF dX11_after_55 ?_
              refine go_goto (pc := 56) hF 60 dX11_after_56 (by decide) ?_
              refine go_istore (pc := 60) hF [(5, vi 1), (4, vi (mPlace row x)), (0, vi row), (1, vi x), (2, vi w), (3, vi kd)] dX11_after_60 rfl (by decide) ?_
              refine go_iload (pc := 62) hF dX11_after_62 0 rfl ?_
              refine go_if_eq (pc := 64) hF 69 dX11_after_64 (by decide) ⟨by decide, by decide⟩ (fun b64 => ?_) (fun b64 => ?_)
              · exact absurd b64 (by decide)
              · refine go_iload_n (pc := 67) hF dX11_after_67 2 rfl ?_
                exact go_iret hF hr hlk dX11_after_68 ⟨by unfold mAfter; repeat (first | rfl | omega | (rw [if_pos (by omega)]) | (rw [if_neg (by omega)])), rfl⟩
  · refine go_iload_n (pc := 13) hF dX11_after_13 1 rfl ?_
    refine go_iload_n (pc := 14) hF dX11_after_14 2 rfl ?_
    refine go_iconst (pc := 15) hF dX11_after_15 ?_
    refine go_callSP (pc := 16) hF [vi row, vi x, vi 2] [] ms_X11_104 dX11_after_16 (c_X11_toFront E N σ row x 2 (by omega) (by omega) (by first | omega | (constructor <;> decide))) rfl rfl (Nat.le_of_ble_eq_true rfl) (by decide) ⟨Nat.zero_le _, Nat.zero_le _⟩ ?_
    refine go_iload_n (pc := 19) hF dX11_after_19 3 rfl ?_
    refine go_callSP (pc := 20) hF [vi (mFront row x 2), vi w] [] ms_X11_107 dX11_after_20 (c_X11_cut E N σ (mFront row x 2) w (by omega) (by omega)) rfl rfl (Nat.le_of_ble_eq_true rfl) (by decide) ⟨Nat.zero_le _, Nat.zero_le _⟩ ?_
    exact go_iret hF hr hlk dX11_after_23 ⟨by unfold mAfter; repeat (first | rfl | omega | (rw [if_pos (by omega)]) | (rw [if_neg (by omega)])), rfl⟩
set_option maxHeartbeats 4000000 in
set_option maxRecDepth 100000 in
theorem c_X11_together (E : En) (N : Nat) (σ : Nat → va_E) (a x y : Int) (ha : rg a) (hx : rg x) (hy : rg y) : CP E M_X11_together 1 [vi a, vi x, vi y] N σ (if (a < 6 ↔ y < x) then x else y) := by
  refine CT.of (own := RX11) (by decide) rfl (Nat.le_of_ble_eq_true rfl) ?_
  intro p e s m args below meth c hF hr hlk hnm hz
  refine go_iload_n (pc := 0) hF dX11_together_0 1 rfl ?_
  refine go_iload_n (pc := 1) hF dX11_together_1 2 rfl ?_
  refine go_icmp_le (pc := 2) hF 9 dX11_together_2 (by decide) (by omega) (by omega) (fun b2 => ?_) (fun b2 => ?_)
  · refine go_iconst (pc := 9) hF dX11_together_9 ?_
    refine go_istore_n (pc := 10) hF [(3, vi 0), (0, vi a), (1, vi x), (2, vi y)] dX11_together_10 rfl (by decide) ?_
    refine go_iload_n (pc := 11) hF dX11_together_11 1 rfl ?_
    refine go_bipush (pc := 12) hF dX11_together_12 (by decide) ?_
    refine go_icmp_ge (pc := 14) hF 21 dX11_together_14 (by decide) (by omega) ⟨by decide, by decide⟩ (fun b14 => ?_) (fun b14 => ?_)
    · refine go_iconst (pc := 21) hF dX11_together_21 ?_
      refine go_iload_n (pc := 22) hF dX11_together_22 0 rfl ?_
      refine go_icmp_ne (pc := 23) hF 30 dX11_together_23 (by decide) ⟨by decide, by decide⟩ ⟨by decide, by decide⟩ (fun b23 => ?_) (fun b23 => ?_)
      · exact absurd b23 (by decide)
      · refine go_iload_n (pc := 26) hF dX11_together_26 2 rfl ?_
        refine go_goto (pc := 27) hF 31 dX11_together_27 (by decide) ?_
        exact go_iret hF hr hlk dX11_together_31 ⟨by repeat (first | rfl | omega | (rw [if_pos (by omega)]) | (rw [if_neg (by omega)])), rfl⟩
    · refine go_iconst (pc := 17) hF dX11_together_17 ?_
      refine go_goto (pc := 18) hF 22 dX11_together_18 (by decide) ?_
      refine go_iload_n (pc := 22) hF dX11_together_22 0 rfl ?_
      refine go_icmp_ne (pc := 23) hF 30 dX11_together_23 (by decide) ⟨by decide, by decide⟩ ⟨by decide, by decide⟩ (fun b23 => ?_) (fun b23 => ?_)
      · refine go_iload_n (pc := 30) hF dX11_together_30 3 rfl ?_
        exact go_iret hF hr hlk dX11_together_31 ⟨by repeat (first | rfl | omega | (rw [if_pos (by omega)]) | (rw [if_neg (by omega)])), rfl⟩
      · exact absurd b23 (by decide)
  · refine go_iconst (pc := 5) hF dX11_together_5 ?_
    refine go_goto (pc := 6) hF 10 dX11_together_6 (by decide) ?_
    refine go_istore_n (pc := 10) hF [(3, vi 1), (0, vi a), (1, vi x), (2, vi y)] dX11_together_10 rfl (by decide) ?_
    refine go_iload_n (pc := 11) hF dX11_together_11 1 rfl ?_
    refine go_bipush (pc := 12) hF dX11_together_12 (by decide) ?_
    refine go_icmp_ge (pc := 14) hF 21 dX11_together_14 (by decide) (by omega) ⟨by decide, by decide⟩ (fun b14 => ?_) (fun b14 => ?_)
    · refine go_iconst (pc := 21) hF dX11_together_21 ?_
      refine go_iload_n (pc := 22) hF dX11_together_22 0 rfl ?_
      refine go_icmp_ne (pc := 23) hF 30 dX11_together_23 (by decide) ⟨by decide, by decide⟩ ⟨by decide, by decide⟩ (fun b23 => ?_) (fun b23 => ?_)
      · refine go_iload_n (pc := 30) hF dX11_together_30 3 rfl ?_
        exact go_iret hF hr hlk dX11_together_31 ⟨by repeat (first | rfl | omega | (rw [if_pos (by omega)]) | (rw [if_neg (by omega)])), rfl⟩
      · exact absurd b23 (by decide)
    · refine go_iconst (pc := 17) hF dX11_together_17 ?_
      refine go_goto (pc := 18) hF 22 dX11_together_18 (by decide) ?_
      refine go_iload_n (pc := 22) hF dX11_together_22 0 rfl ?_
      refine go_icmp_ne (pc := 23) hF 30 dX11_together_23 (by decide) ⟨by decide, by decide⟩ ⟨by decide, by decide⟩ (fun b23 => ?_) (fun b23 => ?_)
      · exact absurd b23 (by decide)
      · refine go_iload_n (pc := 26) hF dX11_together_26 2 rfl ?_
        refine go_goto (pc := 27) hF 31 dX11_together_27 (by decide) ?_
        exact go_iret hF hr hlk dX11_together_31 ⟨by repeat (first | rfl | omega | (rw [if_pos (by omega)]) | (rw [if_neg (by omega)])), rfl⟩
set_option maxHeartbeats 4000000 in
set_option maxRecDepth 100000 in
theorem c_X11_capped (E : En) (N : Nat) (σ : Nat → va_E) (v : Int) (hv : rgl v) : CPL E M_X11_capped 1 [vl v] N σ (min v 1000000000) := by
  refine CT.of (own := RX11) (by decide) rfl (Nat.le_of_ble_eq_true rfl) ?_
  intro p e s m args below meth c hF hr hlk hnm hz
  refine go_lload_n (pc := 0) hF dX11_capped_0 0 rfl ?_
  refine go_ldc2 (pc := 1) hF kc_X11_258 dX11_capped_1 ?_
  refine go_lcmp (pc := 4) hF dX11_capped_4 (by omega) (by omega) ?_
  refine go_if_le (pc := 5) hF 14 dX11_capped_5 (by decide) (lc_rg _ _) (fun b5 => ?_) (fun b5 => ?_)
  · refine go_lload_n (pc := 14) hF dX11_capped_14 0 rfl ?_
    exact go_lret hF hr hlk dX11_capped_15 ⟨by simp only [lc_lt, lc_le, lc_ge, lc_gt] at *; omega, rfl⟩
  · refine go_ldc2 (pc := 8) hF kc_X11_258 dX11_capped_8 ?_
    refine go_goto (pc := 11) hF 15 dX11_capped_11 (by decide) ?_
    exact go_lret hF hr hlk dX11_capped_15 ⟨by simp only [lc_lt, lc_le, lc_ge, lc_gt] at *; omega, rfl⟩
set_option maxHeartbeats 4000000 in
set_option maxRecDepth 100000 in
theorem c_X6_cut (E : En) (N : Nat) (σ : Nat → va_E) (v : Int) (hv : rgl v) : CPL E M_X6_cut 2 [vl v] N σ (min v 1000000000) := by
  refine CT.of (own := RX6) (by decide) rfl (Nat.le_of_ble_eq_true rfl) ?_
  intro p e s m args below meth c hF hr hlk hnm hz
  refine go_lload_n (pc := 0) hF dX6_cut_0 0 rfl ?_
  refine go_ldc2 (pc := 1) hF kc_X6_99 dX6_cut_1 ?_
  refine go_mminl (pc := 4) hF ms_X6_101 dX6_cut_4 (by omega) ⟨by decide, by decide⟩ (Nat.le_of_ble_eq_true rfl) (by decide) ⟨Nat.zero_le _, Nat.zero_le _⟩ ?_
  exact go_lret hF hr hlk dX6_cut_7 ⟨by rfl, rfl⟩
