/-! Bodies with a named end; loops. -/
section GO
variable {E : En} {p : Program} {e : Env} {R : Room} {s : State} {m : MethodId} {args : Array Value} {below : List Frame} {meth : Method} {c : Code} {Q : State → Prop} {cc : ByteArray} {nL : Nat} {own : String} {d : Nat} {k : Nat × Nat} {N : Nat} {σ : Nat → va_E} {lv lv' : List (Nat × Value)} {st : List Value} {pc : Nat}
theorem CT.of2 {M : Mth} {mc ms : Nat} {as : List Value} {post : Option Value → Nat → (Nat → va_E) → Prop} (hy : plainName M.1.cls = true) (hd : M.1.cls = own) (hn : (lg_sl as).length ≤ M.2.2.1)
    (body : ∀ p e R s m args below meth c Q, Fx E M.2.1 M.2.2.1 own d p R s m args c → meth.sig.returnType = M.2.2.2 → meth.locks = false → meth.name = M.1.name → (mc ≠ 0 → s.heap.size = ez E + N) → R = rmD d mc ms → Q = MQ below (Qp E post) args s mc ms (eA E) →
      Go E p e R s m args below meth c Q M.2.2.1 (0, 0) N σ (lv_args 0 as) [] 0) : CT E M d mc ms as N σ post :=
  CT.of hy hd hn (fun p e s m args below meth c h1 h2 h3 h4 h5 => body p e _ s m args below meth c _ h1 h2 h3 h4 h5 rfl rfl)
theorem go_iretQ {post : Int → (Nat → va_E) → Prop} {x : Int} (hF : Fx E cc nL own d p R s m args c) (hr : meth.sig.returnType = some .int) (hlk : meth.locks = false) (hQ : Q = MQ below (Qp E (pI N post)) args s 0 0 (eA E)) (hd : decode cc pc = .ok (.ireturn, 1)) (hp : post x σ) : Go E p e R s m args below meth c Q nL (0, 0) N σ lv [vi x] pc := by
  rw [hQ]; exact go_iret hF hr hlk hd hp
theorem go_zretQ {post : Int → (Nat → va_E) → Prop} {x : Int} (hF : Fx E cc nL own d p R s m args c) (hr : meth.sig.returnType = some .boolean) (hlk : meth.locks = false) (hQ : Q = MQ below (Qp E (pI N post)) args s 0 0 (eA E)) (hd : decode cc pc = .ok (.ireturn, 1)) (hx : x = 0 ∨ x = 1) (hp : post x σ) : Go E p e R s m args below meth c Q nL (0, 0) N σ lv [vi x] pc := by
  rw [hQ]; exact go_zret hF hr hlk hd hx hp
theorem go_lretQ {post : Int → (Nat → va_E) → Prop} {x : Int} (hF : Fx E cc nL own d p R s m args c) (hr : meth.sig.returnType = some .long) (hlk : meth.locks = false) (hQ : Q = MQ below (Qp E (pL N post)) args s 0 0 (eA E)) (hd : decode cc pc = .ok (.lreturn, 1)) (hp : post x σ) : Go E p e R s m args below meth c Q nL (0, 0) N σ lv [vl x] pc := by
  rw [hQ]; exact go_lret hF hr hlk hd hp
theorem go_vretQ {post : (Nat → va_E) → Prop} (hF : Fx E cc nL own d p R s m args c) (hr : meth.sig.returnType = none) (hlk : meth.locks = false) (hQ : Q = MQ below (Qp E (pV N post)) args s 0 0 (eA E)) (hd : decode cc pc = .ok (.return_, 1)) (hp : post σ) : Go E p e R s m args below meth c Q nL (0, 0) N σ lv [] pc := by
  rw [hQ]; exact go_vret hF hr hlk hd hp
theorem cell_ext {E : En} {n : Nat} {g g' : Int → Int} (h : ∀ j : Int, 0 ≤ j → j < n → g j = g' j) : vp_cell (ec E 0) (n, Sum.inl (fun j : Nat => iI (g j))) = vp_cell (ec E 0) (n, Sum.inl (fun j : Nat => iI (g' j))) := by
  rw [vp_cell_i, vp_cell_i]
  unfold arrV
  congr 1
  apply Array.ext
  · simp
  · intro t h1 h2
    simp
    simp at h1
    rw [h t (by omega) (by omega)]
/-- what lies beyond an array's end is nobody's -/
theorem go_ai (i n : Nat) {g : Int → Int} (g' : Int → Int) (hi : i < N) (hc : σ i = ai E n g) (hg : ∀ j : Int, 0 ≤ j → j < n → g j = g' j) (h : ∀ σ' : Nat → va_E, σ' i = ai E n g' → (∀ j, j ≠ i → σ' j = σ j) → Go E p e R s m args below meth c Q nL k N σ' lv st pc) : Go E p e R s m args below meth c Q nL k N σ lv st pc := by
  intro H locs ls hP hS hl
  refine h (va_up σ i (ai E n g')) (va_up_self _ _ _) (fun j hj => va_up_ne _ _ hj) H locs ls ?_ hS hl
  have e := wd_set (E := E) (N := N) (σ := σ) (σ' := va_up σ i (ai E n g')) (i := i) (x := ai E n g') (va_up_self _ _ _) (fun j hj => va_up_ne _ _ hj)
  rw [Hp, ← e]
  intro q x hx
  by_cases hqi : q = i
  · subst hqi
    have hlen : q < (wd E N σ).length := by simpa [wd] using hi
    rw [List.getElem?_set_self hlen] at hx
    cases hx
    have h1 := hP q _ (at_of hi hc)
    have h2 : H[ez E + q]? = some (vp_cell (ec E 0) (n, Sum.inl (fun j : Nat => iI (g j)))) := h1
    rw [cell_ext hg] at h2
    exact h2
  · rw [List.getElem?_set_ne (Ne.symm hqi)] at hx
    exact hP q x hx
end GO

set_option maxHeartbeats 4000000 in
set_option maxRecDepth 100000 in
theorem c_J7_fill (E : En) (N : Nat) (σ : Nat → va_E) (i len : Nat) (g : Int → Int) (v : Int) (hi : i < N) (hlen : len ≤ 65536) (hc : σ i = ai E len g) : CV E M_J7_fill_53178 1 [vr E i, vi v] N σ (fun σ' => σ' i = ai E len (fun _ => v) ∧ ∀ j, j ≠ i → σ' j = σ j) := by
  refine CT.of2 (own := RJ7) (by decide) rfl (Nat.le_of_ble_eq_true rfl) ?_
  intro p e R s m args below meth c Q hF hr hlk hnm hz hR hQ
  refine go_iconst (pc := 0) hF dJ7_fill_53178_0 ?_
  refine go_istore_n (pc := 1) hF [(2, vi 0), (0, vr E i), (1, vi v)] dJ7_fill_53178_1 rfl (by decide) ?_
  refine go_aload_n (pc := 2) hF dJ7_fill_53178_2 1 rfl ?_
  refine go_alen (pc := 3) hF dJ7_fill_53178_3 hi hc ?_
  refine go_istore_n (pc := 4) hF [(3, vi len), (2, vi 0), (0, vr E i), (1, vi v)] dJ7_fill_53178_4 rfl (by decide) ?_
  have loop : ∀ (n : Nat) (q : Int) (g : Int → Int) (τ : Nat → va_E), (len : Int) - q < n → 0 ≤ q ∧ q ≤ len → (∀ j : Int, 0 ≤ j → j < q → g j = v) → τ i = ai E len g → (∀ j : Nat, j ≠ i → τ j = σ j) → Go E p e R s m args below meth c Q 4 (0, 0) N τ [(3, vi len), (2, vi q), (0, vr E i), (1, vi v)] [] 5 := by
    intro n
    induction n with
    | zero => intro q g τ hfu hq hg c_a_loop fr_loop; exfalso; omega
    | succ n ih =>
      intro q g τ hfu hq hg c_a_loop fr_loop
      refine go_iload_n (pc := 5) hF dJ7_fill_53178_5 1 rfl ?_
      refine go_iload_n (pc := 6) hF dJ7_fill_53178_6 0 rfl ?_
      refine go_icmp_ge (pc := 7) hF 20 dJ7_fill_53178_7 (by decide) (by omega) (by omega) (fun b7 => ?_) (fun b7 => ?_)
      · refine go_ai i len (fun _ => v) hi c_a_loop (fun j h1 h2 => hg j h1 (by omega)) (fun τ2 w1 w2 => ?_)
        exact go_vretQ hF hr hlk hQ dJ7_fill_53178_20 ⟨w1, fun j hj => by rw [w2 j (by omega), fr_loop j (by omega)]⟩
      · refine go_aload_n (pc := 10) hF dJ7_fill_53178_10 2 rfl ?_
        refine go_iload_n (pc := 11) hF dJ7_fill_53178_11 1 rfl ?_
        refine go_iload_n (pc := 12) hF dJ7_fill_53178_12 3 rfl ?_
        refine go_iast (pc := 13) hF dJ7_fill_53178_13 hi c_a_loop (by omega) (fun s1 u_s1 f_s1 => ?_) hlen
        refine go_iinc (pc := 14) hF [(2, vi (q + 1)), (3, vi len), (0, vr E i), (1, vi v)] dJ7_fill_53178_14 1 rfl rfl (by decide) ?_
        refine go_goto (pc := 17) hF 5 dJ7_fill_53178_17 (by decide) ?_
        refine go_lv [(3, vi len), (2, vi (q + 1)), (0, vr E i), (1, vi v)] [1, 0, 2, 3] rfl ?_
        exact ih _ _ s1 (by omega) (by omega) (fun j h1 h2 => by by_cases h3 : j = q; (subst h3; exact up_self _ _ _); (rw [up_ne _ _ h3]; exact hg j h1 (by omega))) u_s1 (fun j hj => by rw [f_s1 j (by omega), fr_loop j (by omega)])
  exact loop (len + 1) 0 g σ (by omega) (by omega) (fun j h1 h2 => absurd h1 (by omega)) hc (fun _ _ => rfl)
def pc6 (x : Int) : Int := x % 2 + x / 2 % 2 + x / 4 % 2 + x / 8 % 2 + x / 16 % 2 + x / 32 % 2
/-- 1 and v and v times v and so on, cut -/
def pws (v : Int) : Nat → Int × Int
  | 0 => (1, 1)
  | n + 1 => (min ((pws v n).1 + min ((pws v n).2 * v) 1000000000) 1000000000, min ((pws v n).2 * v) 1000000000)
theorem pws_rg {v : Int} (hv : 1 ≤ v ∧ v ≤ 1000000000) : ∀ n, (1 ≤ (pws v n).1 ∧ (pws v n).1 ≤ 1000000000) ∧ (1 ≤ (pws v n).2 ∧ (pws v n).2 ≤ 1000000000)
  | 0 => by simp [pws]
  | n + 1 => by
    obtain ⟨h1, h2⟩ := pws_rg hv n
    have h3 : 1 ≤ (pws v n).2 * v := Int.le_trans (by omega) (Int.mul_le_mul_of_nonneg_left hv.1 (by omega : (0 : Int) ≤ (pws v n).2))
    simp only [pws]
    omega
theorem mul9 {a b : Int} (ha : 0 ≤ a ∧ a ≤ 1000000000) (hb : 0 ≤ b ∧ b ≤ 2000000000) : 0 ≤ a * b ∧ a * b ≤ 2000000000000000000 := by
  refine ⟨Int.mul_nonneg ha.1 hb.1, ?_⟩
  have h1 : a * b ≤ 1000000000 * b := Int.mul_le_mul_of_nonneg_right ha.2 hb.1
  omega
set_option maxHeartbeats 4000000 in
set_option maxRecDepth 100000 in
theorem c_X11_bits (E : En) (N : Nat) (σ : Nat → va_E) (x : Int) (hx : 0 ≤ x ∧ x < 64) : CP E M_X11_bits 1 [vi x] N σ (pc6 x) := by
  refine CT.of2 (own := RX11) (by decide) rfl (Nat.le_of_ble_eq_true rfl) ?_
  intro p e R s m args below meth c Q hF hr hlk hnm hz hR hQ
  refine go_iconst (pc := 0) hF dX11_bits_0 ?_
  refine go_istore_n (pc := 1) hF [(1, vi 0), (0, vi x)] dX11_bits_1 rfl (by decide) ?_
  refine go_iload_n (pc := 2) hF dX11_bits_2 1 rfl ?_
  refine go_istore_n (pc := 3) hF [(2, vi x), (1, vi 0), (0, vi x)] dX11_bits_3 rfl (by decide) ?_
  refine go_iload_n (pc := 4) hF dX11_bits_4 0 rfl ?_
  refine go_if_le (pc := 5) hF 21 dX11_bits_5 (by decide) (by omega) (fun b5 => ?_) (fun b5 => ?_)
  · refine go_iload_n (pc := 21) hF dX11_bits_21 1 rfl ?_
    exact go_iretQ hF hr hlk hQ dX11_bits_22 ⟨by simp only [pc6]; omega, rfl⟩
  · refine go_iload_n (pc := 8) hF dX11_bits_8 1 rfl ?_
    refine go_iload_n (pc := 9) hF dX11_bits_9 0 rfl ?_
    refine go_iconst (pc := 10) hF dX11_bits_10 ?_
    refine go_iand (pc := 11) hF (x % 2) (b_and 1 1 2 (by decide) (by decide) (by omega)) dX11_bits_11 ?_
    refine go_iadd (pc := 12) hF dX11_bits_12 ?_
    refine go_istore_n (pc := 13) hF [(1, vi (0 + (x % 2))), (2, vi x), (0, vi x)] dX11_bits_13 rfl (by decide) ?_
    refine go_iload_n (pc := 14) hF dX11_bits_14 1 rfl ?_
    refine go_iconst (pc := 15) hF dX11_bits_15 ?_
    refine go_ishr (pc := 16) hF (x / 2) (b_shr 1 2 (by decide) (by decide) (by omega)) dX11_bits_16 ?_
    refine go_istore_n (pc := 17) hF [(2, vi (x / 2)), (1, vi (0 + (x % 2))), (0, vi x)] dX11_bits_17 rfl (by decide) ?_
    refine go_goto (pc := 18) hF 4 dX11_bits_18 (by decide) ?_
    refine go_iload_n (pc := 4) hF dX11_bits_4 0 rfl ?_
    refine go_if_le (pc := 5) hF 21 dX11_bits_5 (by decide) (by omega) (fun b5 => ?_) (fun b5 => ?_)
    · refine go_iload_n (pc := 21) hF dX11_bits_21 1 rfl ?_
      exact go_iretQ hF hr hlk hQ dX11_bits_22 ⟨by simp only [pc6]; omega, rfl⟩
    · refine go_iload_n (pc := 8) hF dX11_bits_8 1 rfl ?_
      refine go_iload_n (pc := 9) hF dX11_bits_9 0 rfl ?_
      refine go_iconst (pc := 10) hF dX11_bits_10 ?_
      refine go_iand (pc := 11) hF ((x / 2) % 2) (b_and 1 1 2 (by decide) (by decide) (by omega)) dX11_bits_11 ?_
      refine go_iadd (pc := 12) hF dX11_bits_12 ?_
      refine go_istore_n (pc := 13) hF [(1, vi ((0 + (x % 2)) + ((x / 2) % 2))), (2, vi (x / 2)), (0, vi x)] dX11_bits_13 rfl (by decide) ?_
      refine go_iload_n (pc := 14) hF dX11_bits_14 1 rfl ?_
      refine go_iconst (pc := 15) hF dX11_bits_15 ?_
      refine go_ishr (pc := 16) hF ((x / 2) / 2) (b_shr 1 2 (by decide) (by decide) (by omega)) dX11_bits_16 ?_
      refine go_istore_n (pc := 17) hF [(2, vi ((x / 2) / 2)), (1, vi ((0 + (x % 2)) + ((x / 2) % 2))), (0, vi x)] dX11_bits_17 rfl (by decide) ?_
      refine go_goto (pc := 18) hF 4 dX11_bits_18 (by decide) ?_
      refine go_iload_n (pc := 4) hF dX11_bits_4 0 rfl ?_
      refine go_if_le (pc := 5) hF 21 dX11_bits_5 (by decide) (by omega) (fun b5 => ?_) (fun b5 => ?_)
      · refine go_iload_n (pc := 21) hF dX11_bits_21 1 rfl ?_
        exact go_iretQ hF hr hlk hQ dX11_bits_22 ⟨by simp only [pc6]; omega, rfl⟩
      · refine go_iload_n (pc := 8) hF dX11_bits_8 1 rfl ?_
        refine go_iload_n (pc := 9) hF dX11_bits_9 0 rfl ?_
        refine go_iconst (pc := 10) hF dX11_bits_10 ?_
        refine go_iand (pc := 11) hF (((x / 2) / 2) % 2) (b_and 1 1 2 (by decide) (by decide) (by omega)) dX11_bits_11 ?_
        refine go_iadd (pc := 12) hF dX11_bits_12 ?_
        refine go_istore_n (pc := 13) hF [(1, vi (((0 + (x % 2)) + ((x / 2) % 2)) + (((x / 2) / 2) % 2))), (2, vi ((x / 2) / 2)), (0, vi x)] dX11_bits_13 rfl (by decide) ?_
        refine go_iload_n (pc := 14) hF dX11_bits_14 1 rfl ?_
        refine go_iconst (pc := 15) hF dX11_bits_15 ?_
        refine go_ishr (pc := 16) hF (((x / 2) / 2) / 2) (b_shr 1 2 (by decide) (by decide) (by omega)) dX11_bits_16 ?_
        refine go_istore_n (pc := 17) hF [(2, vi (((x / 2) / 2) / 2)), (1, vi (((0 + (x % 2)) + ((x / 2) % 2)) + (((x / 2) / 2) % 2))), (0, vi x)] dX11_bits_17 rfl (by decide) ?_
        refine go_goto (pc := 18) hF 4 dX11_bits_18 (by decide) ?_
        refine go_iload_n (pc := 4) hF dX11_bits_4 0 rfl ?_
        refine go_if_le (pc := 5) hF 21 dX11_bits_5 (by decide) (by omega) (fun b5 => ?_) (fun b5 => ?_)
        · refine go_iload_n (pc := 21) hF dX11_bits_21 1 rfl ?_
          exact go_iretQ hF hr hlk hQ dX11_bits_22 ⟨by simp only [pc6]; omega, rfl⟩
        · refine go_iload_n (pc := 8) hF dX11_bits_8 1 rfl ?_
          refine go_iload_n (pc := 9) hF dX11_bits_9 0 rfl ?_
          refine go_iconst (pc := 10) hF dX11_bits_10 ?_
          refine go_iand (pc := 11) hF ((((x / 2) / 2) / 2) % 2) (b_and 1 1 2 (by decide) (by decide) (by omega)) dX11_bits_11 ?_
          refine go_iadd (pc := 12) hF dX11_bits_12 ?_
          refine go_istore_n (pc := 13) hF [(1, vi ((((0 + (x % 2)) + ((x / 2) % 2)) + (((x / 2) / 2) % 2)) + ((((x / 2) / 2) / 2) % 2))), (2, vi (((x / 2) / 2) / 2)), (0, vi x)] dX11_bits_13 rfl (by decide) ?_
          refine go_iload_n (pc := 14) hF dX11_bits_14 1 rfl ?_
          refine go_iconst (pc := 15) hF dX11_bits_15 ?_
          refine go_ishr (pc := 16) hF ((((x / 2) / 2) / 2) / 2) (b_shr 1 2 (by decide) (by decide) (by omega)) dX11_bits_16 ?_
          refine go_istore_n (pc := 17) hF [(2, vi ((((x / 2) / 2) / 2) / 2)), (1, vi ((((0 + (x % 2)) + ((x / 2) % 2)) + (((x / 2) / 2) % 2)) + ((((x / 2) / 2) / 2) % 2))), (0, vi x)] dX11_bits_17 rfl (by decide) ?_
          refine go_goto (pc := 18) hF 4 dX11_bits_18 (by decide) ?_
          refine go_iload_n (pc := 4) hF dX11_bits_4 0 rfl ?_
          refine go_if_le (pc := 5) hF 21 dX11_bits_5 (by decide) (by omega) (fun b5 => ?_) (fun b5 => ?_)
          · refine go_iload_n (pc := 21) hF dX11_bits_21 1 rfl ?_
            exact go_iretQ hF hr hlk hQ dX11_bits_22 ⟨by simp only [pc6]; omega, rfl⟩
          · refine go_iload_n (pc := 8) hF dX11_bits_8 1 rfl ?_
            refine go_iload_n (pc := 9) hF dX11_bits_9 0 rfl ?_
            refine go_iconst (pc := 10) hF dX11_bits_10 ?_
            refine go_iand (pc := 11) hF (((((x / 2) / 2) / 2) / 2) % 2) (b_and 1 1 2 (by decide) (by decide) (by omega)) dX11_bits_11 ?_
            refine go_iadd (pc := 12) hF dX11_bits_12 ?_
            refine go_istore_n (pc := 13) hF [(1, vi (((((0 + (x % 2)) + ((x / 2) % 2)) + (((x / 2) / 2) % 2)) + ((((x / 2) / 2) / 2) % 2)) + (((((x / 2) / 2) / 2) / 2) % 2))), (2, vi ((((x / 2) / 2) / 2) / 2)), (0, vi x)] dX11_bits_13 rfl (by decide) ?_
            refine go_iload_n (pc := 14) hF dX11_bits_14 1 rfl ?_
            refine go_iconst (pc := 15) hF dX11_bits_15 ?_
            refine go_ishr (pc := 16) hF (((((x / 2) / 2) / 2) / 2) / 2) (b_shr 1 2 (by decide) (by decide) (by omega)) dX11_bits_16 ?_
            refine go_istore_n (pc := 17) hF [(2, vi (((((x / 2) / 2) / 2) / 2) / 2)), (1, vi (((((0 + (x % 2)) + ((x / 2) % 2)) + (((x / 2) / 2) % 2)) + ((((x / 2) / 2) / 2) % 2)) + (((((x / 2) / 2) / 2) / 2) % 2))), (0, vi x)] dX11_bits_17 rfl (by decide) ?_
            refine go_goto (pc := 18) hF 4 dX11_bits_18 (by decide) ?_
            refine go_iload_n (pc := 4) hF dX11_bits_4 0 rfl ?_
            refine go_if_le (pc := 5) hF 21 dX11_bits_5 (by decide) (by omega) (fun b5 => ?_) (fun b5 => ?_)
            · refine go_iload_n (pc := 21) hF dX11_bits_21 1 rfl ?_
              exact go_iretQ hF hr hlk hQ dX11_bits_22 ⟨by simp only [pc6]; omega, rfl⟩
            · refine go_iload_n (pc := 8) hF dX11_bits_8 1 rfl ?_
              refine go_iload_n (pc := 9) hF dX11_bits_9 0 rfl ?_
              refine go_iconst (pc := 10) hF dX11_bits_10 ?_
              refine go_iand (pc := 11) hF ((((((x / 2) / 2) / 2) / 2) / 2) % 2) (b_and 1 1 2 (by decide) (by decide) (by omega)) dX11_bits_11 ?_
              refine go_iadd (pc := 12) hF dX11_bits_12 ?_
              refine go_istore_n (pc := 13) hF [(1, vi ((((((0 + (x % 2)) + ((x / 2) % 2)) + (((x / 2) / 2) % 2)) + ((((x / 2) / 2) / 2) % 2)) + (((((x / 2) / 2) / 2) / 2) % 2)) + ((((((x / 2) / 2) / 2) / 2) / 2) % 2))), (2, vi (((((x / 2) / 2) / 2) / 2) / 2)), (0, vi x)] dX11_bits_13 rfl (by decide) ?_
              refine go_iload_n (pc := 14) hF dX11_bits_14 1 rfl ?_
              refine go_iconst (pc := 15) hF dX11_bits_15 ?_
              refine go_ishr (pc := 16) hF ((((((x / 2) / 2) / 2) / 2) / 2) / 2) (b_shr 1 2 (by decide) (by decide) (by omega)) dX11_bits_16 ?_
              refine go_istore_n (pc := 17) hF [(2, vi ((((((x / 2) / 2) / 2) / 2) / 2) / 2)), (1, vi ((((((0 + (x % 2)) + ((x / 2) % 2)) + (((x / 2) / 2) % 2)) + ((((x / 2) / 2) / 2) % 2)) + (((((x / 2) / 2) / 2) / 2) % 2)) + ((((((x / 2) / 2) / 2) / 2) / 2) % 2))), (0, vi x)] dX11_bits_17 rfl (by decide) ?_
              refine go_goto (pc := 18) hF 4 dX11_bits_18 (by decide) ?_
              refine go_iload_n (pc := 4) hF dX11_bits_4 0 rfl ?_
              refine go_if_le (pc := 5) hF 21 dX11_bits_5 (by decide) (by omega) (fun b5 => ?_) (fun b5 => ?_)
              · refine go_iload_n (pc := 21) hF dX11_bits_21 1 rfl ?_
                exact go_iretQ hF hr hlk hQ dX11_bits_22 ⟨by simp only [pc6]; omega, rfl⟩
              · exact absurd b5 (by omega)
set_option maxHeartbeats 4000000 in
set_option maxRecDepth 100000 in
theorem c_X11_powers (E : En) (N : Nat) (σ : Nat → va_E) (v t : Int) (hv : 1 ≤ v ∧ v ≤ 1000000000) (ht : 0 ≤ t ∧ t ≤ 9) : CPL E M_X11_powers 3 [vl v, vi t] N σ (pws v t.toNat).1 := by
  refine CT.of2 (own := RX11) (by decide) rfl (Nat.le_of_ble_eq_true rfl) ?_
  intro p e R s m args below meth c Q hF hr hlk hnm hz hR hQ
  refine go_lconst (pc := 0) (v := 1) hF dX11_powers_0 (by decide) ?_
  refine go_lstore_n (pc := 1) hF [(3, vl 1), (0, vl v), (2, vi t)] dX11_powers_1 rfl (by decide) ?_
  refine go_lconst (pc := 2) (v := 1) hF dX11_powers_2 (by decide) ?_
  refine go_lstore (pc := 3) hF [(5, vl 1), (3, vl 1), (0, vl v), (2, vi t)] dX11_powers_3 rfl (by decide) ?_
  refine go_iconst (pc := 5) hF dX11_powers_5 ?_
  refine go_istore (pc := 6) hF [(7, vi 0), (5, vl 1), (3, vl 1), (0, vl v), (2, vi t)] dX11_powers_6 rfl (by decide) ?_
  have loop : ∀ (n : Nat) (i : Int), t - i < n → 0 ≤ i ∧ i ≤ t → Go E p e R s m args below meth c Q 8 (0, 0) N σ [(7, vi i), (5, vl ((pws v i.toNat).2)), (3, vl ((pws v i.toNat).1)), (0, vl v), (2, vi t)] [] 8 := by
    intro n
    induction n with
    | zero => intro i hfu hi; exfalso; omega
    | succ n ih =>
      intro i hfu hi
      obtain ⟨z1, z2⟩ := pws_rg hv i.toNat
      have z3 := mul9 (a := (pws v i.toNat).2) (b := v) (by omega) (by omega)
      refine go_iload (pc := 8) hF dX11_powers_8 0 rfl ?_
      refine go_iload_n (pc := 10) hF dX11_powers_10 4 rfl ?_
      refine go_icmp_ge (pc := 11) hF 37 dX11_powers_11 (by decide) (by omega) (by omega) (fun b11 => ?_) (fun b11 => ?_)
      · refine go_lload_n (pc := 37) hF dX11_powers_37 2 rfl ?_
        exact go_lretQ hF hr hlk hQ dX11_powers_38 ⟨by rw [show i = t by omega], rfl⟩
      · refine go_lload (pc := 14) hF dX11_powers_14 1 rfl ?_
        refine go_lload_n (pc := 16) hF dX11_powers_16 3 rfl ?_
        refine go_lmul (pc := 17) hF dX11_powers_17 ?_
        refine go_callSPL (pc := 18) hF [vl (((pws v i.toNat).2) * v)] [] ms_X11_264 dX11_powers_18 (c_X11_capped E N σ (((pws v i.toNat).2) * v) (by omega)) rfl rfl (Nat.le_of_ble_eq_true rfl) (by decide) ⟨Nat.zero_le _, Nat.zero_le _⟩ ?_
        refine go_lstore (pc := 21) hF [(5, vl (min (((pws v i.toNat).2) * v) 1000000000)), (7, vi i), (3, vl ((pws v i.toNat).1)), (0, vl v), (2, vi t)] dX11_powers_21 rfl (by decide) ?_
        refine go_lload_n (pc := 23) hF dX11_powers_23 2 rfl ?_
        refine go_lload (pc := 24) hF dX11_powers_24 0 rfl ?_
        refine go_ladd (pc := 26) hF dX11_powers_26 ?_
        refine go_callSPL (pc := 27) hF [vl (((pws v i.toNat).1) + (min (((pws v i.toNat).2) * v) 1000000000))] [] ms_X11_264 dX11_powers_27 (c_X11_capped E N σ (((pws v i.toNat).1) + (min (((pws v i.toNat).2) * v) 1000000000)) (by omega)) rfl rfl (Nat.le_of_ble_eq_true rfl) (by decide) ⟨Nat.zero_le _, Nat.zero_le _⟩ ?_
        refine go_lstore_n (pc := 30) hF [(3, vl (min (((pws v i.toNat).1) + (min (((pws v i.toNat).2) * v) 1000000000)) 1000000000)), (5, vl (min (((pws v i.toNat).2) * v) 1000000000)), (7, vi i), (0, vl v), (2, vi t)] dX11_powers_30 rfl (by decide) ?_
        refine go_iinc (pc := 31) hF [(7, vi (i + 1)), (3, vl (min (((pws v i.toNat).1) + (min (((pws v i.toNat).2) * v) 1000000000)) 1000000000)), (5, vl (min (((pws v i.toNat).2) * v) 1000000000)), (0, vl v), (2, vi t)] dX11_powers_31 2 rfl rfl (by decide) ?_
        have z4 : pws v (i + 1).toNat = (min ((pws v i.toNat).1 + min ((pws v i.toNat).2 * v) 1000000000) 1000000000, min ((pws v i.toNat).2 * v) 1000000000) := by rw [show (i + 1).toNat = i.toNat + 1 by omega]; rfl
        refine go_lv [(7, vi (i + 1)), (3, vl ((pws v (i + 1).toNat).1)), (5, vl ((pws v (i + 1).toNat).2)), (0, vl v), (2, vi t)] [0, 1, 2, 3, 4] (by rw [z4]; rfl) ?_
        refine go_goto (pc := 34) hF 8 dX11_powers_34 (by decide) ?_
        refine go_lv [(7, vi (i + 1)), (5, vl ((pws v (i + 1).toNat).2)), (3, vl ((pws v (i + 1).toNat).1)), (0, vl v), (2, vi t)] [0, 2, 1, 3, 4] rfl ?_
        exact ih (i + 1) (by omega) (by omega)
  exact loop (t.toNat + 1) 0 (by omega) (by omega) 
set_option maxHeartbeats 4000000 in
set_option maxRecDepth 100000 in
theorem c_X6_waysRound (E : En) (N : Nat) (σ : Nat → va_E) (v t : Int) (hv : 1 ≤ v ∧ v ≤ 1000000000) (ht : 0 ≤ t ∧ t ≤ 9) : CPL E M_X6_waysRound 3 [vl v, vi t] N σ (pws v t.toNat).1 := by
  refine CT.of2 (own := RX6) (by decide) rfl (Nat.le_of_ble_eq_true rfl) ?_
  intro p e R s m args below meth c Q hF hr hlk hnm hz hR hQ
  refine go_lconst (pc := 0) (v := 1) hF dX6_waysRound_0 (by decide) ?_
  refine go_lstore_n (pc := 1) hF [(3, vl 1), (0, vl v), (2, vi t)] dX6_waysRound_1 rfl (by decide) ?_
  refine go_lconst (pc := 2) (v := 1) hF dX6_waysRound_2 (by decide) ?_
  refine go_lstore (pc := 3) hF [(5, vl 1), (3, vl 1), (0, vl v), (2, vi t)] dX6_waysRound_3 rfl (by decide) ?_
  refine go_iconst (pc := 5) hF dX6_waysRound_5 ?_
  refine go_istore (pc := 6) hF [(7, vi 0), (5, vl 1), (3, vl 1), (0, vl v), (2, vi t)] dX6_waysRound_6 rfl (by decide) ?_
  have loop : ∀ (n : Nat) (i : Int), t - i < n → 0 ≤ i ∧ i ≤ t → Go E p e R s m args below meth c Q 8 (0, 0) N σ [(7, vi i), (5, vl ((pws v i.toNat).2)), (3, vl ((pws v i.toNat).1)), (0, vl v), (2, vi t)] [] 8 := by
    intro n
    induction n with
    | zero => intro i hfu hi; exfalso; omega
    | succ n ih =>
      intro i hfu hi
      obtain ⟨z1, z2⟩ := pws_rg hv i.toNat
      have z3 := mul9 (a := (pws v i.toNat).2) (b := v) (by omega) (by omega)
      refine go_iload (pc := 8) hF dX6_waysRound_8 0 rfl ?_
      refine go_iload_n (pc := 10) hF dX6_waysRound_10 4 rfl ?_
      refine go_icmp_ge (pc := 11) hF 37 dX6_waysRound_11 (by decide) (by omega) (by omega) (fun b11 => ?_) (fun b11 => ?_)
      · refine go_lload_n (pc := 37) hF dX6_waysRound_37 2 rfl ?_
        exact go_lretQ hF hr hlk hQ dX6_waysRound_38 ⟨by rw [show i = t by omega], rfl⟩
      · refine go_lload (pc := 14) hF dX6_waysRound_14 1 rfl ?_
        refine go_lload_n (pc := 16) hF dX6_waysRound_16 3 rfl ?_
        refine go_lmul (pc := 17) hF dX6_waysRound_17 ?_
        refine go_callSPL (pc := 18) hF [vl (((pws v i.toNat).2) * v)] [] ms_X6_91 dX6_waysRound_18 (c_X6_cut E N σ (((pws v i.toNat).2) * v) (by omega)) rfl rfl (Nat.le_of_ble_eq_true rfl) (by decide) ⟨Nat.zero_le _, Nat.zero_le _⟩ ?_
        refine go_lstore (pc := 21) hF [(5, vl (min (((pws v i.toNat).2) * v) 1000000000)), (7, vi i), (3, vl ((pws v i.toNat).1)), (0, vl v), (2, vi t)] dX6_waysRound_21 rfl (by decide) ?_
        refine go_lload_n (pc := 23) hF dX6_waysRound_23 2 rfl ?_
        refine go_lload (pc := 24) hF dX6_waysRound_24 0 rfl ?_
        refine go_ladd (pc := 26) hF dX6_waysRound_26 ?_
        refine go_callSPL (pc := 27) hF [vl (((pws v i.toNat).1) + (min (((pws v i.toNat).2) * v) 1000000000))] [] ms_X6_91 dX6_waysRound_27 (c_X6_cut E N σ (((pws v i.toNat).1) + (min (((pws v i.toNat).2) * v) 1000000000)) (by omega)) rfl rfl (Nat.le_of_ble_eq_true rfl) (by decide) ⟨Nat.zero_le _, Nat.zero_le _⟩ ?_
        refine go_lstore_n (pc := 30) hF [(3, vl (min (((pws v i.toNat).1) + (min (((pws v i.toNat).2) * v) 1000000000)) 1000000000)), (5, vl (min (((pws v i.toNat).2) * v) 1000000000)), (7, vi i), (0, vl v), (2, vi t)] dX6_waysRound_30 rfl (by decide) ?_
        refine go_iinc (pc := 31) hF [(7, vi (i + 1)), (3, vl (min (((pws v i.toNat).1) + (min (((pws v i.toNat).2) * v) 1000000000)) 1000000000)), (5, vl (min (((pws v i.toNat).2) * v) 1000000000)), (0, vl v), (2, vi t)] dX6_waysRound_31 2 rfl rfl (by decide) ?_
        have z4 : pws v (i + 1).toNat = (min ((pws v i.toNat).1 + min ((pws v i.toNat).2 * v) 1000000000) 1000000000, min ((pws v i.toNat).2 * v) 1000000000) := by rw [show (i + 1).toNat = i.toNat + 1 by omega]; rfl
        refine go_lv [(7, vi (i + 1)), (3, vl ((pws v (i + 1).toNat).1)), (5, vl ((pws v (i + 1).toNat).2)), (0, vl v), (2, vi t)] [0, 1, 2, 3, 4] (by rw [z4]; rfl) ?_
        refine go_goto (pc := 34) hF 8 dX6_waysRound_34 (by decide) ?_
        refine go_lv [(7, vi (i + 1)), (5, vl ((pws v (i + 1).toNat).2)), (3, vl ((pws v (i + 1).toNat).1)), (0, vl v), (2, vi t)] [0, 2, 1, 3, 4] rfl ?_
        exact ih (i + 1) (by omega) (by omega)
  exact loop (t.toNat + 1) 0 (by omega) (by omega) 
set_option maxHeartbeats 4000000 in
set_option maxRecDepth 100000 in
theorem c_J6_bitCount_0 (E : En) (N : Nat) (σ : Nat → va_E) : CP E M_J6_bitCount_0f7a4 1 [vi 0] N σ (pc6 0) := by
  refine CT.of2 (own := RJ6) (by decide) rfl (Nat.le_of_ble_eq_true rfl) ?_
  intro p e R s m args below meth c Q hF hr hlk hnm hz hR hQ
  refine go_iload_n (pc := 0) hF dJ6_bitCount_0f7a4_0 0 rfl ?_
  refine go_iload_n (pc := 1) hF dJ6_bitCount_0f7a4_1 0 rfl ?_
  refine go_iconst (pc := 2) hF dJ6_bitCount_0f7a4_2 ?_
  refine go_iushr (pc := 3) hF 0 (by decide) dJ6_bitCount_0f7a4_3 ?_
  refine go_ldcw (pc := 4) hF kc_J6_265 dJ6_bitCount_0f7a4_4 ?_
  refine go_iand (pc := 7) hF 0 (by decide) dJ6_bitCount_0f7a4_7 ?_
  refine go_isub (pc := 8) hF dJ6_bitCount_0f7a4_8 ?_
  refine go_istore_n (pc := 9) hF [(0, vi 0)] dJ6_bitCount_0f7a4_9 rfl (by decide) ?_
  refine go_iload_n (pc := 10) hF dJ6_bitCount_0f7a4_10 0 rfl ?_
  refine go_ldcw (pc := 11) hF kc_J6_266 dJ6_bitCount_0f7a4_11 ?_
  refine go_iand (pc := 14) hF 0 (by decide) dJ6_bitCount_0f7a4_14 ?_
  refine go_iload_n (pc := 15) hF dJ6_bitCount_0f7a4_15 0 rfl ?_
  refine go_iconst (pc := 16) hF dJ6_bitCount_0f7a4_16 ?_
  refine go_iushr (pc := 17) hF 0 (by decide) dJ6_bitCount_0f7a4_17 ?_
  refine go_ldcw (pc := 18) hF kc_J6_266 dJ6_bitCount_0f7a4_18 ?_
  refine go_iand (pc := 21) hF 0 (by decide) dJ6_bitCount_0f7a4_21 ?_
  refine go_iadd (pc := 22) hF dJ6_bitCount_0f7a4_22 ?_
  refine go_istore_n (pc := 23) hF [(0, vi 0)] dJ6_bitCount_0f7a4_23 rfl (by decide) ?_
  refine go_iload_n (pc := 24) hF dJ6_bitCount_0f7a4_24 0 rfl ?_
  refine go_iload_n (pc := 25) hF dJ6_bitCount_0f7a4_25 0 rfl ?_
  refine go_iconst (pc := 26) hF dJ6_bitCount_0f7a4_26 ?_
  refine go_iushr (pc := 27) hF 0 (by decide) dJ6_bitCount_0f7a4_27 ?_
  refine go_iadd (pc := 28) hF dJ6_bitCount_0f7a4_28 ?_
  refine go_ldcw (pc := 29) hF kc_J6_267 dJ6_bitCount_0f7a4_29 ?_
  refine go_iand (pc := 32) hF 0 (by decide) dJ6_bitCount_0f7a4_32 ?_
  refine go_istore_n (pc := 33) hF [(0, vi 0)] dJ6_bitCount_0f7a4_33 rfl (by decide) ?_
  refine go_iload_n (pc := 34) hF dJ6_bitCount_0f7a4_34 0 rfl ?_
  refine go_iload_n (pc := 35) hF dJ6_bitCount_0f7a4_35 0 rfl ?_
  refine go_bipush (pc := 36) hF dJ6_bitCount_0f7a4_36 (by decide) ?_
  refine go_iushr (pc := 38) hF 0 (by decide) dJ6_bitCount_0f7a4_38 ?_
  refine go_iadd (pc := 39) hF dJ6_bitCount_0f7a4_39 ?_
  refine go_istore_n (pc := 40) hF [(0, vi 0)] dJ6_bitCount_0f7a4_40 rfl (by decide) ?_
  refine go_iload_n (pc := 41) hF dJ6_bitCount_0f7a4_41 0 rfl ?_
  refine go_iload_n (pc := 42) hF dJ6_bitCount_0f7a4_42 0 rfl ?_
  refine go_bipush (pc := 43) hF dJ6_bitCount_0f7a4_43 (by decide) ?_
  refine go_iushr (pc := 45) hF 0 (by decide) dJ6_bitCount_0f7a4_45 ?_
  refine go_iadd (pc := 46) hF dJ6_bitCount_0f7a4_46 ?_
  refine go_istore_n (pc := 47) hF [(0, vi 0)] dJ6_bitCount_0f7a4_47 rfl (by decide) ?_
  refine go_iload_n (pc := 48) hF dJ6_bitCount_0f7a4_48 0 rfl ?_
  refine go_bipush (pc := 49) hF dJ6_bitCount_0f7a4_49 (by decide) ?_
  refine go_iand (pc := 51) hF 0 (by decide) dJ6_bitCount_0f7a4_51 ?_
  exact go_iretQ hF hr hlk hQ dJ6_bitCount_0f7a4_52 ⟨by decide, rfl⟩
set_option maxHeartbeats 4000000 in
set_option maxRecDepth 100000 in
theorem c_J6_bitCount_1 (E : En) (N : Nat) (σ : Nat → va_E) : CP E M_J6_bitCount_0f7a4 1 [vi 1] N σ (pc6 1) := by
  refine CT.of2 (own := RJ6) (by decide) rfl (Nat.le_of_ble_eq_true rfl) ?_
  intro p e R s m args below meth c Q hF hr hlk hnm hz hR hQ
  refine go_iload_n (pc := 0) hF dJ6_bitCount_0f7a4_0 0 rfl ?_
  refine go_iload_n (pc := 1) hF dJ6_bitCount_0f7a4_1 0 rfl ?_
  refine go_iconst (pc := 2) hF dJ6_bitCount_0f7a4_2 ?_
  refine go_iushr (pc := 3) hF 0 (by decide) dJ6_bitCount_0f7a4_3 ?_
  refine go_ldcw (pc := 4) hF kc_J6_265 dJ6_bitCount_0f7a4_4 ?_
  refine go_iand (pc := 7) hF 0 (by decide) dJ6_bitCount_0f7a4_7 ?_
  refine go_isub (pc := 8) hF dJ6_bitCount_0f7a4_8 ?_
  refine go_istore_n (pc := 9) hF [(0, vi 1)] dJ6_bitCount_0f7a4_9 rfl (by decide) ?_
  refine go_iload_n (pc := 10) hF dJ6_bitCount_0f7a4_10 0 rfl ?_
  refine go_ldcw (pc := 11) hF kc_J6_266 dJ6_bitCount_0f7a4_11 ?_
  refine go_iand (pc := 14) hF 1 (by decide) dJ6_bitCount_0f7a4_14 ?_
  refine go_iload_n (pc := 15) hF dJ6_bitCount_0f7a4_15 0 rfl ?_
  refine go_iconst (pc := 16) hF dJ6_bitCount_0f7a4_16 ?_
  refine go_iushr (pc := 17) hF 0 (by decide) dJ6_bitCount_0f7a4_17 ?_
  refine go_ldcw (pc := 18) hF kc_J6_266 dJ6_bitCount_0f7a4_18 ?_
  refine go_iand (pc := 21) hF 0 (by decide) dJ6_bitCount_0f7a4_21 ?_
  refine go_iadd (pc := 22) hF dJ6_bitCount_0f7a4_22 ?_
  refine go_istore_n (pc := 23) hF [(0, vi 1)] dJ6_bitCount_0f7a4_23 rfl (by decide) ?_
  refine go_iload_n (pc := 24) hF dJ6_bitCount_0f7a4_24 0 rfl ?_
  refine go_iload_n (pc := 25) hF dJ6_bitCount_0f7a4_25 0 rfl ?_
  refine go_iconst (pc := 26) hF dJ6_bitCount_0f7a4_26 ?_
  refine go_iushr (pc := 27) hF 0 (by decide) dJ6_bitCount_0f7a4_27 ?_
  refine go_iadd (pc := 28) hF dJ6_bitCount_0f7a4_28 ?_
  refine go_ldcw (pc := 29) hF kc_J6_267 dJ6_bitCount_0f7a4_29 ?_
  refine go_iand (pc := 32) hF 1 (by decide) dJ6_bitCount_0f7a4_32 ?_
  refine go_istore_n (pc := 33) hF [(0, vi 1)] dJ6_bitCount_0f7a4_33 rfl (by decide) ?_
  refine go_iload_n (pc := 34) hF dJ6_bitCount_0f7a4_34 0 rfl ?_
  refine go_iload_n (pc := 35) hF dJ6_bitCount_0f7a4_35 0 rfl ?_
  refine go_bipush (pc := 36) hF dJ6_bitCount_0f7a4_36 (by decide) ?_
  refine go_iushr (pc := 38) hF 0 (by decide) dJ6_bitCount_0f7a4_38 ?_
  refine go_iadd (pc := 39) hF dJ6_bitCount_0f7a4_39 ?_
  refine go_istore_n (pc := 40) hF [(0, vi 1)] dJ6_bitCount_0f7a4_40 rfl (by decide) ?_
  refine go_iload_n (pc := 41) hF dJ6_bitCount_0f7a4_41 0 rfl ?_
  refine go_iload_n (pc := 42) hF dJ6_bitCount_0f7a4_42 0 rfl ?_
  refine go_bipush (pc := 43) hF dJ6_bitCount_0f7a4_43 (by decide) ?_
  refine go_iushr (pc := 45) hF 0 (by decide) dJ6_bitCount_0f7a4_45 ?_
  refine go_iadd (pc := 46) hF dJ6_bitCount_0f7a4_46 ?_
  refine go_istore_n (pc := 47) hF [(0, vi 1)] dJ6_bitCount_0f7a4_47 rfl (by decide) ?_
  refine go_iload_n (pc := 48) hF dJ6_bitCount_0f7a4_48 0 rfl ?_
  refine go_bipush (pc := 49) hF dJ6_bitCount_0f7a4_49 (by decide) ?_
  refine go_iand (pc := 51) hF 1 (by decide) dJ6_bitCount_0f7a4_51 ?_
  exact go_iretQ hF hr hlk hQ dJ6_bitCount_0f7a4_52 ⟨by decide, rfl⟩
set_option maxHeartbeats 4000000 in
set_option maxRecDepth 100000 in
theorem c_J6_bitCount_2 (E : En) (N : Nat) (σ : Nat → va_E) : CP E M_J6_bitCount_0f7a4 1 [vi 2] N σ (pc6 2) := by
  refine CT.of2 (own := RJ6) (by decide) rfl (Nat.le_of_ble_eq_true rfl) ?_
  intro p e R s m args below meth c Q hF hr hlk hnm hz hR hQ
  refine go_iload_n (pc := 0) hF dJ6_bitCount_0f7a4_0 0 rfl ?_
  refine go_iload_n (pc := 1) hF dJ6_bitCount_0f7a4_1 0 rfl ?_
  refine go_iconst (pc := 2) hF dJ6_bitCount_0f7a4_2 ?_
  refine go_iushr (pc := 3) hF 1 (by decide) dJ6_bitCount_0f7a4_3 ?_
  refine go_ldcw (pc := 4) hF kc_J6_265 dJ6_bitCount_0f7a4_4 ?_
  refine go_iand (pc := 7) hF 1 (by decide) dJ6_bitCount_0f7a4_7 ?_
  refine go_isub (pc := 8) hF dJ6_bitCount_0f7a4_8 ?_
  refine go_istore_n (pc := 9) hF [(0, vi 1)] dJ6_bitCount_0f7a4_9 rfl (by decide) ?_
  refine go_iload_n (pc := 10) hF dJ6_bitCount_0f7a4_10 0 rfl ?_
  refine go_ldcw (pc := 11) hF kc_J6_266 dJ6_bitCount_0f7a4_11 ?_
  refine go_iand (pc := 14) hF 1 (by decide) dJ6_bitCount_0f7a4_14 ?_
  refine go_iload_n (pc := 15) hF dJ6_bitCount_0f7a4_15 0 rfl ?_
  refine go_iconst (pc := 16) hF dJ6_bitCount_0f7a4_16 ?_
  refine go_iushr (pc := 17) hF 0 (by decide) dJ6_bitCount_0f7a4_17 ?_
  refine go_ldcw (pc := 18) hF kc_J6_266 dJ6_bitCount_0f7a4_18 ?_
  refine go_iand (pc := 21) hF 0 (by decide) dJ6_bitCount_0f7a4_21 ?_
  refine go_iadd (pc := 22) hF dJ6_bitCount_0f7a4_22 ?_
  refine go_istore_n (pc := 23) hF [(0, vi 1)] dJ6_bitCount_0f7a4_23 rfl (by decide) ?_
  refine go_iload_n (pc := 24) hF dJ6_bitCount_0f7a4_24 0 rfl ?_
  refine go_iload_n (pc := 25) hF dJ6_bitCount_0f7a4_25 0 rfl ?_
  refine go_iconst (pc := 26) hF dJ6_bitCount_0f7a4_26 ?_
  refine go_iushr (pc := 27) hF 0 (by decide) dJ6_bitCount_0f7a4_27 ?_
  refine go_iadd (pc := 28) hF dJ6_bitCount_0f7a4_28 ?_
  refine go_ldcw (pc := 29) hF kc_J6_267 dJ6_bitCount_0f7a4_29 ?_
  refine go_iand (pc := 32) hF 1 (by decide) dJ6_bitCount_0f7a4_32 ?_
  refine go_istore_n (pc := 33) hF [(0, vi 1)] dJ6_bitCount_0f7a4_33 rfl (by decide) ?_
  refine go_iload_n (pc := 34) hF dJ6_bitCount_0f7a4_34 0 rfl ?_
  refine go_iload_n (pc := 35) hF dJ6_bitCount_0f7a4_35 0 rfl ?_
  refine go_bipush (pc := 36) hF dJ6_bitCount_0f7a4_36 (by decide) ?_
  refine go_iushr (pc := 38) hF 0 (by decide) dJ6_bitCount_0f7a4_38 ?_
  refine go_iadd (pc := 39) hF dJ6_bitCount_0f7a4_39 ?_
  refine go_istore_n (pc := 40) hF [(0, vi 1)] dJ6_bitCount_0f7a4_40 rfl (by decide) ?_
  refine go_iload_n (pc := 41) hF dJ6_bitCount_0f7a4_41 0 rfl ?_
  refine go_iload_n (pc := 42) hF dJ6_bitCount_0f7a4_42 0 rfl ?_
  refine go_bipush (pc := 43) hF dJ6_bitCount_0f7a4_43 (by decide) ?_
  refine go_iushr (pc := 45) hF 0 (by decide) dJ6_bitCount_0f7a4_45 ?_
  refine go_iadd (pc := 46) hF dJ6_bitCount_0f7a4_46 ?_
  refine go_istore_n (pc := 47) hF [(0, vi 1)] dJ6_bitCount_0f7a4_47 rfl (by decide) ?_
  refine go_iload_n (pc := 48) hF dJ6_bitCount_0f7a4_48 0 rfl ?_
  refine go_bipush (pc := 49) hF dJ6_bitCount_0f7a4_49 (by decide) ?_
  refine go_iand (pc := 51) hF 1 (by decide) dJ6_bitCount_0f7a4_51 ?_
  exact go_iretQ hF hr hlk hQ dJ6_bitCount_0f7a4_52 ⟨by decide, rfl⟩
set_option maxHeartbeats 4000000 in
set_option maxRecDepth 100000 in
theorem c_J6_bitCount_3 (E : En) (N : Nat) (σ : Nat → va_E) : CP E M_J6_bitCount_0f7a4 1 [vi 3] N σ (pc6 3) := by
  refine CT.of2 (own := RJ6) (by decide) rfl (Nat.le_of_ble_eq_true rfl) ?_
  intro p e R s m args below meth c Q hF hr hlk hnm hz hR hQ
  refine go_iload_n (pc := 0) hF dJ6_bitCount_0f7a4_0 0 rfl ?_
  refine go_iload_n (pc := 1) hF dJ6_bitCount_0f7a4_1 0 rfl ?_
  refine go_iconst (pc := 2) hF dJ6_bitCount_0f7a4_2 ?_
  refine go_iushr (pc := 3) hF 1 (by decide) dJ6_bitCount_0f7a4_3 ?_
  refine go_ldcw (pc := 4) hF kc_J6_265 dJ6_bitCount_0f7a4_4 ?_
  refine go_iand (pc := 7) hF 1 (by decide) dJ6_bitCount_0f7a4_7 ?_
  refine go_isub (pc := 8) hF dJ6_bitCount_0f7a4_8 ?_
  refine go_istore_n (pc := 9) hF [(0, vi 2)] dJ6_bitCount_0f7a4_9 rfl (by decide) ?_
  refine go_iload_n (pc := 10) hF dJ6_bitCount_0f7a4_10 0 rfl ?_
  refine go_ldcw (pc := 11) hF kc_J6_266 dJ6_bitCount_0f7a4_11 ?_
  refine go_iand (pc := 14) hF 2 (by decide) dJ6_bitCount_0f7a4_14 ?_
  refine go_iload_n (pc := 15) hF dJ6_bitCount_0f7a4_15 0 rfl ?_
  refine go_iconst (pc := 16) hF dJ6_bitCount_0f7a4_16 ?_
  refine go_iushr (pc := 17) hF 0 (by decide) dJ6_bitCount_0f7a4_17 ?_
  refine go_ldcw (pc := 18) hF kc_J6_266 dJ6_bitCount_0f7a4_18 ?_
  refine go_iand (pc := 21) hF 0 (by decide) dJ6_bitCount_0f7a4_21 ?_
  refine go_iadd (pc := 22) hF dJ6_bitCount_0f7a4_22 ?_
  refine go_istore_n (pc := 23) hF [(0, vi 2)] dJ6_bitCount_0f7a4_23 rfl (by decide) ?_
  refine go_iload_n (pc := 24) hF dJ6_bitCount_0f7a4_24 0 rfl ?_
  refine go_iload_n (pc := 25) hF dJ6_bitCount_0f7a4_25 0 rfl ?_
  refine go_iconst (pc := 26) hF dJ6_bitCount_0f7a4_26 ?_
  refine go_iushr (pc := 27) hF 0 (by decide) dJ6_bitCount_0f7a4_27 ?_
  refine go_iadd (pc := 28) hF dJ6_bitCount_0f7a4_28 ?_
  refine go_ldcw (pc := 29) hF kc_J6_267 dJ6_bitCount_0f7a4_29 ?_
  refine go_iand (pc := 32) hF 2 (by decide) dJ6_bitCount_0f7a4_32 ?_
  refine go_istore_n (pc := 33) hF [(0, vi 2)] dJ6_bitCount_0f7a4_33 rfl (by decide) ?_
  refine go_iload_n (pc := 34) hF dJ6_bitCount_0f7a4_34 0 rfl ?_
  refine go_iload_n (pc := 35) hF dJ6_bitCount_0f7a4_35 0 rfl ?_
  refine go_bipush (pc := 36) hF dJ6_bitCount_0f7a4_36 (by decide) ?_
  refine go_iushr (pc := 38) hF 0 (by decide) dJ6_bitCount_0f7a4_38 ?_
  refine go_iadd (pc := 39) hF dJ6_bitCount_0f7a4_39 ?_
  refine go_istore_n (pc := 40) hF [(0, vi 2)] dJ6_bitCount_0f7a4_40 rfl (by decide) ?_
  refine go_iload_n (pc := 41) hF dJ6_bitCount_0f7a4_41 0 rfl ?_
  refine go_iload_n (pc := 42) hF dJ6_bitCount_0f7a4_42 0 rfl ?_
  refine go_bipush (pc := 43) hF dJ6_bitCount_0f7a4_43 (by decide) ?_
  refine go_iushr (pc := 45) hF 0 (by decide) dJ6_bitCount_0f7a4_45 ?_
  refine go_iadd (pc := 46) hF dJ6_bitCount_0f7a4_46 ?_
  refine go_istore_n (pc := 47) hF [(0, vi 2)] dJ6_bitCount_0f7a4_47 rfl (by decide) ?_
  refine go_iload_n (pc := 48) hF dJ6_bitCount_0f7a4_48 0 rfl ?_
  refine go_bipush (pc := 49) hF dJ6_bitCount_0f7a4_49 (by decide) ?_
  refine go_iand (pc := 51) hF 2 (by decide) dJ6_bitCount_0f7a4_51 ?_
  exact go_iretQ hF hr hlk hQ dJ6_bitCount_0f7a4_52 ⟨by decide, rfl⟩
set_option maxHeartbeats 4000000 in
set_option maxRecDepth 100000 in
theorem c_J6_bitCount_4 (E : En) (N : Nat) (σ : Nat → va_E) : CP E M_J6_bitCount_0f7a4 1 [vi 4] N σ (pc6 4) := by
  refine CT.of2 (own := RJ6) (by decide) rfl (Nat.le_of_ble_eq_true rfl) ?_
  intro p e R s m args below meth c Q hF hr hlk hnm hz hR hQ
  refine go_iload_n (pc := 0) hF dJ6_bitCount_0f7a4_0 0 rfl ?_
  refine go_iload_n (pc := 1) hF dJ6_bitCount_0f7a4_1 0 rfl ?_
  refine go_iconst (pc := 2) hF dJ6_bitCount_0f7a4_2 ?_
  refine go_iushr (pc := 3) hF 2 (by decide) dJ6_bitCount_0f7a4_3 ?_
  refine go_ldcw (pc := 4) hF kc_J6_265 dJ6_bitCount_0f7a4_4 ?_
  refine go_iand (pc := 7) hF 0 (by decide) dJ6_bitCount_0f7a4_7 ?_
  refine go_isub (pc := 8) hF dJ6_bitCount_0f7a4_8 ?_
  refine go_istore_n (pc := 9) hF [(0, vi 4)] dJ6_bitCount_0f7a4_9 rfl (by decide) ?_
  refine go_iload_n (pc := 10) hF dJ6_bitCount_0f7a4_10 0 rfl ?_
  refine go_ldcw (pc := 11) hF kc_J6_266 dJ6_bitCount_0f7a4_11 ?_
  refine go_iand (pc := 14) hF 0 (by decide) dJ6_bitCount_0f7a4_14 ?_
  refine go_iload_n (pc := 15) hF dJ6_bitCount_0f7a4_15 0 rfl ?_
  refine go_iconst (pc := 16) hF dJ6_bitCount_0f7a4_16 ?_
  refine go_iushr (pc := 17) hF 1 (by decide) dJ6_bitCount_0f7a4_17 ?_
  refine go_ldcw (pc := 18) hF kc_J6_266 dJ6_bitCount_0f7a4_18 ?_
  refine go_iand (pc := 21) hF 1 (by decide) dJ6_bitCount_0f7a4_21 ?_
  refine go_iadd (pc := 22) hF dJ6_bitCount_0f7a4_22 ?_
  refine go_istore_n (pc := 23) hF [(0, vi 1)] dJ6_bitCount_0f7a4_23 rfl (by decide) ?_
  refine go_iload_n (pc := 24) hF dJ6_bitCount_0f7a4_24 0 rfl ?_
  refine go_iload_n (pc := 25) hF dJ6_bitCount_0f7a4_25 0 rfl ?_
  refine go_iconst (pc := 26) hF dJ6_bitCount_0f7a4_26 ?_
  refine go_iushr (pc := 27) hF 0 (by decide) dJ6_bitCount_0f7a4_27 ?_
  refine go_iadd (pc := 28) hF dJ6_bitCount_0f7a4_28 ?_
  refine go_ldcw (pc := 29) hF kc_J6_267 dJ6_bitCount_0f7a4_29 ?_
  refine go_iand (pc := 32) hF 1 (by decide) dJ6_bitCount_0f7a4_32 ?_
  refine go_istore_n (pc := 33) hF [(0, vi 1)] dJ6_bitCount_0f7a4_33 rfl (by decide) ?_
  refine go_iload_n (pc := 34) hF dJ6_bitCount_0f7a4_34 0 rfl ?_
  refine go_iload_n (pc := 35) hF dJ6_bitCount_0f7a4_35 0 rfl ?_
  refine go_bipush (pc := 36) hF dJ6_bitCount_0f7a4_36 (by decide) ?_
  refine go_iushr (pc := 38) hF 0 (by decide) dJ6_bitCount_0f7a4_38 ?_
  refine go_iadd (pc := 39) hF dJ6_bitCount_0f7a4_39 ?_
  refine go_istore_n (pc := 40) hF [(0, vi 1)] dJ6_bitCount_0f7a4_40 rfl (by decide) ?_
  refine go_iload_n (pc := 41) hF dJ6_bitCount_0f7a4_41 0 rfl ?_
  refine go_iload_n (pc := 42) hF dJ6_bitCount_0f7a4_42 0 rfl ?_
  refine go_bipush (pc := 43) hF dJ6_bitCount_0f7a4_43 (by decide) ?_
  refine go_iushr (pc := 45) hF 0 (by decide) dJ6_bitCount_0f7a4_45 ?_
  refine go_iadd (pc := 46) hF dJ6_bitCount_0f7a4_46 ?_
  refine go_istore_n (pc := 47) hF [(0, vi 1)] dJ6_bitCount_0f7a4_47 rfl (by decide) ?_
  refine go_iload_n (pc := 48) hF dJ6_bitCount_0f7a4_48 0 rfl ?_
  refine go_bipush (pc := 49) hF dJ6_bitCount_0f7a4_49 (by decide) ?_
  refine go_iand (pc := 51) hF 1 (by decide) dJ6_bitCount_0f7a4_51 ?_
  exact go_iretQ hF hr hlk hQ dJ6_bitCount_0f7a4_52 ⟨by decide, rfl⟩
set_option maxHeartbeats 4000000 in
set_option maxRecDepth 100000 in
theorem c_J6_bitCount_5 (E : En) (N : Nat) (σ : Nat → va_E) : CP E M_J6_bitCount_0f7a4 1 [vi 5] N σ (pc6 5) := by
  refine CT.of2 (own := RJ6) (by decide) rfl (Nat.le_of_ble_eq_true rfl) ?_
  intro p e R s m args below meth c Q hF hr hlk hnm hz hR hQ
  refine go_iload_n (pc := 0) hF dJ6_bitCount_0f7a4_0 0 rfl ?_
  refine go_iload_n (pc := 1) hF dJ6_bitCount_0f7a4_1 0 rfl ?_
  refine go_iconst (pc := 2) hF dJ6_bitCount_0f7a4_2 ?_
  refine go_iushr (pc := 3) hF 2 (by decide) dJ6_bitCount_0f7a4_3 ?_
  refine go_ldcw (pc := 4) hF kc_J6_265 dJ6_bitCount_0f7a4_4 ?_
  refine go_iand (pc := 7) hF 0 (by decide) dJ6_bitCount_0f7a4_7 ?_
  refine go_isub (pc := 8) hF dJ6_bitCount_0f7a4_8 ?_
  refine go_istore_n (pc := 9) hF [(0, vi 5)] dJ6_bitCount_0f7a4_9 rfl (by decide) ?_
  refine go_iload_n (pc := 10) hF dJ6_bitCount_0f7a4_10 0 rfl ?_
  refine go_ldcw (pc := 11) hF kc_J6_266 dJ6_bitCount_0f7a4_11 ?_
  refine go_iand (pc := 14) hF 1 (by decide) dJ6_bitCount_0f7a4_14 ?_
  refine go_iload_n (pc := 15) hF dJ6_bitCount_0f7a4_15 0 rfl ?_
  refine go_iconst (pc := 16) hF dJ6_bitCount_0f7a4_16 ?_
  refine go_iushr (pc := 17) hF 1 (by decide) dJ6_bitCount_0f7a4_17 ?_
  refine go_ldcw (pc := 18) hF kc_J6_266 dJ6_bitCount_0f7a4_18 ?_
  refine go_iand (pc := 21) hF 1 (by decide) dJ6_bitCount_0f7a4_21 ?_
  refine go_iadd (pc := 22) hF dJ6_bitCount_0f7a4_22 ?_
  refine go_istore_n (pc := 23) hF [(0, vi 2)] dJ6_bitCount_0f7a4_23 rfl (by decide) ?_
  refine go_iload_n (pc := 24) hF dJ6_bitCount_0f7a4_24 0 rfl ?_
  refine go_iload_n (pc := 25) hF dJ6_bitCount_0f7a4_25 0 rfl ?_
  refine go_iconst (pc := 26) hF dJ6_bitCount_0f7a4_26 ?_
  refine go_iushr (pc := 27) hF 0 (by decide) dJ6_bitCount_0f7a4_27 ?_
  refine go_iadd (pc := 28) hF dJ6_bitCount_0f7a4_28 ?_
  refine go_ldcw (pc := 29) hF kc_J6_267 dJ6_bitCount_0f7a4_29 ?_
  refine go_iand (pc := 32) hF 2 (by decide) dJ6_bitCount_0f7a4_32 ?_
  refine go_istore_n (pc := 33) hF [(0, vi 2)] dJ6_bitCount_0f7a4_33 rfl (by decide) ?_
  refine go_iload_n (pc := 34) hF dJ6_bitCount_0f7a4_34 0 rfl ?_
  refine go_iload_n (pc := 35) hF dJ6_bitCount_0f7a4_35 0 rfl ?_
  refine go_bipush (pc := 36) hF dJ6_bitCount_0f7a4_36 (by decide) ?_
  refine go_iushr (pc := 38) hF 0 (by decide) dJ6_bitCount_0f7a4_38 ?_
  refine go_iadd (pc := 39) hF dJ6_bitCount_0f7a4_39 ?_
  refine go_istore_n (pc := 40) hF [(0, vi 2)] dJ6_bitCount_0f7a4_40 rfl (by decide) ?_
  refine go_iload_n (pc := 41) hF dJ6_bitCount_0f7a4_41 0 rfl ?_
  refine go_iload_n (pc := 42) hF dJ6_bitCount_0f7a4_42 0 rfl ?_
  refine go_bipush (pc := 43) hF dJ6_bitCount_0f7a4_43 (by decide) ?_
  refine go_iushr (pc := 45) hF 0 (by decide) dJ6_bitCount_0f7a4_45 ?_
  refine go_iadd (pc := 46) hF dJ6_bitCount_0f7a4_46 ?_
  refine go_istore_n (pc := 47) hF [(0, vi 2)] dJ6_bitCount_0f7a4_47 rfl (by decide) ?_
  refine go_iload_n (pc := 48) hF dJ6_bitCount_0f7a4_48 0 rfl ?_
  refine go_bipush (pc := 49) hF dJ6_bitCount_0f7a4_49 (by decide) ?_
  refine go_iand (pc := 51) hF 2 (by decide) dJ6_bitCount_0f7a4_51 ?_
  exact go_iretQ hF hr hlk hQ dJ6_bitCount_0f7a4_52 ⟨by decide, rfl⟩
set_option maxHeartbeats 4000000 in
set_option maxRecDepth 100000 in
theorem c_J6_bitCount_6 (E : En) (N : Nat) (σ : Nat → va_E) : CP E M_J6_bitCount_0f7a4 1 [vi 6] N σ (pc6 6) := by
  refine CT.of2 (own := RJ6) (by decide) rfl (Nat.le_of_ble_eq_true rfl) ?_
  intro p e R s m args below meth c Q hF hr hlk hnm hz hR hQ
  refine go_iload_n (pc := 0) hF dJ6_bitCount_0f7a4_0 0 rfl ?_
  refine go_iload_n (pc := 1) hF dJ6_bitCount_0f7a4_1 0 rfl ?_
  refine go_iconst (pc := 2) hF dJ6_bitCount_0f7a4_2 ?_
  refine go_iushr (pc := 3) hF 3 (by decide) dJ6_bitCount_0f7a4_3 ?_
  refine go_ldcw (pc := 4) hF kc_J6_265 dJ6_bitCount_0f7a4_4 ?_
  refine go_iand (pc := 7) hF 1 (by decide) dJ6_bitCount_0f7a4_7 ?_
  refine go_isub (pc := 8) hF dJ6_bitCount_0f7a4_8 ?_
  refine go_istore_n (pc := 9) hF [(0, vi 5)] dJ6_bitCount_0f7a4_9 rfl (by decide) ?_
  refine go_iload_n (pc := 10) hF dJ6_bitCount_0f7a4_10 0 rfl ?_
  refine go_ldcw (pc := 11) hF kc_J6_266 dJ6_bitCount_0f7a4_11 ?_
  refine go_iand (pc := 14) hF 1 (by decide) dJ6_bitCount_0f7a4_14 ?_
  refine go_iload_n (pc := 15) hF dJ6_bitCount_0f7a4_15 0 rfl ?_
  refine go_iconst (pc := 16) hF dJ6_bitCount_0f7a4_16 ?_
  refine go_iushr (pc := 17) hF 1 (by decide) dJ6_bitCount_0f7a4_17 ?_
  refine go_ldcw (pc := 18) hF kc_J6_266 dJ6_bitCount_0f7a4_18 ?_
  refine go_iand (pc := 21) hF 1 (by decide) dJ6_bitCount_0f7a4_21 ?_
  refine go_iadd (pc := 22) hF dJ6_bitCount_0f7a4_22 ?_
  refine go_istore_n (pc := 23) hF [(0, vi 2)] dJ6_bitCount_0f7a4_23 rfl (by decide) ?_
  refine go_iload_n (pc := 24) hF dJ6_bitCount_0f7a4_24 0 rfl ?_
  refine go_iload_n (pc := 25) hF dJ6_bitCount_0f7a4_25 0 rfl ?_
  refine go_iconst (pc := 26) hF dJ6_bitCount_0f7a4_26 ?_
  refine go_iushr (pc := 27) hF 0 (by decide) dJ6_bitCount_0f7a4_27 ?_
  refine go_iadd (pc := 28) hF dJ6_bitCount_0f7a4_28 ?_
  refine go_ldcw (pc := 29) hF kc_J6_267 dJ6_bitCount_0f7a4_29 ?_
  refine go_iand (pc := 32) hF 2 (by decide) dJ6_bitCount_0f7a4_32 ?_
  refine go_istore_n (pc := 33) hF [(0, vi 2)] dJ6_bitCount_0f7a4_33 rfl (by decide) ?_
  refine go_iload_n (pc := 34) hF dJ6_bitCount_0f7a4_34 0 rfl ?_
  refine go_iload_n (pc := 35) hF dJ6_bitCount_0f7a4_35 0 rfl ?_
  refine go_bipush (pc := 36) hF dJ6_bitCount_0f7a4_36 (by decide) ?_
  refine go_iushr (pc := 38) hF 0 (by decide) dJ6_bitCount_0f7a4_38 ?_
  refine go_iadd (pc := 39) hF dJ6_bitCount_0f7a4_39 ?_
  refine go_istore_n (pc := 40) hF [(0, vi 2)] dJ6_bitCount_0f7a4_40 rfl (by decide) ?_
  refine go_iload_n (pc := 41) hF dJ6_bitCount_0f7a4_41 0 rfl ?_
  refine go_iload_n (pc := 42) hF dJ6_bitCount_0f7a4_42 0 rfl ?_
  refine go_bipush (pc := 43) hF dJ6_bitCount_0f7a4_43 (by decide) ?_
  refine go_iushr (pc := 45) hF 0 (by decide) dJ6_bitCount_0f7a4_45 ?_
  refine go_iadd (pc := 46) hF dJ6_bitCount_0f7a4_46 ?_
  refine go_istore_n (pc := 47) hF [(0, vi 2)] dJ6_bitCount_0f7a4_47 rfl (by decide) ?_
  refine go_iload_n (pc := 48) hF dJ6_bitCount_0f7a4_48 0 rfl ?_
  refine go_bipush (pc := 49) hF dJ6_bitCount_0f7a4_49 (by decide) ?_
  refine go_iand (pc := 51) hF 2 (by decide) dJ6_bitCount_0f7a4_51 ?_
  exact go_iretQ hF hr hlk hQ dJ6_bitCount_0f7a4_52 ⟨by decide, rfl⟩
set_option maxHeartbeats 4000000 in
set_option maxRecDepth 100000 in
theorem c_J6_bitCount_7 (E : En) (N : Nat) (σ : Nat → va_E) : CP E M_J6_bitCount_0f7a4 1 [vi 7] N σ (pc6 7) := by
  refine CT.of2 (own := RJ6) (by decide) rfl (Nat.le_of_ble_eq_true rfl) ?_
  intro p e R s m args below meth c Q hF hr hlk hnm hz hR hQ
  refine go_iload_n (pc := 0) hF dJ6_bitCount_0f7a4_0 0 rfl ?_
  refine go_iload_n (pc := 1) hF dJ6_bitCount_0f7a4_1 0 rfl ?_
  refine go_iconst (pc := 2) hF dJ6_bitCount_0f7a4_2 ?_
  refine go_iushr (pc := 3) hF 3 (by decide) dJ6_bitCount_0f7a4_3 ?_
  refine go_ldcw (pc := 4) hF kc_J6_265 dJ6_bitCount_0f7a4_4 ?_
  refine go_iand (pc := 7) hF 1 (by decide) dJ6_bitCount_0f7a4_7 ?_
  refine go_isub (pc := 8) hF dJ6_bitCount_0f7a4_8 ?_
  refine go_istore_n (pc := 9) hF [(0, vi 6)] dJ6_bitCount_0f7a4_9 rfl (by decide) ?_
  refine go_iload_n (pc := 10) hF dJ6_bitCount_0f7a4_10 0 rfl ?_
  refine go_ldcw (pc := 11) hF kc_J6_266 dJ6_bitCount_0f7a4_11 ?_
  refine go_iand (pc := 14) hF 2 (by decide) dJ6_bitCount_0f7a4_14 ?_
  refine go_iload_n (pc := 15) hF dJ6_bitCount_0f7a4_15 0 rfl ?_
  refine go_iconst (pc := 16) hF dJ6_bitCount_0f7a4_16 ?_
  refine go_iushr (pc := 17) hF 1 (by decide) dJ6_bitCount_0f7a4_17 ?_
  refine go_ldcw (pc := 18) hF kc_J6_266 dJ6_bitCount_0f7a4_18 ?_
  refine go_iand (pc := 21) hF 1 (by decide) dJ6_bitCount_0f7a4_21 ?_
  refine go_iadd (pc := 22) hF dJ6_bitCount_0f7a4_22 ?_
  refine go_istore_n (pc := 23) hF [(0, vi 3)] dJ6_bitCount_0f7a4_23 rfl (by decide) ?_
  refine go_iload_n (pc := 24) hF dJ6_bitCount_0f7a4_24 0 rfl ?_
  refine go_iload_n (pc := 25) hF dJ6_bitCount_0f7a4_25 0 rfl ?_
  refine go_iconst (pc := 26) hF dJ6_bitCount_0f7a4_26 ?_
  refine go_iushr (pc := 27) hF 0 (by decide) dJ6_bitCount_0f7a4_27 ?_
  refine go_iadd (pc := 28) hF dJ6_bitCount_0f7a4_28 ?_
  refine go_ldcw (pc := 29) hF kc_J6_267 dJ6_bitCount_0f7a4_29 ?_
  refine go_iand (pc := 32) hF 3 (by decide) dJ6_bitCount_0f7a4_32 ?_
  refine go_istore_n (pc := 33) hF [(0, vi 3)] dJ6_bitCount_0f7a4_33 rfl (by decide) ?_
  refine go_iload_n (pc := 34) hF dJ6_bitCount_0f7a4_34 0 rfl ?_
  refine go_iload_n (pc := 35) hF dJ6_bitCount_0f7a4_35 0 rfl ?_
  refine go_bipush (pc := 36) hF dJ6_bitCount_0f7a4_36 (by decide) ?_
  refine go_iushr (pc := 38) hF 0 (by decide) dJ6_bitCount_0f7a4_38 ?_
  refine go_iadd (pc := 39) hF dJ6_bitCount_0f7a4_39 ?_
  refine go_istore_n (pc := 40) hF [(0, vi 3)] dJ6_bitCount_0f7a4_40 rfl (by decide) ?_
  refine go_iload_n (pc := 41) hF dJ6_bitCount_0f7a4_41 0 rfl ?_
  refine go_iload_n (pc := 42) hF dJ6_bitCount_0f7a4_42 0 rfl ?_
  refine go_bipush (pc := 43) hF dJ6_bitCount_0f7a4_43 (by decide) ?_
  refine go_iushr (pc := 45) hF 0 (by decide) dJ6_bitCount_0f7a4_45 ?_
  refine go_iadd (pc := 46) hF dJ6_bitCount_0f7a4_46 ?_
  refine go_istore_n (pc := 47) hF [(0, vi 3)] dJ6_bitCount_0f7a4_47 rfl (by decide) ?_
  refine go_iload_n (pc := 48) hF dJ6_bitCount_0f7a4_48 0 rfl ?_
  refine go_bipush (pc := 49) hF dJ6_bitCount_0f7a4_49 (by decide) ?_
  refine go_iand (pc := 51) hF 3 (by decide) dJ6_bitCount_0f7a4_51 ?_
  exact go_iretQ hF hr hlk hQ dJ6_bitCount_0f7a4_52 ⟨by decide, rfl⟩
set_option maxHeartbeats 4000000 in
set_option maxRecDepth 100000 in
theorem c_J6_bitCount_8 (E : En) (N : Nat) (σ : Nat → va_E) : CP E M_J6_bitCount_0f7a4 1 [vi 8] N σ (pc6 8) := by
  refine CT.of2 (own := RJ6) (by decide) rfl (Nat.le_of_ble_eq_true rfl) ?_
  intro p e R s m args below meth c Q hF hr hlk hnm hz hR hQ
  refine go_iload_n (pc := 0) hF dJ6_bitCount_0f7a4_0 0 rfl ?_
  refine go_iload_n (pc := 1) hF dJ6_bitCount_0f7a4_1 0 rfl ?_
  refine go_iconst (pc := 2) hF dJ6_bitCount_0f7a4_2 ?_
  refine go_iushr (pc := 3) hF 4 (by decide) dJ6_bitCount_0f7a4_3 ?_
  refine go_ldcw (pc := 4) hF kc_J6_265 dJ6_bitCount_0f7a4_4 ?_
  refine go_iand (pc := 7) hF 4 (by decide) dJ6_bitCount_0f7a4_7 ?_
  refine go_isub (pc := 8) hF dJ6_bitCount_0f7a4_8 ?_
  refine go_istore_n (pc := 9) hF [(0, vi 4)] dJ6_bitCount_0f7a4_9 rfl (by decide) ?_
  refine go_iload_n (pc := 10) hF dJ6_bitCount_0f7a4_10 0 rfl ?_
  refine go_ldcw (pc := 11) hF kc_J6_266 dJ6_bitCount_0f7a4_11 ?_
  refine go_iand (pc := 14) hF 0 (by decide) dJ6_bitCount_0f7a4_14 ?_
  refine go_iload_n (pc := 15) hF dJ6_bitCount_0f7a4_15 0 rfl ?_
  refine go_iconst (pc := 16) hF dJ6_bitCount_0f7a4_16 ?_
  refine go_iushr (pc := 17) hF 1 (by decide) dJ6_bitCount_0f7a4_17 ?_
  refine go_ldcw (pc := 18) hF kc_J6_266 dJ6_bitCount_0f7a4_18 ?_
  refine go_iand (pc := 21) hF 1 (by decide) dJ6_bitCount_0f7a4_21 ?_
  refine go_iadd (pc := 22) hF dJ6_bitCount_0f7a4_22 ?_
  refine go_istore_n (pc := 23) hF [(0, vi 1)] dJ6_bitCount_0f7a4_23 rfl (by decide) ?_
  refine go_iload_n (pc := 24) hF dJ6_bitCount_0f7a4_24 0 rfl ?_
  refine go_iload_n (pc := 25) hF dJ6_bitCount_0f7a4_25 0 rfl ?_
  refine go_iconst (pc := 26) hF dJ6_bitCount_0f7a4_26 ?_
  refine go_iushr (pc := 27) hF 0 (by decide) dJ6_bitCount_0f7a4_27 ?_
  refine go_iadd (pc := 28) hF dJ6_bitCount_0f7a4_28 ?_
  refine go_ldcw (pc := 29) hF kc_J6_267 dJ6_bitCount_0f7a4_29 ?_
  refine go_iand (pc := 32) hF 1 (by decide) dJ6_bitCount_0f7a4_32 ?_
  refine go_istore_n (pc := 33) hF [(0, vi 1)] dJ6_bitCount_0f7a4_33 rfl (by decide) ?_
  refine go_iload_n (pc := 34) hF dJ6_bitCount_0f7a4_34 0 rfl ?_
  refine go_iload_n (pc := 35) hF dJ6_bitCount_0f7a4_35 0 rfl ?_
  refine go_bipush (pc := 36) hF dJ6_bitCount_0f7a4_36 (by decide) ?_
  refine go_iushr (pc := 38) hF 0 (by decide) dJ6_bitCount_0f7a4_38 ?_
  refine go_iadd (pc := 39) hF dJ6_bitCount_0f7a4_39 ?_
  refine go_istore_n (pc := 40) hF [(0, vi 1)] dJ6_bitCount_0f7a4_40 rfl (by decide) ?_
  refine go_iload_n (pc := 41) hF dJ6_bitCount_0f7a4_41 0 rfl ?_
  refine go_iload_n (pc := 42) hF dJ6_bitCount_0f7a4_42 0 rfl ?_
  refine go_bipush (pc := 43) hF dJ6_bitCount_0f7a4_43 (by decide) ?_
  refine go_iushr (pc := 45) hF 0 (by decide) dJ6_bitCount_0f7a4_45 ?_
  refine go_iadd (pc := 46) hF dJ6_bitCount_0f7a4_46 ?_
  refine go_istore_n (pc := 47) hF [(0, vi 1)] dJ6_bitCount_0f7a4_47 rfl (by decide) ?_
  refine go_iload_n (pc := 48) hF dJ6_bitCount_0f7a4_48 0 rfl ?_
  refine go_bipush (pc := 49) hF dJ6_bitCount_0f7a4_49 (by decide) ?_
  refine go_iand (pc := 51) hF 1 (by decide) dJ6_bitCount_0f7a4_51 ?_
  exact go_iretQ hF hr hlk hQ dJ6_bitCount_0f7a4_52 ⟨by decide, rfl⟩
set_option maxHeartbeats 4000000 in
set_option maxRecDepth 100000 in
theorem c_J6_bitCount_9 (E : En) (N : Nat) (σ : Nat → va_E) : CP E M_J6_bitCount_0f7a4 1 [vi 9] N σ (pc6 9) := by
  refine CT.of2 (own := RJ6) (by decide) rfl (Nat.le_of_ble_eq_true rfl) ?_
  intro p e R s m args below meth c Q hF hr hlk hnm hz hR hQ
  refine go_iload_n (pc := 0) hF dJ6_bitCount_0f7a4_0 0 rfl ?_
  refine go_iload_n (pc := 1) hF dJ6_bitCount_0f7a4_1 0 rfl ?_
  refine go_iconst (pc := 2) hF dJ6_bitCount_0f7a4_2 ?_
  refine go_iushr (pc := 3) hF 4 (by decide) dJ6_bitCount_0f7a4_3 ?_
  refine go_ldcw (pc := 4) hF kc_J6_265 dJ6_bitCount_0f7a4_4 ?_
  refine go_iand (pc := 7) hF 4 (by decide) dJ6_bitCount_0f7a4_7 ?_
  refine go_isub (pc := 8) hF dJ6_bitCount_0f7a4_8 ?_
  refine go_istore_n (pc := 9) hF [(0, vi 5)] dJ6_bitCount_0f7a4_9 rfl (by decide) ?_
  refine go_iload_n (pc := 10) hF dJ6_bitCount_0f7a4_10 0 rfl ?_
  refine go_ldcw (pc := 11) hF kc_J6_266 dJ6_bitCount_0f7a4_11 ?_
  refine go_iand (pc := 14) hF 1 (by decide) dJ6_bitCount_0f7a4_14 ?_
  refine go_iload_n (pc := 15) hF dJ6_bitCount_0f7a4_15 0 rfl ?_
  refine go_iconst (pc := 16) hF dJ6_bitCount_0f7a4_16 ?_
  refine go_iushr (pc := 17) hF 1 (by decide) dJ6_bitCount_0f7a4_17 ?_
  refine go_ldcw (pc := 18) hF kc_J6_266 dJ6_bitCount_0f7a4_18 ?_
  refine go_iand (pc := 21) hF 1 (by decide) dJ6_bitCount_0f7a4_21 ?_
  refine go_iadd (pc := 22) hF dJ6_bitCount_0f7a4_22 ?_
  refine go_istore_n (pc := 23) hF [(0, vi 2)] dJ6_bitCount_0f7a4_23 rfl (by decide) ?_
  refine go_iload_n (pc := 24) hF dJ6_bitCount_0f7a4_24 0 rfl ?_
  refine go_iload_n (pc := 25) hF dJ6_bitCount_0f7a4_25 0 rfl ?_
  refine go_iconst (pc := 26) hF dJ6_bitCount_0f7a4_26 ?_
  refine go_iushr (pc := 27) hF 0 (by decide) dJ6_bitCount_0f7a4_27 ?_
  refine go_iadd (pc := 28) hF dJ6_bitCount_0f7a4_28 ?_
  refine go_ldcw (pc := 29) hF kc_J6_267 dJ6_bitCount_0f7a4_29 ?_
  refine go_iand (pc := 32) hF 2 (by decide) dJ6_bitCount_0f7a4_32 ?_
  refine go_istore_n (pc := 33) hF [(0, vi 2)] dJ6_bitCount_0f7a4_33 rfl (by decide) ?_
  refine go_iload_n (pc := 34) hF dJ6_bitCount_0f7a4_34 0 rfl ?_
  refine go_iload_n (pc := 35) hF dJ6_bitCount_0f7a4_35 0 rfl ?_
  refine go_bipush (pc := 36) hF dJ6_bitCount_0f7a4_36 (by decide) ?_
  refine go_iushr (pc := 38) hF 0 (by decide) dJ6_bitCount_0f7a4_38 ?_
  refine go_iadd (pc := 39) hF dJ6_bitCount_0f7a4_39 ?_
  refine go_istore_n (pc := 40) hF [(0, vi 2)] dJ6_bitCount_0f7a4_40 rfl (by decide) ?_
  refine go_iload_n (pc := 41) hF dJ6_bitCount_0f7a4_41 0 rfl ?_
  refine go_iload_n (pc := 42) hF dJ6_bitCount_0f7a4_42 0 rfl ?_
  refine go_bipush (pc := 43) hF dJ6_bitCount_0f7a4_43 (by decide) ?_
  refine go_iushr (pc := 45) hF 0 (by decide) dJ6_bitCount_0f7a4_45 ?_
  refine go_iadd (pc := 46) hF dJ6_bitCount_0f7a4_46 ?_
  refine go_istore_n (pc := 47) hF [(0, vi 2)] dJ6_bitCount_0f7a4_47 rfl (by decide) ?_
  refine go_iload_n (pc := 48) hF dJ6_bitCount_0f7a4_48 0 rfl ?_
  refine go_bipush (pc := 49) hF dJ6_bitCount_0f7a4_49 (by decide) ?_
  refine go_iand (pc := 51) hF 2 (by decide) dJ6_bitCount_0f7a4_51 ?_
  exact go_iretQ hF hr hlk hQ dJ6_bitCount_0f7a4_52 ⟨by decide, rfl⟩
set_option maxHeartbeats 4000000 in
set_option maxRecDepth 100000 in
theorem c_J6_bitCount_10 (E : En) (N : Nat) (σ : Nat → va_E) : CP E M_J6_bitCount_0f7a4 1 [vi 10] N σ (pc6 10) := by
  refine CT.of2 (own := RJ6) (by decide) rfl (Nat.le_of_ble_eq_true rfl) ?_
  intro p e R s m args below meth c Q hF hr hlk hnm hz hR hQ
  refine go_iload_n (pc := 0) hF dJ6_bitCount_0f7a4_0 0 rfl ?_
  refine go_iload_n (pc := 1) hF dJ6_bitCount_0f7a4_1 0 rfl ?_
  refine go_iconst (pc := 2) hF dJ6_bitCount_0f7a4_2 ?_
  refine go_iushr (pc := 3) hF 5 (by decide) dJ6_bitCount_0f7a4_3 ?_
  refine go_ldcw (pc := 4) hF kc_J6_265 dJ6_bitCount_0f7a4_4 ?_
  refine go_iand (pc := 7) hF 5 (by decide) dJ6_bitCount_0f7a4_7 ?_
  refine go_isub (pc := 8) hF dJ6_bitCount_0f7a4_8 ?_
  refine go_istore_n (pc := 9) hF [(0, vi 5)] dJ6_bitCount_0f7a4_9 rfl (by decide) ?_
  refine go_iload_n (pc := 10) hF dJ6_bitCount_0f7a4_10 0 rfl ?_
  refine go_ldcw (pc := 11) hF kc_J6_266 dJ6_bitCount_0f7a4_11 ?_
  refine go_iand (pc := 14) hF 1 (by decide) dJ6_bitCount_0f7a4_14 ?_
  refine go_iload_n (pc := 15) hF dJ6_bitCount_0f7a4_15 0 rfl ?_
  refine go_iconst (pc := 16) hF dJ6_bitCount_0f7a4_16 ?_
  refine go_iushr (pc := 17) hF 1 (by decide) dJ6_bitCount_0f7a4_17 ?_
  refine go_ldcw (pc := 18) hF kc_J6_266 dJ6_bitCount_0f7a4_18 ?_
  refine go_iand (pc := 21) hF 1 (by decide) dJ6_bitCount_0f7a4_21 ?_
  refine go_iadd (pc := 22) hF dJ6_bitCount_0f7a4_22 ?_
  refine go_istore_n (pc := 23) hF [(0, vi 2)] dJ6_bitCount_0f7a4_23 rfl (by decide) ?_
  refine go_iload_n (pc := 24) hF dJ6_bitCount_0f7a4_24 0 rfl ?_
  refine go_iload_n (pc := 25) hF dJ6_bitCount_0f7a4_25 0 rfl ?_
  refine go_iconst (pc := 26) hF dJ6_bitCount_0f7a4_26 ?_
  refine go_iushr (pc := 27) hF 0 (by decide) dJ6_bitCount_0f7a4_27 ?_
  refine go_iadd (pc := 28) hF dJ6_bitCount_0f7a4_28 ?_
  refine go_ldcw (pc := 29) hF kc_J6_267 dJ6_bitCount_0f7a4_29 ?_
  refine go_iand (pc := 32) hF 2 (by decide) dJ6_bitCount_0f7a4_32 ?_
  refine go_istore_n (pc := 33) hF [(0, vi 2)] dJ6_bitCount_0f7a4_33 rfl (by decide) ?_
  refine go_iload_n (pc := 34) hF dJ6_bitCount_0f7a4_34 0 rfl ?_
  refine go_iload_n (pc := 35) hF dJ6_bitCount_0f7a4_35 0 rfl ?_
  refine go_bipush (pc := 36) hF dJ6_bitCount_0f7a4_36 (by decide) ?_
  refine go_iushr (pc := 38) hF 0 (by decide) dJ6_bitCount_0f7a4_38 ?_
  refine go_iadd (pc := 39) hF dJ6_bitCount_0f7a4_39 ?_
  refine go_istore_n (pc := 40) hF [(0, vi 2)] dJ6_bitCount_0f7a4_40 rfl (by decide) ?_
  refine go_iload_n (pc := 41) hF dJ6_bitCount_0f7a4_41 0 rfl ?_
  refine go_iload_n (pc := 42) hF dJ6_bitCount_0f7a4_42 0 rfl ?_
  refine go_bipush (pc := 43) hF dJ6_bitCount_0f7a4_43 (by decide) ?_
  refine go_iushr (pc := 45) hF 0 (by decide) dJ6_bitCount_0f7a4_45 ?_
  refine go_iadd (pc := 46) hF dJ6_bitCount_0f7a4_46 ?_
  refine go_istore_n (pc := 47) hF [(0, vi 2)] dJ6_bitCount_0f7a4_47 rfl (by decide) ?_
  refine go_iload_n (pc := 48) hF dJ6_bitCount_0f7a4_48 0 rfl ?_
  refine go_bipush (pc := 49) hF dJ6_bitCount_0f7a4_49 (by decide) ?_
  refine go_iand (pc := 51) hF 2 (by decide) dJ6_bitCount_0f7a4_51 ?_
  exact go_iretQ hF hr hlk hQ dJ6_bitCount_0f7a4_52 ⟨by decide, rfl⟩
set_option maxHeartbeats 4000000 in
set_option maxRecDepth 100000 in
theorem c_J6_bitCount_11 (E : En) (N : Nat) (σ : Nat → va_E) : CP E M_J6_bitCount_0f7a4 1 [vi 11] N σ (pc6 11) := by
  refine CT.of2 (own := RJ6) (by decide) rfl (Nat.le_of_ble_eq_true rfl) ?_
  intro p e R s m args below meth c Q hF hr hlk hnm hz hR hQ
  refine go_iload_n (pc := 0) hF dJ6_bitCount_0f7a4_0 0 rfl ?_
  refine go_iload_n (pc := 1) hF dJ6_bitCount_0f7a4_1 0 rfl ?_
  refine go_iconst (pc := 2) hF dJ6_bitCount_0f7a4_2 ?_
  refine go_iushr (pc := 3) hF 5 (by decide) dJ6_bitCount_0f7a4_3 ?_
  refine go_ldcw (pc := 4) hF kc_J6_265 dJ6_bitCount_0f7a4_4 ?_
  refine go_iand (pc := 7) hF 5 (by decide) dJ6_bitCount_0f7a4_7 ?_
  refine go_isub (pc := 8) hF dJ6_bitCount_0f7a4_8 ?_
  refine go_istore_n (pc := 9) hF [(0, vi 6)] dJ6_bitCount_0f7a4_9 rfl (by decide) ?_
  refine go_iload_n (pc := 10) hF dJ6_bitCount_0f7a4_10 0 rfl ?_
  refine go_ldcw (pc := 11) hF kc_J6_266 dJ6_bitCount_0f7a4_11 ?_
  refine go_iand (pc := 14) hF 2 (by decide) dJ6_bitCount_0f7a4_14 ?_
  refine go_iload_n (pc := 15) hF dJ6_bitCount_0f7a4_15 0 rfl ?_
  refine go_iconst (pc := 16) hF dJ6_bitCount_0f7a4_16 ?_
  refine go_iushr (pc := 17) hF 1 (by decide) dJ6_bitCount_0f7a4_17 ?_
  refine go_ldcw (pc := 18) hF kc_J6_266 dJ6_bitCount_0f7a4_18 ?_
  refine go_iand (pc := 21) hF 1 (by decide) dJ6_bitCount_0f7a4_21 ?_
  refine go_iadd (pc := 22) hF dJ6_bitCount_0f7a4_22 ?_
  refine go_istore_n (pc := 23) hF [(0, vi 3)] dJ6_bitCount_0f7a4_23 rfl (by decide) ?_
  refine go_iload_n (pc := 24) hF dJ6_bitCount_0f7a4_24 0 rfl ?_
  refine go_iload_n (pc := 25) hF dJ6_bitCount_0f7a4_25 0 rfl ?_
  refine go_iconst (pc := 26) hF dJ6_bitCount_0f7a4_26 ?_
  refine go_iushr (pc := 27) hF 0 (by decide) dJ6_bitCount_0f7a4_27 ?_
  refine go_iadd (pc := 28) hF dJ6_bitCount_0f7a4_28 ?_
  refine go_ldcw (pc := 29) hF kc_J6_267 dJ6_bitCount_0f7a4_29 ?_
  refine go_iand (pc := 32) hF 3 (by decide) dJ6_bitCount_0f7a4_32 ?_
  refine go_istore_n (pc := 33) hF [(0, vi 3)] dJ6_bitCount_0f7a4_33 rfl (by decide) ?_
  refine go_iload_n (pc := 34) hF dJ6_bitCount_0f7a4_34 0 rfl ?_
  refine go_iload_n (pc := 35) hF dJ6_bitCount_0f7a4_35 0 rfl ?_
  refine go_bipush (pc := 36) hF dJ6_bitCount_0f7a4_36 (by decide) ?_
  refine go_iushr (pc := 38) hF 0 (by decide) dJ6_bitCount_0f7a4_38 ?_
  refine go_iadd (pc := 39) hF dJ6_bitCount_0f7a4_39 ?_
  refine go_istore_n (pc := 40) hF [(0, vi 3)] dJ6_bitCount_0f7a4_40 rfl (by decide) ?_
  refine go_iload_n (pc := 41) hF dJ6_bitCount_0f7a4_41 0 rfl ?_
  refine go_iload_n (pc := 42) hF dJ6_bitCount_0f7a4_42 0 rfl ?_
  refine go_bipush (pc := 43) hF dJ6_bitCount_0f7a4_43 (by decide) ?_
  refine go_iushr (pc := 45) hF 0 (by decide) dJ6_bitCount_0f7a4_45 ?_
  refine go_iadd (pc := 46) hF dJ6_bitCount_0f7a4_46 ?_
  refine go_istore_n (pc := 47) hF [(0, vi 3)] dJ6_bitCount_0f7a4_47 rfl (by decide) ?_
  refine go_iload_n (pc := 48) hF dJ6_bitCount_0f7a4_48 0 rfl ?_
  refine go_bipush (pc := 49) hF dJ6_bitCount_0f7a4_49 (by decide) ?_
  refine go_iand (pc := 51) hF 3 (by decide) dJ6_bitCount_0f7a4_51 ?_
  exact go_iretQ hF hr hlk hQ dJ6_bitCount_0f7a4_52 ⟨by decide, rfl⟩
set_option maxHeartbeats 4000000 in
set_option maxRecDepth 100000 in
theorem c_J6_bitCount_12 (E : En) (N : Nat) (σ : Nat → va_E) : CP E M_J6_bitCount_0f7a4 1 [vi 12] N σ (pc6 12) := by
  refine CT.of2 (own := RJ6) (by decide) rfl (Nat.le_of_ble_eq_true rfl) ?_
  intro p e R s m args below meth c Q hF hr hlk hnm hz hR hQ
  refine go_iload_n (pc := 0) hF dJ6_bitCount_0f7a4_0 0 rfl ?_
  refine go_iload_n (pc := 1) hF dJ6_bitCount_0f7a4_1 0 rfl ?_
  refine go_iconst (pc := 2) hF dJ6_bitCount_0f7a4_2 ?_
  refine go_iushr (pc := 3) hF 6 (by decide) dJ6_bitCount_0f7a4_3 ?_
  refine go_ldcw (pc := 4) hF kc_J6_265 dJ6_bitCount_0f7a4_4 ?_
  refine go_iand (pc := 7) hF 4 (by decide) dJ6_bitCount_0f7a4_7 ?_
  refine go_isub (pc := 8) hF dJ6_bitCount_0f7a4_8 ?_
  refine go_istore_n (pc := 9) hF [(0, vi 8)] dJ6_bitCount_0f7a4_9 rfl (by decide) ?_
  refine go_iload_n (pc := 10) hF dJ6_bitCount_0f7a4_10 0 rfl ?_
  refine go_ldcw (pc := 11) hF kc_J6_266 dJ6_bitCount_0f7a4_11 ?_
  refine go_iand (pc := 14) hF 0 (by decide) dJ6_bitCount_0f7a4_14 ?_
  refine go_iload_n (pc := 15) hF dJ6_bitCount_0f7a4_15 0 rfl ?_
  refine go_iconst (pc := 16) hF dJ6_bitCount_0f7a4_16 ?_
  refine go_iushr (pc := 17) hF 2 (by decide) dJ6_bitCount_0f7a4_17 ?_
  refine go_ldcw (pc := 18) hF kc_J6_266 dJ6_bitCount_0f7a4_18 ?_
  refine go_iand (pc := 21) hF 2 (by decide) dJ6_bitCount_0f7a4_21 ?_
  refine go_iadd (pc := 22) hF dJ6_bitCount_0f7a4_22 ?_
  refine go_istore_n (pc := 23) hF [(0, vi 2)] dJ6_bitCount_0f7a4_23 rfl (by decide) ?_
  refine go_iload_n (pc := 24) hF dJ6_bitCount_0f7a4_24 0 rfl ?_
  refine go_iload_n (pc := 25) hF dJ6_bitCount_0f7a4_25 0 rfl ?_
  refine go_iconst (pc := 26) hF dJ6_bitCount_0f7a4_26 ?_
  refine go_iushr (pc := 27) hF 0 (by decide) dJ6_bitCount_0f7a4_27 ?_
  refine go_iadd (pc := 28) hF dJ6_bitCount_0f7a4_28 ?_
  refine go_ldcw (pc := 29) hF kc_J6_267 dJ6_bitCount_0f7a4_29 ?_
  refine go_iand (pc := 32) hF 2 (by decide) dJ6_bitCount_0f7a4_32 ?_
  refine go_istore_n (pc := 33) hF [(0, vi 2)] dJ6_bitCount_0f7a4_33 rfl (by decide) ?_
  refine go_iload_n (pc := 34) hF dJ6_bitCount_0f7a4_34 0 rfl ?_
  refine go_iload_n (pc := 35) hF dJ6_bitCount_0f7a4_35 0 rfl ?_
  refine go_bipush (pc := 36) hF dJ6_bitCount_0f7a4_36 (by decide) ?_
  refine go_iushr (pc := 38) hF 0 (by decide) dJ6_bitCount_0f7a4_38 ?_
  refine go_iadd (pc := 39) hF dJ6_bitCount_0f7a4_39 ?_
  refine go_istore_n (pc := 40) hF [(0, vi 2)] dJ6_bitCount_0f7a4_40 rfl (by decide) ?_
  refine go_iload_n (pc := 41) hF dJ6_bitCount_0f7a4_41 0 rfl ?_
  refine go_iload_n (pc := 42) hF dJ6_bitCount_0f7a4_42 0 rfl ?_
  refine go_bipush (pc := 43) hF dJ6_bitCount_0f7a4_43 (by decide) ?_
  refine go_iushr (pc := 45) hF 0 (by decide) dJ6_bitCount_0f7a4_45 ?_
  refine go_iadd (pc := 46) hF dJ6_bitCount_0f7a4_46 ?_
  refine go_istore_n (pc := 47) hF [(0, vi 2)] dJ6_bitCount_0f7a4_47 rfl (by decide) ?_
  refine go_iload_n (pc := 48) hF dJ6_bitCount_0f7a4_48 0 rfl ?_
  refine go_bipush (pc := 49) hF dJ6_bitCount_0f7a4_49 (by decide) ?_
  refine go_iand (pc := 51) hF 2 (by decide) dJ6_bitCount_0f7a4_51 ?_
  exact go_iretQ hF hr hlk hQ dJ6_bitCount_0f7a4_52 ⟨by decide, rfl⟩
set_option maxHeartbeats 4000000 in
set_option maxRecDepth 100000 in
theorem c_J6_bitCount_13 (E : En) (N : Nat) (σ : Nat → va_E) : CP E M_J6_bitCount_0f7a4 1 [vi 13] N σ (pc6 13) := by
  refine CT.of2 (own := RJ6) (by decide) rfl (Nat.le_of_ble_eq_true rfl) ?_
  intro p e R s m args below meth c Q hF hr hlk hnm hz hR hQ
  refine go_iload_n (pc := 0) hF dJ6_bitCount_0f7a4_0 0 rfl ?_
  refine go_iload_n (pc := 1) hF dJ6_bitCount_0f7a4_1 0 rfl ?_
  refine go_iconst (pc := 2) hF dJ6_bitCount_0f7a4_2 ?_
  refine go_iushr (pc := 3) hF 6 (by decide) dJ6_bitCount_0f7a4_3 ?_
  refine go_ldcw (pc := 4) hF kc_J6_265 dJ6_bitCount_0f7a4_4 ?_
  refine go_iand (pc := 7) hF 4 (by decide) dJ6_bitCount_0f7a4_7 ?_
  refine go_isub (pc := 8) hF dJ6_bitCount_0f7a4_8 ?_
  refine go_istore_n (pc := 9) hF [(0, vi 9)] dJ6_bitCount_0f7a4_9 rfl (by decide) ?_
  refine go_iload_n (pc := 10) hF dJ6_bitCount_0f7a4_10 0 rfl ?_
  refine go_ldcw (pc := 11) hF kc_J6_266 dJ6_bitCount_0f7a4_11 ?_
  refine go_iand (pc := 14) hF 1 (by decide) dJ6_bitCount_0f7a4_14 ?_
  refine go_iload_n (pc := 15) hF dJ6_bitCount_0f7a4_15 0 rfl ?_
  refine go_iconst (pc := 16) hF dJ6_bitCount_0f7a4_16 ?_
  refine go_iushr (pc := 17) hF 2 (by decide) dJ6_bitCount_0f7a4_17 ?_
  refine go_ldcw (pc := 18) hF kc_J6_266 dJ6_bitCount_0f7a4_18 ?_
  refine go_iand (pc := 21) hF 2 (by decide) dJ6_bitCount_0f7a4_21 ?_
  refine go_iadd (pc := 22) hF dJ6_bitCount_0f7a4_22 ?_
  refine go_istore_n (pc := 23) hF [(0, vi 3)] dJ6_bitCount_0f7a4_23 rfl (by decide) ?_
  refine go_iload_n (pc := 24) hF dJ6_bitCount_0f7a4_24 0 rfl ?_
  refine go_iload_n (pc := 25) hF dJ6_bitCount_0f7a4_25 0 rfl ?_
  refine go_iconst (pc := 26) hF dJ6_bitCount_0f7a4_26 ?_
  refine go_iushr (pc := 27) hF 0 (by decide) dJ6_bitCount_0f7a4_27 ?_
  refine go_iadd (pc := 28) hF dJ6_bitCount_0f7a4_28 ?_
  refine go_ldcw (pc := 29) hF kc_J6_267 dJ6_bitCount_0f7a4_29 ?_
  refine go_iand (pc := 32) hF 3 (by decide) dJ6_bitCount_0f7a4_32 ?_
  refine go_istore_n (pc := 33) hF [(0, vi 3)] dJ6_bitCount_0f7a4_33 rfl (by decide) ?_
  refine go_iload_n (pc := 34) hF dJ6_bitCount_0f7a4_34 0 rfl ?_
  refine go_iload_n (pc := 35) hF dJ6_bitCount_0f7a4_35 0 rfl ?_
  refine go_bipush (pc := 36) hF dJ6_bitCount_0f7a4_36 (by decide) ?_
  refine go_iushr (pc := 38) hF 0 (by decide) dJ6_bitCount_0f7a4_38 ?_
  refine go_iadd (pc := 39) hF dJ6_bitCount_0f7a4_39 ?_
  refine go_istore_n (pc := 40) hF [(0, vi 3)] dJ6_bitCount_0f7a4_40 rfl (by decide) ?_
  refine go_iload_n (pc := 41) hF dJ6_bitCount_0f7a4_41 0 rfl ?_
  refine go_iload_n (pc := 42) hF dJ6_bitCount_0f7a4_42 0 rfl ?_
  refine go_bipush (pc := 43) hF dJ6_bitCount_0f7a4_43 (by decide) ?_
  refine go_iushr (pc := 45) hF 0 (by decide) dJ6_bitCount_0f7a4_45 ?_
  refine go_iadd (pc := 46) hF dJ6_bitCount_0f7a4_46 ?_
  refine go_istore_n (pc := 47) hF [(0, vi 3)] dJ6_bitCount_0f7a4_47 rfl (by decide) ?_
  refine go_iload_n (pc := 48) hF dJ6_bitCount_0f7a4_48 0 rfl ?_
  refine go_bipush (pc := 49) hF dJ6_bitCount_0f7a4_49 (by decide) ?_
  refine go_iand (pc := 51) hF 3 (by decide) dJ6_bitCount_0f7a4_51 ?_
  exact go_iretQ hF hr hlk hQ dJ6_bitCount_0f7a4_52 ⟨by decide, rfl⟩
set_option maxHeartbeats 4000000 in
set_option maxRecDepth 100000 in
theorem c_J6_bitCount_14 (E : En) (N : Nat) (σ : Nat → va_E) : CP E M_J6_bitCount_0f7a4 1 [vi 14] N σ (pc6 14) := by
  refine CT.of2 (own := RJ6) (by decide) rfl (Nat.le_of_ble_eq_true rfl) ?_
  intro p e R s m args below meth c Q hF hr hlk hnm hz hR hQ
  refine go_iload_n (pc := 0) hF dJ6_bitCount_0f7a4_0 0 rfl ?_
  refine go_iload_n (pc := 1) hF dJ6_bitCount_0f7a4_1 0 rfl ?_
  refine go_iconst (pc := 2) hF dJ6_bitCount_0f7a4_2 ?_
  refine go_iushr (pc := 3) hF 7 (by decide) dJ6_bitCount_0f7a4_3 ?_
  refine go_ldcw (pc := 4) hF kc_J6_265 dJ6_bitCount_0f7a4_4 ?_
  refine go_iand (pc := 7) hF 5 (by decide) dJ6_bitCount_0f7a4_7 ?_
  refine go_isub (pc := 8) hF dJ6_bitCount_0f7a4_8 ?_
  refine go_istore_n (pc := 9) hF [(0, vi 9)] dJ6_bitCount_0f7a4_9 rfl (by decide) ?_
  refine go_iload_n (pc := 10) hF dJ6_bitCount_0f7a4_10 0 rfl ?_
  refine go_ldcw (pc := 11) hF kc_J6_266 dJ6_bitCount_0f7a4_11 ?_
  refine go_iand (pc := 14) hF 1 (by decide) dJ6_bitCount_0f7a4_14 ?_
  refine go_iload_n (pc := 15) hF dJ6_bitCount_0f7a4_15 0 rfl ?_
  refine go_iconst (pc := 16) hF dJ6_bitCount_0f7a4_16 ?_
  refine go_iushr (pc := 17) hF 2 (by decide) dJ6_bitCount_0f7a4_17 ?_
  refine go_ldcw (pc := 18) hF kc_J6_266 dJ6_bitCount_0f7a4_18 ?_
  refine go_iand (pc := 21) hF 2 (by decide) dJ6_bitCount_0f7a4_21 ?_
  refine go_iadd (pc := 22) hF dJ6_bitCount_0f7a4_22 ?_
  refine go_istore_n (pc := 23) hF [(0, vi 3)] dJ6_bitCount_0f7a4_23 rfl (by decide) ?_
  refine go_iload_n (pc := 24) hF dJ6_bitCount_0f7a4_24 0 rfl ?_
  refine go_iload_n (pc := 25) hF dJ6_bitCount_0f7a4_25 0 rfl ?_
  refine go_iconst (pc := 26) hF dJ6_bitCount_0f7a4_26 ?_
  refine go_iushr (pc := 27) hF 0 (by decide) dJ6_bitCount_0f7a4_27 ?_
  refine go_iadd (pc := 28) hF dJ6_bitCount_0f7a4_28 ?_
  refine go_ldcw (pc := 29) hF kc_J6_267 dJ6_bitCount_0f7a4_29 ?_
  refine go_iand (pc := 32) hF 3 (by decide) dJ6_bitCount_0f7a4_32 ?_
  refine go_istore_n (pc := 33) hF [(0, vi 3)] dJ6_bitCount_0f7a4_33 rfl (by decide) ?_
  refine go_iload_n (pc := 34) hF dJ6_bitCount_0f7a4_34 0 rfl ?_
  refine go_iload_n (pc := 35) hF dJ6_bitCount_0f7a4_35 0 rfl ?_
  refine go_bipush (pc := 36) hF dJ6_bitCount_0f7a4_36 (by decide) ?_
  refine go_iushr (pc := 38) hF 0 (by decide) dJ6_bitCount_0f7a4_38 ?_
  refine go_iadd (pc := 39) hF dJ6_bitCount_0f7a4_39 ?_
  refine go_istore_n (pc := 40) hF [(0, vi 3)] dJ6_bitCount_0f7a4_40 rfl (by decide) ?_
  refine go_iload_n (pc := 41) hF dJ6_bitCount_0f7a4_41 0 rfl ?_
  refine go_iload_n (pc := 42) hF dJ6_bitCount_0f7a4_42 0 rfl ?_
  refine go_bipush (pc := 43) hF dJ6_bitCount_0f7a4_43 (by decide) ?_
  refine go_iushr (pc := 45) hF 0 (by decide) dJ6_bitCount_0f7a4_45 ?_
  refine go_iadd (pc := 46) hF dJ6_bitCount_0f7a4_46 ?_
  refine go_istore_n (pc := 47) hF [(0, vi 3)] dJ6_bitCount_0f7a4_47 rfl (by decide) ?_
  refine go_iload_n (pc := 48) hF dJ6_bitCount_0f7a4_48 0 rfl ?_
  refine go_bipush (pc := 49) hF dJ6_bitCount_0f7a4_49 (by decide) ?_
  refine go_iand (pc := 51) hF 3 (by decide) dJ6_bitCount_0f7a4_51 ?_
  exact go_iretQ hF hr hlk hQ dJ6_bitCount_0f7a4_52 ⟨by decide, rfl⟩
set_option maxHeartbeats 4000000 in
set_option maxRecDepth 100000 in
theorem c_J6_bitCount_15 (E : En) (N : Nat) (σ : Nat → va_E) : CP E M_J6_bitCount_0f7a4 1 [vi 15] N σ (pc6 15) := by
  refine CT.of2 (own := RJ6) (by decide) rfl (Nat.le_of_ble_eq_true rfl) ?_
  intro p e R s m args below meth c Q hF hr hlk hnm hz hR hQ
  refine go_iload_n (pc := 0) hF dJ6_bitCount_0f7a4_0 0 rfl ?_
  refine go_iload_n (pc := 1) hF dJ6_bitCount_0f7a4_1 0 rfl ?_
  refine go_iconst (pc := 2) hF dJ6_bitCount_0f7a4_2 ?_
  refine go_iushr (pc := 3) hF 7 (by decide) dJ6_bitCount_0f7a4_3 ?_
  refine go_ldcw (pc := 4) hF kc_J6_265 dJ6_bitCount_0f7a4_4 ?_
  refine go_iand (pc := 7) hF 5 (by decide) dJ6_bitCount_0f7a4_7 ?_
  refine go_isub (pc := 8) hF dJ6_bitCount_0f7a4_8 ?_
  refine go_istore_n (pc := 9) hF [(0, vi 10)] dJ6_bitCount_0f7a4_9 rfl (by decide) ?_
  refine go_iload_n (pc := 10) hF dJ6_bitCount_0f7a4_10 0 rfl ?_
  refine go_ldcw (pc := 11) hF kc_J6_266 dJ6_bitCount_0f7a4_11 ?_
  refine go_iand (pc := 14) hF 2 (by decide) dJ6_bitCount_0f7a4_14 ?_
  refine go_iload_n (pc := 15) hF dJ6_bitCount_0f7a4_15 0 rfl ?_
  refine go_iconst (pc := 16) hF dJ6_bitCount_0f7a4_16 ?_
  refine go_iushr (pc := 17) hF 2 (by decide) dJ6_bitCount_0f7a4_17 ?_
  refine go_ldcw (pc := 18) hF kc_J6_266 dJ6_bitCount_0f7a4_18 ?_
  refine go_iand (pc := 21) hF 2 (by decide) dJ6_bitCount_0f7a4_21 ?_
  refine go_iadd (pc := 22) hF dJ6_bitCount_0f7a4_22 ?_
  refine go_istore_n (pc := 23) hF [(0, vi 4)] dJ6_bitCount_0f7a4_23 rfl (by decide) ?_
  refine go_iload_n (pc := 24) hF dJ6_bitCount_0f7a4_24 0 rfl ?_
  refine go_iload_n (pc := 25) hF dJ6_bitCount_0f7a4_25 0 rfl ?_
  refine go_iconst (pc := 26) hF dJ6_bitCount_0f7a4_26 ?_
  refine go_iushr (pc := 27) hF 0 (by decide) dJ6_bitCount_0f7a4_27 ?_
  refine go_iadd (pc := 28) hF dJ6_bitCount_0f7a4_28 ?_
  refine go_ldcw (pc := 29) hF kc_J6_267 dJ6_bitCount_0f7a4_29 ?_
  refine go_iand (pc := 32) hF 4 (by decide) dJ6_bitCount_0f7a4_32 ?_
  refine go_istore_n (pc := 33) hF [(0, vi 4)] dJ6_bitCount_0f7a4_33 rfl (by decide) ?_
  refine go_iload_n (pc := 34) hF dJ6_bitCount_0f7a4_34 0 rfl ?_
  refine go_iload_n (pc := 35) hF dJ6_bitCount_0f7a4_35 0 rfl ?_
  refine go_bipush (pc := 36) hF dJ6_bitCount_0f7a4_36 (by decide) ?_
  refine go_iushr (pc := 38) hF 0 (by decide) dJ6_bitCount_0f7a4_38 ?_
  refine go_iadd (pc := 39) hF dJ6_bitCount_0f7a4_39 ?_
  refine go_istore_n (pc := 40) hF [(0, vi 4)] dJ6_bitCount_0f7a4_40 rfl (by decide) ?_
  refine go_iload_n (pc := 41) hF dJ6_bitCount_0f7a4_41 0 rfl ?_
  refine go_iload_n (pc := 42) hF dJ6_bitCount_0f7a4_42 0 rfl ?_
  refine go_bipush (pc := 43) hF dJ6_bitCount_0f7a4_43 (by decide) ?_
  refine go_iushr (pc := 45) hF 0 (by decide) dJ6_bitCount_0f7a4_45 ?_
  refine go_iadd (pc := 46) hF dJ6_bitCount_0f7a4_46 ?_
  refine go_istore_n (pc := 47) hF [(0, vi 4)] dJ6_bitCount_0f7a4_47 rfl (by decide) ?_
  refine go_iload_n (pc := 48) hF dJ6_bitCount_0f7a4_48 0 rfl ?_
  refine go_bipush (pc := 49) hF dJ6_bitCount_0f7a4_49 (by decide) ?_
  refine go_iand (pc := 51) hF 4 (by decide) dJ6_bitCount_0f7a4_51 ?_
  exact go_iretQ hF hr hlk hQ dJ6_bitCount_0f7a4_52 ⟨by decide, rfl⟩
set_option maxHeartbeats 4000000 in
set_option maxRecDepth 100000 in
theorem c_J6_bitCount_16 (E : En) (N : Nat) (σ : Nat → va_E) : CP E M_J6_bitCount_0f7a4 1 [vi 16] N σ (pc6 16) := by
  refine CT.of2 (own := RJ6) (by decide) rfl (Nat.le_of_ble_eq_true rfl) ?_
  intro p e R s m args below meth c Q hF hr hlk hnm hz hR hQ
  refine go_iload_n (pc := 0) hF dJ6_bitCount_0f7a4_0 0 rfl ?_
  refine go_iload_n (pc := 1) hF dJ6_bitCount_0f7a4_1 0 rfl ?_
  refine go_iconst (pc := 2) hF dJ6_bitCount_0f7a4_2 ?_
  refine go_iushr (pc := 3) hF 8 (by decide) dJ6_bitCount_0f7a4_3 ?_
  refine go_ldcw (pc := 4) hF kc_J6_265 dJ6_bitCount_0f7a4_4 ?_
  refine go_iand (pc := 7) hF 0 (by decide) dJ6_bitCount_0f7a4_7 ?_
  refine go_isub (pc := 8) hF dJ6_bitCount_0f7a4_8 ?_
  refine go_istore_n (pc := 9) hF [(0, vi 16)] dJ6_bitCount_0f7a4_9 rfl (by decide) ?_
  refine go_iload_n (pc := 10) hF dJ6_bitCount_0f7a4_10 0 rfl ?_
  refine go_ldcw (pc := 11) hF kc_J6_266 dJ6_bitCount_0f7a4_11 ?_
  refine go_iand (pc := 14) hF 16 (by decide) dJ6_bitCount_0f7a4_14 ?_
  refine go_iload_n (pc := 15) hF dJ6_bitCount_0f7a4_15 0 rfl ?_
  refine go_iconst (pc := 16) hF dJ6_bitCount_0f7a4_16 ?_
  refine go_iushr (pc := 17) hF 4 (by decide) dJ6_bitCount_0f7a4_17 ?_
  refine go_ldcw (pc := 18) hF kc_J6_266 dJ6_bitCount_0f7a4_18 ?_
  refine go_iand (pc := 21) hF 0 (by decide) dJ6_bitCount_0f7a4_21 ?_
  refine go_iadd (pc := 22) hF dJ6_bitCount_0f7a4_22 ?_
  refine go_istore_n (pc := 23) hF [(0, vi 16)] dJ6_bitCount_0f7a4_23 rfl (by decide) ?_
  refine go_iload_n (pc := 24) hF dJ6_bitCount_0f7a4_24 0 rfl ?_
  refine go_iload_n (pc := 25) hF dJ6_bitCount_0f7a4_25 0 rfl ?_
  refine go_iconst (pc := 26) hF dJ6_bitCount_0f7a4_26 ?_
  refine go_iushr (pc := 27) hF 1 (by decide) dJ6_bitCount_0f7a4_27 ?_
  refine go_iadd (pc := 28) hF dJ6_bitCount_0f7a4_28 ?_
  refine go_ldcw (pc := 29) hF kc_J6_267 dJ6_bitCount_0f7a4_29 ?_
  refine go_iand (pc := 32) hF 1 (by decide) dJ6_bitCount_0f7a4_32 ?_
  refine go_istore_n (pc := 33) hF [(0, vi 1)] dJ6_bitCount_0f7a4_33 rfl (by decide) ?_
  refine go_iload_n (pc := 34) hF dJ6_bitCount_0f7a4_34 0 rfl ?_
  refine go_iload_n (pc := 35) hF dJ6_bitCount_0f7a4_35 0 rfl ?_
  refine go_bipush (pc := 36) hF dJ6_bitCount_0f7a4_36 (by decide) ?_
  refine go_iushr (pc := 38) hF 0 (by decide) dJ6_bitCount_0f7a4_38 ?_
  refine go_iadd (pc := 39) hF dJ6_bitCount_0f7a4_39 ?_
  refine go_istore_n (pc := 40) hF [(0, vi 1)] dJ6_bitCount_0f7a4_40 rfl (by decide) ?_
  refine go_iload_n (pc := 41) hF dJ6_bitCount_0f7a4_41 0 rfl ?_
  refine go_iload_n (pc := 42) hF dJ6_bitCount_0f7a4_42 0 rfl ?_
  refine go_bipush (pc := 43) hF dJ6_bitCount_0f7a4_43 (by decide) ?_
  refine go_iushr (pc := 45) hF 0 (by decide) dJ6_bitCount_0f7a4_45 ?_
  refine go_iadd (pc := 46) hF dJ6_bitCount_0f7a4_46 ?_
  refine go_istore_n (pc := 47) hF [(0, vi 1)] dJ6_bitCount_0f7a4_47 rfl (by decide) ?_
  refine go_iload_n (pc := 48) hF dJ6_bitCount_0f7a4_48 0 rfl ?_
  refine go_bipush (pc := 49) hF dJ6_bitCount_0f7a4_49 (by decide) ?_
  refine go_iand (pc := 51) hF 1 (by decide) dJ6_bitCount_0f7a4_51 ?_
  exact go_iretQ hF hr hlk hQ dJ6_bitCount_0f7a4_52 ⟨by decide, rfl⟩
set_option maxHeartbeats 4000000 in
set_option maxRecDepth 100000 in
theorem c_J6_bitCount_17 (E : En) (N : Nat) (σ : Nat → va_E) : CP E M_J6_bitCount_0f7a4 1 [vi 17] N σ (pc6 17) := by
  refine CT.of2 (own := RJ6) (by decide) rfl (Nat.le_of_ble_eq_true rfl) ?_
  intro p e R s m args below meth c Q hF hr hlk hnm hz hR hQ
  refine go_iload_n (pc := 0) hF dJ6_bitCount_0f7a4_0 0 rfl ?_
  refine go_iload_n (pc := 1) hF dJ6_bitCount_0f7a4_1 0 rfl ?_
  refine go_iconst (pc := 2) hF dJ6_bitCount_0f7a4_2 ?_
  refine go_iushr (pc := 3) hF 8 (by decide) dJ6_bitCount_0f7a4_3 ?_
  refine go_ldcw (pc := 4) hF kc_J6_265 dJ6_bitCount_0f7a4_4 ?_
  refine go_iand (pc := 7) hF 0 (by decide) dJ6_bitCount_0f7a4_7 ?_
  refine go_isub (pc := 8) hF dJ6_bitCount_0f7a4_8 ?_
  refine go_istore_n (pc := 9) hF [(0, vi 17)] dJ6_bitCount_0f7a4_9 rfl (by decide) ?_
  refine go_iload_n (pc := 10) hF dJ6_bitCount_0f7a4_10 0 rfl ?_
  refine go_ldcw (pc := 11) hF kc_J6_266 dJ6_bitCount_0f7a4_11 ?_
  refine go_iand (pc := 14) hF 17 (by decide) dJ6_bitCount_0f7a4_14 ?_
  refine go_iload_n (pc := 15) hF dJ6_bitCount_0f7a4_15 0 rfl ?_
  refine go_iconst (pc := 16) hF dJ6_bitCount_0f7a4_16 ?_
  refine go_iushr (pc := 17) hF 4 (by decide) dJ6_bitCount_0f7a4_17 ?_
  refine go_ldcw (pc := 18) hF kc_J6_266 dJ6_bitCount_0f7a4_18 ?_
  refine go_iand (pc := 21) hF 0 (by decide) dJ6_bitCount_0f7a4_21 ?_
  refine go_iadd (pc := 22) hF dJ6_bitCount_0f7a4_22 ?_
  refine go_istore_n (pc := 23) hF [(0, vi 17)] dJ6_bitCount_0f7a4_23 rfl (by decide) ?_
  refine go_iload_n (pc := 24) hF dJ6_bitCount_0f7a4_24 0 rfl ?_
  refine go_iload_n (pc := 25) hF dJ6_bitCount_0f7a4_25 0 rfl ?_
  refine go_iconst (pc := 26) hF dJ6_bitCount_0f7a4_26 ?_
  refine go_iushr (pc := 27) hF 1 (by decide) dJ6_bitCount_0f7a4_27 ?_
  refine go_iadd (pc := 28) hF dJ6_bitCount_0f7a4_28 ?_
  refine go_ldcw (pc := 29) hF kc_J6_267 dJ6_bitCount_0f7a4_29 ?_
  refine go_iand (pc := 32) hF 2 (by decide) dJ6_bitCount_0f7a4_32 ?_
  refine go_istore_n (pc := 33) hF [(0, vi 2)] dJ6_bitCount_0f7a4_33 rfl (by decide) ?_
  refine go_iload_n (pc := 34) hF dJ6_bitCount_0f7a4_34 0 rfl ?_
  refine go_iload_n (pc := 35) hF dJ6_bitCount_0f7a4_35 0 rfl ?_
  refine go_bipush (pc := 36) hF dJ6_bitCount_0f7a4_36 (by decide) ?_
  refine go_iushr (pc := 38) hF 0 (by decide) dJ6_bitCount_0f7a4_38 ?_
  refine go_iadd (pc := 39) hF dJ6_bitCount_0f7a4_39 ?_
  refine go_istore_n (pc := 40) hF [(0, vi 2)] dJ6_bitCount_0f7a4_40 rfl (by decide) ?_
  refine go_iload_n (pc := 41) hF dJ6_bitCount_0f7a4_41 0 rfl ?_
  refine go_iload_n (pc := 42) hF dJ6_bitCount_0f7a4_42 0 rfl ?_
  refine go_bipush (pc := 43) hF dJ6_bitCount_0f7a4_43 (by decide) ?_
  refine go_iushr (pc := 45) hF 0 (by decide) dJ6_bitCount_0f7a4_45 ?_
  refine go_iadd (pc := 46) hF dJ6_bitCount_0f7a4_46 ?_
  refine go_istore_n (pc := 47) hF [(0, vi 2)] dJ6_bitCount_0f7a4_47 rfl (by decide) ?_
  refine go_iload_n (pc := 48) hF dJ6_bitCount_0f7a4_48 0 rfl ?_
  refine go_bipush (pc := 49) hF dJ6_bitCount_0f7a4_49 (by decide) ?_
  refine go_iand (pc := 51) hF 2 (by decide) dJ6_bitCount_0f7a4_51 ?_
  exact go_iretQ hF hr hlk hQ dJ6_bitCount_0f7a4_52 ⟨by decide, rfl⟩
set_option maxHeartbeats 4000000 in
set_option maxRecDepth 100000 in
theorem c_J6_bitCount_18 (E : En) (N : Nat) (σ : Nat → va_E) : CP E M_J6_bitCount_0f7a4 1 [vi 18] N σ (pc6 18) := by
  refine CT.of2 (own := RJ6) (by decide) rfl (Nat.le_of_ble_eq_true rfl) ?_
  intro p e R s m args below meth c Q hF hr hlk hnm hz hR hQ
  refine go_iload_n (pc := 0) hF dJ6_bitCount_0f7a4_0 0 rfl ?_
  refine go_iload_n (pc := 1) hF dJ6_bitCount_0f7a4_1 0 rfl ?_
  refine go_iconst (pc := 2) hF dJ6_bitCount_0f7a4_2 ?_
  refine go_iushr (pc := 3) hF 9 (by decide) dJ6_bitCount_0f7a4_3 ?_
  refine go_ldcw (pc := 4) hF kc_J6_265 dJ6_bitCount_0f7a4_4 ?_
  refine go_iand (pc := 7) hF 1 (by decide) dJ6_bitCount_0f7a4_7 ?_
  refine go_isub (pc := 8) hF dJ6_bitCount_0f7a4_8 ?_
  refine go_istore_n (pc := 9) hF [(0, vi 17)] dJ6_bitCount_0f7a4_9 rfl (by decide) ?_
  refine go_iload_n (pc := 10) hF dJ6_bitCount_0f7a4_10 0 rfl ?_
  refine go_ldcw (pc := 11) hF kc_J6_266 dJ6_bitCount_0f7a4_11 ?_
  refine go_iand (pc := 14) hF 17 (by decide) dJ6_bitCount_0f7a4_14 ?_
  refine go_iload_n (pc := 15) hF dJ6_bitCount_0f7a4_15 0 rfl ?_
  refine go_iconst (pc := 16) hF dJ6_bitCount_0f7a4_16 ?_
  refine go_iushr (pc := 17) hF 4 (by decide) dJ6_bitCount_0f7a4_17 ?_
  refine go_ldcw (pc := 18) hF kc_J6_266 dJ6_bitCount_0f7a4_18 ?_
  refine go_iand (pc := 21) hF 0 (by decide) dJ6_bitCount_0f7a4_21 ?_
  refine go_iadd (pc := 22) hF dJ6_bitCount_0f7a4_22 ?_
  refine go_istore_n (pc := 23) hF [(0, vi 17)] dJ6_bitCount_0f7a4_23 rfl (by decide) ?_
  refine go_iload_n (pc := 24) hF dJ6_bitCount_0f7a4_24 0 rfl ?_
  refine go_iload_n (pc := 25) hF dJ6_bitCount_0f7a4_25 0 rfl ?_
  refine go_iconst (pc := 26) hF dJ6_bitCount_0f7a4_26 ?_
  refine go_iushr (pc := 27) hF 1 (by decide) dJ6_bitCount_0f7a4_27 ?_
  refine go_iadd (pc := 28) hF dJ6_bitCount_0f7a4_28 ?_
  refine go_ldcw (pc := 29) hF kc_J6_267 dJ6_bitCount_0f7a4_29 ?_
  refine go_iand (pc := 32) hF 2 (by decide) dJ6_bitCount_0f7a4_32 ?_
  refine go_istore_n (pc := 33) hF [(0, vi 2)] dJ6_bitCount_0f7a4_33 rfl (by decide) ?_
  refine go_iload_n (pc := 34) hF dJ6_bitCount_0f7a4_34 0 rfl ?_
  refine go_iload_n (pc := 35) hF dJ6_bitCount_0f7a4_35 0 rfl ?_
  refine go_bipush (pc := 36) hF dJ6_bitCount_0f7a4_36 (by decide) ?_
  refine go_iushr (pc := 38) hF 0 (by decide) dJ6_bitCount_0f7a4_38 ?_
  refine go_iadd (pc := 39) hF dJ6_bitCount_0f7a4_39 ?_
  refine go_istore_n (pc := 40) hF [(0, vi 2)] dJ6_bitCount_0f7a4_40 rfl (by decide) ?_
  refine go_iload_n (pc := 41) hF dJ6_bitCount_0f7a4_41 0 rfl ?_
  refine go_iload_n (pc := 42) hF dJ6_bitCount_0f7a4_42 0 rfl ?_
  refine go_bipush (pc := 43) hF dJ6_bitCount_0f7a4_43 (by decide) ?_
  refine go_iushr (pc := 45) hF 0 (by decide) dJ6_bitCount_0f7a4_45 ?_
  refine go_iadd (pc := 46) hF dJ6_bitCount_0f7a4_46 ?_
  refine go_istore_n (pc := 47) hF [(0, vi 2)] dJ6_bitCount_0f7a4_47 rfl (by decide) ?_
  refine go_iload_n (pc := 48) hF dJ6_bitCount_0f7a4_48 0 rfl ?_
  refine go_bipush (pc := 49) hF dJ6_bitCount_0f7a4_49 (by decide) ?_
  refine go_iand (pc := 51) hF 2 (by decide) dJ6_bitCount_0f7a4_51 ?_
  exact go_iretQ hF hr hlk hQ dJ6_bitCount_0f7a4_52 ⟨by decide, rfl⟩
set_option maxHeartbeats 4000000 in
set_option maxRecDepth 100000 in
theorem c_J6_bitCount_19 (E : En) (N : Nat) (σ : Nat → va_E) : CP E M_J6_bitCount_0f7a4 1 [vi 19] N σ (pc6 19) := by
  refine CT.of2 (own := RJ6) (by decide) rfl (Nat.le_of_ble_eq_true rfl) ?_
  intro p e R s m args below meth c Q hF hr hlk hnm hz hR hQ
  refine go_iload_n (pc := 0) hF dJ6_bitCount_0f7a4_0 0 rfl ?_
  refine go_iload_n (pc := 1) hF dJ6_bitCount_0f7a4_1 0 rfl ?_
  refine go_iconst (pc := 2) hF dJ6_bitCount_0f7a4_2 ?_
  refine go_iushr (pc := 3) hF 9 (by decide) dJ6_bitCount_0f7a4_3 ?_
  refine go_ldcw (pc := 4) hF kc_J6_265 dJ6_bitCount_0f7a4_4 ?_
  refine go_iand (pc := 7) hF 1 (by decide) dJ6_bitCount_0f7a4_7 ?_
  refine go_isub (pc := 8) hF dJ6_bitCount_0f7a4_8 ?_
  refine go_istore_n (pc := 9) hF [(0, vi 18)] dJ6_bitCount_0f7a4_9 rfl (by decide) ?_
  refine go_iload_n (pc := 10) hF dJ6_bitCount_0f7a4_10 0 rfl ?_
  refine go_ldcw (pc := 11) hF kc_J6_266 dJ6_bitCount_0f7a4_11 ?_
  refine go_iand (pc := 14) hF 18 (by decide) dJ6_bitCount_0f7a4_14 ?_
  refine go_iload_n (pc := 15) hF dJ6_bitCount_0f7a4_15 0 rfl ?_
  refine go_iconst (pc := 16) hF dJ6_bitCount_0f7a4_16 ?_
  refine go_iushr (pc := 17) hF 4 (by decide) dJ6_bitCount_0f7a4_17 ?_
  refine go_ldcw (pc := 18) hF kc_J6_266 dJ6_bitCount_0f7a4_18 ?_
  refine go_iand (pc := 21) hF 0 (by decide) dJ6_bitCount_0f7a4_21 ?_
  refine go_iadd (pc := 22) hF dJ6_bitCount_0f7a4_22 ?_
  refine go_istore_n (pc := 23) hF [(0, vi 18)] dJ6_bitCount_0f7a4_23 rfl (by decide) ?_
  refine go_iload_n (pc := 24) hF dJ6_bitCount_0f7a4_24 0 rfl ?_
  refine go_iload_n (pc := 25) hF dJ6_bitCount_0f7a4_25 0 rfl ?_
  refine go_iconst (pc := 26) hF dJ6_bitCount_0f7a4_26 ?_
  refine go_iushr (pc := 27) hF 1 (by decide) dJ6_bitCount_0f7a4_27 ?_
  refine go_iadd (pc := 28) hF dJ6_bitCount_0f7a4_28 ?_
  refine go_ldcw (pc := 29) hF kc_J6_267 dJ6_bitCount_0f7a4_29 ?_
  refine go_iand (pc := 32) hF 3 (by decide) dJ6_bitCount_0f7a4_32 ?_
  refine go_istore_n (pc := 33) hF [(0, vi 3)] dJ6_bitCount_0f7a4_33 rfl (by decide) ?_
  refine go_iload_n (pc := 34) hF dJ6_bitCount_0f7a4_34 0 rfl ?_
  refine go_iload_n (pc := 35) hF dJ6_bitCount_0f7a4_35 0 rfl ?_
  refine go_bipush (pc := 36) hF dJ6_bitCount_0f7a4_36 (by decide) ?_
  refine go_iushr (pc := 38) hF 0 (by decide) dJ6_bitCount_0f7a4_38 ?_
  refine go_iadd (pc := 39) hF dJ6_bitCount_0f7a4_39 ?_
  refine go_istore_n (pc := 40) hF [(0, vi 3)] dJ6_bitCount_0f7a4_40 rfl (by decide) ?_
  refine go_iload_n (pc := 41) hF dJ6_bitCount_0f7a4_41 0 rfl ?_
  refine go_iload_n (pc := 42) hF dJ6_bitCount_0f7a4_42 0 rfl ?_
  refine go_bipush (pc := 43) hF dJ6_bitCount_0f7a4_43 (by decide) ?_
  refine go_iushr (pc := 45) hF 0 (by decide) dJ6_bitCount_0f7a4_45 ?_
  refine go_iadd (pc := 46) hF dJ6_bitCount_0f7a4_46 ?_
  refine go_istore_n (pc := 47) hF [(0, vi 3)] dJ6_bitCount_0f7a4_47 rfl (by decide) ?_
  refine go_iload_n (pc := 48) hF dJ6_bitCount_0f7a4_48 0 rfl ?_
  refine go_bipush (pc := 49) hF dJ6_bitCount_0f7a4_49 (by decide) ?_
  refine go_iand (pc := 51) hF 3 (by decide) dJ6_bitCount_0f7a4_51 ?_
  exact go_iretQ hF hr hlk hQ dJ6_bitCount_0f7a4_52 ⟨by decide, rfl⟩
set_option maxHeartbeats 4000000 in
set_option maxRecDepth 100000 in
theorem c_J6_bitCount_20 (E : En) (N : Nat) (σ : Nat → va_E) : CP E M_J6_bitCount_0f7a4 1 [vi 20] N σ (pc6 20) := by
  refine CT.of2 (own := RJ6) (by decide) rfl (Nat.le_of_ble_eq_true rfl) ?_
  intro p e R s m args below meth c Q hF hr hlk hnm hz hR hQ
  refine go_iload_n (pc := 0) hF dJ6_bitCount_0f7a4_0 0 rfl ?_
  refine go_iload_n (pc := 1) hF dJ6_bitCount_0f7a4_1 0 rfl ?_
  refine go_iconst (pc := 2) hF dJ6_bitCount_0f7a4_2 ?_
  refine go_iushr (pc := 3) hF 10 (by decide) dJ6_bitCount_0f7a4_3 ?_
  refine go_ldcw (pc := 4) hF kc_J6_265 dJ6_bitCount_0f7a4_4 ?_
  refine go_iand (pc := 7) hF 0 (by decide) dJ6_bitCount_0f7a4_7 ?_
  refine go_isub (pc := 8) hF dJ6_bitCount_0f7a4_8 ?_
  refine go_istore_n (pc := 9) hF [(0, vi 20)] dJ6_bitCount_0f7a4_9 rfl (by decide) ?_
  refine go_iload_n (pc := 10) hF dJ6_bitCount_0f7a4_10 0 rfl ?_
  refine go_ldcw (pc := 11) hF kc_J6_266 dJ6_bitCount_0f7a4_11 ?_
  refine go_iand (pc := 14) hF 16 (by decide) dJ6_bitCount_0f7a4_14 ?_
  refine go_iload_n (pc := 15) hF dJ6_bitCount_0f7a4_15 0 rfl ?_
  refine go_iconst (pc := 16) hF dJ6_bitCount_0f7a4_16 ?_
  refine go_iushr (pc := 17) hF 5 (by decide) dJ6_bitCount_0f7a4_17 ?_
  refine go_ldcw (pc := 18) hF kc_J6_266 dJ6_bitCount_0f7a4_18 ?_
  refine go_iand (pc := 21) hF 1 (by decide) dJ6_bitCount_0f7a4_21 ?_
  refine go_iadd (pc := 22) hF dJ6_bitCount_0f7a4_22 ?_
  refine go_istore_n (pc := 23) hF [(0, vi 17)] dJ6_bitCount_0f7a4_23 rfl (by decide) ?_
  refine go_iload_n (pc := 24) hF dJ6_bitCount_0f7a4_24 0 rfl ?_
  refine go_iload_n (pc := 25) hF dJ6_bitCount_0f7a4_25 0 rfl ?_
  refine go_iconst (pc := 26) hF dJ6_bitCount_0f7a4_26 ?_
  refine go_iushr (pc := 27) hF 1 (by decide) dJ6_bitCount_0f7a4_27 ?_
  refine go_iadd (pc := 28) hF dJ6_bitCount_0f7a4_28 ?_
  refine go_ldcw (pc := 29) hF kc_J6_267 dJ6_bitCount_0f7a4_29 ?_
  refine go_iand (pc := 32) hF 2 (by decide) dJ6_bitCount_0f7a4_32 ?_
  refine go_istore_n (pc := 33) hF [(0, vi 2)] dJ6_bitCount_0f7a4_33 rfl (by decide) ?_
  refine go_iload_n (pc := 34) hF dJ6_bitCount_0f7a4_34 0 rfl ?_
  refine go_iload_n (pc := 35) hF dJ6_bitCount_0f7a4_35 0 rfl ?_
  refine go_bipush (pc := 36) hF dJ6_bitCount_0f7a4_36 (by decide) ?_
  refine go_iushr (pc := 38) hF 0 (by decide) dJ6_bitCount_0f7a4_38 ?_
  refine go_iadd (pc := 39) hF dJ6_bitCount_0f7a4_39 ?_
  refine go_istore_n (pc := 40) hF [(0, vi 2)] dJ6_bitCount_0f7a4_40 rfl (by decide) ?_
  refine go_iload_n (pc := 41) hF dJ6_bitCount_0f7a4_41 0 rfl ?_
  refine go_iload_n (pc := 42) hF dJ6_bitCount_0f7a4_42 0 rfl ?_
  refine go_bipush (pc := 43) hF dJ6_bitCount_0f7a4_43 (by decide) ?_
  refine go_iushr (pc := 45) hF 0 (by decide) dJ6_bitCount_0f7a4_45 ?_
  refine go_iadd (pc := 46) hF dJ6_bitCount_0f7a4_46 ?_
  refine go_istore_n (pc := 47) hF [(0, vi 2)] dJ6_bitCount_0f7a4_47 rfl (by decide) ?_
  refine go_iload_n (pc := 48) hF dJ6_bitCount_0f7a4_48 0 rfl ?_
  refine go_bipush (pc := 49) hF dJ6_bitCount_0f7a4_49 (by decide) ?_
  refine go_iand (pc := 51) hF 2 (by decide) dJ6_bitCount_0f7a4_51 ?_
  exact go_iretQ hF hr hlk hQ dJ6_bitCount_0f7a4_52 ⟨by decide, rfl⟩
set_option maxHeartbeats 4000000 in
set_option maxRecDepth 100000 in
theorem c_J6_bitCount_21 (E : En) (N : Nat) (σ : Nat → va_E) : CP E M_J6_bitCount_0f7a4 1 [vi 21] N σ (pc6 21) := by
  refine CT.of2 (own := RJ6) (by decide) rfl (Nat.le_of_ble_eq_true rfl) ?_
  intro p e R s m args below meth c Q hF hr hlk hnm hz hR hQ
  refine go_iload_n (pc := 0) hF dJ6_bitCount_0f7a4_0 0 rfl ?_
  refine go_iload_n (pc := 1) hF dJ6_bitCount_0f7a4_1 0 rfl ?_
  refine go_iconst (pc := 2) hF dJ6_bitCount_0f7a4_2 ?_
  refine go_iushr (pc := 3) hF 10 (by decide) dJ6_bitCount_0f7a4_3 ?_
  refine go_ldcw (pc := 4) hF kc_J6_265 dJ6_bitCount_0f7a4_4 ?_
  refine go_iand (pc := 7) hF 0 (by decide) dJ6_bitCount_0f7a4_7 ?_
  refine go_isub (pc := 8) hF dJ6_bitCount_0f7a4_8 ?_
  refine go_istore_n (pc := 9) hF [(0, vi 21)] dJ6_bitCount_0f7a4_9 rfl (by decide) ?_
  refine go_iload_n (pc := 10) hF dJ6_bitCount_0f7a4_10 0 rfl ?_
  refine go_ldcw (pc := 11) hF kc_J6_266 dJ6_bitCount_0f7a4_11 ?_
  refine go_iand (pc := 14) hF 17 (by decide) dJ6_bitCount_0f7a4_14 ?_
  refine go_iload_n (pc := 15) hF dJ6_bitCount_0f7a4_15 0 rfl ?_
  refine go_iconst (pc := 16) hF dJ6_bitCount_0f7a4_16 ?_
  refine go_iushr (pc := 17) hF 5 (by decide) dJ6_bitCount_0f7a4_17 ?_
  refine go_ldcw (pc := 18) hF kc_J6_266 dJ6_bitCount_0f7a4_18 ?_
  refine go_iand (pc := 21) hF 1 (by decide) dJ6_bitCount_0f7a4_21 ?_
  refine go_iadd (pc := 22) hF dJ6_bitCount_0f7a4_22 ?_
  refine go_istore_n (pc := 23) hF [(0, vi 18)] dJ6_bitCount_0f7a4_23 rfl (by decide) ?_
  refine go_iload_n (pc := 24) hF dJ6_bitCount_0f7a4_24 0 rfl ?_
  refine go_iload_n (pc := 25) hF dJ6_bitCount_0f7a4_25 0 rfl ?_
  refine go_iconst (pc := 26) hF dJ6_bitCount_0f7a4_26 ?_
  refine go_iushr (pc := 27) hF 1 (by decide) dJ6_bitCount_0f7a4_27 ?_
  refine go_iadd (pc := 28) hF dJ6_bitCount_0f7a4_28 ?_
  refine go_ldcw (pc := 29) hF kc_J6_267 dJ6_bitCount_0f7a4_29 ?_
  refine go_iand (pc := 32) hF 3 (by decide) dJ6_bitCount_0f7a4_32 ?_
  refine go_istore_n (pc := 33) hF [(0, vi 3)] dJ6_bitCount_0f7a4_33 rfl (by decide) ?_
  refine go_iload_n (pc := 34) hF dJ6_bitCount_0f7a4_34 0 rfl ?_
  refine go_iload_n (pc := 35) hF dJ6_bitCount_0f7a4_35 0 rfl ?_
  refine go_bipush (pc := 36) hF dJ6_bitCount_0f7a4_36 (by decide) ?_
  refine go_iushr (pc := 38) hF 0 (by decide) dJ6_bitCount_0f7a4_38 ?_
  refine go_iadd (pc := 39) hF dJ6_bitCount_0f7a4_39 ?_
  refine go_istore_n (pc := 40) hF [(0, vi 3)] dJ6_bitCount_0f7a4_40 rfl (by decide) ?_
  refine go_iload_n (pc := 41) hF dJ6_bitCount_0f7a4_41 0 rfl ?_
  refine go_iload_n (pc := 42) hF dJ6_bitCount_0f7a4_42 0 rfl ?_
  refine go_bipush (pc := 43) hF dJ6_bitCount_0f7a4_43 (by decide) ?_
  refine go_iushr (pc := 45) hF 0 (by decide) dJ6_bitCount_0f7a4_45 ?_
  refine go_iadd (pc := 46) hF dJ6_bitCount_0f7a4_46 ?_
  refine go_istore_n (pc := 47) hF [(0, vi 3)] dJ6_bitCount_0f7a4_47 rfl (by decide) ?_
  refine go_iload_n (pc := 48) hF dJ6_bitCount_0f7a4_48 0 rfl ?_
  refine go_bipush (pc := 49) hF dJ6_bitCount_0f7a4_49 (by decide) ?_
  refine go_iand (pc := 51) hF 3 (by decide) dJ6_bitCount_0f7a4_51 ?_
  exact go_iretQ hF hr hlk hQ dJ6_bitCount_0f7a4_52 ⟨by decide, rfl⟩
set_option maxHeartbeats 4000000 in
set_option maxRecDepth 100000 in
theorem c_J6_bitCount_22 (E : En) (N : Nat) (σ : Nat → va_E) : CP E M_J6_bitCount_0f7a4 1 [vi 22] N σ (pc6 22) := by
  refine CT.of2 (own := RJ6) (by decide) rfl (Nat.le_of_ble_eq_true rfl) ?_
  intro p e R s m args below meth c Q hF hr hlk hnm hz hR hQ
  refine go_iload_n (pc := 0) hF dJ6_bitCount_0f7a4_0 0 rfl ?_
  refine go_iload_n (pc := 1) hF dJ6_bitCount_0f7a4_1 0 rfl ?_
  refine go_iconst (pc := 2) hF dJ6_bitCount_0f7a4_2 ?_
  refine go_iushr (pc := 3) hF 11 (by decide) dJ6_bitCount_0f7a4_3 ?_
  refine go_ldcw (pc := 4) hF kc_J6_265 dJ6_bitCount_0f7a4_4 ?_
  refine go_iand (pc := 7) hF 1 (by decide) dJ6_bitCount_0f7a4_7 ?_
  refine go_isub (pc := 8) hF dJ6_bitCount_0f7a4_8 ?_
  refine go_istore_n (pc := 9) hF [(0, vi 21)] dJ6_bitCount_0f7a4_9 rfl (by decide) ?_
  refine go_iload_n (pc := 10) hF dJ6_bitCount_0f7a4_10 0 rfl ?_
  refine go_ldcw (pc := 11) hF kc_J6_266 dJ6_bitCount_0f7a4_11 ?_
  refine go_iand (pc := 14) hF 17 (by decide) dJ6_bitCount_0f7a4_14 ?_
  refine go_iload_n (pc := 15) hF dJ6_bitCount_0f7a4_15 0 rfl ?_
  refine go_iconst (pc := 16) hF dJ6_bitCount_0f7a4_16 ?_
  refine go_iushr (pc := 17) hF 5 (by decide) dJ6_bitCount_0f7a4_17 ?_
  refine go_ldcw (pc := 18) hF kc_J6_266 dJ6_bitCount_0f7a4_18 ?_
  refine go_iand (pc := 21) hF 1 (by decide) dJ6_bitCount_0f7a4_21 ?_
  refine go_iadd (pc := 22) hF dJ6_bitCount_0f7a4_22 ?_
  refine go_istore_n (pc := 23) hF [(0, vi 18)] dJ6_bitCount_0f7a4_23 rfl (by decide) ?_
  refine go_iload_n (pc := 24) hF dJ6_bitCount_0f7a4_24 0 rfl ?_
  refine go_iload_n (pc := 25) hF dJ6_bitCount_0f7a4_25 0 rfl ?_
  refine go_iconst (pc := 26) hF dJ6_bitCount_0f7a4_26 ?_
  refine go_iushr (pc := 27) hF 1 (by decide) dJ6_bitCount_0f7a4_27 ?_
  refine go_iadd (pc := 28) hF dJ6_bitCount_0f7a4_28 ?_
  refine go_ldcw (pc := 29) hF kc_J6_267 dJ6_bitCount_0f7a4_29 ?_
  refine go_iand (pc := 32) hF 3 (by decide) dJ6_bitCount_0f7a4_32 ?_
  refine go_istore_n (pc := 33) hF [(0, vi 3)] dJ6_bitCount_0f7a4_33 rfl (by decide) ?_
  refine go_iload_n (pc := 34) hF dJ6_bitCount_0f7a4_34 0 rfl ?_
  refine go_iload_n (pc := 35) hF dJ6_bitCount_0f7a4_35 0 rfl ?_
  refine go_bipush (pc := 36) hF dJ6_bitCount_0f7a4_36 (by decide) ?_
  refine go_iushr (pc := 38) hF 0 (by decide) dJ6_bitCount_0f7a4_38 ?_
  refine go_iadd (pc := 39) hF dJ6_bitCount_0f7a4_39 ?_
  refine go_istore_n (pc := 40) hF [(0, vi 3)] dJ6_bitCount_0f7a4_40 rfl (by decide) ?_
  refine go_iload_n (pc := 41) hF dJ6_bitCount_0f7a4_41 0 rfl ?_
  refine go_iload_n (pc := 42) hF dJ6_bitCount_0f7a4_42 0 rfl ?_
  refine go_bipush (pc := 43) hF dJ6_bitCount_0f7a4_43 (by decide) ?_
  refine go_iushr (pc := 45) hF 0 (by decide) dJ6_bitCount_0f7a4_45 ?_
  refine go_iadd (pc := 46) hF dJ6_bitCount_0f7a4_46 ?_
  refine go_istore_n (pc := 47) hF [(0, vi 3)] dJ6_bitCount_0f7a4_47 rfl (by decide) ?_
  refine go_iload_n (pc := 48) hF dJ6_bitCount_0f7a4_48 0 rfl ?_
  refine go_bipush (pc := 49) hF dJ6_bitCount_0f7a4_49 (by decide) ?_
  refine go_iand (pc := 51) hF 3 (by decide) dJ6_bitCount_0f7a4_51 ?_
  exact go_iretQ hF hr hlk hQ dJ6_bitCount_0f7a4_52 ⟨by decide, rfl⟩
set_option maxHeartbeats 4000000 in
set_option maxRecDepth 100000 in
theorem c_J6_bitCount_23 (E : En) (N : Nat) (σ : Nat → va_E) : CP E M_J6_bitCount_0f7a4 1 [vi 23] N σ (pc6 23) := by
  refine CT.of2 (own := RJ6) (by decide) rfl (Nat.le_of_ble_eq_true rfl) ?_
  intro p e R s m args below meth c Q hF hr hlk hnm hz hR hQ
  refine go_iload_n (pc := 0) hF dJ6_bitCount_0f7a4_0 0 rfl ?_
  refine go_iload_n (pc := 1) hF dJ6_bitCount_0f7a4_1 0 rfl ?_
  refine go_iconst (pc := 2) hF dJ6_bitCount_0f7a4_2 ?_
  refine go_iushr (pc := 3) hF 11 (by decide) dJ6_bitCount_0f7a4_3 ?_
  refine go_ldcw (pc := 4) hF kc_J6_265 dJ6_bitCount_0f7a4_4 ?_
  refine go_iand (pc := 7) hF 1 (by decide) dJ6_bitCount_0f7a4_7 ?_
  refine go_isub (pc := 8) hF dJ6_bitCount_0f7a4_8 ?_
  refine go_istore_n (pc := 9) hF [(0, vi 22)] dJ6_bitCount_0f7a4_9 rfl (by decide) ?_
  refine go_iload_n (pc := 10) hF dJ6_bitCount_0f7a4_10 0 rfl ?_
  refine go_ldcw (pc := 11) hF kc_J6_266 dJ6_bitCount_0f7a4_11 ?_
  refine go_iand (pc := 14) hF 18 (by decide) dJ6_bitCount_0f7a4_14 ?_
  refine go_iload_n (pc := 15) hF dJ6_bitCount_0f7a4_15 0 rfl ?_
  refine go_iconst (pc := 16) hF dJ6_bitCount_0f7a4_16 ?_
  refine go_iushr (pc := 17) hF 5 (by decide) dJ6_bitCount_0f7a4_17 ?_
  refine go_ldcw (pc := 18) hF kc_J6_266 dJ6_bitCount_0f7a4_18 ?_
  refine go_iand (pc := 21) hF 1 (by decide) dJ6_bitCount_0f7a4_21 ?_
  refine go_iadd (pc := 22) hF dJ6_bitCount_0f7a4_22 ?_
  refine go_istore_n (pc := 23) hF [(0, vi 19)] dJ6_bitCount_0f7a4_23 rfl (by decide) ?_
  refine go_iload_n (pc := 24) hF dJ6_bitCount_0f7a4_24 0 rfl ?_
  refine go_iload_n (pc := 25) hF dJ6_bitCount_0f7a4_25 0 rfl ?_
  refine go_iconst (pc := 26) hF dJ6_bitCount_0f7a4_26 ?_
  refine go_iushr (pc := 27) hF 1 (by decide) dJ6_bitCount_0f7a4_27 ?_
  refine go_iadd (pc := 28) hF dJ6_bitCount_0f7a4_28 ?_
  refine go_ldcw (pc := 29) hF kc_J6_267 dJ6_bitCount_0f7a4_29 ?_
  refine go_iand (pc := 32) hF 4 (by decide) dJ6_bitCount_0f7a4_32 ?_
  refine go_istore_n (pc := 33) hF [(0, vi 4)] dJ6_bitCount_0f7a4_33 rfl (by decide) ?_
  refine go_iload_n (pc := 34) hF dJ6_bitCount_0f7a4_34 0 rfl ?_
  refine go_iload_n (pc := 35) hF dJ6_bitCount_0f7a4_35 0 rfl ?_
  refine go_bipush (pc := 36) hF dJ6_bitCount_0f7a4_36 (by decide) ?_
  refine go_iushr (pc := 38) hF 0 (by decide) dJ6_bitCount_0f7a4_38 ?_
  refine go_iadd (pc := 39) hF dJ6_bitCount_0f7a4_39 ?_
  refine go_istore_n (pc := 40) hF [(0, vi 4)] dJ6_bitCount_0f7a4_40 rfl (by decide) ?_
  refine go_iload_n (pc := 41) hF dJ6_bitCount_0f7a4_41 0 rfl ?_
  refine go_iload_n (pc := 42) hF dJ6_bitCount_0f7a4_42 0 rfl ?_
  refine go_bipush (pc := 43) hF dJ6_bitCount_0f7a4_43 (by decide) ?_
  refine go_iushr (pc := 45) hF 0 (by decide) dJ6_bitCount_0f7a4_45 ?_
  refine go_iadd (pc := 46) hF dJ6_bitCount_0f7a4_46 ?_
  refine go_istore_n (pc := 47) hF [(0, vi 4)] dJ6_bitCount_0f7a4_47 rfl (by decide) ?_
  refine go_iload_n (pc := 48) hF dJ6_bitCount_0f7a4_48 0 rfl ?_
  refine go_bipush (pc := 49) hF dJ6_bitCount_0f7a4_49 (by decide) ?_
  refine go_iand (pc := 51) hF 4 (by decide) dJ6_bitCount_0f7a4_51 ?_
  exact go_iretQ hF hr hlk hQ dJ6_bitCount_0f7a4_52 ⟨by decide, rfl⟩
set_option maxHeartbeats 4000000 in
set_option maxRecDepth 100000 in
theorem c_J6_bitCount_24 (E : En) (N : Nat) (σ : Nat → va_E) : CP E M_J6_bitCount_0f7a4 1 [vi 24] N σ (pc6 24) := by
  refine CT.of2 (own := RJ6) (by decide) rfl (Nat.le_of_ble_eq_true rfl) ?_
  intro p e R s m args below meth c Q hF hr hlk hnm hz hR hQ
  refine go_iload_n (pc := 0) hF dJ6_bitCount_0f7a4_0 0 rfl ?_
  refine go_iload_n (pc := 1) hF dJ6_bitCount_0f7a4_1 0 rfl ?_
  refine go_iconst (pc := 2) hF dJ6_bitCount_0f7a4_2 ?_
  refine go_iushr (pc := 3) hF 12 (by decide) dJ6_bitCount_0f7a4_3 ?_
  refine go_ldcw (pc := 4) hF kc_J6_265 dJ6_bitCount_0f7a4_4 ?_
  refine go_iand (pc := 7) hF 4 (by decide) dJ6_bitCount_0f7a4_7 ?_
  refine go_isub (pc := 8) hF dJ6_bitCount_0f7a4_8 ?_
  refine go_istore_n (pc := 9) hF [(0, vi 20)] dJ6_bitCount_0f7a4_9 rfl (by decide) ?_
  refine go_iload_n (pc := 10) hF dJ6_bitCount_0f7a4_10 0 rfl ?_
  refine go_ldcw (pc := 11) hF kc_J6_266 dJ6_bitCount_0f7a4_11 ?_
  refine go_iand (pc := 14) hF 16 (by decide) dJ6_bitCount_0f7a4_14 ?_
  refine go_iload_n (pc := 15) hF dJ6_bitCount_0f7a4_15 0 rfl ?_
  refine go_iconst (pc := 16) hF dJ6_bitCount_0f7a4_16 ?_
  refine go_iushr (pc := 17) hF 5 (by decide) dJ6_bitCount_0f7a4_17 ?_
  refine go_ldcw (pc := 18) hF kc_J6_266 dJ6_bitCount_0f7a4_18 ?_
  refine go_iand (pc := 21) hF 1 (by decide) dJ6_bitCount_0f7a4_21 ?_
  refine go_iadd (pc := 22) hF dJ6_bitCount_0f7a4_22 ?_
  refine go_istore_n (pc := 23) hF [(0, vi 17)] dJ6_bitCount_0f7a4_23 rfl (by decide) ?_
  refine go_iload_n (pc := 24) hF dJ6_bitCount_0f7a4_24 0 rfl ?_
  refine go_iload_n (pc := 25) hF dJ6_bitCount_0f7a4_25 0 rfl ?_
  refine go_iconst (pc := 26) hF dJ6_bitCount_0f7a4_26 ?_
  refine go_iushr (pc := 27) hF 1 (by decide) dJ6_bitCount_0f7a4_27 ?_
  refine go_iadd (pc := 28) hF dJ6_bitCount_0f7a4_28 ?_
  refine go_ldcw (pc := 29) hF kc_J6_267 dJ6_bitCount_0f7a4_29 ?_
  refine go_iand (pc := 32) hF 2 (by decide) dJ6_bitCount_0f7a4_32 ?_
  refine go_istore_n (pc := 33) hF [(0, vi 2)] dJ6_bitCount_0f7a4_33 rfl (by decide) ?_
  refine go_iload_n (pc := 34) hF dJ6_bitCount_0f7a4_34 0 rfl ?_
  refine go_iload_n (pc := 35) hF dJ6_bitCount_0f7a4_35 0 rfl ?_
  refine go_bipush (pc := 36) hF dJ6_bitCount_0f7a4_36 (by decide) ?_
  refine go_iushr (pc := 38) hF 0 (by decide) dJ6_bitCount_0f7a4_38 ?_
  refine go_iadd (pc := 39) hF dJ6_bitCount_0f7a4_39 ?_
  refine go_istore_n (pc := 40) hF [(0, vi 2)] dJ6_bitCount_0f7a4_40 rfl (by decide) ?_
  refine go_iload_n (pc := 41) hF dJ6_bitCount_0f7a4_41 0 rfl ?_
  refine go_iload_n (pc := 42) hF dJ6_bitCount_0f7a4_42 0 rfl ?_
  refine go_bipush (pc := 43) hF dJ6_bitCount_0f7a4_43 (by decide) ?_
  refine go_iushr (pc := 45) hF 0 (by decide) dJ6_bitCount_0f7a4_45 ?_
  refine go_iadd (pc := 46) hF dJ6_bitCount_0f7a4_46 ?_
  refine go_istore_n (pc := 47) hF [(0, vi 2)] dJ6_bitCount_0f7a4_47 rfl (by decide) ?_
  refine go_iload_n (pc := 48) hF dJ6_bitCount_0f7a4_48 0 rfl ?_
  refine go_bipush (pc := 49) hF dJ6_bitCount_0f7a4_49 (by decide) ?_
  refine go_iand (pc := 51) hF 2 (by decide) dJ6_bitCount_0f7a4_51 ?_
  exact go_iretQ hF hr hlk hQ dJ6_bitCount_0f7a4_52 ⟨by decide, rfl⟩
set_option maxHeartbeats 4000000 in
set_option maxRecDepth 100000 in
theorem c_J6_bitCount_25 (E : En) (N : Nat) (σ : Nat → va_E) : CP E M_J6_bitCount_0f7a4 1 [vi 25] N σ (pc6 25) := by
  refine CT.of2 (own := RJ6) (by decide) rfl (Nat.le_of_ble_eq_true rfl) ?_
  intro p e R s m args below meth c Q hF hr hlk hnm hz hR hQ
  refine go_iload_n (pc := 0) hF dJ6_bitCount_0f7a4_0 0 rfl ?_
  refine go_iload_n (pc := 1) hF dJ6_bitCount_0f7a4_1 0 rfl ?_
  refine go_iconst (pc := 2) hF dJ6_bitCount_0f7a4_2 ?_
  refine go_iushr (pc := 3) hF 12 (by decide) dJ6_bitCount_0f7a4_3 ?_
  refine go_ldcw (pc := 4) hF kc_J6_265 dJ6_bitCount_0f7a4_4 ?_
  refine go_iand (pc := 7) hF 4 (by decide) dJ6_bitCount_0f7a4_7 ?_
  refine go_isub (pc := 8) hF dJ6_bitCount_0f7a4_8 ?_
  refine go_istore_n (pc := 9) hF [(0, vi 21)] dJ6_bitCount_0f7a4_9 rfl (by decide) ?_
  refine go_iload_n (pc := 10) hF dJ6_bitCount_0f7a4_10 0 rfl ?_
  refine go_ldcw (pc := 11) hF kc_J6_266 dJ6_bitCount_0f7a4_11 ?_
  refine go_iand (pc := 14) hF 17 (by decide) dJ6_bitCount_0f7a4_14 ?_
  refine go_iload_n (pc := 15) hF dJ6_bitCount_0f7a4_15 0 rfl ?_
  refine go_iconst (pc := 16) hF dJ6_bitCount_0f7a4_16 ?_
  refine go_iushr (pc := 17) hF 5 (by decide) dJ6_bitCount_0f7a4_17 ?_
  refine go_ldcw (pc := 18) hF kc_J6_266 dJ6_bitCount_0f7a4_18 ?_
  refine go_iand (pc := 21) hF 1 (by decide) dJ6_bitCount_0f7a4_21 ?_
  refine go_iadd (pc := 22) hF dJ6_bitCount_0f7a4_22 ?_
  refine go_istore_n (pc := 23) hF [(0, vi 18)] dJ6_bitCount_0f7a4_23 rfl (by decide) ?_
  refine go_iload_n (pc := 24) hF dJ6_bitCount_0f7a4_24 0 rfl ?_
  refine go_iload_n (pc := 25) hF dJ6_bitCount_0f7a4_25 0 rfl ?_
  refine go_iconst (pc := 26) hF dJ6_bitCount_0f7a4_26 ?_
  refine go_iushr (pc := 27) hF 1 (by decide) dJ6_bitCount_0f7a4_27 ?_
  refine go_iadd (pc := 28) hF dJ6_bitCount_0f7a4_28 ?_
  refine go_ldcw (pc := 29) hF kc_J6_267 dJ6_bitCount_0f7a4_29 ?_
  refine go_iand (pc := 32) hF 3 (by decide) dJ6_bitCount_0f7a4_32 ?_
  refine go_istore_n (pc := 33) hF [(0, vi 3)] dJ6_bitCount_0f7a4_33 rfl (by decide) ?_
  refine go_iload_n (pc := 34) hF dJ6_bitCount_0f7a4_34 0 rfl ?_
  refine go_iload_n (pc := 35) hF dJ6_bitCount_0f7a4_35 0 rfl ?_
  refine go_bipush (pc := 36) hF dJ6_bitCount_0f7a4_36 (by decide) ?_
  refine go_iushr (pc := 38) hF 0 (by decide) dJ6_bitCount_0f7a4_38 ?_
  refine go_iadd (pc := 39) hF dJ6_bitCount_0f7a4_39 ?_
  refine go_istore_n (pc := 40) hF [(0, vi 3)] dJ6_bitCount_0f7a4_40 rfl (by decide) ?_
  refine go_iload_n (pc := 41) hF dJ6_bitCount_0f7a4_41 0 rfl ?_
  refine go_iload_n (pc := 42) hF dJ6_bitCount_0f7a4_42 0 rfl ?_
  refine go_bipush (pc := 43) hF dJ6_bitCount_0f7a4_43 (by decide) ?_
  refine go_iushr (pc := 45) hF 0 (by decide) dJ6_bitCount_0f7a4_45 ?_
  refine go_iadd (pc := 46) hF dJ6_bitCount_0f7a4_46 ?_
  refine go_istore_n (pc := 47) hF [(0, vi 3)] dJ6_bitCount_0f7a4_47 rfl (by decide) ?_
  refine go_iload_n (pc := 48) hF dJ6_bitCount_0f7a4_48 0 rfl ?_
  refine go_bipush (pc := 49) hF dJ6_bitCount_0f7a4_49 (by decide) ?_
  refine go_iand (pc := 51) hF 3 (by decide) dJ6_bitCount_0f7a4_51 ?_
  exact go_iretQ hF hr hlk hQ dJ6_bitCount_0f7a4_52 ⟨by decide, rfl⟩
set_option maxHeartbeats 4000000 in
set_option maxRecDepth 100000 in
theorem c_J6_bitCount_26 (E : En) (N : Nat) (σ : Nat → va_E) : CP E M_J6_bitCount_0f7a4 1 [vi 26] N σ (pc6 26) := by
  refine CT.of2 (own := RJ6) (by decide) rfl (Nat.le_of_ble_eq_true rfl) ?_
  intro p e R s m args below meth c Q hF hr hlk hnm hz hR hQ
  refine go_iload_n (pc := 0) hF dJ6_bitCount_0f7a4_0 0 rfl ?_
  refine go_iload_n (pc := 1) hF dJ6_bitCount_0f7a4_1 0 rfl ?_
  refine go_iconst (pc := 2) hF dJ6_bitCount_0f7a4_2 ?_
  refine go_iushr (pc := 3) hF 13 (by decide) dJ6_bitCount_0f7a4_3 ?_
  refine go_ldcw (pc := 4) hF kc_J6_265 dJ6_bitCount_0f7a4_4 ?_
  refine go_iand (pc := 7) hF 5 (by decide) dJ6_bitCount_0f7a4_7 ?_
  refine go_isub (pc := 8) hF dJ6_bitCount_0f7a4_8 ?_
  refine go_istore_n (pc := 9) hF [(0, vi 21)] dJ6_bitCount_0f7a4_9 rfl (by decide) ?_
  refine go_iload_n (pc := 10) hF dJ6_bitCount_0f7a4_10 0 rfl ?_
  refine go_ldcw (pc := 11) hF kc_J6_266 dJ6_bitCount_0f7a4_11 ?_
  refine go_iand (pc := 14) hF 17 (by decide) dJ6_bitCount_0f7a4_14 ?_
  refine go_iload_n (pc := 15) hF dJ6_bitCount_0f7a4_15 0 rfl ?_
  refine go_iconst (pc := 16) hF dJ6_bitCount_0f7a4_16 ?_
  refine go_iushr (pc := 17) hF 5 (by decide) dJ6_bitCount_0f7a4_17 ?_
  refine go_ldcw (pc := 18) hF kc_J6_266 dJ6_bitCount_0f7a4_18 ?_
  refine go_iand (pc := 21) hF 1 (by decide) dJ6_bitCount_0f7a4_21 ?_
  refine go_iadd (pc := 22) hF dJ6_bitCount_0f7a4_22 ?_
  refine go_istore_n (pc := 23) hF [(0, vi 18)] dJ6_bitCount_0f7a4_23 rfl (by decide) ?_
  refine go_iload_n (pc := 24) hF dJ6_bitCount_0f7a4_24 0 rfl ?_
  refine go_iload_n (pc := 25) hF dJ6_bitCount_0f7a4_25 0 rfl ?_
  refine go_iconst (pc := 26) hF dJ6_bitCount_0f7a4_26 ?_
  refine go_iushr (pc := 27) hF 1 (by decide) dJ6_bitCount_0f7a4_27 ?_
  refine go_iadd (pc := 28) hF dJ6_bitCount_0f7a4_28 ?_
  refine go_ldcw (pc := 29) hF kc_J6_267 dJ6_bitCount_0f7a4_29 ?_
  refine go_iand (pc := 32) hF 3 (by decide) dJ6_bitCount_0f7a4_32 ?_
  refine go_istore_n (pc := 33) hF [(0, vi 3)] dJ6_bitCount_0f7a4_33 rfl (by decide) ?_
  refine go_iload_n (pc := 34) hF dJ6_bitCount_0f7a4_34 0 rfl ?_
  refine go_iload_n (pc := 35) hF dJ6_bitCount_0f7a4_35 0 rfl ?_
  refine go_bipush (pc := 36) hF dJ6_bitCount_0f7a4_36 (by decide) ?_
  refine go_iushr (pc := 38) hF 0 (by decide) dJ6_bitCount_0f7a4_38 ?_
  refine go_iadd (pc := 39) hF dJ6_bitCount_0f7a4_39 ?_
  refine go_istore_n (pc := 40) hF [(0, vi 3)] dJ6_bitCount_0f7a4_40 rfl (by decide) ?_
  refine go_iload_n (pc := 41) hF dJ6_bitCount_0f7a4_41 0 rfl ?_
  refine go_iload_n (pc := 42) hF dJ6_bitCount_0f7a4_42 0 rfl ?_
  refine go_bipush (pc := 43) hF dJ6_bitCount_0f7a4_43 (by decide) ?_
  refine go_iushr (pc := 45) hF 0 (by decide) dJ6_bitCount_0f7a4_45 ?_
  refine go_iadd (pc := 46) hF dJ6_bitCount_0f7a4_46 ?_
  refine go_istore_n (pc := 47) hF [(0, vi 3)] dJ6_bitCount_0f7a4_47 rfl (by decide) ?_
  refine go_iload_n (pc := 48) hF dJ6_bitCount_0f7a4_48 0 rfl ?_
  refine go_bipush (pc := 49) hF dJ6_bitCount_0f7a4_49 (by decide) ?_
  refine go_iand (pc := 51) hF 3 (by decide) dJ6_bitCount_0f7a4_51 ?_
  exact go_iretQ hF hr hlk hQ dJ6_bitCount_0f7a4_52 ⟨by decide, rfl⟩
set_option maxHeartbeats 4000000 in
set_option maxRecDepth 100000 in
theorem c_J6_bitCount_27 (E : En) (N : Nat) (σ : Nat → va_E) : CP E M_J6_bitCount_0f7a4 1 [vi 27] N σ (pc6 27) := by
  refine CT.of2 (own := RJ6) (by decide) rfl (Nat.le_of_ble_eq_true rfl) ?_
  intro p e R s m args below meth c Q hF hr hlk hnm hz hR hQ
  refine go_iload_n (pc := 0) hF dJ6_bitCount_0f7a4_0 0 rfl ?_
  refine go_iload_n (pc := 1) hF dJ6_bitCount_0f7a4_1 0 rfl ?_
  refine go_iconst (pc := 2) hF dJ6_bitCount_0f7a4_2 ?_
  refine go_iushr (pc := 3) hF 13 (by decide) dJ6_bitCount_0f7a4_3 ?_
  refine go_ldcw (pc := 4) hF kc_J6_265 dJ6_bitCount_0f7a4_4 ?_
  refine go_iand (pc := 7) hF 5 (by decide) dJ6_bitCount_0f7a4_7 ?_
  refine go_isub (pc := 8) hF dJ6_bitCount_0f7a4_8 ?_
  refine go_istore_n (pc := 9) hF [(0, vi 22)] dJ6_bitCount_0f7a4_9 rfl (by decide) ?_
  refine go_iload_n (pc := 10) hF dJ6_bitCount_0f7a4_10 0 rfl ?_
  refine go_ldcw (pc := 11) hF kc_J6_266 dJ6_bitCount_0f7a4_11 ?_
  refine go_iand (pc := 14) hF 18 (by decide) dJ6_bitCount_0f7a4_14 ?_
  refine go_iload_n (pc := 15) hF dJ6_bitCount_0f7a4_15 0 rfl ?_
  refine go_iconst (pc := 16) hF dJ6_bitCount_0f7a4_16 ?_
  refine go_iushr (pc := 17) hF 5 (by decide) dJ6_bitCount_0f7a4_17 ?_
  refine go_ldcw (pc := 18) hF kc_J6_266 dJ6_bitCount_0f7a4_18 ?_
  refine go_iand (pc := 21) hF 1 (by decide) dJ6_bitCount_0f7a4_21 ?_
  refine go_iadd (pc := 22) hF dJ6_bitCount_0f7a4_22 ?_
  refine go_istore_n (pc := 23) hF [(0, vi 19)] dJ6_bitCount_0f7a4_23 rfl (by decide) ?_
  refine go_iload_n (pc := 24) hF dJ6_bitCount_0f7a4_24 0 rfl ?_
  refine go_iload_n (pc := 25) hF dJ6_bitCount_0f7a4_25 0 rfl ?_
  refine go_iconst (pc := 26) hF dJ6_bitCount_0f7a4_26 ?_
  refine go_iushr (pc := 27) hF 1 (by decide) dJ6_bitCount_0f7a4_27 ?_
  refine go_iadd (pc := 28) hF dJ6_bitCount_0f7a4_28 ?_
  refine go_ldcw (pc := 29) hF kc_J6_267 dJ6_bitCount_0f7a4_29 ?_
  refine go_iand (pc := 32) hF 4 (by decide) dJ6_bitCount_0f7a4_32 ?_
  refine go_istore_n (pc := 33) hF [(0, vi 4)] dJ6_bitCount_0f7a4_33 rfl (by decide) ?_
  refine go_iload_n (pc := 34) hF dJ6_bitCount_0f7a4_34 0 rfl ?_
  refine go_iload_n (pc := 35) hF dJ6_bitCount_0f7a4_35 0 rfl ?_
  refine go_bipush (pc := 36) hF dJ6_bitCount_0f7a4_36 (by decide) ?_
  refine go_iushr (pc := 38) hF 0 (by decide) dJ6_bitCount_0f7a4_38 ?_
  refine go_iadd (pc := 39) hF dJ6_bitCount_0f7a4_39 ?_
  refine go_istore_n (pc := 40) hF [(0, vi 4)] dJ6_bitCount_0f7a4_40 rfl (by decide) ?_
  refine go_iload_n (pc := 41) hF dJ6_bitCount_0f7a4_41 0 rfl ?_
  refine go_iload_n (pc := 42) hF dJ6_bitCount_0f7a4_42 0 rfl ?_
  refine go_bipush (pc := 43) hF dJ6_bitCount_0f7a4_43 (by decide) ?_
  refine go_iushr (pc := 45) hF 0 (by decide) dJ6_bitCount_0f7a4_45 ?_
  refine go_iadd (pc := 46) hF dJ6_bitCount_0f7a4_46 ?_
  refine go_istore_n (pc := 47) hF [(0, vi 4)] dJ6_bitCount_0f7a4_47 rfl (by decide) ?_
  refine go_iload_n (pc := 48) hF dJ6_bitCount_0f7a4_48 0 rfl ?_
  refine go_bipush (pc := 49) hF dJ6_bitCount_0f7a4_49 (by decide) ?_
  refine go_iand (pc := 51) hF 4 (by decide) dJ6_bitCount_0f7a4_51 ?_
  exact go_iretQ hF hr hlk hQ dJ6_bitCount_0f7a4_52 ⟨by decide, rfl⟩
set_option maxHeartbeats 4000000 in
set_option maxRecDepth 100000 in
theorem c_J6_bitCount_28 (E : En) (N : Nat) (σ : Nat → va_E) : CP E M_J6_bitCount_0f7a4 1 [vi 28] N σ (pc6 28) := by
  refine CT.of2 (own := RJ6) (by decide) rfl (Nat.le_of_ble_eq_true rfl) ?_
  intro p e R s m args below meth c Q hF hr hlk hnm hz hR hQ
  refine go_iload_n (pc := 0) hF dJ6_bitCount_0f7a4_0 0 rfl ?_
  refine go_iload_n (pc := 1) hF dJ6_bitCount_0f7a4_1 0 rfl ?_
  refine go_iconst (pc := 2) hF dJ6_bitCount_0f7a4_2 ?_
  refine go_iushr (pc := 3) hF 14 (by decide) dJ6_bitCount_0f7a4_3 ?_
  refine go_ldcw (pc := 4) hF kc_J6_265 dJ6_bitCount_0f7a4_4 ?_
  refine go_iand (pc := 7) hF 4 (by decide) dJ6_bitCount_0f7a4_7 ?_
  refine go_isub (pc := 8) hF dJ6_bitCount_0f7a4_8 ?_
  refine go_istore_n (pc := 9) hF [(0, vi 24)] dJ6_bitCount_0f7a4_9 rfl (by decide) ?_
  refine go_iload_n (pc := 10) hF dJ6_bitCount_0f7a4_10 0 rfl ?_
  refine go_ldcw (pc := 11) hF kc_J6_266 dJ6_bitCount_0f7a4_11 ?_
  refine go_iand (pc := 14) hF 16 (by decide) dJ6_bitCount_0f7a4_14 ?_
  refine go_iload_n (pc := 15) hF dJ6_bitCount_0f7a4_15 0 rfl ?_
  refine go_iconst (pc := 16) hF dJ6_bitCount_0f7a4_16 ?_
  refine go_iushr (pc := 17) hF 6 (by decide) dJ6_bitCount_0f7a4_17 ?_
  refine go_ldcw (pc := 18) hF kc_J6_266 dJ6_bitCount_0f7a4_18 ?_
  refine go_iand (pc := 21) hF 2 (by decide) dJ6_bitCount_0f7a4_21 ?_
  refine go_iadd (pc := 22) hF dJ6_bitCount_0f7a4_22 ?_
  refine go_istore_n (pc := 23) hF [(0, vi 18)] dJ6_bitCount_0f7a4_23 rfl (by decide) ?_
  refine go_iload_n (pc := 24) hF dJ6_bitCount_0f7a4_24 0 rfl ?_
  refine go_iload_n (pc := 25) hF dJ6_bitCount_0f7a4_25 0 rfl ?_
  refine go_iconst (pc := 26) hF dJ6_bitCount_0f7a4_26 ?_
  refine go_iushr (pc := 27) hF 1 (by decide) dJ6_bitCount_0f7a4_27 ?_
  refine go_iadd (pc := 28) hF dJ6_bitCount_0f7a4_28 ?_
  refine go_ldcw (pc := 29) hF kc_J6_267 dJ6_bitCount_0f7a4_29 ?_
  refine go_iand (pc := 32) hF 3 (by decide) dJ6_bitCount_0f7a4_32 ?_
  refine go_istore_n (pc := 33) hF [(0, vi 3)] dJ6_bitCount_0f7a4_33 rfl (by decide) ?_
  refine go_iload_n (pc := 34) hF dJ6_bitCount_0f7a4_34 0 rfl ?_
  refine go_iload_n (pc := 35) hF dJ6_bitCount_0f7a4_35 0 rfl ?_
  refine go_bipush (pc := 36) hF dJ6_bitCount_0f7a4_36 (by decide) ?_
  refine go_iushr (pc := 38) hF 0 (by decide) dJ6_bitCount_0f7a4_38 ?_
  refine go_iadd (pc := 39) hF dJ6_bitCount_0f7a4_39 ?_
  refine go_istore_n (pc := 40) hF [(0, vi 3)] dJ6_bitCount_0f7a4_40 rfl (by decide) ?_
  refine go_iload_n (pc := 41) hF dJ6_bitCount_0f7a4_41 0 rfl ?_
  refine go_iload_n (pc := 42) hF dJ6_bitCount_0f7a4_42 0 rfl ?_
  refine go_bipush (pc := 43) hF dJ6_bitCount_0f7a4_43 (by decide) ?_
  refine go_iushr (pc := 45) hF 0 (by decide) dJ6_bitCount_0f7a4_45 ?_
  refine go_iadd (pc := 46) hF dJ6_bitCount_0f7a4_46 ?_
  refine go_istore_n (pc := 47) hF [(0, vi 3)] dJ6_bitCount_0f7a4_47 rfl (by decide) ?_
  refine go_iload_n (pc := 48) hF dJ6_bitCount_0f7a4_48 0 rfl ?_
  refine go_bipush (pc := 49) hF dJ6_bitCount_0f7a4_49 (by decide) ?_
  refine go_iand (pc := 51) hF 3 (by decide) dJ6_bitCount_0f7a4_51 ?_
  exact go_iretQ hF hr hlk hQ dJ6_bitCount_0f7a4_52 ⟨by decide, rfl⟩
set_option maxHeartbeats 4000000 in
set_option maxRecDepth 100000 in
theorem c_J6_bitCount_29 (E : En) (N : Nat) (σ : Nat → va_E) : CP E M_J6_bitCount_0f7a4 1 [vi 29] N σ (pc6 29) := by
  refine CT.of2 (own := RJ6) (by decide) rfl (Nat.le_of_ble_eq_true rfl) ?_
  intro p e R s m args below meth c Q hF hr hlk hnm hz hR hQ
  refine go_iload_n (pc := 0) hF dJ6_bitCount_0f7a4_0 0 rfl ?_
  refine go_iload_n (pc := 1) hF dJ6_bitCount_0f7a4_1 0 rfl ?_
  refine go_iconst (pc := 2) hF dJ6_bitCount_0f7a4_2 ?_
  refine go_iushr (pc := 3) hF 14 (by decide) dJ6_bitCount_0f7a4_3 ?_
  refine go_ldcw (pc := 4) hF kc_J6_265 dJ6_bitCount_0f7a4_4 ?_
  refine go_iand (pc := 7) hF 4 (by decide) dJ6_bitCount_0f7a4_7 ?_
  refine go_isub (pc := 8) hF dJ6_bitCount_0f7a4_8 ?_
  refine go_istore_n (pc := 9) hF [(0, vi 25)] dJ6_bitCount_0f7a4_9 rfl (by decide) ?_
  refine go_iload_n (pc := 10) hF dJ6_bitCount_0f7a4_10 0 rfl ?_
  refine go_ldcw (pc := 11) hF kc_J6_266 dJ6_bitCount_0f7a4_11 ?_
  refine go_iand (pc := 14) hF 17 (by decide) dJ6_bitCount_0f7a4_14 ?_
  refine go_iload_n (pc := 15) hF dJ6_bitCount_0f7a4_15 0 rfl ?_
  refine go_iconst (pc := 16) hF dJ6_bitCount_0f7a4_16 ?_
  refine go_iushr (pc := 17) hF 6 (by decide) dJ6_bitCount_0f7a4_17 ?_
  refine go_ldcw (pc := 18) hF kc_J6_266 dJ6_bitCount_0f7a4_18 ?_
  refine go_iand (pc := 21) hF 2 (by decide) dJ6_bitCount_0f7a4_21 ?_
  refine go_iadd (pc := 22) hF dJ6_bitCount_0f7a4_22 ?_
  refine go_istore_n (pc := 23) hF [(0, vi 19)] dJ6_bitCount_0f7a4_23 rfl (by decide) ?_
  refine go_iload_n (pc := 24) hF dJ6_bitCount_0f7a4_24 0 rfl ?_
  refine go_iload_n (pc := 25) hF dJ6_bitCount_0f7a4_25 0 rfl ?_
  refine go_iconst (pc := 26) hF dJ6_bitCount_0f7a4_26 ?_
  refine go_iushr (pc := 27) hF 1 (by decide) dJ6_bitCount_0f7a4_27 ?_
  refine go_iadd (pc := 28) hF dJ6_bitCount_0f7a4_28 ?_
  refine go_ldcw (pc := 29) hF kc_J6_267 dJ6_bitCount_0f7a4_29 ?_
  refine go_iand (pc := 32) hF 4 (by decide) dJ6_bitCount_0f7a4_32 ?_
  refine go_istore_n (pc := 33) hF [(0, vi 4)] dJ6_bitCount_0f7a4_33 rfl (by decide) ?_
  refine go_iload_n (pc := 34) hF dJ6_bitCount_0f7a4_34 0 rfl ?_
  refine go_iload_n (pc := 35) hF dJ6_bitCount_0f7a4_35 0 rfl ?_
  refine go_bipush (pc := 36) hF dJ6_bitCount_0f7a4_36 (by decide) ?_
  refine go_iushr (pc := 38) hF 0 (by decide) dJ6_bitCount_0f7a4_38 ?_
  refine go_iadd (pc := 39) hF dJ6_bitCount_0f7a4_39 ?_
  refine go_istore_n (pc := 40) hF [(0, vi 4)] dJ6_bitCount_0f7a4_40 rfl (by decide) ?_
  refine go_iload_n (pc := 41) hF dJ6_bitCount_0f7a4_41 0 rfl ?_
  refine go_iload_n (pc := 42) hF dJ6_bitCount_0f7a4_42 0 rfl ?_
  refine go_bipush (pc := 43) hF dJ6_bitCount_0f7a4_43 (by decide) ?_
  refine go_iushr (pc := 45) hF 0 (by decide) dJ6_bitCount_0f7a4_45 ?_
  refine go_iadd (pc := 46) hF dJ6_bitCount_0f7a4_46 ?_
  refine go_istore_n (pc := 47) hF [(0, vi 4)] dJ6_bitCount_0f7a4_47 rfl (by decide) ?_
  refine go_iload_n (pc := 48) hF dJ6_bitCount_0f7a4_48 0 rfl ?_
  refine go_bipush (pc := 49) hF dJ6_bitCount_0f7a4_49 (by decide) ?_
  refine go_iand (pc := 51) hF 4 (by decide) dJ6_bitCount_0f7a4_51 ?_
  exact go_iretQ hF hr hlk hQ dJ6_bitCount_0f7a4_52 ⟨by decide, rfl⟩
set_option maxHeartbeats 4000000 in
set_option maxRecDepth 100000 in
theorem c_J6_bitCount_30 (E : En) (N : Nat) (σ : Nat → va_E) : CP E M_J6_bitCount_0f7a4 1 [vi 30] N σ (pc6 30) := by
  refine CT.of2 (own := RJ6) (by decide) rfl (Nat.le_of_ble_eq_true rfl) ?_
  intro p e R s m args below meth c Q hF hr hlk hnm hz hR hQ
  refine go_iload_n (pc := 0) hF dJ6_bitCount_0f7a4_0 0 rfl ?_
  refine go_iload_n (pc := 1) hF dJ6_bitCount_0f7a4_1 0 rfl ?_
  refine go_iconst (pc := 2) hF dJ6_bitCount_0f7a4_2 ?_
  refine go_iushr (pc := 3) hF 15 (by decide) dJ6_bitCount_0f7a4_3 ?_
  refine go_ldcw (pc := 4) hF kc_J6_265 dJ6_bitCount_0f7a4_4 ?_
  refine go_iand (pc := 7) hF 5 (by decide) dJ6_bitCount_0f7a4_7 ?_
  refine go_isub (pc := 8) hF dJ6_bitCount_0f7a4_8 ?_
  refine go_istore_n (pc := 9) hF [(0, vi 25)] dJ6_bitCount_0f7a4_9 rfl (by decide) ?_
  refine go_iload_n (pc := 10) hF dJ6_bitCount_0f7a4_10 0 rfl ?_
  refine go_ldcw (pc := 11) hF kc_J6_266 dJ6_bitCount_0f7a4_11 ?_
  refine go_iand (pc := 14) hF 17 (by decide) dJ6_bitCount_0f7a4_14 ?_
  refine go_iload_n (pc := 15) hF dJ6_bitCount_0f7a4_15 0 rfl ?_
  refine go_iconst (pc := 16) hF dJ6_bitCount_0f7a4_16 ?_
  refine go_iushr (pc := 17) hF 6 (by decide) dJ6_bitCount_0f7a4_17 ?_
  refine go_ldcw (pc := 18) hF kc_J6_266 dJ6_bitCount_0f7a4_18 ?_
  refine go_iand (pc := 21) hF 2 (by decide) dJ6_bitCount_0f7a4_21 ?_
  refine go_iadd (pc := 22) hF dJ6_bitCount_0f7a4_22 ?_
  refine go_istore_n (pc := 23) hF [(0, vi 19)] dJ6_bitCount_0f7a4_23 rfl (by decide) ?_
  refine go_iload_n (pc := 24) hF dJ6_bitCount_0f7a4_24 0 rfl ?_
  refine go_iload_n (pc := 25) hF dJ6_bitCount_0f7a4_25 0 rfl ?_
  refine go_iconst (pc := 26) hF dJ6_bitCount_0f7a4_26 ?_
  refine go_iushr (pc := 27) hF 1 (by decide) dJ6_bitCount_0f7a4_27 ?_
  refine go_iadd (pc := 28) hF dJ6_bitCount_0f7a4_28 ?_
  refine go_ldcw (pc := 29) hF kc_J6_267 dJ6_bitCount_0f7a4_29 ?_
  refine go_iand (pc := 32) hF 4 (by decide) dJ6_bitCount_0f7a4_32 ?_
  refine go_istore_n (pc := 33) hF [(0, vi 4)] dJ6_bitCount_0f7a4_33 rfl (by decide) ?_
  refine go_iload_n (pc := 34) hF dJ6_bitCount_0f7a4_34 0 rfl ?_
  refine go_iload_n (pc := 35) hF dJ6_bitCount_0f7a4_35 0 rfl ?_
  refine go_bipush (pc := 36) hF dJ6_bitCount_0f7a4_36 (by decide) ?_
  refine go_iushr (pc := 38) hF 0 (by decide) dJ6_bitCount_0f7a4_38 ?_
  refine go_iadd (pc := 39) hF dJ6_bitCount_0f7a4_39 ?_
  refine go_istore_n (pc := 40) hF [(0, vi 4)] dJ6_bitCount_0f7a4_40 rfl (by decide) ?_
  refine go_iload_n (pc := 41) hF dJ6_bitCount_0f7a4_41 0 rfl ?_
  refine go_iload_n (pc := 42) hF dJ6_bitCount_0f7a4_42 0 rfl ?_
  refine go_bipush (pc := 43) hF dJ6_bitCount_0f7a4_43 (by decide) ?_
  refine go_iushr (pc := 45) hF 0 (by decide) dJ6_bitCount_0f7a4_45 ?_
  refine go_iadd (pc := 46) hF dJ6_bitCount_0f7a4_46 ?_
  refine go_istore_n (pc := 47) hF [(0, vi 4)] dJ6_bitCount_0f7a4_47 rfl (by decide) ?_
  refine go_iload_n (pc := 48) hF dJ6_bitCount_0f7a4_48 0 rfl ?_
  refine go_bipush (pc := 49) hF dJ6_bitCount_0f7a4_49 (by decide) ?_
  refine go_iand (pc := 51) hF 4 (by decide) dJ6_bitCount_0f7a4_51 ?_
  exact go_iretQ hF hr hlk hQ dJ6_bitCount_0f7a4_52 ⟨by decide, rfl⟩
set_option maxHeartbeats 4000000 in
set_option maxRecDepth 100000 in
theorem c_J6_bitCount_31 (E : En) (N : Nat) (σ : Nat → va_E) : CP E M_J6_bitCount_0f7a4 1 [vi 31] N σ (pc6 31) := by
  refine CT.of2 (own := RJ6) (by decide) rfl (Nat.le_of_ble_eq_true rfl) ?_
  intro p e R s m args below meth c Q hF hr hlk hnm hz hR hQ
  refine go_iload_n (pc := 0) hF dJ6_bitCount_0f7a4_0 0 rfl ?_
  refine go_iload_n (pc := 1) hF dJ6_bitCount_0f7a4_1 0 rfl ?_
  refine go_iconst (pc := 2) hF dJ6_bitCount_0f7a4_2 ?_
  refine go_iushr (pc := 3) hF 15 (by decide) dJ6_bitCount_0f7a4_3 ?_
  refine go_ldcw (pc := 4) hF kc_J6_265 dJ6_bitCount_0f7a4_4 ?_
  refine go_iand (pc := 7) hF 5 (by decide) dJ6_bitCount_0f7a4_7 ?_
  refine go_isub (pc := 8) hF dJ6_bitCount_0f7a4_8 ?_
  refine go_istore_n (pc := 9) hF [(0, vi 26)] dJ6_bitCount_0f7a4_9 rfl (by decide) ?_
  refine go_iload_n (pc := 10) hF dJ6_bitCount_0f7a4_10 0 rfl ?_
  refine go_ldcw (pc := 11) hF kc_J6_266 dJ6_bitCount_0f7a4_11 ?_
  refine go_iand (pc := 14) hF 18 (by decide) dJ6_bitCount_0f7a4_14 ?_
  refine go_iload_n (pc := 15) hF dJ6_bitCount_0f7a4_15 0 rfl ?_
  refine go_iconst (pc := 16) hF dJ6_bitCount_0f7a4_16 ?_
  refine go_iushr (pc := 17) hF 6 (by decide) dJ6_bitCount_0f7a4_17 ?_
  refine go_ldcw (pc := 18) hF kc_J6_266 dJ6_bitCount_0f7a4_18 ?_
  refine go_iand (pc := 21) hF 2 (by decide) dJ6_bitCount_0f7a4_21 ?_
  refine go_iadd (pc := 22) hF dJ6_bitCount_0f7a4_22 ?_
  refine go_istore_n (pc := 23) hF [(0, vi 20)] dJ6_bitCount_0f7a4_23 rfl (by decide) ?_
  refine go_iload_n (pc := 24) hF dJ6_bitCount_0f7a4_24 0 rfl ?_
  refine go_iload_n (pc := 25) hF dJ6_bitCount_0f7a4_25 0 rfl ?_
  refine go_iconst (pc := 26) hF dJ6_bitCount_0f7a4_26 ?_
  refine go_iushr (pc := 27) hF 1 (by decide) dJ6_bitCount_0f7a4_27 ?_
  refine go_iadd (pc := 28) hF dJ6_bitCount_0f7a4_28 ?_
  refine go_ldcw (pc := 29) hF kc_J6_267 dJ6_bitCount_0f7a4_29 ?_
  refine go_iand (pc := 32) hF 5 (by decide) dJ6_bitCount_0f7a4_32 ?_
  refine go_istore_n (pc := 33) hF [(0, vi 5)] dJ6_bitCount_0f7a4_33 rfl (by decide) ?_
  refine go_iload_n (pc := 34) hF dJ6_bitCount_0f7a4_34 0 rfl ?_
  refine go_iload_n (pc := 35) hF dJ6_bitCount_0f7a4_35 0 rfl ?_
  refine go_bipush (pc := 36) hF dJ6_bitCount_0f7a4_36 (by decide) ?_
  refine go_iushr (pc := 38) hF 0 (by decide) dJ6_bitCount_0f7a4_38 ?_
  refine go_iadd (pc := 39) hF dJ6_bitCount_0f7a4_39 ?_
  refine go_istore_n (pc := 40) hF [(0, vi 5)] dJ6_bitCount_0f7a4_40 rfl (by decide) ?_
  refine go_iload_n (pc := 41) hF dJ6_bitCount_0f7a4_41 0 rfl ?_
  refine go_iload_n (pc := 42) hF dJ6_bitCount_0f7a4_42 0 rfl ?_
  refine go_bipush (pc := 43) hF dJ6_bitCount_0f7a4_43 (by decide) ?_
  refine go_iushr (pc := 45) hF 0 (by decide) dJ6_bitCount_0f7a4_45 ?_
  refine go_iadd (pc := 46) hF dJ6_bitCount_0f7a4_46 ?_
  refine go_istore_n (pc := 47) hF [(0, vi 5)] dJ6_bitCount_0f7a4_47 rfl (by decide) ?_
  refine go_iload_n (pc := 48) hF dJ6_bitCount_0f7a4_48 0 rfl ?_
  refine go_bipush (pc := 49) hF dJ6_bitCount_0f7a4_49 (by decide) ?_
  refine go_iand (pc := 51) hF 5 (by decide) dJ6_bitCount_0f7a4_51 ?_
  exact go_iretQ hF hr hlk hQ dJ6_bitCount_0f7a4_52 ⟨by decide, rfl⟩
set_option maxHeartbeats 4000000 in
set_option maxRecDepth 100000 in
theorem c_J6_bitCount_32 (E : En) (N : Nat) (σ : Nat → va_E) : CP E M_J6_bitCount_0f7a4 1 [vi 32] N σ (pc6 32) := by
  refine CT.of2 (own := RJ6) (by decide) rfl (Nat.le_of_ble_eq_true rfl) ?_
  intro p e R s m args below meth c Q hF hr hlk hnm hz hR hQ
  refine go_iload_n (pc := 0) hF dJ6_bitCount_0f7a4_0 0 rfl ?_
  refine go_iload_n (pc := 1) hF dJ6_bitCount_0f7a4_1 0 rfl ?_
  refine go_iconst (pc := 2) hF dJ6_bitCount_0f7a4_2 ?_
  refine go_iushr (pc := 3) hF 16 (by decide) dJ6_bitCount_0f7a4_3 ?_
  refine go_ldcw (pc := 4) hF kc_J6_265 dJ6_bitCount_0f7a4_4 ?_
  refine go_iand (pc := 7) hF 16 (by decide) dJ6_bitCount_0f7a4_7 ?_
  refine go_isub (pc := 8) hF dJ6_bitCount_0f7a4_8 ?_
  refine go_istore_n (pc := 9) hF [(0, vi 16)] dJ6_bitCount_0f7a4_9 rfl (by decide) ?_
  refine go_iload_n (pc := 10) hF dJ6_bitCount_0f7a4_10 0 rfl ?_
  refine go_ldcw (pc := 11) hF kc_J6_266 dJ6_bitCount_0f7a4_11 ?_
  refine go_iand (pc := 14) hF 16 (by decide) dJ6_bitCount_0f7a4_14 ?_
  refine go_iload_n (pc := 15) hF dJ6_bitCount_0f7a4_15 0 rfl ?_
  refine go_iconst (pc := 16) hF dJ6_bitCount_0f7a4_16 ?_
  refine go_iushr (pc := 17) hF 4 (by decide) dJ6_bitCount_0f7a4_17 ?_
  refine go_ldcw (pc := 18) hF kc_J6_266 dJ6_bitCount_0f7a4_18 ?_
  refine go_iand (pc := 21) hF 0 (by decide) dJ6_bitCount_0f7a4_21 ?_
  refine go_iadd (pc := 22) hF dJ6_bitCount_0f7a4_22 ?_
  refine go_istore_n (pc := 23) hF [(0, vi 16)] dJ6_bitCount_0f7a4_23 rfl (by decide) ?_
  refine go_iload_n (pc := 24) hF dJ6_bitCount_0f7a4_24 0 rfl ?_
  refine go_iload_n (pc := 25) hF dJ6_bitCount_0f7a4_25 0 rfl ?_
  refine go_iconst (pc := 26) hF dJ6_bitCount_0f7a4_26 ?_
  refine go_iushr (pc := 27) hF 1 (by decide) dJ6_bitCount_0f7a4_27 ?_
  refine go_iadd (pc := 28) hF dJ6_bitCount_0f7a4_28 ?_
  refine go_ldcw (pc := 29) hF kc_J6_267 dJ6_bitCount_0f7a4_29 ?_
  refine go_iand (pc := 32) hF 1 (by decide) dJ6_bitCount_0f7a4_32 ?_
  refine go_istore_n (pc := 33) hF [(0, vi 1)] dJ6_bitCount_0f7a4_33 rfl (by decide) ?_
  refine go_iload_n (pc := 34) hF dJ6_bitCount_0f7a4_34 0 rfl ?_
  refine go_iload_n (pc := 35) hF dJ6_bitCount_0f7a4_35 0 rfl ?_
  refine go_bipush (pc := 36) hF dJ6_bitCount_0f7a4_36 (by decide) ?_
  refine go_iushr (pc := 38) hF 0 (by decide) dJ6_bitCount_0f7a4_38 ?_
  refine go_iadd (pc := 39) hF dJ6_bitCount_0f7a4_39 ?_
  refine go_istore_n (pc := 40) hF [(0, vi 1)] dJ6_bitCount_0f7a4_40 rfl (by decide) ?_
  refine go_iload_n (pc := 41) hF dJ6_bitCount_0f7a4_41 0 rfl ?_
  refine go_iload_n (pc := 42) hF dJ6_bitCount_0f7a4_42 0 rfl ?_
  refine go_bipush (pc := 43) hF dJ6_bitCount_0f7a4_43 (by decide) ?_
  refine go_iushr (pc := 45) hF 0 (by decide) dJ6_bitCount_0f7a4_45 ?_
  refine go_iadd (pc := 46) hF dJ6_bitCount_0f7a4_46 ?_
  refine go_istore_n (pc := 47) hF [(0, vi 1)] dJ6_bitCount_0f7a4_47 rfl (by decide) ?_
  refine go_iload_n (pc := 48) hF dJ6_bitCount_0f7a4_48 0 rfl ?_
  refine go_bipush (pc := 49) hF dJ6_bitCount_0f7a4_49 (by decide) ?_
  refine go_iand (pc := 51) hF 1 (by decide) dJ6_bitCount_0f7a4_51 ?_
  exact go_iretQ hF hr hlk hQ dJ6_bitCount_0f7a4_52 ⟨by decide, rfl⟩
set_option maxHeartbeats 4000000 in
set_option maxRecDepth 100000 in
theorem c_J6_bitCount_33 (E : En) (N : Nat) (σ : Nat → va_E) : CP E M_J6_bitCount_0f7a4 1 [vi 33] N σ (pc6 33) := by
  refine CT.of2 (own := RJ6) (by decide) rfl (Nat.le_of_ble_eq_true rfl) ?_
  intro p e R s m args below meth c Q hF hr hlk hnm hz hR hQ
  refine go_iload_n (pc := 0) hF dJ6_bitCount_0f7a4_0 0 rfl ?_
  refine go_iload_n (pc := 1) hF dJ6_bitCount_0f7a4_1 0 rfl ?_
  refine go_iconst (pc := 2) hF dJ6_bitCount_0f7a4_2 ?_
  refine go_iushr (pc := 3) hF 16 (by decide) dJ6_bitCount_0f7a4_3 ?_
  refine go_ldcw (pc := 4) hF kc_J6_265 dJ6_bitCount_0f7a4_4 ?_
  refine go_iand (pc := 7) hF 16 (by decide) dJ6_bitCount_0f7a4_7 ?_
  refine go_isub (pc := 8) hF dJ6_bitCount_0f7a4_8 ?_
  refine go_istore_n (pc := 9) hF [(0, vi 17)] dJ6_bitCount_0f7a4_9 rfl (by decide) ?_
  refine go_iload_n (pc := 10) hF dJ6_bitCount_0f7a4_10 0 rfl ?_
  refine go_ldcw (pc := 11) hF kc_J6_266 dJ6_bitCount_0f7a4_11 ?_
  refine go_iand (pc := 14) hF 17 (by decide) dJ6_bitCount_0f7a4_14 ?_
  refine go_iload_n (pc := 15) hF dJ6_bitCount_0f7a4_15 0 rfl ?_
  refine go_iconst (pc := 16) hF dJ6_bitCount_0f7a4_16 ?_
  refine go_iushr (pc := 17) hF 4 (by decide) dJ6_bitCount_0f7a4_17 ?_
  refine go_ldcw (pc := 18) hF kc_J6_266 dJ6_bitCount_0f7a4_18 ?_
  refine go_iand (pc := 21) hF 0 (by decide) dJ6_bitCount_0f7a4_21 ?_
  refine go_iadd (pc := 22) hF dJ6_bitCount_0f7a4_22 ?_
  refine go_istore_n (pc := 23) hF [(0, vi 17)] dJ6_bitCount_0f7a4_23 rfl (by decide) ?_
  refine go_iload_n (pc := 24) hF dJ6_bitCount_0f7a4_24 0 rfl ?_
  refine go_iload_n (pc := 25) hF dJ6_bitCount_0f7a4_25 0 rfl ?_
  refine go_iconst (pc := 26) hF dJ6_bitCount_0f7a4_26 ?_
  refine go_iushr (pc := 27) hF 1 (by decide) dJ6_bitCount_0f7a4_27 ?_
  refine go_iadd (pc := 28) hF dJ6_bitCount_0f7a4_28 ?_
  refine go_ldcw (pc := 29) hF kc_J6_267 dJ6_bitCount_0f7a4_29 ?_
  refine go_iand (pc := 32) hF 2 (by decide) dJ6_bitCount_0f7a4_32 ?_
  refine go_istore_n (pc := 33) hF [(0, vi 2)] dJ6_bitCount_0f7a4_33 rfl (by decide) ?_
  refine go_iload_n (pc := 34) hF dJ6_bitCount_0f7a4_34 0 rfl ?_
  refine go_iload_n (pc := 35) hF dJ6_bitCount_0f7a4_35 0 rfl ?_
  refine go_bipush (pc := 36) hF dJ6_bitCount_0f7a4_36 (by decide) ?_
  refine go_iushr (pc := 38) hF 0 (by decide) dJ6_bitCount_0f7a4_38 ?_
  refine go_iadd (pc := 39) hF dJ6_bitCount_0f7a4_39 ?_
  refine go_istore_n (pc := 40) hF [(0, vi 2)] dJ6_bitCount_0f7a4_40 rfl (by decide) ?_
  refine go_iload_n (pc := 41) hF dJ6_bitCount_0f7a4_41 0 rfl ?_
  refine go_iload_n (pc := 42) hF dJ6_bitCount_0f7a4_42 0 rfl ?_
  refine go_bipush (pc := 43) hF dJ6_bitCount_0f7a4_43 (by decide) ?_
  refine go_iushr (pc := 45) hF 0 (by decide) dJ6_bitCount_0f7a4_45 ?_
  refine go_iadd (pc := 46) hF dJ6_bitCount_0f7a4_46 ?_
  refine go_istore_n (pc := 47) hF [(0, vi 2)] dJ6_bitCount_0f7a4_47 rfl (by decide) ?_
  refine go_iload_n (pc := 48) hF dJ6_bitCount_0f7a4_48 0 rfl ?_
  refine go_bipush (pc := 49) hF dJ6_bitCount_0f7a4_49 (by decide) ?_
  refine go_iand (pc := 51) hF 2 (by decide) dJ6_bitCount_0f7a4_51 ?_
  exact go_iretQ hF hr hlk hQ dJ6_bitCount_0f7a4_52 ⟨by decide, rfl⟩
set_option maxHeartbeats 4000000 in
set_option maxRecDepth 100000 in
theorem c_J6_bitCount_34 (E : En) (N : Nat) (σ : Nat → va_E) : CP E M_J6_bitCount_0f7a4 1 [vi 34] N σ (pc6 34) := by
  refine CT.of2 (own := RJ6) (by decide) rfl (Nat.le_of_ble_eq_true rfl) ?_
  intro p e R s m args below meth c Q hF hr hlk hnm hz hR hQ
  refine go_iload_n (pc := 0) hF dJ6_bitCount_0f7a4_0 0 rfl ?_
  refine go_iload_n (pc := 1) hF dJ6_bitCount_0f7a4_1 0 rfl ?_
  refine go_iconst (pc := 2) hF dJ6_bitCount_0f7a4_2 ?_
  refine go_iushr (pc := 3) hF 17 (by decide) dJ6_bitCount_0f7a4_3 ?_
  refine go_ldcw (pc := 4) hF kc_J6_265 dJ6_bitCount_0f7a4_4 ?_
  refine go_iand (pc := 7) hF 17 (by decide) dJ6_bitCount_0f7a4_7 ?_
  refine go_isub (pc := 8) hF dJ6_bitCount_0f7a4_8 ?_
  refine go_istore_n (pc := 9) hF [(0, vi 17)] dJ6_bitCount_0f7a4_9 rfl (by decide) ?_
  refine go_iload_n (pc := 10) hF dJ6_bitCount_0f7a4_10 0 rfl ?_
  refine go_ldcw (pc := 11) hF kc_J6_266 dJ6_bitCount_0f7a4_11 ?_
  refine go_iand (pc := 14) hF 17 (by decide) dJ6_bitCount_0f7a4_14 ?_
  refine go_iload_n (pc := 15) hF dJ6_bitCount_0f7a4_15 0 rfl ?_
  refine go_iconst (pc := 16) hF dJ6_bitCount_0f7a4_16 ?_
  refine go_iushr (pc := 17) hF 4 (by decide) dJ6_bitCount_0f7a4_17 ?_
  refine go_ldcw (pc := 18) hF kc_J6_266 dJ6_bitCount_0f7a4_18 ?_
  refine go_iand (pc := 21) hF 0 (by decide) dJ6_bitCount_0f7a4_21 ?_
  refine go_iadd (pc := 22) hF dJ6_bitCount_0f7a4_22 ?_
  refine go_istore_n (pc := 23) hF [(0, vi 17)] dJ6_bitCount_0f7a4_23 rfl (by decide) ?_
  refine go_iload_n (pc := 24) hF dJ6_bitCount_0f7a4_24 0 rfl ?_
  refine go_iload_n (pc := 25) hF dJ6_bitCount_0f7a4_25 0 rfl ?_
  refine go_iconst (pc := 26) hF dJ6_bitCount_0f7a4_26 ?_
  refine go_iushr (pc := 27) hF 1 (by decide) dJ6_bitCount_0f7a4_27 ?_
  refine go_iadd (pc := 28) hF dJ6_bitCount_0f7a4_28 ?_
  refine go_ldcw (pc := 29) hF kc_J6_267 dJ6_bitCount_0f7a4_29 ?_
  refine go_iand (pc := 32) hF 2 (by decide) dJ6_bitCount_0f7a4_32 ?_
  refine go_istore_n (pc := 33) hF [(0, vi 2)] dJ6_bitCount_0f7a4_33 rfl (by decide) ?_
  refine go_iload_n (pc := 34) hF dJ6_bitCount_0f7a4_34 0 rfl ?_
  refine go_iload_n (pc := 35) hF dJ6_bitCount_0f7a4_35 0 rfl ?_
  refine go_bipush (pc := 36) hF dJ6_bitCount_0f7a4_36 (by decide) ?_
  refine go_iushr (pc := 38) hF 0 (by decide) dJ6_bitCount_0f7a4_38 ?_
  refine go_iadd (pc := 39) hF dJ6_bitCount_0f7a4_39 ?_
  refine go_istore_n (pc := 40) hF [(0, vi 2)] dJ6_bitCount_0f7a4_40 rfl (by decide) ?_
  refine go_iload_n (pc := 41) hF dJ6_bitCount_0f7a4_41 0 rfl ?_
  refine go_iload_n (pc := 42) hF dJ6_bitCount_0f7a4_42 0 rfl ?_
  refine go_bipush (pc := 43) hF dJ6_bitCount_0f7a4_43 (by decide) ?_
  refine go_iushr (pc := 45) hF 0 (by decide) dJ6_bitCount_0f7a4_45 ?_
  refine go_iadd (pc := 46) hF dJ6_bitCount_0f7a4_46 ?_
  refine go_istore_n (pc := 47) hF [(0, vi 2)] dJ6_bitCount_0f7a4_47 rfl (by decide) ?_
  refine go_iload_n (pc := 48) hF dJ6_bitCount_0f7a4_48 0 rfl ?_
  refine go_bipush (pc := 49) hF dJ6_bitCount_0f7a4_49 (by decide) ?_
  refine go_iand (pc := 51) hF 2 (by decide) dJ6_bitCount_0f7a4_51 ?_
  exact go_iretQ hF hr hlk hQ dJ6_bitCount_0f7a4_52 ⟨by decide, rfl⟩
set_option maxHeartbeats 4000000 in
set_option maxRecDepth 100000 in
theorem c_J6_bitCount_35 (E : En) (N : Nat) (σ : Nat → va_E) : CP E M_J6_bitCount_0f7a4 1 [vi 35] N σ (pc6 35) := by
  refine CT.of2 (own := RJ6) (by decide) rfl (Nat.le_of_ble_eq_true rfl) ?_
  intro p e R s m args below meth c Q hF hr hlk hnm hz hR hQ
  refine go_iload_n (pc := 0) hF dJ6_bitCount_0f7a4_0 0 rfl ?_
  refine go_iload_n (pc := 1) hF dJ6_bitCount_0f7a4_1 0 rfl ?_
  refine go_iconst (pc := 2) hF dJ6_bitCount_0f7a4_2 ?_
  refine go_iushr (pc := 3) hF 17 (by decide) dJ6_bitCount_0f7a4_3 ?_
  refine go_ldcw (pc := 4) hF kc_J6_265 dJ6_bitCount_0f7a4_4 ?_
  refine go_iand (pc := 7) hF 17 (by decide) dJ6_bitCount_0f7a4_7 ?_
  refine go_isub (pc := 8) hF dJ6_bitCount_0f7a4_8 ?_
  refine go_istore_n (pc := 9) hF [(0, vi 18)] dJ6_bitCount_0f7a4_9 rfl (by decide) ?_
  refine go_iload_n (pc := 10) hF dJ6_bitCount_0f7a4_10 0 rfl ?_
  refine go_ldcw (pc := 11) hF kc_J6_266 dJ6_bitCount_0f7a4_11 ?_
  refine go_iand (pc := 14) hF 18 (by decide) dJ6_bitCount_0f7a4_14 ?_
  refine go_iload_n (pc := 15) hF dJ6_bitCount_0f7a4_15 0 rfl ?_
  refine go_iconst (pc := 16) hF dJ6_bitCount_0f7a4_16 ?_
  refine go_iushr (pc := 17) hF 4 (by decide) dJ6_bitCount_0f7a4_17 ?_
  refine go_ldcw (pc := 18) hF kc_J6_266 dJ6_bitCount_0f7a4_18 ?_
  refine go_iand (pc := 21) hF 0 (by decide) dJ6_bitCount_0f7a4_21 ?_
  refine go_iadd (pc := 22) hF dJ6_bitCount_0f7a4_22 ?_
  refine go_istore_n (pc := 23) hF [(0, vi 18)] dJ6_bitCount_0f7a4_23 rfl (by decide) ?_
  refine go_iload_n (pc := 24) hF dJ6_bitCount_0f7a4_24 0 rfl ?_
  refine go_iload_n (pc := 25) hF dJ6_bitCount_0f7a4_25 0 rfl ?_
  refine go_iconst (pc := 26) hF dJ6_bitCount_0f7a4_26 ?_
  refine go_iushr (pc := 27) hF 1 (by decide) dJ6_bitCount_0f7a4_27 ?_
  refine go_iadd (pc := 28) hF dJ6_bitCount_0f7a4_28 ?_
  refine go_ldcw (pc := 29) hF kc_J6_267 dJ6_bitCount_0f7a4_29 ?_
  refine go_iand (pc := 32) hF 3 (by decide) dJ6_bitCount_0f7a4_32 ?_
  refine go_istore_n (pc := 33) hF [(0, vi 3)] dJ6_bitCount_0f7a4_33 rfl (by decide) ?_
  refine go_iload_n (pc := 34) hF dJ6_bitCount_0f7a4_34 0 rfl ?_
  refine go_iload_n (pc := 35) hF dJ6_bitCount_0f7a4_35 0 rfl ?_
  refine go_bipush (pc := 36) hF dJ6_bitCount_0f7a4_36 (by decide) ?_
  refine go_iushr (pc := 38) hF 0 (by decide) dJ6_bitCount_0f7a4_38 ?_
  refine go_iadd (pc := 39) hF dJ6_bitCount_0f7a4_39 ?_
  refine go_istore_n (pc := 40) hF [(0, vi 3)] dJ6_bitCount_0f7a4_40 rfl (by decide) ?_
  refine go_iload_n (pc := 41) hF dJ6_bitCount_0f7a4_41 0 rfl ?_
  refine go_iload_n (pc := 42) hF dJ6_bitCount_0f7a4_42 0 rfl ?_
  refine go_bipush (pc := 43) hF dJ6_bitCount_0f7a4_43 (by decide) ?_
  refine go_iushr (pc := 45) hF 0 (by decide) dJ6_bitCount_0f7a4_45 ?_
  refine go_iadd (pc := 46) hF dJ6_bitCount_0f7a4_46 ?_
  refine go_istore_n (pc := 47) hF [(0, vi 3)] dJ6_bitCount_0f7a4_47 rfl (by decide) ?_
  refine go_iload_n (pc := 48) hF dJ6_bitCount_0f7a4_48 0 rfl ?_
  refine go_bipush (pc := 49) hF dJ6_bitCount_0f7a4_49 (by decide) ?_
  refine go_iand (pc := 51) hF 3 (by decide) dJ6_bitCount_0f7a4_51 ?_
  exact go_iretQ hF hr hlk hQ dJ6_bitCount_0f7a4_52 ⟨by decide, rfl⟩
set_option maxHeartbeats 4000000 in
set_option maxRecDepth 100000 in
theorem c_J6_bitCount_36 (E : En) (N : Nat) (σ : Nat → va_E) : CP E M_J6_bitCount_0f7a4 1 [vi 36] N σ (pc6 36) := by
  refine CT.of2 (own := RJ6) (by decide) rfl (Nat.le_of_ble_eq_true rfl) ?_
  intro p e R s m args below meth c Q hF hr hlk hnm hz hR hQ
  refine go_iload_n (pc := 0) hF dJ6_bitCount_0f7a4_0 0 rfl ?_
  refine go_iload_n (pc := 1) hF dJ6_bitCount_0f7a4_1 0 rfl ?_
  refine go_iconst (pc := 2) hF dJ6_bitCount_0f7a4_2 ?_
  refine go_iushr (pc := 3) hF 18 (by decide) dJ6_bitCount_0f7a4_3 ?_
  refine go_ldcw (pc := 4) hF kc_J6_265 dJ6_bitCount_0f7a4_4 ?_
  refine go_iand (pc := 7) hF 16 (by decide) dJ6_bitCount_0f7a4_7 ?_
  refine go_isub (pc := 8) hF dJ6_bitCount_0f7a4_8 ?_
  refine go_istore_n (pc := 9) hF [(0, vi 20)] dJ6_bitCount_0f7a4_9 rfl (by decide) ?_
  refine go_iload_n (pc := 10) hF dJ6_bitCount_0f7a4_10 0 rfl ?_
  refine go_ldcw (pc := 11) hF kc_J6_266 dJ6_bitCount_0f7a4_11 ?_
  refine go_iand (pc := 14) hF 16 (by decide) dJ6_bitCount_0f7a4_14 ?_
  refine go_iload_n (pc := 15) hF dJ6_bitCount_0f7a4_15 0 rfl ?_
  refine go_iconst (pc := 16) hF dJ6_bitCount_0f7a4_16 ?_
  refine go_iushr (pc := 17) hF 5 (by decide) dJ6_bitCount_0f7a4_17 ?_
  refine go_ldcw (pc := 18) hF kc_J6_266 dJ6_bitCount_0f7a4_18 ?_
  refine go_iand (pc := 21) hF 1 (by decide) dJ6_bitCount_0f7a4_21 ?_
  refine go_iadd (pc := 22) hF dJ6_bitCount_0f7a4_22 ?_
  refine go_istore_n (pc := 23) hF [(0, vi 17)] dJ6_bitCount_0f7a4_23 rfl (by decide) ?_
  refine go_iload_n (pc := 24) hF dJ6_bitCount_0f7a4_24 0 rfl ?_
  refine go_iload_n (pc := 25) hF dJ6_bitCount_0f7a4_25 0 rfl ?_
  refine go_iconst (pc := 26) hF dJ6_bitCount_0f7a4_26 ?_
  refine go_iushr (pc := 27) hF 1 (by decide) dJ6_bitCount_0f7a4_27 ?_
  refine go_iadd (pc := 28) hF dJ6_bitCount_0f7a4_28 ?_
  refine go_ldcw (pc := 29) hF kc_J6_267 dJ6_bitCount_0f7a4_29 ?_
  refine go_iand (pc := 32) hF 2 (by decide) dJ6_bitCount_0f7a4_32 ?_
  refine go_istore_n (pc := 33) hF [(0, vi 2)] dJ6_bitCount_0f7a4_33 rfl (by decide) ?_
  refine go_iload_n (pc := 34) hF dJ6_bitCount_0f7a4_34 0 rfl ?_
  refine go_iload_n (pc := 35) hF dJ6_bitCount_0f7a4_35 0 rfl ?_
  refine go_bipush (pc := 36) hF dJ6_bitCount_0f7a4_36 (by decide) ?_
  refine go_iushr (pc := 38) hF 0 (by decide) dJ6_bitCount_0f7a4_38 ?_
  refine go_iadd (pc := 39) hF dJ6_bitCount_0f7a4_39 ?_
  refine go_istore_n (pc := 40) hF [(0, vi 2)] dJ6_bitCount_0f7a4_40 rfl (by decide) ?_
  refine go_iload_n (pc := 41) hF dJ6_bitCount_0f7a4_41 0 rfl ?_
  refine go_iload_n (pc := 42) hF dJ6_bitCount_0f7a4_42 0 rfl ?_
  refine go_bipush (pc := 43) hF dJ6_bitCount_0f7a4_43 (by decide) ?_
  refine go_iushr (pc := 45) hF 0 (by decide) dJ6_bitCount_0f7a4_45 ?_
  refine go_iadd (pc := 46) hF dJ6_bitCount_0f7a4_46 ?_
  refine go_istore_n (pc := 47) hF [(0, vi 2)] dJ6_bitCount_0f7a4_47 rfl (by decide) ?_
  refine go_iload_n (pc := 48) hF dJ6_bitCount_0f7a4_48 0 rfl ?_
  refine go_bipush (pc := 49) hF dJ6_bitCount_0f7a4_49 (by decide) ?_
  refine go_iand (pc := 51) hF 2 (by decide) dJ6_bitCount_0f7a4_51 ?_
  exact go_iretQ hF hr hlk hQ dJ6_bitCount_0f7a4_52 ⟨by decide, rfl⟩
set_option maxHeartbeats 4000000 in
set_option maxRecDepth 100000 in
theorem c_J6_bitCount_37 (E : En) (N : Nat) (σ : Nat → va_E) : CP E M_J6_bitCount_0f7a4 1 [vi 37] N σ (pc6 37) := by
  refine CT.of2 (own := RJ6) (by decide) rfl (Nat.le_of_ble_eq_true rfl) ?_
  intro p e R s m args below meth c Q hF hr hlk hnm hz hR hQ
  refine go_iload_n (pc := 0) hF dJ6_bitCount_0f7a4_0 0 rfl ?_
  refine go_iload_n (pc := 1) hF dJ6_bitCount_0f7a4_1 0 rfl ?_
  refine go_iconst (pc := 2) hF dJ6_bitCount_0f7a4_2 ?_
  refine go_iushr (pc := 3) hF 18 (by decide) dJ6_bitCount_0f7a4_3 ?_
  refine go_ldcw (pc := 4) hF kc_J6_265 dJ6_bitCount_0f7a4_4 ?_
  refine go_iand (pc := 7) hF 16 (by decide) dJ6_bitCount_0f7a4_7 ?_
  refine go_isub (pc := 8) hF dJ6_bitCount_0f7a4_8 ?_
  refine go_istore_n (pc := 9) hF [(0, vi 21)] dJ6_bitCount_0f7a4_9 rfl (by decide) ?_
  refine go_iload_n (pc := 10) hF dJ6_bitCount_0f7a4_10 0 rfl ?_
  refine go_ldcw (pc := 11) hF kc_J6_266 dJ6_bitCount_0f7a4_11 ?_
  refine go_iand (pc := 14) hF 17 (by decide) dJ6_bitCount_0f7a4_14 ?_
  refine go_iload_n (pc := 15) hF dJ6_bitCount_0f7a4_15 0 rfl ?_
  refine go_iconst (pc := 16) hF dJ6_bitCount_0f7a4_16 ?_
  refine go_iushr (pc := 17) hF 5 (by decide) dJ6_bitCount_0f7a4_17 ?_
  refine go_ldcw (pc := 18) hF kc_J6_266 dJ6_bitCount_0f7a4_18 ?_
  refine go_iand (pc := 21) hF 1 (by decide) dJ6_bitCount_0f7a4_21 ?_
  refine go_iadd (pc := 22) hF dJ6_bitCount_0f7a4_22 ?_
  refine go_istore_n (pc := 23) hF [(0, vi 18)] dJ6_bitCount_0f7a4_23 rfl (by decide) ?_
  refine go_iload_n (pc := 24) hF dJ6_bitCount_0f7a4_24 0 rfl ?_
  refine go_iload_n (pc := 25) hF dJ6_bitCount_0f7a4_25 0 rfl ?_
  refine go_iconst (pc := 26) hF dJ6_bitCount_0f7a4_26 ?_
  refine go_iushr (pc := 27) hF 1 (by decide) dJ6_bitCount_0f7a4_27 ?_
  refine go_iadd (pc := 28) hF dJ6_bitCount_0f7a4_28 ?_
  refine go_ldcw (pc := 29) hF kc_J6_267 dJ6_bitCount_0f7a4_29 ?_
  refine go_iand (pc := 32) hF 3 (by decide) dJ6_bitCount_0f7a4_32 ?_
  refine go_istore_n (pc := 33) hF [(0, vi 3)] dJ6_bitCount_0f7a4_33 rfl (by decide) ?_
  refine go_iload_n (pc := 34) hF dJ6_bitCount_0f7a4_34 0 rfl ?_
  refine go_iload_n (pc := 35) hF dJ6_bitCount_0f7a4_35 0 rfl ?_
  refine go_bipush (pc := 36) hF dJ6_bitCount_0f7a4_36 (by decide) ?_
  refine go_iushr (pc := 38) hF 0 (by decide) dJ6_bitCount_0f7a4_38 ?_
  refine go_iadd (pc := 39) hF dJ6_bitCount_0f7a4_39 ?_
  refine go_istore_n (pc := 40) hF [(0, vi 3)] dJ6_bitCount_0f7a4_40 rfl (by decide) ?_
  refine go_iload_n (pc := 41) hF dJ6_bitCount_0f7a4_41 0 rfl ?_
  refine go_iload_n (pc := 42) hF dJ6_bitCount_0f7a4_42 0 rfl ?_
  refine go_bipush (pc := 43) hF dJ6_bitCount_0f7a4_43 (by decide) ?_
  refine go_iushr (pc := 45) hF 0 (by decide) dJ6_bitCount_0f7a4_45 ?_
  refine go_iadd (pc := 46) hF dJ6_bitCount_0f7a4_46 ?_
  refine go_istore_n (pc := 47) hF [(0, vi 3)] dJ6_bitCount_0f7a4_47 rfl (by decide) ?_
  refine go_iload_n (pc := 48) hF dJ6_bitCount_0f7a4_48 0 rfl ?_
  refine go_bipush (pc := 49) hF dJ6_bitCount_0f7a4_49 (by decide) ?_
  refine go_iand (pc := 51) hF 3 (by decide) dJ6_bitCount_0f7a4_51 ?_
  exact go_iretQ hF hr hlk hQ dJ6_bitCount_0f7a4_52 ⟨by decide, rfl⟩
set_option maxHeartbeats 4000000 in
set_option maxRecDepth 100000 in
theorem c_J6_bitCount_38 (E : En) (N : Nat) (σ : Nat → va_E) : CP E M_J6_bitCount_0f7a4 1 [vi 38] N σ (pc6 38) := by
  refine CT.of2 (own := RJ6) (by decide) rfl (Nat.le_of_ble_eq_true rfl) ?_
  intro p e R s m args below meth c Q hF hr hlk hnm hz hR hQ
  refine go_iload_n (pc := 0) hF dJ6_bitCount_0f7a4_0 0 rfl ?_
  refine go_iload_n (pc := 1) hF dJ6_bitCount_0f7a4_1 0 rfl ?_
  refine go_iconst (pc := 2) hF dJ6_bitCount_0f7a4_2 ?_
  refine go_iushr (pc := 3) hF 19 (by decide) dJ6_bitCount_0f7a4_3 ?_
  refine go_ldcw (pc := 4) hF kc_J6_265 dJ6_bitCount_0f7a4_4 ?_
  refine go_iand (pc := 7) hF 17 (by decide) dJ6_bitCount_0f7a4_7 ?_
  refine go_isub (pc := 8) hF dJ6_bitCount_0f7a4_8 ?_
  refine go_istore_n (pc := 9) hF [(0, vi 21)] dJ6_bitCount_0f7a4_9 rfl (by decide) ?_
  refine go_iload_n (pc := 10) hF dJ6_bitCount_0f7a4_10 0 rfl ?_
  refine go_ldcw (pc := 11) hF kc_J6_266 dJ6_bitCount_0f7a4_11 ?_
  refine go_iand (pc := 14) hF 17 (by decide) dJ6_bitCount_0f7a4_14 ?_
  refine go_iload_n (pc := 15) hF dJ6_bitCount_0f7a4_15 0 rfl ?_
  refine go_iconst (pc := 16) hF dJ6_bitCount_0f7a4_16 ?_
  refine go_iushr (pc := 17) hF 5 (by decide) dJ6_bitCount_0f7a4_17 ?_
  refine go_ldcw (pc := 18) hF kc_J6_266 dJ6_bitCount_0f7a4_18 ?_
  refine go_iand (pc := 21) hF 1 (by decide) dJ6_bitCount_0f7a4_21 ?_
  refine go_iadd (pc := 22) hF dJ6_bitCount_0f7a4_22 ?_
  refine go_istore_n (pc := 23) hF [(0, vi 18)] dJ6_bitCount_0f7a4_23 rfl (by decide) ?_
  refine go_iload_n (pc := 24) hF dJ6_bitCount_0f7a4_24 0 rfl ?_
  refine go_iload_n (pc := 25) hF dJ6_bitCount_0f7a4_25 0 rfl ?_
  refine go_iconst (pc := 26) hF dJ6_bitCount_0f7a4_26 ?_
  refine go_iushr (pc := 27) hF 1 (by decide) dJ6_bitCount_0f7a4_27 ?_
  refine go_iadd (pc := 28) hF dJ6_bitCount_0f7a4_28 ?_
  refine go_ldcw (pc := 29) hF kc_J6_267 dJ6_bitCount_0f7a4_29 ?_
  refine go_iand (pc := 32) hF 3 (by decide) dJ6_bitCount_0f7a4_32 ?_
  refine go_istore_n (pc := 33) hF [(0, vi 3)] dJ6_bitCount_0f7a4_33 rfl (by decide) ?_
  refine go_iload_n (pc := 34) hF dJ6_bitCount_0f7a4_34 0 rfl ?_
  refine go_iload_n (pc := 35) hF dJ6_bitCount_0f7a4_35 0 rfl ?_
  refine go_bipush (pc := 36) hF dJ6_bitCount_0f7a4_36 (by decide) ?_
  refine go_iushr (pc := 38) hF 0 (by decide) dJ6_bitCount_0f7a4_38 ?_
  refine go_iadd (pc := 39) hF dJ6_bitCount_0f7a4_39 ?_
  refine go_istore_n (pc := 40) hF [(0, vi 3)] dJ6_bitCount_0f7a4_40 rfl (by decide) ?_
  refine go_iload_n (pc := 41) hF dJ6_bitCount_0f7a4_41 0 rfl ?_
  refine go_iload_n (pc := 42) hF dJ6_bitCount_0f7a4_42 0 rfl ?_
  refine go_bipush (pc := 43) hF dJ6_bitCount_0f7a4_43 (by decide) ?_
  refine go_iushr (pc := 45) hF 0 (by decide) dJ6_bitCount_0f7a4_45 ?_
  refine go_iadd (pc := 46) hF dJ6_bitCount_0f7a4_46 ?_
  refine go_istore_n (pc := 47) hF [(0, vi 3)] dJ6_bitCount_0f7a4_47 rfl (by decide) ?_
  refine go_iload_n (pc := 48) hF dJ6_bitCount_0f7a4_48 0 rfl ?_
  refine go_bipush (pc := 49) hF dJ6_bitCount_0f7a4_49 (by decide) ?_
  refine go_iand (pc := 51) hF 3 (by decide) dJ6_bitCount_0f7a4_51 ?_
  exact go_iretQ hF hr hlk hQ dJ6_bitCount_0f7a4_52 ⟨by decide, rfl⟩
set_option maxHeartbeats 4000000 in
set_option maxRecDepth 100000 in
theorem c_J6_bitCount_39 (E : En) (N : Nat) (σ : Nat → va_E) : CP E M_J6_bitCount_0f7a4 1 [vi 39] N σ (pc6 39) := by
  refine CT.of2 (own := RJ6) (by decide) rfl (Nat.le_of_ble_eq_true rfl) ?_
  intro p e R s m args below meth c Q hF hr hlk hnm hz hR hQ
  refine go_iload_n (pc := 0) hF dJ6_bitCount_0f7a4_0 0 rfl ?_
  refine go_iload_n (pc := 1) hF dJ6_bitCount_0f7a4_1 0 rfl ?_
  refine go_iconst (pc := 2) hF dJ6_bitCount_0f7a4_2 ?_
  refine go_iushr (pc := 3) hF 19 (by decide) dJ6_bitCount_0f7a4_3 ?_
  refine go_ldcw (pc := 4) hF kc_J6_265 dJ6_bitCount_0f7a4_4 ?_
  refine go_iand (pc := 7) hF 17 (by decide) dJ6_bitCount_0f7a4_7 ?_
  refine go_isub (pc := 8) hF dJ6_bitCount_0f7a4_8 ?_
  refine go_istore_n (pc := 9) hF [(0, vi 22)] dJ6_bitCount_0f7a4_9 rfl (by decide) ?_
  refine go_iload_n (pc := 10) hF dJ6_bitCount_0f7a4_10 0 rfl ?_
  refine go_ldcw (pc := 11) hF kc_J6_266 dJ6_bitCount_0f7a4_11 ?_
  refine go_iand (pc := 14) hF 18 (by decide) dJ6_bitCount_0f7a4_14 ?_
  refine go_iload_n (pc := 15) hF dJ6_bitCount_0f7a4_15 0 rfl ?_
  refine go_iconst (pc := 16) hF dJ6_bitCount_0f7a4_16 ?_
  refine go_iushr (pc := 17) hF 5 (by decide) dJ6_bitCount_0f7a4_17 ?_
  refine go_ldcw (pc := 18) hF kc_J6_266 dJ6_bitCount_0f7a4_18 ?_
  refine go_iand (pc := 21) hF 1 (by decide) dJ6_bitCount_0f7a4_21 ?_
  refine go_iadd (pc := 22) hF dJ6_bitCount_0f7a4_22 ?_
  refine go_istore_n (pc := 23) hF [(0, vi 19)] dJ6_bitCount_0f7a4_23 rfl (by decide) ?_
  refine go_iload_n (pc := 24) hF dJ6_bitCount_0f7a4_24 0 rfl ?_
  refine go_iload_n (pc := 25) hF dJ6_bitCount_0f7a4_25 0 rfl ?_
  refine go_iconst (pc := 26) hF dJ6_bitCount_0f7a4_26 ?_
  refine go_iushr (pc := 27) hF 1 (by decide) dJ6_bitCount_0f7a4_27 ?_
  refine go_iadd (pc := 28) hF dJ6_bitCount_0f7a4_28 ?_
  refine go_ldcw (pc := 29) hF kc_J6_267 dJ6_bitCount_0f7a4_29 ?_
  refine go_iand (pc := 32) hF 4 (by decide) dJ6_bitCount_0f7a4_32 ?_
  refine go_istore_n (pc := 33) hF [(0, vi 4)] dJ6_bitCount_0f7a4_33 rfl (by decide) ?_
  refine go_iload_n (pc := 34) hF dJ6_bitCount_0f7a4_34 0 rfl ?_
  refine go_iload_n (pc := 35) hF dJ6_bitCount_0f7a4_35 0 rfl ?_
  refine go_bipush (pc := 36) hF dJ6_bitCount_0f7a4_36 (by decide) ?_
  refine go_iushr (pc := 38) hF 0 (by decide) dJ6_bitCount_0f7a4_38 ?_
  refine go_iadd (pc := 39) hF dJ6_bitCount_0f7a4_39 ?_
  refine go_istore_n (pc := 40) hF [(0, vi 4)] dJ6_bitCount_0f7a4_40 rfl (by decide) ?_
  refine go_iload_n (pc := 41) hF dJ6_bitCount_0f7a4_41 0 rfl ?_
  refine go_iload_n (pc := 42) hF dJ6_bitCount_0f7a4_42 0 rfl ?_
  refine go_bipush (pc := 43) hF dJ6_bitCount_0f7a4_43 (by decide) ?_
  refine go_iushr (pc := 45) hF 0 (by decide) dJ6_bitCount_0f7a4_45 ?_
  refine go_iadd (pc := 46) hF dJ6_bitCount_0f7a4_46 ?_
  refine go_istore_n (pc := 47) hF [(0, vi 4)] dJ6_bitCount_0f7a4_47 rfl (by decide) ?_
  refine go_iload_n (pc := 48) hF dJ6_bitCount_0f7a4_48 0 rfl ?_
  refine go_bipush (pc := 49) hF dJ6_bitCount_0f7a4_49 (by decide) ?_
  refine go_iand (pc := 51) hF 4 (by decide) dJ6_bitCount_0f7a4_51 ?_
  exact go_iretQ hF hr hlk hQ dJ6_bitCount_0f7a4_52 ⟨by decide, rfl⟩
set_option maxHeartbeats 4000000 in
set_option maxRecDepth 100000 in
theorem c_J6_bitCount_40 (E : En) (N : Nat) (σ : Nat → va_E) : CP E M_J6_bitCount_0f7a4 1 [vi 40] N σ (pc6 40) := by
  refine CT.of2 (own := RJ6) (by decide) rfl (Nat.le_of_ble_eq_true rfl) ?_
  intro p e R s m args below meth c Q hF hr hlk hnm hz hR hQ
  refine go_iload_n (pc := 0) hF dJ6_bitCount_0f7a4_0 0 rfl ?_
  refine go_iload_n (pc := 1) hF dJ6_bitCount_0f7a4_1 0 rfl ?_
  refine go_iconst (pc := 2) hF dJ6_bitCount_0f7a4_2 ?_
  refine go_iushr (pc := 3) hF 20 (by decide) dJ6_bitCount_0f7a4_3 ?_
  refine go_ldcw (pc := 4) hF kc_J6_265 dJ6_bitCount_0f7a4_4 ?_
  refine go_iand (pc := 7) hF 20 (by decide) dJ6_bitCount_0f7a4_7 ?_
  refine go_isub (pc := 8) hF dJ6_bitCount_0f7a4_8 ?_
  refine go_istore_n (pc := 9) hF [(0, vi 20)] dJ6_bitCount_0f7a4_9 rfl (by decide) ?_
  refine go_iload_n (pc := 10) hF dJ6_bitCount_0f7a4_10 0 rfl ?_
  refine go_ldcw (pc := 11) hF kc_J6_266 dJ6_bitCount_0f7a4_11 ?_
  refine go_iand (pc := 14) hF 16 (by decide) dJ6_bitCount_0f7a4_14 ?_
  refine go_iload_n (pc := 15) hF dJ6_bitCount_0f7a4_15 0 rfl ?_
  refine go_iconst (pc := 16) hF dJ6_bitCount_0f7a4_16 ?_
  refine go_iushr (pc := 17) hF 5 (by decide) dJ6_bitCount_0f7a4_17 ?_
  refine go_ldcw (pc := 18) hF kc_J6_266 dJ6_bitCount_0f7a4_18 ?_
  refine go_iand (pc := 21) hF 1 (by decide) dJ6_bitCount_0f7a4_21 ?_
  refine go_iadd (pc := 22) hF dJ6_bitCount_0f7a4_22 ?_
  refine go_istore_n (pc := 23) hF [(0, vi 17)] dJ6_bitCount_0f7a4_23 rfl (by decide) ?_
  refine go_iload_n (pc := 24) hF dJ6_bitCount_0f7a4_24 0 rfl ?_
  refine go_iload_n (pc := 25) hF dJ6_bitCount_0f7a4_25 0 rfl ?_
  refine go_iconst (pc := 26) hF dJ6_bitCount_0f7a4_26 ?_
  refine go_iushr (pc := 27) hF 1 (by decide) dJ6_bitCount_0f7a4_27 ?_
  refine go_iadd (pc := 28) hF dJ6_bitCount_0f7a4_28 ?_
  refine go_ldcw (pc := 29) hF kc_J6_267 dJ6_bitCount_0f7a4_29 ?_
  refine go_iand (pc := 32) hF 2 (by decide) dJ6_bitCount_0f7a4_32 ?_
  refine go_istore_n (pc := 33) hF [(0, vi 2)] dJ6_bitCount_0f7a4_33 rfl (by decide) ?_
  refine go_iload_n (pc := 34) hF dJ6_bitCount_0f7a4_34 0 rfl ?_
  refine go_iload_n (pc := 35) hF dJ6_bitCount_0f7a4_35 0 rfl ?_
  refine go_bipush (pc := 36) hF dJ6_bitCount_0f7a4_36 (by decide) ?_
  refine go_iushr (pc := 38) hF 0 (by decide) dJ6_bitCount_0f7a4_38 ?_
  refine go_iadd (pc := 39) hF dJ6_bitCount_0f7a4_39 ?_
  refine go_istore_n (pc := 40) hF [(0, vi 2)] dJ6_bitCount_0f7a4_40 rfl (by decide) ?_
  refine go_iload_n (pc := 41) hF dJ6_bitCount_0f7a4_41 0 rfl ?_
  refine go_iload_n (pc := 42) hF dJ6_bitCount_0f7a4_42 0 rfl ?_
  refine go_bipush (pc := 43) hF dJ6_bitCount_0f7a4_43 (by decide) ?_
  refine go_iushr (pc := 45) hF 0 (by decide) dJ6_bitCount_0f7a4_45 ?_
  refine go_iadd (pc := 46) hF dJ6_bitCount_0f7a4_46 ?_
  refine go_istore_n (pc := 47) hF [(0, vi 2)] dJ6_bitCount_0f7a4_47 rfl (by decide) ?_
  refine go_iload_n (pc := 48) hF dJ6_bitCount_0f7a4_48 0 rfl ?_
  refine go_bipush (pc := 49) hF dJ6_bitCount_0f7a4_49 (by decide) ?_
  refine go_iand (pc := 51) hF 2 (by decide) dJ6_bitCount_0f7a4_51 ?_
  exact go_iretQ hF hr hlk hQ dJ6_bitCount_0f7a4_52 ⟨by decide, rfl⟩
set_option maxHeartbeats 4000000 in
set_option maxRecDepth 100000 in
theorem c_J6_bitCount_41 (E : En) (N : Nat) (σ : Nat → va_E) : CP E M_J6_bitCount_0f7a4 1 [vi 41] N σ (pc6 41) := by
  refine CT.of2 (own := RJ6) (by decide) rfl (Nat.le_of_ble_eq_true rfl) ?_
  intro p e R s m args below meth c Q hF hr hlk hnm hz hR hQ
  refine go_iload_n (pc := 0) hF dJ6_bitCount_0f7a4_0 0 rfl ?_
  refine go_iload_n (pc := 1) hF dJ6_bitCount_0f7a4_1 0 rfl ?_
  refine go_iconst (pc := 2) hF dJ6_bitCount_0f7a4_2 ?_
  refine go_iushr (pc := 3) hF 20 (by decide) dJ6_bitCount_0f7a4_3 ?_
  refine go_ldcw (pc := 4) hF kc_J6_265 dJ6_bitCount_0f7a4_4 ?_
  refine go_iand (pc := 7) hF 20 (by decide) dJ6_bitCount_0f7a4_7 ?_
  refine go_isub (pc := 8) hF dJ6_bitCount_0f7a4_8 ?_
  refine go_istore_n (pc := 9) hF [(0, vi 21)] dJ6_bitCount_0f7a4_9 rfl (by decide) ?_
  refine go_iload_n (pc := 10) hF dJ6_bitCount_0f7a4_10 0 rfl ?_
  refine go_ldcw (pc := 11) hF kc_J6_266 dJ6_bitCount_0f7a4_11 ?_
  refine go_iand (pc := 14) hF 17 (by decide) dJ6_bitCount_0f7a4_14 ?_
  refine go_iload_n (pc := 15) hF dJ6_bitCount_0f7a4_15 0 rfl ?_
  refine go_iconst (pc := 16) hF dJ6_bitCount_0f7a4_16 ?_
  refine go_iushr (pc := 17) hF 5 (by decide) dJ6_bitCount_0f7a4_17 ?_
  refine go_ldcw (pc := 18) hF kc_J6_266 dJ6_bitCount_0f7a4_18 ?_
  refine go_iand (pc := 21) hF 1 (by decide) dJ6_bitCount_0f7a4_21 ?_
  refine go_iadd (pc := 22) hF dJ6_bitCount_0f7a4_22 ?_
  refine go_istore_n (pc := 23) hF [(0, vi 18)] dJ6_bitCount_0f7a4_23 rfl (by decide) ?_
  refine go_iload_n (pc := 24) hF dJ6_bitCount_0f7a4_24 0 rfl ?_
  refine go_iload_n (pc := 25) hF dJ6_bitCount_0f7a4_25 0 rfl ?_
  refine go_iconst (pc := 26) hF dJ6_bitCount_0f7a4_26 ?_
  refine go_iushr (pc := 27) hF 1 (by decide) dJ6_bitCount_0f7a4_27 ?_
  refine go_iadd (pc := 28) hF dJ6_bitCount_0f7a4_28 ?_
  refine go_ldcw (pc := 29) hF kc_J6_267 dJ6_bitCount_0f7a4_29 ?_
  refine go_iand (pc := 32) hF 3 (by decide) dJ6_bitCount_0f7a4_32 ?_
  refine go_istore_n (pc := 33) hF [(0, vi 3)] dJ6_bitCount_0f7a4_33 rfl (by decide) ?_
  refine go_iload_n (pc := 34) hF dJ6_bitCount_0f7a4_34 0 rfl ?_
  refine go_iload_n (pc := 35) hF dJ6_bitCount_0f7a4_35 0 rfl ?_
  refine go_bipush (pc := 36) hF dJ6_bitCount_0f7a4_36 (by decide) ?_
  refine go_iushr (pc := 38) hF 0 (by decide) dJ6_bitCount_0f7a4_38 ?_
  refine go_iadd (pc := 39) hF dJ6_bitCount_0f7a4_39 ?_
  refine go_istore_n (pc := 40) hF [(0, vi 3)] dJ6_bitCount_0f7a4_40 rfl (by decide) ?_
  refine go_iload_n (pc := 41) hF dJ6_bitCount_0f7a4_41 0 rfl ?_
  refine go_iload_n (pc := 42) hF dJ6_bitCount_0f7a4_42 0 rfl ?_
  refine go_bipush (pc := 43) hF dJ6_bitCount_0f7a4_43 (by decide) ?_
  refine go_iushr (pc := 45) hF 0 (by decide) dJ6_bitCount_0f7a4_45 ?_
  refine go_iadd (pc := 46) hF dJ6_bitCount_0f7a4_46 ?_
  refine go_istore_n (pc := 47) hF [(0, vi 3)] dJ6_bitCount_0f7a4_47 rfl (by decide) ?_
  refine go_iload_n (pc := 48) hF dJ6_bitCount_0f7a4_48 0 rfl ?_
  refine go_bipush (pc := 49) hF dJ6_bitCount_0f7a4_49 (by decide) ?_
  refine go_iand (pc := 51) hF 3 (by decide) dJ6_bitCount_0f7a4_51 ?_
  exact go_iretQ hF hr hlk hQ dJ6_bitCount_0f7a4_52 ⟨by decide, rfl⟩
set_option maxHeartbeats 4000000 in
set_option maxRecDepth 100000 in
theorem c_J6_bitCount_42 (E : En) (N : Nat) (σ : Nat → va_E) : CP E M_J6_bitCount_0f7a4 1 [vi 42] N σ (pc6 42) := by
  refine CT.of2 (own := RJ6) (by decide) rfl (Nat.le_of_ble_eq_true rfl) ?_
  intro p e R s m args below meth c Q hF hr hlk hnm hz hR hQ
  refine go_iload_n (pc := 0) hF dJ6_bitCount_0f7a4_0 0 rfl ?_
  refine go_iload_n (pc := 1) hF dJ6_bitCount_0f7a4_1 0 rfl ?_
  refine go_iconst (pc := 2) hF dJ6_bitCount_0f7a4_2 ?_
  refine go_iushr (pc := 3) hF 21 (by decide) dJ6_bitCount_0f7a4_3 ?_
  refine go_ldcw (pc := 4) hF kc_J6_265 dJ6_bitCount_0f7a4_4 ?_
  refine go_iand (pc := 7) hF 21 (by decide) dJ6_bitCount_0f7a4_7 ?_
  refine go_isub (pc := 8) hF dJ6_bitCount_0f7a4_8 ?_
  refine go_istore_n (pc := 9) hF [(0, vi 21)] dJ6_bitCount_0f7a4_9 rfl (by decide) ?_
  refine go_iload_n (pc := 10) hF dJ6_bitCount_0f7a4_10 0 rfl ?_
  refine go_ldcw (pc := 11) hF kc_J6_266 dJ6_bitCount_0f7a4_11 ?_
  refine go_iand (pc := 14) hF 17 (by decide) dJ6_bitCount_0f7a4_14 ?_
  refine go_iload_n (pc := 15) hF dJ6_bitCount_0f7a4_15 0 rfl ?_
  refine go_iconst (pc := 16) hF dJ6_bitCount_0f7a4_16 ?_
  refine go_iushr (pc := 17) hF 5 (by decide) dJ6_bitCount_0f7a4_17 ?_
  refine go_ldcw (pc := 18) hF kc_J6_266 dJ6_bitCount_0f7a4_18 ?_
  refine go_iand (pc := 21) hF 1 (by decide) dJ6_bitCount_0f7a4_21 ?_
  refine go_iadd (pc := 22) hF dJ6_bitCount_0f7a4_22 ?_
  refine go_istore_n (pc := 23) hF [(0, vi 18)] dJ6_bitCount_0f7a4_23 rfl (by decide) ?_
  refine go_iload_n (pc := 24) hF dJ6_bitCount_0f7a4_24 0 rfl ?_
  refine go_iload_n (pc := 25) hF dJ6_bitCount_0f7a4_25 0 rfl ?_
  refine go_iconst (pc := 26) hF dJ6_bitCount_0f7a4_26 ?_
  refine go_iushr (pc := 27) hF 1 (by decide) dJ6_bitCount_0f7a4_27 ?_
  refine go_iadd (pc := 28) hF dJ6_bitCount_0f7a4_28 ?_
  refine go_ldcw (pc := 29) hF kc_J6_267 dJ6_bitCount_0f7a4_29 ?_
  refine go_iand (pc := 32) hF 3 (by decide) dJ6_bitCount_0f7a4_32 ?_
  refine go_istore_n (pc := 33) hF [(0, vi 3)] dJ6_bitCount_0f7a4_33 rfl (by decide) ?_
  refine go_iload_n (pc := 34) hF dJ6_bitCount_0f7a4_34 0 rfl ?_
  refine go_iload_n (pc := 35) hF dJ6_bitCount_0f7a4_35 0 rfl ?_
  refine go_bipush (pc := 36) hF dJ6_bitCount_0f7a4_36 (by decide) ?_
  refine go_iushr (pc := 38) hF 0 (by decide) dJ6_bitCount_0f7a4_38 ?_
  refine go_iadd (pc := 39) hF dJ6_bitCount_0f7a4_39 ?_
  refine go_istore_n (pc := 40) hF [(0, vi 3)] dJ6_bitCount_0f7a4_40 rfl (by decide) ?_
  refine go_iload_n (pc := 41) hF dJ6_bitCount_0f7a4_41 0 rfl ?_
  refine go_iload_n (pc := 42) hF dJ6_bitCount_0f7a4_42 0 rfl ?_
  refine go_bipush (pc := 43) hF dJ6_bitCount_0f7a4_43 (by decide) ?_
  refine go_iushr (pc := 45) hF 0 (by decide) dJ6_bitCount_0f7a4_45 ?_
  refine go_iadd (pc := 46) hF dJ6_bitCount_0f7a4_46 ?_
  refine go_istore_n (pc := 47) hF [(0, vi 3)] dJ6_bitCount_0f7a4_47 rfl (by decide) ?_
  refine go_iload_n (pc := 48) hF dJ6_bitCount_0f7a4_48 0 rfl ?_
  refine go_bipush (pc := 49) hF dJ6_bitCount_0f7a4_49 (by decide) ?_
  refine go_iand (pc := 51) hF 3 (by decide) dJ6_bitCount_0f7a4_51 ?_
  exact go_iretQ hF hr hlk hQ dJ6_bitCount_0f7a4_52 ⟨by decide, rfl⟩
set_option maxHeartbeats 4000000 in
set_option maxRecDepth 100000 in
theorem c_J6_bitCount_43 (E : En) (N : Nat) (σ : Nat → va_E) : CP E M_J6_bitCount_0f7a4 1 [vi 43] N σ (pc6 43) := by
  refine CT.of2 (own := RJ6) (by decide) rfl (Nat.le_of_ble_eq_true rfl) ?_
  intro p e R s m args below meth c Q hF hr hlk hnm hz hR hQ
  refine go_iload_n (pc := 0) hF dJ6_bitCount_0f7a4_0 0 rfl ?_
  refine go_iload_n (pc := 1) hF dJ6_bitCount_0f7a4_1 0 rfl ?_
  refine go_iconst (pc := 2) hF dJ6_bitCount_0f7a4_2 ?_
  refine go_iushr (pc := 3) hF 21 (by decide) dJ6_bitCount_0f7a4_3 ?_
  refine go_ldcw (pc := 4) hF kc_J6_265 dJ6_bitCount_0f7a4_4 ?_
  refine go_iand (pc := 7) hF 21 (by decide) dJ6_bitCount_0f7a4_7 ?_
  refine go_isub (pc := 8) hF dJ6_bitCount_0f7a4_8 ?_
  refine go_istore_n (pc := 9) hF [(0, vi 22)] dJ6_bitCount_0f7a4_9 rfl (by decide) ?_
  refine go_iload_n (pc := 10) hF dJ6_bitCount_0f7a4_10 0 rfl ?_
  refine go_ldcw (pc := 11) hF kc_J6_266 dJ6_bitCount_0f7a4_11 ?_
  refine go_iand (pc := 14) hF 18 (by decide) dJ6_bitCount_0f7a4_14 ?_
  refine go_iload_n (pc := 15) hF dJ6_bitCount_0f7a4_15 0 rfl ?_
  refine go_iconst (pc := 16) hF dJ6_bitCount_0f7a4_16 ?_
  refine go_iushr (pc := 17) hF 5 (by decide) dJ6_bitCount_0f7a4_17 ?_
  refine go_ldcw (pc := 18) hF kc_J6_266 dJ6_bitCount_0f7a4_18 ?_
  refine go_iand (pc := 21) hF 1 (by decide) dJ6_bitCount_0f7a4_21 ?_
  refine go_iadd (pc := 22) hF dJ6_bitCount_0f7a4_22 ?_
  refine go_istore_n (pc := 23) hF [(0, vi 19)] dJ6_bitCount_0f7a4_23 rfl (by decide) ?_
  refine go_iload_n (pc := 24) hF dJ6_bitCount_0f7a4_24 0 rfl ?_
  refine go_iload_n (pc := 25) hF dJ6_bitCount_0f7a4_25 0 rfl ?_
  refine go_iconst (pc := 26) hF dJ6_bitCount_0f7a4_26 ?_
  refine go_iushr (pc := 27) hF 1 (by decide) dJ6_bitCount_0f7a4_27 ?_
  refine go_iadd (pc := 28) hF dJ6_bitCount_0f7a4_28 ?_
  refine go_ldcw (pc := 29) hF kc_J6_267 dJ6_bitCount_0f7a4_29 ?_
  refine go_iand (pc := 32) hF 4 (by decide) dJ6_bitCount_0f7a4_32 ?_
  refine go_istore_n (pc := 33) hF [(0, vi 4)] dJ6_bitCount_0f7a4_33 rfl (by decide) ?_
  refine go_iload_n (pc := 34) hF dJ6_bitCount_0f7a4_34 0 rfl ?_
  refine go_iload_n (pc := 35) hF dJ6_bitCount_0f7a4_35 0 rfl ?_
  refine go_bipush (pc := 36) hF dJ6_bitCount_0f7a4_36 (by decide) ?_
  refine go_iushr (pc := 38) hF 0 (by decide) dJ6_bitCount_0f7a4_38 ?_
  refine go_iadd (pc := 39) hF dJ6_bitCount_0f7a4_39 ?_
  refine go_istore_n (pc := 40) hF [(0, vi 4)] dJ6_bitCount_0f7a4_40 rfl (by decide) ?_
  refine go_iload_n (pc := 41) hF dJ6_bitCount_0f7a4_41 0 rfl ?_
  refine go_iload_n (pc := 42) hF dJ6_bitCount_0f7a4_42 0 rfl ?_
  refine go_bipush (pc := 43) hF dJ6_bitCount_0f7a4_43 (by decide) ?_
  refine go_iushr (pc := 45) hF 0 (by decide) dJ6_bitCount_0f7a4_45 ?_
  refine go_iadd (pc := 46) hF dJ6_bitCount_0f7a4_46 ?_
  refine go_istore_n (pc := 47) hF [(0, vi 4)] dJ6_bitCount_0f7a4_47 rfl (by decide) ?_
  refine go_iload_n (pc := 48) hF dJ6_bitCount_0f7a4_48 0 rfl ?_
  refine go_bipush (pc := 49) hF dJ6_bitCount_0f7a4_49 (by decide) ?_
  refine go_iand (pc := 51) hF 4 (by decide) dJ6_bitCount_0f7a4_51 ?_
  exact go_iretQ hF hr hlk hQ dJ6_bitCount_0f7a4_52 ⟨by decide, rfl⟩
set_option maxHeartbeats 4000000 in
set_option maxRecDepth 100000 in
theorem c_J6_bitCount_44 (E : En) (N : Nat) (σ : Nat → va_E) : CP E M_J6_bitCount_0f7a4 1 [vi 44] N σ (pc6 44) := by
  refine CT.of2 (own := RJ6) (by decide) rfl (Nat.le_of_ble_eq_true rfl) ?_
  intro p e R s m args below meth c Q hF hr hlk hnm hz hR hQ
  refine go_iload_n (pc := 0) hF dJ6_bitCount_0f7a4_0 0 rfl ?_
  refine go_iload_n (pc := 1) hF dJ6_bitCount_0f7a4_1 0 rfl ?_
  refine go_iconst (pc := 2) hF dJ6_bitCount_0f7a4_2 ?_
  refine go_iushr (pc := 3) hF 22 (by decide) dJ6_bitCount_0f7a4_3 ?_
  refine go_ldcw (pc := 4) hF kc_J6_265 dJ6_bitCount_0f7a4_4 ?_
  refine go_iand (pc := 7) hF 20 (by decide) dJ6_bitCount_0f7a4_7 ?_
  refine go_isub (pc := 8) hF dJ6_bitCount_0f7a4_8 ?_
  refine go_istore_n (pc := 9) hF [(0, vi 24)] dJ6_bitCount_0f7a4_9 rfl (by decide) ?_
  refine go_iload_n (pc := 10) hF dJ6_bitCount_0f7a4_10 0 rfl ?_
  refine go_ldcw (pc := 11) hF kc_J6_266 dJ6_bitCount_0f7a4_11 ?_
  refine go_iand (pc := 14) hF 16 (by decide) dJ6_bitCount_0f7a4_14 ?_
  refine go_iload_n (pc := 15) hF dJ6_bitCount_0f7a4_15 0 rfl ?_
  refine go_iconst (pc := 16) hF dJ6_bitCount_0f7a4_16 ?_
  refine go_iushr (pc := 17) hF 6 (by decide) dJ6_bitCount_0f7a4_17 ?_
  refine go_ldcw (pc := 18) hF kc_J6_266 dJ6_bitCount_0f7a4_18 ?_
  refine go_iand (pc := 21) hF 2 (by decide) dJ6_bitCount_0f7a4_21 ?_
  refine go_iadd (pc := 22) hF dJ6_bitCount_0f7a4_22 ?_
  refine go_istore_n (pc := 23) hF [(0, vi 18)] dJ6_bitCount_0f7a4_23 rfl (by decide) ?_
  refine go_iload_n (pc := 24) hF dJ6_bitCount_0f7a4_24 0 rfl ?_
  refine go_iload_n (pc := 25) hF dJ6_bitCount_0f7a4_25 0 rfl ?_
  refine go_iconst (pc := 26) hF dJ6_bitCount_0f7a4_26 ?_
  refine go_iushr (pc := 27) hF 1 (by decide) dJ6_bitCount_0f7a4_27 ?_
  refine go_iadd (pc := 28) hF dJ6_bitCount_0f7a4_28 ?_
  refine go_ldcw (pc := 29) hF kc_J6_267 dJ6_bitCount_0f7a4_29 ?_
  refine go_iand (pc := 32) hF 3 (by decide) dJ6_bitCount_0f7a4_32 ?_
  refine go_istore_n (pc := 33) hF [(0, vi 3)] dJ6_bitCount_0f7a4_33 rfl (by decide) ?_
  refine go_iload_n (pc := 34) hF dJ6_bitCount_0f7a4_34 0 rfl ?_
  refine go_iload_n (pc := 35) hF dJ6_bitCount_0f7a4_35 0 rfl ?_
  refine go_bipush (pc := 36) hF dJ6_bitCount_0f7a4_36 (by decide) ?_
  refine go_iushr (pc := 38) hF 0 (by decide) dJ6_bitCount_0f7a4_38 ?_
  refine go_iadd (pc := 39) hF dJ6_bitCount_0f7a4_39 ?_
  refine go_istore_n (pc := 40) hF [(0, vi 3)] dJ6_bitCount_0f7a4_40 rfl (by decide) ?_
  refine go_iload_n (pc := 41) hF dJ6_bitCount_0f7a4_41 0 rfl ?_
  refine go_iload_n (pc := 42) hF dJ6_bitCount_0f7a4_42 0 rfl ?_
  refine go_bipush (pc := 43) hF dJ6_bitCount_0f7a4_43 (by decide) ?_
  refine go_iushr (pc := 45) hF 0 (by decide) dJ6_bitCount_0f7a4_45 ?_
  refine go_iadd (pc := 46) hF dJ6_bitCount_0f7a4_46 ?_
  refine go_istore_n (pc := 47) hF [(0, vi 3)] dJ6_bitCount_0f7a4_47 rfl (by decide) ?_
  refine go_iload_n (pc := 48) hF dJ6_bitCount_0f7a4_48 0 rfl ?_
  refine go_bipush (pc := 49) hF dJ6_bitCount_0f7a4_49 (by decide) ?_
  refine go_iand (pc := 51) hF 3 (by decide) dJ6_bitCount_0f7a4_51 ?_
  exact go_iretQ hF hr hlk hQ dJ6_bitCount_0f7a4_52 ⟨by decide, rfl⟩
set_option maxHeartbeats 4000000 in
set_option maxRecDepth 100000 in
theorem c_J6_bitCount_45 (E : En) (N : Nat) (σ : Nat → va_E) : CP E M_J6_bitCount_0f7a4 1 [vi 45] N σ (pc6 45) := by
  refine CT.of2 (own := RJ6) (by decide) rfl (Nat.le_of_ble_eq_true rfl) ?_
  intro p e R s m args below meth c Q hF hr hlk hnm hz hR hQ
  refine go_iload_n (pc := 0) hF dJ6_bitCount_0f7a4_0 0 rfl ?_
  refine go_iload_n (pc := 1) hF dJ6_bitCount_0f7a4_1 0 rfl ?_
  refine go_iconst (pc := 2) hF dJ6_bitCount_0f7a4_2 ?_
  refine go_iushr (pc := 3) hF 22 (by decide) dJ6_bitCount_0f7a4_3 ?_
  refine go_ldcw (pc := 4) hF kc_J6_265 dJ6_bitCount_0f7a4_4 ?_
  refine go_iand (pc := 7) hF 20 (by decide) dJ6_bitCount_0f7a4_7 ?_
  refine go_isub (pc := 8) hF dJ6_bitCount_0f7a4_8 ?_
  refine go_istore_n (pc := 9) hF [(0, vi 25)] dJ6_bitCount_0f7a4_9 rfl (by decide) ?_
  refine go_iload_n (pc := 10) hF dJ6_bitCount_0f7a4_10 0 rfl ?_
  refine go_ldcw (pc := 11) hF kc_J6_266 dJ6_bitCount_0f7a4_11 ?_
  refine go_iand (pc := 14) hF 17 (by decide) dJ6_bitCount_0f7a4_14 ?_
  refine go_iload_n (pc := 15) hF dJ6_bitCount_0f7a4_15 0 rfl ?_
  refine go_iconst (pc := 16) hF dJ6_bitCount_0f7a4_16 ?_
  refine go_iushr (pc := 17) hF 6 (by decide) dJ6_bitCount_0f7a4_17 ?_
  refine go_ldcw (pc := 18) hF kc_J6_266 dJ6_bitCount_0f7a4_18 ?_
  refine go_iand (pc := 21) hF 2 (by decide) dJ6_bitCount_0f7a4_21 ?_
  refine go_iadd (pc := 22) hF dJ6_bitCount_0f7a4_22 ?_
  refine go_istore_n (pc := 23) hF [(0, vi 19)] dJ6_bitCount_0f7a4_23 rfl (by decide) ?_
  refine go_iload_n (pc := 24) hF dJ6_bitCount_0f7a4_24 0 rfl ?_
  refine go_iload_n (pc := 25) hF dJ6_bitCount_0f7a4_25 0 rfl ?_
  refine go_iconst (pc := 26) hF dJ6_bitCount_0f7a4_26 ?_
  refine go_iushr (pc := 27) hF 1 (by decide) dJ6_bitCount_0f7a4_27 ?_
  refine go_iadd (pc := 28) hF dJ6_bitCount_0f7a4_28 ?_
  refine go_ldcw (pc := 29) hF kc_J6_267 dJ6_bitCount_0f7a4_29 ?_
  refine go_iand (pc := 32) hF 4 (by decide) dJ6_bitCount_0f7a4_32 ?_
  refine go_istore_n (pc := 33) hF [(0, vi 4)] dJ6_bitCount_0f7a4_33 rfl (by decide) ?_
  refine go_iload_n (pc := 34) hF dJ6_bitCount_0f7a4_34 0 rfl ?_
  refine go_iload_n (pc := 35) hF dJ6_bitCount_0f7a4_35 0 rfl ?_
  refine go_bipush (pc := 36) hF dJ6_bitCount_0f7a4_36 (by decide) ?_
  refine go_iushr (pc := 38) hF 0 (by decide) dJ6_bitCount_0f7a4_38 ?_
  refine go_iadd (pc := 39) hF dJ6_bitCount_0f7a4_39 ?_
  refine go_istore_n (pc := 40) hF [(0, vi 4)] dJ6_bitCount_0f7a4_40 rfl (by decide) ?_
  refine go_iload_n (pc := 41) hF dJ6_bitCount_0f7a4_41 0 rfl ?_
  refine go_iload_n (pc := 42) hF dJ6_bitCount_0f7a4_42 0 rfl ?_
  refine go_bipush (pc := 43) hF dJ6_bitCount_0f7a4_43 (by decide) ?_
  refine go_iushr (pc := 45) hF 0 (by decide) dJ6_bitCount_0f7a4_45 ?_
  refine go_iadd (pc := 46) hF dJ6_bitCount_0f7a4_46 ?_
  refine go_istore_n (pc := 47) hF [(0, vi 4)] dJ6_bitCount_0f7a4_47 rfl (by decide) ?_
  refine go_iload_n (pc := 48) hF dJ6_bitCount_0f7a4_48 0 rfl ?_
  refine go_bipush (pc := 49) hF dJ6_bitCount_0f7a4_49 (by decide) ?_
  refine go_iand (pc := 51) hF 4 (by decide) dJ6_bitCount_0f7a4_51 ?_
  exact go_iretQ hF hr hlk hQ dJ6_bitCount_0f7a4_52 ⟨by decide, rfl⟩
set_option maxHeartbeats 4000000 in
set_option maxRecDepth 100000 in
theorem c_J6_bitCount_46 (E : En) (N : Nat) (σ : Nat → va_E) : CP E M_J6_bitCount_0f7a4 1 [vi 46] N σ (pc6 46) := by
  refine CT.of2 (own := RJ6) (by decide) rfl (Nat.le_of_ble_eq_true rfl) ?_
  intro p e R s m args below meth c Q hF hr hlk hnm hz hR hQ
  refine go_iload_n (pc := 0) hF dJ6_bitCount_0f7a4_0 0 rfl ?_
  refine go_iload_n (pc := 1) hF dJ6_bitCount_0f7a4_1 0 rfl ?_
  refine go_iconst (pc := 2) hF dJ6_bitCount_0f7a4_2 ?_
  refine go_iushr (pc := 3) hF 23 (by decide) dJ6_bitCount_0f7a4_3 ?_
  refine go_ldcw (pc := 4) hF kc_J6_265 dJ6_bitCount_0f7a4_4 ?_
  refine go_iand (pc := 7) hF 21 (by decide) dJ6_bitCount_0f7a4_7 ?_
  refine go_isub (pc := 8) hF dJ6_bitCount_0f7a4_8 ?_
  refine go_istore_n (pc := 9) hF [(0, vi 25)] dJ6_bitCount_0f7a4_9 rfl (by decide) ?_
  refine go_iload_n (pc := 10) hF dJ6_bitCount_0f7a4_10 0 rfl ?_
  refine go_ldcw (pc := 11) hF kc_J6_266 dJ6_bitCount_0f7a4_11 ?_
  refine go_iand (pc := 14) hF 17 (by decide) dJ6_bitCount_0f7a4_14 ?_
  refine go_iload_n (pc := 15) hF dJ6_bitCount_0f7a4_15 0 rfl ?_
  refine go_iconst (pc := 16) hF dJ6_bitCount_0f7a4_16 ?_
  refine go_iushr (pc := 17) hF 6 (by decide) dJ6_bitCount_0f7a4_17 ?_
  refine go_ldcw (pc := 18) hF kc_J6_266 dJ6_bitCount_0f7a4_18 ?_
  refine go_iand (pc := 21) hF 2 (by decide) dJ6_bitCount_0f7a4_21 ?_
  refine go_iadd (pc := 22) hF dJ6_bitCount_0f7a4_22 ?_
  refine go_istore_n (pc := 23) hF [(0, vi 19)] dJ6_bitCount_0f7a4_23 rfl (by decide) ?_
  refine go_iload_n (pc := 24) hF dJ6_bitCount_0f7a4_24 0 rfl ?_
  refine go_iload_n (pc := 25) hF dJ6_bitCount_0f7a4_25 0 rfl ?_
  refine go_iconst (pc := 26) hF dJ6_bitCount_0f7a4_26 ?_
  refine go_iushr (pc := 27) hF 1 (by decide) dJ6_bitCount_0f7a4_27 ?_
  refine go_iadd (pc := 28) hF dJ6_bitCount_0f7a4_28 ?_
  refine go_ldcw (pc := 29) hF kc_J6_267 dJ6_bitCount_0f7a4_29 ?_
  refine go_iand (pc := 32) hF 4 (by decide) dJ6_bitCount_0f7a4_32 ?_
  refine go_istore_n (pc := 33) hF [(0, vi 4)] dJ6_bitCount_0f7a4_33 rfl (by decide) ?_
  refine go_iload_n (pc := 34) hF dJ6_bitCount_0f7a4_34 0 rfl ?_
  refine go_iload_n (pc := 35) hF dJ6_bitCount_0f7a4_35 0 rfl ?_
  refine go_bipush (pc := 36) hF dJ6_bitCount_0f7a4_36 (by decide) ?_
  refine go_iushr (pc := 38) hF 0 (by decide) dJ6_bitCount_0f7a4_38 ?_
  refine go_iadd (pc := 39) hF dJ6_bitCount_0f7a4_39 ?_
  refine go_istore_n (pc := 40) hF [(0, vi 4)] dJ6_bitCount_0f7a4_40 rfl (by decide) ?_
  refine go_iload_n (pc := 41) hF dJ6_bitCount_0f7a4_41 0 rfl ?_
  refine go_iload_n (pc := 42) hF dJ6_bitCount_0f7a4_42 0 rfl ?_
  refine go_bipush (pc := 43) hF dJ6_bitCount_0f7a4_43 (by decide) ?_
  refine go_iushr (pc := 45) hF 0 (by decide) dJ6_bitCount_0f7a4_45 ?_
  refine go_iadd (pc := 46) hF dJ6_bitCount_0f7a4_46 ?_
  refine go_istore_n (pc := 47) hF [(0, vi 4)] dJ6_bitCount_0f7a4_47 rfl (by decide) ?_
  refine go_iload_n (pc := 48) hF dJ6_bitCount_0f7a4_48 0 rfl ?_
  refine go_bipush (pc := 49) hF dJ6_bitCount_0f7a4_49 (by decide) ?_
  refine go_iand (pc := 51) hF 4 (by decide) dJ6_bitCount_0f7a4_51 ?_
  exact go_iretQ hF hr hlk hQ dJ6_bitCount_0f7a4_52 ⟨by decide, rfl⟩
set_option maxHeartbeats 4000000 in
set_option maxRecDepth 100000 in
theorem c_J6_bitCount_47 (E : En) (N : Nat) (σ : Nat → va_E) : CP E M_J6_bitCount_0f7a4 1 [vi 47] N σ (pc6 47) := by
  refine CT.of2 (own := RJ6) (by decide) rfl (Nat.le_of_ble_eq_true rfl) ?_
  intro p e R s m args below meth c Q hF hr hlk hnm hz hR hQ
  refine go_iload_n (pc := 0) hF dJ6_bitCount_0f7a4_0 0 rfl ?_
  refine go_iload_n (pc := 1) hF dJ6_bitCount_0f7a4_1 0 rfl ?_
  refine go_iconst (pc := 2) hF dJ6_bitCount_0f7a4_2 ?_
  refine go_iushr (pc := 3) hF 23 (by decide) dJ6_bitCount_0f7a4_3 ?_
  refine go_ldcw (pc := 4) hF kc_J6_265 dJ6_bitCount_0f7a4_4 ?_
  refine go_iand (pc := 7) hF 21 (by decide) dJ6_bitCount_0f7a4_7 ?_
  refine go_isub (pc := 8) hF dJ6_bitCount_0f7a4_8 ?_
  refine go_istore_n (pc := 9) hF [(0, vi 26)] dJ6_bitCount_0f7a4_9 rfl (by decide) ?_
  refine go_iload_n (pc := 10) hF dJ6_bitCount_0f7a4_10 0 rfl ?_
  refine go_ldcw (pc := 11) hF kc_J6_266 dJ6_bitCount_0f7a4_11 ?_
  refine go_iand (pc := 14) hF 18 (by decide) dJ6_bitCount_0f7a4_14 ?_
  refine go_iload_n (pc := 15) hF dJ6_bitCount_0f7a4_15 0 rfl ?_
  refine go_iconst (pc := 16) hF dJ6_bitCount_0f7a4_16 ?_
  refine go_iushr (pc := 17) hF 6 (by decide) dJ6_bitCount_0f7a4_17 ?_
  refine go_ldcw (pc := 18) hF kc_J6_266 dJ6_bitCount_0f7a4_18 ?_
  refine go_iand (pc := 21) hF 2 (by decide) dJ6_bitCount_0f7a4_21 ?_
  refine go_iadd (pc := 22) hF dJ6_bitCount_0f7a4_22 ?_
  refine go_istore_n (pc := 23) hF [(0, vi 20)] dJ6_bitCount_0f7a4_23 rfl (by decide) ?_
  refine go_iload_n (pc := 24) hF dJ6_bitCount_0f7a4_24 0 rfl ?_
  refine go_iload_n (pc := 25) hF dJ6_bitCount_0f7a4_25 0 rfl ?_
  refine go_iconst (pc := 26) hF dJ6_bitCount_0f7a4_26 ?_
  refine go_iushr (pc := 27) hF 1 (by decide) dJ6_bitCount_0f7a4_27 ?_
  refine go_iadd (pc := 28) hF dJ6_bitCount_0f7a4_28 ?_
  refine go_ldcw (pc := 29) hF kc_J6_267 dJ6_bitCount_0f7a4_29 ?_
  refine go_iand (pc := 32) hF 5 (by decide) dJ6_bitCount_0f7a4_32 ?_
  refine go_istore_n (pc := 33) hF [(0, vi 5)] dJ6_bitCount_0f7a4_33 rfl (by decide) ?_
  refine go_iload_n (pc := 34) hF dJ6_bitCount_0f7a4_34 0 rfl ?_
  refine go_iload_n (pc := 35) hF dJ6_bitCount_0f7a4_35 0 rfl ?_
  refine go_bipush (pc := 36) hF dJ6_bitCount_0f7a4_36 (by decide) ?_
  refine go_iushr (pc := 38) hF 0 (by decide) dJ6_bitCount_0f7a4_38 ?_
  refine go_iadd (pc := 39) hF dJ6_bitCount_0f7a4_39 ?_
  refine go_istore_n (pc := 40) hF [(0, vi 5)] dJ6_bitCount_0f7a4_40 rfl (by decide) ?_
  refine go_iload_n (pc := 41) hF dJ6_bitCount_0f7a4_41 0 rfl ?_
  refine go_iload_n (pc := 42) hF dJ6_bitCount_0f7a4_42 0 rfl ?_
  refine go_bipush (pc := 43) hF dJ6_bitCount_0f7a4_43 (by decide) ?_
  refine go_iushr (pc := 45) hF 0 (by decide) dJ6_bitCount_0f7a4_45 ?_
  refine go_iadd (pc := 46) hF dJ6_bitCount_0f7a4_46 ?_
  refine go_istore_n (pc := 47) hF [(0, vi 5)] dJ6_bitCount_0f7a4_47 rfl (by decide) ?_
  refine go_iload_n (pc := 48) hF dJ6_bitCount_0f7a4_48 0 rfl ?_
  refine go_bipush (pc := 49) hF dJ6_bitCount_0f7a4_49 (by decide) ?_
  refine go_iand (pc := 51) hF 5 (by decide) dJ6_bitCount_0f7a4_51 ?_
  exact go_iretQ hF hr hlk hQ dJ6_bitCount_0f7a4_52 ⟨by decide, rfl⟩
set_option maxHeartbeats 4000000 in
set_option maxRecDepth 100000 in
theorem c_J6_bitCount_48 (E : En) (N : Nat) (σ : Nat → va_E) : CP E M_J6_bitCount_0f7a4 1 [vi 48] N σ (pc6 48) := by
  refine CT.of2 (own := RJ6) (by decide) rfl (Nat.le_of_ble_eq_true rfl) ?_
  intro p e R s m args below meth c Q hF hr hlk hnm hz hR hQ
  refine go_iload_n (pc := 0) hF dJ6_bitCount_0f7a4_0 0 rfl ?_
  refine go_iload_n (pc := 1) hF dJ6_bitCount_0f7a4_1 0 rfl ?_
  refine go_iconst (pc := 2) hF dJ6_bitCount_0f7a4_2 ?_
  refine go_iushr (pc := 3) hF 24 (by decide) dJ6_bitCount_0f7a4_3 ?_
  refine go_ldcw (pc := 4) hF kc_J6_265 dJ6_bitCount_0f7a4_4 ?_
  refine go_iand (pc := 7) hF 16 (by decide) dJ6_bitCount_0f7a4_7 ?_
  refine go_isub (pc := 8) hF dJ6_bitCount_0f7a4_8 ?_
  refine go_istore_n (pc := 9) hF [(0, vi 32)] dJ6_bitCount_0f7a4_9 rfl (by decide) ?_
  refine go_iload_n (pc := 10) hF dJ6_bitCount_0f7a4_10 0 rfl ?_
  refine go_ldcw (pc := 11) hF kc_J6_266 dJ6_bitCount_0f7a4_11 ?_
  refine go_iand (pc := 14) hF 32 (by decide) dJ6_bitCount_0f7a4_14 ?_
  refine go_iload_n (pc := 15) hF dJ6_bitCount_0f7a4_15 0 rfl ?_
  refine go_iconst (pc := 16) hF dJ6_bitCount_0f7a4_16 ?_
  refine go_iushr (pc := 17) hF 8 (by decide) dJ6_bitCount_0f7a4_17 ?_
  refine go_ldcw (pc := 18) hF kc_J6_266 dJ6_bitCount_0f7a4_18 ?_
  refine go_iand (pc := 21) hF 0 (by decide) dJ6_bitCount_0f7a4_21 ?_
  refine go_iadd (pc := 22) hF dJ6_bitCount_0f7a4_22 ?_
  refine go_istore_n (pc := 23) hF [(0, vi 32)] dJ6_bitCount_0f7a4_23 rfl (by decide) ?_
  refine go_iload_n (pc := 24) hF dJ6_bitCount_0f7a4_24 0 rfl ?_
  refine go_iload_n (pc := 25) hF dJ6_bitCount_0f7a4_25 0 rfl ?_
  refine go_iconst (pc := 26) hF dJ6_bitCount_0f7a4_26 ?_
  refine go_iushr (pc := 27) hF 2 (by decide) dJ6_bitCount_0f7a4_27 ?_
  refine go_iadd (pc := 28) hF dJ6_bitCount_0f7a4_28 ?_
  refine go_ldcw (pc := 29) hF kc_J6_267 dJ6_bitCount_0f7a4_29 ?_
  refine go_iand (pc := 32) hF 2 (by decide) dJ6_bitCount_0f7a4_32 ?_
  refine go_istore_n (pc := 33) hF [(0, vi 2)] dJ6_bitCount_0f7a4_33 rfl (by decide) ?_
  refine go_iload_n (pc := 34) hF dJ6_bitCount_0f7a4_34 0 rfl ?_
  refine go_iload_n (pc := 35) hF dJ6_bitCount_0f7a4_35 0 rfl ?_
  refine go_bipush (pc := 36) hF dJ6_bitCount_0f7a4_36 (by decide) ?_
  refine go_iushr (pc := 38) hF 0 (by decide) dJ6_bitCount_0f7a4_38 ?_
  refine go_iadd (pc := 39) hF dJ6_bitCount_0f7a4_39 ?_
  refine go_istore_n (pc := 40) hF [(0, vi 2)] dJ6_bitCount_0f7a4_40 rfl (by decide) ?_
  refine go_iload_n (pc := 41) hF dJ6_bitCount_0f7a4_41 0 rfl ?_
  refine go_iload_n (pc := 42) hF dJ6_bitCount_0f7a4_42 0 rfl ?_
  refine go_bipush (pc := 43) hF dJ6_bitCount_0f7a4_43 (by decide) ?_
  refine go_iushr (pc := 45) hF 0 (by decide) dJ6_bitCount_0f7a4_45 ?_
  refine go_iadd (pc := 46) hF dJ6_bitCount_0f7a4_46 ?_
  refine go_istore_n (pc := 47) hF [(0, vi 2)] dJ6_bitCount_0f7a4_47 rfl (by decide) ?_
  refine go_iload_n (pc := 48) hF dJ6_bitCount_0f7a4_48 0 rfl ?_
  refine go_bipush (pc := 49) hF dJ6_bitCount_0f7a4_49 (by decide) ?_
  refine go_iand (pc := 51) hF 2 (by decide) dJ6_bitCount_0f7a4_51 ?_
  exact go_iretQ hF hr hlk hQ dJ6_bitCount_0f7a4_52 ⟨by decide, rfl⟩
set_option maxHeartbeats 4000000 in
set_option maxRecDepth 100000 in
theorem c_J6_bitCount_49 (E : En) (N : Nat) (σ : Nat → va_E) : CP E M_J6_bitCount_0f7a4 1 [vi 49] N σ (pc6 49) := by
  refine CT.of2 (own := RJ6) (by decide) rfl (Nat.le_of_ble_eq_true rfl) ?_
  intro p e R s m args below meth c Q hF hr hlk hnm hz hR hQ
  refine go_iload_n (pc := 0) hF dJ6_bitCount_0f7a4_0 0 rfl ?_
  refine go_iload_n (pc := 1) hF dJ6_bitCount_0f7a4_1 0 rfl ?_
  refine go_iconst (pc := 2) hF dJ6_bitCount_0f7a4_2 ?_
  refine go_iushr (pc := 3) hF 24 (by decide) dJ6_bitCount_0f7a4_3 ?_
  refine go_ldcw (pc := 4) hF kc_J6_265 dJ6_bitCount_0f7a4_4 ?_
  refine go_iand (pc := 7) hF 16 (by decide) dJ6_bitCount_0f7a4_7 ?_
  refine go_isub (pc := 8) hF dJ6_bitCount_0f7a4_8 ?_
  refine go_istore_n (pc := 9) hF [(0, vi 33)] dJ6_bitCount_0f7a4_9 rfl (by decide) ?_
  refine go_iload_n (pc := 10) hF dJ6_bitCount_0f7a4_10 0 rfl ?_
  refine go_ldcw (pc := 11) hF kc_J6_266 dJ6_bitCount_0f7a4_11 ?_
  refine go_iand (pc := 14) hF 33 (by decide) dJ6_bitCount_0f7a4_14 ?_
  refine go_iload_n (pc := 15) hF dJ6_bitCount_0f7a4_15 0 rfl ?_
  refine go_iconst (pc := 16) hF dJ6_bitCount_0f7a4_16 ?_
  refine go_iushr (pc := 17) hF 8 (by decide) dJ6_bitCount_0f7a4_17 ?_
  refine go_ldcw (pc := 18) hF kc_J6_266 dJ6_bitCount_0f7a4_18 ?_
  refine go_iand (pc := 21) hF 0 (by decide) dJ6_bitCount_0f7a4_21 ?_
  refine go_iadd (pc := 22) hF dJ6_bitCount_0f7a4_22 ?_
  refine go_istore_n (pc := 23) hF [(0, vi 33)] dJ6_bitCount_0f7a4_23 rfl (by decide) ?_
  refine go_iload_n (pc := 24) hF dJ6_bitCount_0f7a4_24 0 rfl ?_
  refine go_iload_n (pc := 25) hF dJ6_bitCount_0f7a4_25 0 rfl ?_
  refine go_iconst (pc := 26) hF dJ6_bitCount_0f7a4_26 ?_
  refine go_iushr (pc := 27) hF 2 (by decide) dJ6_bitCount_0f7a4_27 ?_
  refine go_iadd (pc := 28) hF dJ6_bitCount_0f7a4_28 ?_
  refine go_ldcw (pc := 29) hF kc_J6_267 dJ6_bitCount_0f7a4_29 ?_
  refine go_iand (pc := 32) hF 3 (by decide) dJ6_bitCount_0f7a4_32 ?_
  refine go_istore_n (pc := 33) hF [(0, vi 3)] dJ6_bitCount_0f7a4_33 rfl (by decide) ?_
  refine go_iload_n (pc := 34) hF dJ6_bitCount_0f7a4_34 0 rfl ?_
  refine go_iload_n (pc := 35) hF dJ6_bitCount_0f7a4_35 0 rfl ?_
  refine go_bipush (pc := 36) hF dJ6_bitCount_0f7a4_36 (by decide) ?_
  refine go_iushr (pc := 38) hF 0 (by decide) dJ6_bitCount_0f7a4_38 ?_
  refine go_iadd (pc := 39) hF dJ6_bitCount_0f7a4_39 ?_
  refine go_istore_n (pc := 40) hF [(0, vi 3)] dJ6_bitCount_0f7a4_40 rfl (by decide) ?_
  refine go_iload_n (pc := 41) hF dJ6_bitCount_0f7a4_41 0 rfl ?_
  refine go_iload_n (pc := 42) hF dJ6_bitCount_0f7a4_42 0 rfl ?_
  refine go_bipush (pc := 43) hF dJ6_bitCount_0f7a4_43 (by decide) ?_
  refine go_iushr (pc := 45) hF 0 (by decide) dJ6_bitCount_0f7a4_45 ?_
  refine go_iadd (pc := 46) hF dJ6_bitCount_0f7a4_46 ?_
  refine go_istore_n (pc := 47) hF [(0, vi 3)] dJ6_bitCount_0f7a4_47 rfl (by decide) ?_
  refine go_iload_n (pc := 48) hF dJ6_bitCount_0f7a4_48 0 rfl ?_
  refine go_bipush (pc := 49) hF dJ6_bitCount_0f7a4_49 (by decide) ?_
  refine go_iand (pc := 51) hF 3 (by decide) dJ6_bitCount_0f7a4_51 ?_
  exact go_iretQ hF hr hlk hQ dJ6_bitCount_0f7a4_52 ⟨by decide, rfl⟩
set_option maxHeartbeats 4000000 in
set_option maxRecDepth 100000 in
theorem c_J6_bitCount_50 (E : En) (N : Nat) (σ : Nat → va_E) : CP E M_J6_bitCount_0f7a4 1 [vi 50] N σ (pc6 50) := by
  refine CT.of2 (own := RJ6) (by decide) rfl (Nat.le_of_ble_eq_true rfl) ?_
  intro p e R s m args below meth c Q hF hr hlk hnm hz hR hQ
  refine go_iload_n (pc := 0) hF dJ6_bitCount_0f7a4_0 0 rfl ?_
  refine go_iload_n (pc := 1) hF dJ6_bitCount_0f7a4_1 0 rfl ?_
  refine go_iconst (pc := 2) hF dJ6_bitCount_0f7a4_2 ?_
  refine go_iushr (pc := 3) hF 25 (by decide) dJ6_bitCount_0f7a4_3 ?_
  refine go_ldcw (pc := 4) hF kc_J6_265 dJ6_bitCount_0f7a4_4 ?_
  refine go_iand (pc := 7) hF 17 (by decide) dJ6_bitCount_0f7a4_7 ?_
  refine go_isub (pc := 8) hF dJ6_bitCount_0f7a4_8 ?_
  refine go_istore_n (pc := 9) hF [(0, vi 33)] dJ6_bitCount_0f7a4_9 rfl (by decide) ?_
  refine go_iload_n (pc := 10) hF dJ6_bitCount_0f7a4_10 0 rfl ?_
  refine go_ldcw (pc := 11) hF kc_J6_266 dJ6_bitCount_0f7a4_11 ?_
  refine go_iand (pc := 14) hF 33 (by decide) dJ6_bitCount_0f7a4_14 ?_
  refine go_iload_n (pc := 15) hF dJ6_bitCount_0f7a4_15 0 rfl ?_
  refine go_iconst (pc := 16) hF dJ6_bitCount_0f7a4_16 ?_
  refine go_iushr (pc := 17) hF 8 (by decide) dJ6_bitCount_0f7a4_17 ?_
  refine go_ldcw (pc := 18) hF kc_J6_266 dJ6_bitCount_0f7a4_18 ?_
  refine go_iand (pc := 21) hF 0 (by decide) dJ6_bitCount_0f7a4_21 ?_
  refine go_iadd (pc := 22) hF dJ6_bitCount_0f7a4_22 ?_
  refine go_istore_n (pc := 23) hF [(0, vi 33)] dJ6_bitCount_0f7a4_23 rfl (by decide) ?_
  refine go_iload_n (pc := 24) hF dJ6_bitCount_0f7a4_24 0 rfl ?_
  refine go_iload_n (pc := 25) hF dJ6_bitCount_0f7a4_25 0 rfl ?_
  refine go_iconst (pc := 26) hF dJ6_bitCount_0f7a4_26 ?_
  refine go_iushr (pc := 27) hF 2 (by decide) dJ6_bitCount_0f7a4_27 ?_
  refine go_iadd (pc := 28) hF dJ6_bitCount_0f7a4_28 ?_
  refine go_ldcw (pc := 29) hF kc_J6_267 dJ6_bitCount_0f7a4_29 ?_
  refine go_iand (pc := 32) hF 3 (by decide) dJ6_bitCount_0f7a4_32 ?_
  refine go_istore_n (pc := 33) hF [(0, vi 3)] dJ6_bitCount_0f7a4_33 rfl (by decide) ?_
  refine go_iload_n (pc := 34) hF dJ6_bitCount_0f7a4_34 0 rfl ?_
  refine go_iload_n (pc := 35) hF dJ6_bitCount_0f7a4_35 0 rfl ?_
  refine go_bipush (pc := 36) hF dJ6_bitCount_0f7a4_36 (by decide) ?_
  refine go_iushr (pc := 38) hF 0 (by decide) dJ6_bitCount_0f7a4_38 ?_
  refine go_iadd (pc := 39) hF dJ6_bitCount_0f7a4_39 ?_
  refine go_istore_n (pc := 40) hF [(0, vi 3)] dJ6_bitCount_0f7a4_40 rfl (by decide) ?_
  refine go_iload_n (pc := 41) hF dJ6_bitCount_0f7a4_41 0 rfl ?_
  refine go_iload_n (pc := 42) hF dJ6_bitCount_0f7a4_42 0 rfl ?_
  refine go_bipush (pc := 43) hF dJ6_bitCount_0f7a4_43 (by decide) ?_
  refine go_iushr (pc := 45) hF 0 (by decide) dJ6_bitCount_0f7a4_45 ?_
  refine go_iadd (pc := 46) hF dJ6_bitCount_0f7a4_46 ?_
  refine go_istore_n (pc := 47) hF [(0, vi 3)] dJ6_bitCount_0f7a4_47 rfl (by decide) ?_
  refine go_iload_n (pc := 48) hF dJ6_bitCount_0f7a4_48 0 rfl ?_
  refine go_bipush (pc := 49) hF dJ6_bitCount_0f7a4_49 (by decide) ?_
  refine go_iand (pc := 51) hF 3 (by decide) dJ6_bitCount_0f7a4_51 ?_
  exact go_iretQ hF hr hlk hQ dJ6_bitCount_0f7a4_52 ⟨by decide, rfl⟩
set_option maxHeartbeats 4000000 in
set_option maxRecDepth 100000 in
theorem c_J6_bitCount_51 (E : En) (N : Nat) (σ : Nat → va_E) : CP E M_J6_bitCount_0f7a4 1 [vi 51] N σ (pc6 51) := by
  refine CT.of2 (own := RJ6) (by decide) rfl (Nat.le_of_ble_eq_true rfl) ?_
  intro p e R s m args below meth c Q hF hr hlk hnm hz hR hQ
  refine go_iload_n (pc := 0) hF dJ6_bitCount_0f7a4_0 0 rfl ?_
  refine go_iload_n (pc := 1) hF dJ6_bitCount_0f7a4_1 0 rfl ?_
  refine go_iconst (pc := 2) hF dJ6_bitCount_0f7a4_2 ?_
  refine go_iushr (pc := 3) hF 25 (by decide) dJ6_bitCount_0f7a4_3 ?_
  refine go_ldcw (pc := 4) hF kc_J6_265 dJ6_bitCount_0f7a4_4 ?_
  refine go_iand (pc := 7) hF 17 (by decide) dJ6_bitCount_0f7a4_7 ?_
  refine go_isub (pc := 8) hF dJ6_bitCount_0f7a4_8 ?_
  refine go_istore_n (pc := 9) hF [(0, vi 34)] dJ6_bitCount_0f7a4_9 rfl (by decide) ?_
  refine go_iload_n (pc := 10) hF dJ6_bitCount_0f7a4_10 0 rfl ?_
  refine go_ldcw (pc := 11) hF kc_J6_266 dJ6_bitCount_0f7a4_11 ?_
  refine go_iand (pc := 14) hF 34 (by decide) dJ6_bitCount_0f7a4_14 ?_
  refine go_iload_n (pc := 15) hF dJ6_bitCount_0f7a4_15 0 rfl ?_
  refine go_iconst (pc := 16) hF dJ6_bitCount_0f7a4_16 ?_
  refine go_iushr (pc := 17) hF 8 (by decide) dJ6_bitCount_0f7a4_17 ?_
  refine go_ldcw (pc := 18) hF kc_J6_266 dJ6_bitCount_0f7a4_18 ?_
  refine go_iand (pc := 21) hF 0 (by decide) dJ6_bitCount_0f7a4_21 ?_
  refine go_iadd (pc := 22) hF dJ6_bitCount_0f7a4_22 ?_
  refine go_istore_n (pc := 23) hF [(0, vi 34)] dJ6_bitCount_0f7a4_23 rfl (by decide) ?_
  refine go_iload_n (pc := 24) hF dJ6_bitCount_0f7a4_24 0 rfl ?_
  refine go_iload_n (pc := 25) hF dJ6_bitCount_0f7a4_25 0 rfl ?_
  refine go_iconst (pc := 26) hF dJ6_bitCount_0f7a4_26 ?_
  refine go_iushr (pc := 27) hF 2 (by decide) dJ6_bitCount_0f7a4_27 ?_
  refine go_iadd (pc := 28) hF dJ6_bitCount_0f7a4_28 ?_
  refine go_ldcw (pc := 29) hF kc_J6_267 dJ6_bitCount_0f7a4_29 ?_
  refine go_iand (pc := 32) hF 4 (by decide) dJ6_bitCount_0f7a4_32 ?_
  refine go_istore_n (pc := 33) hF [(0, vi 4)] dJ6_bitCount_0f7a4_33 rfl (by decide) ?_
  refine go_iload_n (pc := 34) hF dJ6_bitCount_0f7a4_34 0 rfl ?_
  refine go_iload_n (pc := 35) hF dJ6_bitCount_0f7a4_35 0 rfl ?_
  refine go_bipush (pc := 36) hF dJ6_bitCount_0f7a4_36 (by decide) ?_
  refine go_iushr (pc := 38) hF 0 (by decide) dJ6_bitCount_0f7a4_38 ?_
  refine go_iadd (pc := 39) hF dJ6_bitCount_0f7a4_39 ?_
  refine go_istore_n (pc := 40) hF [(0, vi 4)] dJ6_bitCount_0f7a4_40 rfl (by decide) ?_
  refine go_iload_n (pc := 41) hF dJ6_bitCount_0f7a4_41 0 rfl ?_
  refine go_iload_n (pc := 42) hF dJ6_bitCount_0f7a4_42 0 rfl ?_
  refine go_bipush (pc := 43) hF dJ6_bitCount_0f7a4_43 (by decide) ?_
  refine go_iushr (pc := 45) hF 0 (by decide) dJ6_bitCount_0f7a4_45 ?_
  refine go_iadd (pc := 46) hF dJ6_bitCount_0f7a4_46 ?_
  refine go_istore_n (pc := 47) hF [(0, vi 4)] dJ6_bitCount_0f7a4_47 rfl (by decide) ?_
  refine go_iload_n (pc := 48) hF dJ6_bitCount_0f7a4_48 0 rfl ?_
  refine go_bipush (pc := 49) hF dJ6_bitCount_0f7a4_49 (by decide) ?_
  refine go_iand (pc := 51) hF 4 (by decide) dJ6_bitCount_0f7a4_51 ?_
  exact go_iretQ hF hr hlk hQ dJ6_bitCount_0f7a4_52 ⟨by decide, rfl⟩
set_option maxHeartbeats 4000000 in
set_option maxRecDepth 100000 in
theorem c_J6_bitCount_52 (E : En) (N : Nat) (σ : Nat → va_E) : CP E M_J6_bitCount_0f7a4 1 [vi 52] N σ (pc6 52) := by
  refine CT.of2 (own := RJ6) (by decide) rfl (Nat.le_of_ble_eq_true rfl) ?_
  intro p e R s m args below meth c Q hF hr hlk hnm hz hR hQ
  refine go_iload_n (pc := 0) hF dJ6_bitCount_0f7a4_0 0 rfl ?_
  refine go_iload_n (pc := 1) hF dJ6_bitCount_0f7a4_1 0 rfl ?_
  refine go_iconst (pc := 2) hF dJ6_bitCount_0f7a4_2 ?_
  refine go_iushr (pc := 3) hF 26 (by decide) dJ6_bitCount_0f7a4_3 ?_
  refine go_ldcw (pc := 4) hF kc_J6_265 dJ6_bitCount_0f7a4_4 ?_
  refine go_iand (pc := 7) hF 16 (by decide) dJ6_bitCount_0f7a4_7 ?_
  refine go_isub (pc := 8) hF dJ6_bitCount_0f7a4_8 ?_
  refine go_istore_n (pc := 9) hF [(0, vi 36)] dJ6_bitCount_0f7a4_9 rfl (by decide) ?_
  refine go_iload_n (pc := 10) hF dJ6_bitCount_0f7a4_10 0 rfl ?_
  refine go_ldcw (pc := 11) hF kc_J6_266 dJ6_bitCount_0f7a4_11 ?_
  refine go_iand (pc := 14) hF 32 (by decide) dJ6_bitCount_0f7a4_14 ?_
  refine go_iload_n (pc := 15) hF dJ6_bitCount_0f7a4_15 0 rfl ?_
  refine go_iconst (pc := 16) hF dJ6_bitCount_0f7a4_16 ?_
  refine go_iushr (pc := 17) hF 9 (by decide) dJ6_bitCount_0f7a4_17 ?_
  refine go_ldcw (pc := 18) hF kc_J6_266 dJ6_bitCount_0f7a4_18 ?_
  refine go_iand (pc := 21) hF 1 (by decide) dJ6_bitCount_0f7a4_21 ?_
  refine go_iadd (pc := 22) hF dJ6_bitCount_0f7a4_22 ?_
  refine go_istore_n (pc := 23) hF [(0, vi 33)] dJ6_bitCount_0f7a4_23 rfl (by decide) ?_
  refine go_iload_n (pc := 24) hF dJ6_bitCount_0f7a4_24 0 rfl ?_
  refine go_iload_n (pc := 25) hF dJ6_bitCount_0f7a4_25 0 rfl ?_
  refine go_iconst (pc := 26) hF dJ6_bitCount_0f7a4_26 ?_
  refine go_iushr (pc := 27) hF 2 (by decide) dJ6_bitCount_0f7a4_27 ?_
  refine go_iadd (pc := 28) hF dJ6_bitCount_0f7a4_28 ?_
  refine go_ldcw (pc := 29) hF kc_J6_267 dJ6_bitCount_0f7a4_29 ?_
  refine go_iand (pc := 32) hF 3 (by decide) dJ6_bitCount_0f7a4_32 ?_
  refine go_istore_n (pc := 33) hF [(0, vi 3)] dJ6_bitCount_0f7a4_33 rfl (by decide) ?_
  refine go_iload_n (pc := 34) hF dJ6_bitCount_0f7a4_34 0 rfl ?_
  refine go_iload_n (pc := 35) hF dJ6_bitCount_0f7a4_35 0 rfl ?_
  refine go_bipush (pc := 36) hF dJ6_bitCount_0f7a4_36 (by decide) ?_
  refine go_iushr (pc := 38) hF 0 (by decide) dJ6_bitCount_0f7a4_38 ?_
  refine go_iadd (pc := 39) hF dJ6_bitCount_0f7a4_39 ?_
  refine go_istore_n (pc := 40) hF [(0, vi 3)] dJ6_bitCount_0f7a4_40 rfl (by decide) ?_
  refine go_iload_n (pc := 41) hF dJ6_bitCount_0f7a4_41 0 rfl ?_
  refine go_iload_n (pc := 42) hF dJ6_bitCount_0f7a4_42 0 rfl ?_
  refine go_bipush (pc := 43) hF dJ6_bitCount_0f7a4_43 (by decide) ?_
  refine go_iushr (pc := 45) hF 0 (by decide) dJ6_bitCount_0f7a4_45 ?_
  refine go_iadd (pc := 46) hF dJ6_bitCount_0f7a4_46 ?_
  refine go_istore_n (pc := 47) hF [(0, vi 3)] dJ6_bitCount_0f7a4_47 rfl (by decide) ?_
  refine go_iload_n (pc := 48) hF dJ6_bitCount_0f7a4_48 0 rfl ?_
  refine go_bipush (pc := 49) hF dJ6_bitCount_0f7a4_49 (by decide) ?_
  refine go_iand (pc := 51) hF 3 (by decide) dJ6_bitCount_0f7a4_51 ?_
  exact go_iretQ hF hr hlk hQ dJ6_bitCount_0f7a4_52 ⟨by decide, rfl⟩
set_option maxHeartbeats 4000000 in
set_option maxRecDepth 100000 in
theorem c_J6_bitCount_53 (E : En) (N : Nat) (σ : Nat → va_E) : CP E M_J6_bitCount_0f7a4 1 [vi 53] N σ (pc6 53) := by
  refine CT.of2 (own := RJ6) (by decide) rfl (Nat.le_of_ble_eq_true rfl) ?_
  intro p e R s m args below meth c Q hF hr hlk hnm hz hR hQ
  refine go_iload_n (pc := 0) hF dJ6_bitCount_0f7a4_0 0 rfl ?_
  refine go_iload_n (pc := 1) hF dJ6_bitCount_0f7a4_1 0 rfl ?_
  refine go_iconst (pc := 2) hF dJ6_bitCount_0f7a4_2 ?_
  refine go_iushr (pc := 3) hF 26 (by decide) dJ6_bitCount_0f7a4_3 ?_
  refine go_ldcw (pc := 4) hF kc_J6_265 dJ6_bitCount_0f7a4_4 ?_
  refine go_iand (pc := 7) hF 16 (by decide) dJ6_bitCount_0f7a4_7 ?_
  refine go_isub (pc := 8) hF dJ6_bitCount_0f7a4_8 ?_
  refine go_istore_n (pc := 9) hF [(0, vi 37)] dJ6_bitCount_0f7a4_9 rfl (by decide) ?_
  refine go_iload_n (pc := 10) hF dJ6_bitCount_0f7a4_10 0 rfl ?_
  refine go_ldcw (pc := 11) hF kc_J6_266 dJ6_bitCount_0f7a4_11 ?_
  refine go_iand (pc := 14) hF 33 (by decide) dJ6_bitCount_0f7a4_14 ?_
  refine go_iload_n (pc := 15) hF dJ6_bitCount_0f7a4_15 0 rfl ?_
  refine go_iconst (pc := 16) hF dJ6_bitCount_0f7a4_16 ?_
  refine go_iushr (pc := 17) hF 9 (by decide) dJ6_bitCount_0f7a4_17 ?_
  refine go_ldcw (pc := 18) hF kc_J6_266 dJ6_bitCount_0f7a4_18 ?_
  refine go_iand (pc := 21) hF 1 (by decide) dJ6_bitCount_0f7a4_21 ?_
  refine go_iadd (pc := 22) hF dJ6_bitCount_0f7a4_22 ?_
  refine go_istore_n (pc := 23) hF [(0, vi 34)] dJ6_bitCount_0f7a4_23 rfl (by decide) ?_
  refine go_iload_n (pc := 24) hF dJ6_bitCount_0f7a4_24 0 rfl ?_
  refine go_iload_n (pc := 25) hF dJ6_bitCount_0f7a4_25 0 rfl ?_
  refine go_iconst (pc := 26) hF dJ6_bitCount_0f7a4_26 ?_
  refine go_iushr (pc := 27) hF 2 (by decide) dJ6_bitCount_0f7a4_27 ?_
  refine go_iadd (pc := 28) hF dJ6_bitCount_0f7a4_28 ?_
  refine go_ldcw (pc := 29) hF kc_J6_267 dJ6_bitCount_0f7a4_29 ?_
  refine go_iand (pc := 32) hF 4 (by decide) dJ6_bitCount_0f7a4_32 ?_
  refine go_istore_n (pc := 33) hF [(0, vi 4)] dJ6_bitCount_0f7a4_33 rfl (by decide) ?_
  refine go_iload_n (pc := 34) hF dJ6_bitCount_0f7a4_34 0 rfl ?_
  refine go_iload_n (pc := 35) hF dJ6_bitCount_0f7a4_35 0 rfl ?_
  refine go_bipush (pc := 36) hF dJ6_bitCount_0f7a4_36 (by decide) ?_
  refine go_iushr (pc := 38) hF 0 (by decide) dJ6_bitCount_0f7a4_38 ?_
  refine go_iadd (pc := 39) hF dJ6_bitCount_0f7a4_39 ?_
  refine go_istore_n (pc := 40) hF [(0, vi 4)] dJ6_bitCount_0f7a4_40 rfl (by decide) ?_
  refine go_iload_n (pc := 41) hF dJ6_bitCount_0f7a4_41 0 rfl ?_
  refine go_iload_n (pc := 42) hF dJ6_bitCount_0f7a4_42 0 rfl ?_
  refine go_bipush (pc := 43) hF dJ6_bitCount_0f7a4_43 (by decide) ?_
  refine go_iushr (pc := 45) hF 0 (by decide) dJ6_bitCount_0f7a4_45 ?_
  refine go_iadd (pc := 46) hF dJ6_bitCount_0f7a4_46 ?_
  refine go_istore_n (pc := 47) hF [(0, vi 4)] dJ6_bitCount_0f7a4_47 rfl (by decide) ?_
  refine go_iload_n (pc := 48) hF dJ6_bitCount_0f7a4_48 0 rfl ?_
  refine go_bipush (pc := 49) hF dJ6_bitCount_0f7a4_49 (by decide) ?_
  refine go_iand (pc := 51) hF 4 (by decide) dJ6_bitCount_0f7a4_51 ?_
  exact go_iretQ hF hr hlk hQ dJ6_bitCount_0f7a4_52 ⟨by decide, rfl⟩
set_option maxHeartbeats 4000000 in
set_option maxRecDepth 100000 in
theorem c_J6_bitCount_54 (E : En) (N : Nat) (σ : Nat → va_E) : CP E M_J6_bitCount_0f7a4 1 [vi 54] N σ (pc6 54) := by
  refine CT.of2 (own := RJ6) (by decide) rfl (Nat.le_of_ble_eq_true rfl) ?_
  intro p e R s m args below meth c Q hF hr hlk hnm hz hR hQ
  refine go_iload_n (pc := 0) hF dJ6_bitCount_0f7a4_0 0 rfl ?_
  refine go_iload_n (pc := 1) hF dJ6_bitCount_0f7a4_1 0 rfl ?_
  refine go_iconst (pc := 2) hF dJ6_bitCount_0f7a4_2 ?_
  refine go_iushr (pc := 3) hF 27 (by decide) dJ6_bitCount_0f7a4_3 ?_
  refine go_ldcw (pc := 4) hF kc_J6_265 dJ6_bitCount_0f7a4_4 ?_
  refine go_iand (pc := 7) hF 17 (by decide) dJ6_bitCount_0f7a4_7 ?_
  refine go_isub (pc := 8) hF dJ6_bitCount_0f7a4_8 ?_
  refine go_istore_n (pc := 9) hF [(0, vi 37)] dJ6_bitCount_0f7a4_9 rfl (by decide) ?_
  refine go_iload_n (pc := 10) hF dJ6_bitCount_0f7a4_10 0 rfl ?_
  refine go_ldcw (pc := 11) hF kc_J6_266 dJ6_bitCount_0f7a4_11 ?_
  refine go_iand (pc := 14) hF 33 (by decide) dJ6_bitCount_0f7a4_14 ?_
  refine go_iload_n (pc := 15) hF dJ6_bitCount_0f7a4_15 0 rfl ?_
  refine go_iconst (pc := 16) hF dJ6_bitCount_0f7a4_16 ?_
  refine go_iushr (pc := 17) hF 9 (by decide) dJ6_bitCount_0f7a4_17 ?_
  refine go_ldcw (pc := 18) hF kc_J6_266 dJ6_bitCount_0f7a4_18 ?_
  refine go_iand (pc := 21) hF 1 (by decide) dJ6_bitCount_0f7a4_21 ?_
  refine go_iadd (pc := 22) hF dJ6_bitCount_0f7a4_22 ?_
  refine go_istore_n (pc := 23) hF [(0, vi 34)] dJ6_bitCount_0f7a4_23 rfl (by decide) ?_
  refine go_iload_n (pc := 24) hF dJ6_bitCount_0f7a4_24 0 rfl ?_
  refine go_iload_n (pc := 25) hF dJ6_bitCount_0f7a4_25 0 rfl ?_
  refine go_iconst (pc := 26) hF dJ6_bitCount_0f7a4_26 ?_
  refine go_iushr (pc := 27) hF 2 (by decide) dJ6_bitCount_0f7a4_27 ?_
  refine go_iadd (pc := 28) hF dJ6_bitCount_0f7a4_28 ?_
  refine go_ldcw (pc := 29) hF kc_J6_267 dJ6_bitCount_0f7a4_29 ?_
  refine go_iand (pc := 32) hF 4 (by decide) dJ6_bitCount_0f7a4_32 ?_
  refine go_istore_n (pc := 33) hF [(0, vi 4)] dJ6_bitCount_0f7a4_33 rfl (by decide) ?_
  refine go_iload_n (pc := 34) hF dJ6_bitCount_0f7a4_34 0 rfl ?_
  refine go_iload_n (pc := 35) hF dJ6_bitCount_0f7a4_35 0 rfl ?_
  refine go_bipush (pc := 36) hF dJ6_bitCount_0f7a4_36 (by decide) ?_
  refine go_iushr (pc := 38) hF 0 (by decide) dJ6_bitCount_0f7a4_38 ?_
  refine go_iadd (pc := 39) hF dJ6_bitCount_0f7a4_39 ?_
  refine go_istore_n (pc := 40) hF [(0, vi 4)] dJ6_bitCount_0f7a4_40 rfl (by decide) ?_
  refine go_iload_n (pc := 41) hF dJ6_bitCount_0f7a4_41 0 rfl ?_
  refine go_iload_n (pc := 42) hF dJ6_bitCount_0f7a4_42 0 rfl ?_
  refine go_bipush (pc := 43) hF dJ6_bitCount_0f7a4_43 (by decide) ?_
  refine go_iushr (pc := 45) hF 0 (by decide) dJ6_bitCount_0f7a4_45 ?_
  refine go_iadd (pc := 46) hF dJ6_bitCount_0f7a4_46 ?_
  refine go_istore_n (pc := 47) hF [(0, vi 4)] dJ6_bitCount_0f7a4_47 rfl (by decide) ?_
  refine go_iload_n (pc := 48) hF dJ6_bitCount_0f7a4_48 0 rfl ?_
  refine go_bipush (pc := 49) hF dJ6_bitCount_0f7a4_49 (by decide) ?_
  refine go_iand (pc := 51) hF 4 (by decide) dJ6_bitCount_0f7a4_51 ?_
  exact go_iretQ hF hr hlk hQ dJ6_bitCount_0f7a4_52 ⟨by decide, rfl⟩
set_option maxHeartbeats 4000000 in
set_option maxRecDepth 100000 in
theorem c_J6_bitCount_55 (E : En) (N : Nat) (σ : Nat → va_E) : CP E M_J6_bitCount_0f7a4 1 [vi 55] N σ (pc6 55) := by
  refine CT.of2 (own := RJ6) (by decide) rfl (Nat.le_of_ble_eq_true rfl) ?_
  intro p e R s m args below meth c Q hF hr hlk hnm hz hR hQ
  refine go_iload_n (pc := 0) hF dJ6_bitCount_0f7a4_0 0 rfl ?_
  refine go_iload_n (pc := 1) hF dJ6_bitCount_0f7a4_1 0 rfl ?_
  refine go_iconst (pc := 2) hF dJ6_bitCount_0f7a4_2 ?_
  refine go_iushr (pc := 3) hF 27 (by decide) dJ6_bitCount_0f7a4_3 ?_
  refine go_ldcw (pc := 4) hF kc_J6_265 dJ6_bitCount_0f7a4_4 ?_
  refine go_iand (pc := 7) hF 17 (by decide) dJ6_bitCount_0f7a4_7 ?_
  refine go_isub (pc := 8) hF dJ6_bitCount_0f7a4_8 ?_
  refine go_istore_n (pc := 9) hF [(0, vi 38)] dJ6_bitCount_0f7a4_9 rfl (by decide) ?_
  refine go_iload_n (pc := 10) hF dJ6_bitCount_0f7a4_10 0 rfl ?_
  refine go_ldcw (pc := 11) hF kc_J6_266 dJ6_bitCount_0f7a4_11 ?_
  refine go_iand (pc := 14) hF 34 (by decide) dJ6_bitCount_0f7a4_14 ?_
  refine go_iload_n (pc := 15) hF dJ6_bitCount_0f7a4_15 0 rfl ?_
  refine go_iconst (pc := 16) hF dJ6_bitCount_0f7a4_16 ?_
  refine go_iushr (pc := 17) hF 9 (by decide) dJ6_bitCount_0f7a4_17 ?_
  refine go_ldcw (pc := 18) hF kc_J6_266 dJ6_bitCount_0f7a4_18 ?_
  refine go_iand (pc := 21) hF 1 (by decide) dJ6_bitCount_0f7a4_21 ?_
  refine go_iadd (pc := 22) hF dJ6_bitCount_0f7a4_22 ?_
  refine go_istore_n (pc := 23) hF [(0, vi 35)] dJ6_bitCount_0f7a4_23 rfl (by decide) ?_
  refine go_iload_n (pc := 24) hF dJ6_bitCount_0f7a4_24 0 rfl ?_
  refine go_iload_n (pc := 25) hF dJ6_bitCount_0f7a4_25 0 rfl ?_
  refine go_iconst (pc := 26) hF dJ6_bitCount_0f7a4_26 ?_
  refine go_iushr (pc := 27) hF 2 (by decide) dJ6_bitCount_0f7a4_27 ?_
  refine go_iadd (pc := 28) hF dJ6_bitCount_0f7a4_28 ?_
  refine go_ldcw (pc := 29) hF kc_J6_267 dJ6_bitCount_0f7a4_29 ?_
  refine go_iand (pc := 32) hF 5 (by decide) dJ6_bitCount_0f7a4_32 ?_
  refine go_istore_n (pc := 33) hF [(0, vi 5)] dJ6_bitCount_0f7a4_33 rfl (by decide) ?_
  refine go_iload_n (pc := 34) hF dJ6_bitCount_0f7a4_34 0 rfl ?_
  refine go_iload_n (pc := 35) hF dJ6_bitCount_0f7a4_35 0 rfl ?_
  refine go_bipush (pc := 36) hF dJ6_bitCount_0f7a4_36 (by decide) ?_
  refine go_iushr (pc := 38) hF 0 (by decide) dJ6_bitCount_0f7a4_38 ?_
  refine go_iadd (pc := 39) hF dJ6_bitCount_0f7a4_39 ?_
  refine go_istore_n (pc := 40) hF [(0, vi 5)] dJ6_bitCount_0f7a4_40 rfl (by decide) ?_
  refine go_iload_n (pc := 41) hF dJ6_bitCount_0f7a4_41 0 rfl ?_
  refine go_iload_n (pc := 42) hF dJ6_bitCount_0f7a4_42 0 rfl ?_
  refine go_bipush (pc := 43) hF dJ6_bitCount_0f7a4_43 (by decide) ?_
  refine go_iushr (pc := 45) hF 0 (by decide) dJ6_bitCount_0f7a4_45 ?_
  refine go_iadd (pc := 46) hF dJ6_bitCount_0f7a4_46 ?_
  refine go_istore_n (pc := 47) hF [(0, vi 5)] dJ6_bitCount_0f7a4_47 rfl (by decide) ?_
  refine go_iload_n (pc := 48) hF dJ6_bitCount_0f7a4_48 0 rfl ?_
  refine go_bipush (pc := 49) hF dJ6_bitCount_0f7a4_49 (by decide) ?_
  refine go_iand (pc := 51) hF 5 (by decide) dJ6_bitCount_0f7a4_51 ?_
  exact go_iretQ hF hr hlk hQ dJ6_bitCount_0f7a4_52 ⟨by decide, rfl⟩
set_option maxHeartbeats 4000000 in
set_option maxRecDepth 100000 in
theorem c_J6_bitCount_56 (E : En) (N : Nat) (σ : Nat → va_E) : CP E M_J6_bitCount_0f7a4 1 [vi 56] N σ (pc6 56) := by
  refine CT.of2 (own := RJ6) (by decide) rfl (Nat.le_of_ble_eq_true rfl) ?_
  intro p e R s m args below meth c Q hF hr hlk hnm hz hR hQ
  refine go_iload_n (pc := 0) hF dJ6_bitCount_0f7a4_0 0 rfl ?_
  refine go_iload_n (pc := 1) hF dJ6_bitCount_0f7a4_1 0 rfl ?_
  refine go_iconst (pc := 2) hF dJ6_bitCount_0f7a4_2 ?_
  refine go_iushr (pc := 3) hF 28 (by decide) dJ6_bitCount_0f7a4_3 ?_
  refine go_ldcw (pc := 4) hF kc_J6_265 dJ6_bitCount_0f7a4_4 ?_
  refine go_iand (pc := 7) hF 20 (by decide) dJ6_bitCount_0f7a4_7 ?_
  refine go_isub (pc := 8) hF dJ6_bitCount_0f7a4_8 ?_
  refine go_istore_n (pc := 9) hF [(0, vi 36)] dJ6_bitCount_0f7a4_9 rfl (by decide) ?_
  refine go_iload_n (pc := 10) hF dJ6_bitCount_0f7a4_10 0 rfl ?_
  refine go_ldcw (pc := 11) hF kc_J6_266 dJ6_bitCount_0f7a4_11 ?_
  refine go_iand (pc := 14) hF 32 (by decide) dJ6_bitCount_0f7a4_14 ?_
  refine go_iload_n (pc := 15) hF dJ6_bitCount_0f7a4_15 0 rfl ?_
  refine go_iconst (pc := 16) hF dJ6_bitCount_0f7a4_16 ?_
  refine go_iushr (pc := 17) hF 9 (by decide) dJ6_bitCount_0f7a4_17 ?_
  refine go_ldcw (pc := 18) hF kc_J6_266 dJ6_bitCount_0f7a4_18 ?_
  refine go_iand (pc := 21) hF 1 (by decide) dJ6_bitCount_0f7a4_21 ?_
  refine go_iadd (pc := 22) hF dJ6_bitCount_0f7a4_22 ?_
  refine go_istore_n (pc := 23) hF [(0, vi 33)] dJ6_bitCount_0f7a4_23 rfl (by decide) ?_
  refine go_iload_n (pc := 24) hF dJ6_bitCount_0f7a4_24 0 rfl ?_
  refine go_iload_n (pc := 25) hF dJ6_bitCount_0f7a4_25 0 rfl ?_
  refine go_iconst (pc := 26) hF dJ6_bitCount_0f7a4_26 ?_
  refine go_iushr (pc := 27) hF 2 (by decide) dJ6_bitCount_0f7a4_27 ?_
  refine go_iadd (pc := 28) hF dJ6_bitCount_0f7a4_28 ?_
  refine go_ldcw (pc := 29) hF kc_J6_267 dJ6_bitCount_0f7a4_29 ?_
  refine go_iand (pc := 32) hF 3 (by decide) dJ6_bitCount_0f7a4_32 ?_
  refine go_istore_n (pc := 33) hF [(0, vi 3)] dJ6_bitCount_0f7a4_33 rfl (by decide) ?_
  refine go_iload_n (pc := 34) hF dJ6_bitCount_0f7a4_34 0 rfl ?_
  refine go_iload_n (pc := 35) hF dJ6_bitCount_0f7a4_35 0 rfl ?_
  refine go_bipush (pc := 36) hF dJ6_bitCount_0f7a4_36 (by decide) ?_
  refine go_iushr (pc := 38) hF 0 (by decide) dJ6_bitCount_0f7a4_38 ?_
  refine go_iadd (pc := 39) hF dJ6_bitCount_0f7a4_39 ?_
  refine go_istore_n (pc := 40) hF [(0, vi 3)] dJ6_bitCount_0f7a4_40 rfl (by decide) ?_
  refine go_iload_n (pc := 41) hF dJ6_bitCount_0f7a4_41 0 rfl ?_
  refine go_iload_n (pc := 42) hF dJ6_bitCount_0f7a4_42 0 rfl ?_
  refine go_bipush (pc := 43) hF dJ6_bitCount_0f7a4_43 (by decide) ?_
  refine go_iushr (pc := 45) hF 0 (by decide) dJ6_bitCount_0f7a4_45 ?_
  refine go_iadd (pc := 46) hF dJ6_bitCount_0f7a4_46 ?_
  refine go_istore_n (pc := 47) hF [(0, vi 3)] dJ6_bitCount_0f7a4_47 rfl (by decide) ?_
  refine go_iload_n (pc := 48) hF dJ6_bitCount_0f7a4_48 0 rfl ?_
  refine go_bipush (pc := 49) hF dJ6_bitCount_0f7a4_49 (by decide) ?_
  refine go_iand (pc := 51) hF 3 (by decide) dJ6_bitCount_0f7a4_51 ?_
  exact go_iretQ hF hr hlk hQ dJ6_bitCount_0f7a4_52 ⟨by decide, rfl⟩
set_option maxHeartbeats 4000000 in
set_option maxRecDepth 100000 in
theorem c_J6_bitCount_57 (E : En) (N : Nat) (σ : Nat → va_E) : CP E M_J6_bitCount_0f7a4 1 [vi 57] N σ (pc6 57) := by
  refine CT.of2 (own := RJ6) (by decide) rfl (Nat.le_of_ble_eq_true rfl) ?_
  intro p e R s m args below meth c Q hF hr hlk hnm hz hR hQ
  refine go_iload_n (pc := 0) hF dJ6_bitCount_0f7a4_0 0 rfl ?_
  refine go_iload_n (pc := 1) hF dJ6_bitCount_0f7a4_1 0 rfl ?_
  refine go_iconst (pc := 2) hF dJ6_bitCount_0f7a4_2 ?_
  refine go_iushr (pc := 3) hF 28 (by decide) dJ6_bitCount_0f7a4_3 ?_
  refine go_ldcw (pc := 4) hF kc_J6_265 dJ6_bitCount_0f7a4_4 ?_
  refine go_iand (pc := 7) hF 20 (by decide) dJ6_bitCount_0f7a4_7 ?_
  refine go_isub (pc := 8) hF dJ6_bitCount_0f7a4_8 ?_
  refine go_istore_n (pc := 9) hF [(0, vi 37)] dJ6_bitCount_0f7a4_9 rfl (by decide) ?_
  refine go_iload_n (pc := 10) hF dJ6_bitCount_0f7a4_10 0 rfl ?_
  refine go_ldcw (pc := 11) hF kc_J6_266 dJ6_bitCount_0f7a4_11 ?_
  refine go_iand (pc := 14) hF 33 (by decide) dJ6_bitCount_0f7a4_14 ?_
  refine go_iload_n (pc := 15) hF dJ6_bitCount_0f7a4_15 0 rfl ?_
  refine go_iconst (pc := 16) hF dJ6_bitCount_0f7a4_16 ?_
  refine go_iushr (pc := 17) hF 9 (by decide) dJ6_bitCount_0f7a4_17 ?_
  refine go_ldcw (pc := 18) hF kc_J6_266 dJ6_bitCount_0f7a4_18 ?_
  refine go_iand (pc := 21) hF 1 (by decide) dJ6_bitCount_0f7a4_21 ?_
  refine go_iadd (pc := 22) hF dJ6_bitCount_0f7a4_22 ?_
  refine go_istore_n (pc := 23) hF [(0, vi 34)] dJ6_bitCount_0f7a4_23 rfl (by decide) ?_
  refine go_iload_n (pc := 24) hF dJ6_bitCount_0f7a4_24 0 rfl ?_
  refine go_iload_n (pc := 25) hF dJ6_bitCount_0f7a4_25 0 rfl ?_
  refine go_iconst (pc := 26) hF dJ6_bitCount_0f7a4_26 ?_
  refine go_iushr (pc := 27) hF 2 (by decide) dJ6_bitCount_0f7a4_27 ?_
  refine go_iadd (pc := 28) hF dJ6_bitCount_0f7a4_28 ?_
  refine go_ldcw (pc := 29) hF kc_J6_267 dJ6_bitCount_0f7a4_29 ?_
  refine go_iand (pc := 32) hF 4 (by decide) dJ6_bitCount_0f7a4_32 ?_
  refine go_istore_n (pc := 33) hF [(0, vi 4)] dJ6_bitCount_0f7a4_33 rfl (by decide) ?_
  refine go_iload_n (pc := 34) hF dJ6_bitCount_0f7a4_34 0 rfl ?_
  refine go_iload_n (pc := 35) hF dJ6_bitCount_0f7a4_35 0 rfl ?_
  refine go_bipush (pc := 36) hF dJ6_bitCount_0f7a4_36 (by decide) ?_
  refine go_iushr (pc := 38) hF 0 (by decide) dJ6_bitCount_0f7a4_38 ?_
  refine go_iadd (pc := 39) hF dJ6_bitCount_0f7a4_39 ?_
  refine go_istore_n (pc := 40) hF [(0, vi 4)] dJ6_bitCount_0f7a4_40 rfl (by decide) ?_
  refine go_iload_n (pc := 41) hF dJ6_bitCount_0f7a4_41 0 rfl ?_
  refine go_iload_n (pc := 42) hF dJ6_bitCount_0f7a4_42 0 rfl ?_
  refine go_bipush (pc := 43) hF dJ6_bitCount_0f7a4_43 (by decide) ?_
  refine go_iushr (pc := 45) hF 0 (by decide) dJ6_bitCount_0f7a4_45 ?_
  refine go_iadd (pc := 46) hF dJ6_bitCount_0f7a4_46 ?_
  refine go_istore_n (pc := 47) hF [(0, vi 4)] dJ6_bitCount_0f7a4_47 rfl (by decide) ?_
  refine go_iload_n (pc := 48) hF dJ6_bitCount_0f7a4_48 0 rfl ?_
  refine go_bipush (pc := 49) hF dJ6_bitCount_0f7a4_49 (by decide) ?_
  refine go_iand (pc := 51) hF 4 (by decide) dJ6_bitCount_0f7a4_51 ?_
  exact go_iretQ hF hr hlk hQ dJ6_bitCount_0f7a4_52 ⟨by decide, rfl⟩
set_option maxHeartbeats 4000000 in
set_option maxRecDepth 100000 in
theorem c_J6_bitCount_58 (E : En) (N : Nat) (σ : Nat → va_E) : CP E M_J6_bitCount_0f7a4 1 [vi 58] N σ (pc6 58) := by
  refine CT.of2 (own := RJ6) (by decide) rfl (Nat.le_of_ble_eq_true rfl) ?_
  intro p e R s m args below meth c Q hF hr hlk hnm hz hR hQ
  refine go_iload_n (pc := 0) hF dJ6_bitCount_0f7a4_0 0 rfl ?_
  refine go_iload_n (pc := 1) hF dJ6_bitCount_0f7a4_1 0 rfl ?_
  refine go_iconst (pc := 2) hF dJ6_bitCount_0f7a4_2 ?_
  refine go_iushr (pc := 3) hF 29 (by decide) dJ6_bitCount_0f7a4_3 ?_
  refine go_ldcw (pc := 4) hF kc_J6_265 dJ6_bitCount_0f7a4_4 ?_
  refine go_iand (pc := 7) hF 21 (by decide) dJ6_bitCount_0f7a4_7 ?_
  refine go_isub (pc := 8) hF dJ6_bitCount_0f7a4_8 ?_
  refine go_istore_n (pc := 9) hF [(0, vi 37)] dJ6_bitCount_0f7a4_9 rfl (by decide) ?_
  refine go_iload_n (pc := 10) hF dJ6_bitCount_0f7a4_10 0 rfl ?_
  refine go_ldcw (pc := 11) hF kc_J6_266 dJ6_bitCount_0f7a4_11 ?_
  refine go_iand (pc := 14) hF 33 (by decide) dJ6_bitCount_0f7a4_14 ?_
  refine go_iload_n (pc := 15) hF dJ6_bitCount_0f7a4_15 0 rfl ?_
  refine go_iconst (pc := 16) hF dJ6_bitCount_0f7a4_16 ?_
  refine go_iushr (pc := 17) hF 9 (by decide) dJ6_bitCount_0f7a4_17 ?_
  refine go_ldcw (pc := 18) hF kc_J6_266 dJ6_bitCount_0f7a4_18 ?_
  refine go_iand (pc := 21) hF 1 (by decide) dJ6_bitCount_0f7a4_21 ?_
  refine go_iadd (pc := 22) hF dJ6_bitCount_0f7a4_22 ?_
  refine go_istore_n (pc := 23) hF [(0, vi 34)] dJ6_bitCount_0f7a4_23 rfl (by decide) ?_
  refine go_iload_n (pc := 24) hF dJ6_bitCount_0f7a4_24 0 rfl ?_
  refine go_iload_n (pc := 25) hF dJ6_bitCount_0f7a4_25 0 rfl ?_
  refine go_iconst (pc := 26) hF dJ6_bitCount_0f7a4_26 ?_
  refine go_iushr (pc := 27) hF 2 (by decide) dJ6_bitCount_0f7a4_27 ?_
  refine go_iadd (pc := 28) hF dJ6_bitCount_0f7a4_28 ?_
  refine go_ldcw (pc := 29) hF kc_J6_267 dJ6_bitCount_0f7a4_29 ?_
  refine go_iand (pc := 32) hF 4 (by decide) dJ6_bitCount_0f7a4_32 ?_
  refine go_istore_n (pc := 33) hF [(0, vi 4)] dJ6_bitCount_0f7a4_33 rfl (by decide) ?_
  refine go_iload_n (pc := 34) hF dJ6_bitCount_0f7a4_34 0 rfl ?_
  refine go_iload_n (pc := 35) hF dJ6_bitCount_0f7a4_35 0 rfl ?_
  refine go_bipush (pc := 36) hF dJ6_bitCount_0f7a4_36 (by decide) ?_
  refine go_iushr (pc := 38) hF 0 (by decide) dJ6_bitCount_0f7a4_38 ?_
  refine go_iadd (pc := 39) hF dJ6_bitCount_0f7a4_39 ?_
  refine go_istore_n (pc := 40) hF [(0, vi 4)] dJ6_bitCount_0f7a4_40 rfl (by decide) ?_
  refine go_iload_n (pc := 41) hF dJ6_bitCount_0f7a4_41 0 rfl ?_
  refine go_iload_n (pc := 42) hF dJ6_bitCount_0f7a4_42 0 rfl ?_
  refine go_bipush (pc := 43) hF dJ6_bitCount_0f7a4_43 (by decide) ?_
  refine go_iushr (pc := 45) hF 0 (by decide) dJ6_bitCount_0f7a4_45 ?_
  refine go_iadd (pc := 46) hF dJ6_bitCount_0f7a4_46 ?_
  refine go_istore_n (pc := 47) hF [(0, vi 4)] dJ6_bitCount_0f7a4_47 rfl (by decide) ?_
  refine go_iload_n (pc := 48) hF dJ6_bitCount_0f7a4_48 0 rfl ?_
  refine go_bipush (pc := 49) hF dJ6_bitCount_0f7a4_49 (by decide) ?_
  refine go_iand (pc := 51) hF 4 (by decide) dJ6_bitCount_0f7a4_51 ?_
  exact go_iretQ hF hr hlk hQ dJ6_bitCount_0f7a4_52 ⟨by decide, rfl⟩
set_option maxHeartbeats 4000000 in
set_option maxRecDepth 100000 in
theorem c_J6_bitCount_59 (E : En) (N : Nat) (σ : Nat → va_E) : CP E M_J6_bitCount_0f7a4 1 [vi 59] N σ (pc6 59) := by
  refine CT.of2 (own := RJ6) (by decide) rfl (Nat.le_of_ble_eq_true rfl) ?_
  intro p e R s m args below meth c Q hF hr hlk hnm hz hR hQ
  refine go_iload_n (pc := 0) hF dJ6_bitCount_0f7a4_0 0 rfl ?_
  refine go_iload_n (pc := 1) hF dJ6_bitCount_0f7a4_1 0 rfl ?_
  refine go_iconst (pc := 2) hF dJ6_bitCount_0f7a4_2 ?_
  refine go_iushr (pc := 3) hF 29 (by decide) dJ6_bitCount_0f7a4_3 ?_
  refine go_ldcw (pc := 4) hF kc_J6_265 dJ6_bitCount_0f7a4_4 ?_
  refine go_iand (pc := 7) hF 21 (by decide) dJ6_bitCount_0f7a4_7 ?_
  refine go_isub (pc := 8) hF dJ6_bitCount_0f7a4_8 ?_
  refine go_istore_n (pc := 9) hF [(0, vi 38)] dJ6_bitCount_0f7a4_9 rfl (by decide) ?_
  refine go_iload_n (pc := 10) hF dJ6_bitCount_0f7a4_10 0 rfl ?_
  refine go_ldcw (pc := 11) hF kc_J6_266 dJ6_bitCount_0f7a4_11 ?_
  refine go_iand (pc := 14) hF 34 (by decide) dJ6_bitCount_0f7a4_14 ?_
  refine go_iload_n (pc := 15) hF dJ6_bitCount_0f7a4_15 0 rfl ?_
  refine go_iconst (pc := 16) hF dJ6_bitCount_0f7a4_16 ?_
  refine go_iushr (pc := 17) hF 9 (by decide) dJ6_bitCount_0f7a4_17 ?_
  refine go_ldcw (pc := 18) hF kc_J6_266 dJ6_bitCount_0f7a4_18 ?_
  refine go_iand (pc := 21) hF 1 (by decide) dJ6_bitCount_0f7a4_21 ?_
  refine go_iadd (pc := 22) hF dJ6_bitCount_0f7a4_22 ?_
  refine go_istore_n (pc := 23) hF [(0, vi 35)] dJ6_bitCount_0f7a4_23 rfl (by decide) ?_
  refine go_iload_n (pc := 24) hF dJ6_bitCount_0f7a4_24 0 rfl ?_
  refine go_iload_n (pc := 25) hF dJ6_bitCount_0f7a4_25 0 rfl ?_
  refine go_iconst (pc := 26) hF dJ6_bitCount_0f7a4_26 ?_
  refine go_iushr (pc := 27) hF 2 (by decide) dJ6_bitCount_0f7a4_27 ?_
  refine go_iadd (pc := 28) hF dJ6_bitCount_0f7a4_28 ?_
  refine go_ldcw (pc := 29) hF kc_J6_267 dJ6_bitCount_0f7a4_29 ?_
  refine go_iand (pc := 32) hF 5 (by decide) dJ6_bitCount_0f7a4_32 ?_
  refine go_istore_n (pc := 33) hF [(0, vi 5)] dJ6_bitCount_0f7a4_33 rfl (by decide) ?_
  refine go_iload_n (pc := 34) hF dJ6_bitCount_0f7a4_34 0 rfl ?_
  refine go_iload_n (pc := 35) hF dJ6_bitCount_0f7a4_35 0 rfl ?_
  refine go_bipush (pc := 36) hF dJ6_bitCount_0f7a4_36 (by decide) ?_
  refine go_iushr (pc := 38) hF 0 (by decide) dJ6_bitCount_0f7a4_38 ?_
  refine go_iadd (pc := 39) hF dJ6_bitCount_0f7a4_39 ?_
  refine go_istore_n (pc := 40) hF [(0, vi 5)] dJ6_bitCount_0f7a4_40 rfl (by decide) ?_
  refine go_iload_n (pc := 41) hF dJ6_bitCount_0f7a4_41 0 rfl ?_
  refine go_iload_n (pc := 42) hF dJ6_bitCount_0f7a4_42 0 rfl ?_
  refine go_bipush (pc := 43) hF dJ6_bitCount_0f7a4_43 (by decide) ?_
  refine go_iushr (pc := 45) hF 0 (by decide) dJ6_bitCount_0f7a4_45 ?_
  refine go_iadd (pc := 46) hF dJ6_bitCount_0f7a4_46 ?_
  refine go_istore_n (pc := 47) hF [(0, vi 5)] dJ6_bitCount_0f7a4_47 rfl (by decide) ?_
  refine go_iload_n (pc := 48) hF dJ6_bitCount_0f7a4_48 0 rfl ?_
  refine go_bipush (pc := 49) hF dJ6_bitCount_0f7a4_49 (by decide) ?_
  refine go_iand (pc := 51) hF 5 (by decide) dJ6_bitCount_0f7a4_51 ?_
  exact go_iretQ hF hr hlk hQ dJ6_bitCount_0f7a4_52 ⟨by decide, rfl⟩
set_option maxHeartbeats 4000000 in
set_option maxRecDepth 100000 in
theorem c_J6_bitCount_60 (E : En) (N : Nat) (σ : Nat → va_E) : CP E M_J6_bitCount_0f7a4 1 [vi 60] N σ (pc6 60) := by
  refine CT.of2 (own := RJ6) (by decide) rfl (Nat.le_of_ble_eq_true rfl) ?_
  intro p e R s m args below meth c Q hF hr hlk hnm hz hR hQ
  refine go_iload_n (pc := 0) hF dJ6_bitCount_0f7a4_0 0 rfl ?_
  refine go_iload_n (pc := 1) hF dJ6_bitCount_0f7a4_1 0 rfl ?_
  refine go_iconst (pc := 2) hF dJ6_bitCount_0f7a4_2 ?_
  refine go_iushr (pc := 3) hF 30 (by decide) dJ6_bitCount_0f7a4_3 ?_
  refine go_ldcw (pc := 4) hF kc_J6_265 dJ6_bitCount_0f7a4_4 ?_
  refine go_iand (pc := 7) hF 20 (by decide) dJ6_bitCount_0f7a4_7 ?_
  refine go_isub (pc := 8) hF dJ6_bitCount_0f7a4_8 ?_
  refine go_istore_n (pc := 9) hF [(0, vi 40)] dJ6_bitCount_0f7a4_9 rfl (by decide) ?_
  refine go_iload_n (pc := 10) hF dJ6_bitCount_0f7a4_10 0 rfl ?_
  refine go_ldcw (pc := 11) hF kc_J6_266 dJ6_bitCount_0f7a4_11 ?_
  refine go_iand (pc := 14) hF 32 (by decide) dJ6_bitCount_0f7a4_14 ?_
  refine go_iload_n (pc := 15) hF dJ6_bitCount_0f7a4_15 0 rfl ?_
  refine go_iconst (pc := 16) hF dJ6_bitCount_0f7a4_16 ?_
  refine go_iushr (pc := 17) hF 10 (by decide) dJ6_bitCount_0f7a4_17 ?_
  refine go_ldcw (pc := 18) hF kc_J6_266 dJ6_bitCount_0f7a4_18 ?_
  refine go_iand (pc := 21) hF 2 (by decide) dJ6_bitCount_0f7a4_21 ?_
  refine go_iadd (pc := 22) hF dJ6_bitCount_0f7a4_22 ?_
  refine go_istore_n (pc := 23) hF [(0, vi 34)] dJ6_bitCount_0f7a4_23 rfl (by decide) ?_
  refine go_iload_n (pc := 24) hF dJ6_bitCount_0f7a4_24 0 rfl ?_
  refine go_iload_n (pc := 25) hF dJ6_bitCount_0f7a4_25 0 rfl ?_
  refine go_iconst (pc := 26) hF dJ6_bitCount_0f7a4_26 ?_
  refine go_iushr (pc := 27) hF 2 (by decide) dJ6_bitCount_0f7a4_27 ?_
  refine go_iadd (pc := 28) hF dJ6_bitCount_0f7a4_28 ?_
  refine go_ldcw (pc := 29) hF kc_J6_267 dJ6_bitCount_0f7a4_29 ?_
  refine go_iand (pc := 32) hF 4 (by decide) dJ6_bitCount_0f7a4_32 ?_
  refine go_istore_n (pc := 33) hF [(0, vi 4)] dJ6_bitCount_0f7a4_33 rfl (by decide) ?_
  refine go_iload_n (pc := 34) hF dJ6_bitCount_0f7a4_34 0 rfl ?_
  refine go_iload_n (pc := 35) hF dJ6_bitCount_0f7a4_35 0 rfl ?_
  refine go_bipush (pc := 36) hF dJ6_bitCount_0f7a4_36 (by decide) ?_
  refine go_iushr (pc := 38) hF 0 (by decide) dJ6_bitCount_0f7a4_38 ?_
  refine go_iadd (pc := 39) hF dJ6_bitCount_0f7a4_39 ?_
  refine go_istore_n (pc := 40) hF [(0, vi 4)] dJ6_bitCount_0f7a4_40 rfl (by decide) ?_
  refine go_iload_n (pc := 41) hF dJ6_bitCount_0f7a4_41 0 rfl ?_
  refine go_iload_n (pc := 42) hF dJ6_bitCount_0f7a4_42 0 rfl ?_
  refine go_bipush (pc := 43) hF dJ6_bitCount_0f7a4_43 (by decide) ?_
  refine go_iushr (pc := 45) hF 0 (by decide) dJ6_bitCount_0f7a4_45 ?_
  refine go_iadd (pc := 46) hF dJ6_bitCount_0f7a4_46 ?_
  refine go_istore_n (pc := 47) hF [(0, vi 4)] dJ6_bitCount_0f7a4_47 rfl (by decide) ?_
  refine go_iload_n (pc := 48) hF dJ6_bitCount_0f7a4_48 0 rfl ?_
  refine go_bipush (pc := 49) hF dJ6_bitCount_0f7a4_49 (by decide) ?_
  refine go_iand (pc := 51) hF 4 (by decide) dJ6_bitCount_0f7a4_51 ?_
  exact go_iretQ hF hr hlk hQ dJ6_bitCount_0f7a4_52 ⟨by decide, rfl⟩
set_option maxHeartbeats 4000000 in
set_option maxRecDepth 100000 in
theorem c_J6_bitCount_61 (E : En) (N : Nat) (σ : Nat → va_E) : CP E M_J6_bitCount_0f7a4 1 [vi 61] N σ (pc6 61) := by
  refine CT.of2 (own := RJ6) (by decide) rfl (Nat.le_of_ble_eq_true rfl) ?_
  intro p e R s m args below meth c Q hF hr hlk hnm hz hR hQ
  refine go_iload_n (pc := 0) hF dJ6_bitCount_0f7a4_0 0 rfl ?_
  refine go_iload_n (pc := 1) hF dJ6_bitCount_0f7a4_1 0 rfl ?_
  refine go_iconst (pc := 2) hF dJ6_bitCount_0f7a4_2 ?_
  refine go_iushr (pc := 3) hF 30 (by decide) dJ6_bitCount_0f7a4_3 ?_
  refine go_ldcw (pc := 4) hF kc_J6_265 dJ6_bitCount_0f7a4_4 ?_
  refine go_iand (pc := 7) hF 20 (by decide) dJ6_bitCount_0f7a4_7 ?_
  refine go_isub (pc := 8) hF dJ6_bitCount_0f7a4_8 ?_
  refine go_istore_n (pc := 9) hF [(0, vi 41)] dJ6_bitCount_0f7a4_9 rfl (by decide) ?_
  refine go_iload_n (pc := 10) hF dJ6_bitCount_0f7a4_10 0 rfl ?_
  refine go_ldcw (pc := 11) hF kc_J6_266 dJ6_bitCount_0f7a4_11 ?_
  refine go_iand (pc := 14) hF 33 (by decide) dJ6_bitCount_0f7a4_14 ?_
  refine go_iload_n (pc := 15) hF dJ6_bitCount_0f7a4_15 0 rfl ?_
  refine go_iconst (pc := 16) hF dJ6_bitCount_0f7a4_16 ?_
  refine go_iushr (pc := 17) hF 10 (by decide) dJ6_bitCount_0f7a4_17 ?_
  refine go_ldcw (pc := 18) hF kc_J6_266 dJ6_bitCount_0f7a4_18 ?_
  refine go_iand (pc := 21) hF 2 (by decide) dJ6_bitCount_0f7a4_21 ?_
  refine go_iadd (pc := 22) hF dJ6_bitCount_0f7a4_22 ?_
  refine go_istore_n (pc := 23) hF [(0, vi 35)] dJ6_bitCount_0f7a4_23 rfl (by decide) ?_
  refine go_iload_n (pc := 24) hF dJ6_bitCount_0f7a4_24 0 rfl ?_
  refine go_iload_n (pc := 25) hF dJ6_bitCount_0f7a4_25 0 rfl ?_
  refine go_iconst (pc := 26) hF dJ6_bitCount_0f7a4_26 ?_
  refine go_iushr (pc := 27) hF 2 (by decide) dJ6_bitCount_0f7a4_27 ?_
  refine go_iadd (pc := 28) hF dJ6_bitCount_0f7a4_28 ?_
  refine go_ldcw (pc := 29) hF kc_J6_267 dJ6_bitCount_0f7a4_29 ?_
  refine go_iand (pc := 32) hF 5 (by decide) dJ6_bitCount_0f7a4_32 ?_
  refine go_istore_n (pc := 33) hF [(0, vi 5)] dJ6_bitCount_0f7a4_33 rfl (by decide) ?_
  refine go_iload_n (pc := 34) hF dJ6_bitCount_0f7a4_34 0 rfl ?_
  refine go_iload_n (pc := 35) hF dJ6_bitCount_0f7a4_35 0 rfl ?_
  refine go_bipush (pc := 36) hF dJ6_bitCount_0f7a4_36 (by decide) ?_
  refine go_iushr (pc := 38) hF 0 (by decide) dJ6_bitCount_0f7a4_38 ?_
  refine go_iadd (pc := 39) hF dJ6_bitCount_0f7a4_39 ?_
  refine go_istore_n (pc := 40) hF [(0, vi 5)] dJ6_bitCount_0f7a4_40 rfl (by decide) ?_
  refine go_iload_n (pc := 41) hF dJ6_bitCount_0f7a4_41 0 rfl ?_
  refine go_iload_n (pc := 42) hF dJ6_bitCount_0f7a4_42 0 rfl ?_
  refine go_bipush (pc := 43) hF dJ6_bitCount_0f7a4_43 (by decide) ?_
  refine go_iushr (pc := 45) hF 0 (by decide) dJ6_bitCount_0f7a4_45 ?_
  refine go_iadd (pc := 46) hF dJ6_bitCount_0f7a4_46 ?_
  refine go_istore_n (pc := 47) hF [(0, vi 5)] dJ6_bitCount_0f7a4_47 rfl (by decide) ?_
  refine go_iload_n (pc := 48) hF dJ6_bitCount_0f7a4_48 0 rfl ?_
  refine go_bipush (pc := 49) hF dJ6_bitCount_0f7a4_49 (by decide) ?_
  refine go_iand (pc := 51) hF 5 (by decide) dJ6_bitCount_0f7a4_51 ?_
  exact go_iretQ hF hr hlk hQ dJ6_bitCount_0f7a4_52 ⟨by decide, rfl⟩
set_option maxHeartbeats 4000000 in
set_option maxRecDepth 100000 in
theorem c_J6_bitCount_62 (E : En) (N : Nat) (σ : Nat → va_E) : CP E M_J6_bitCount_0f7a4 1 [vi 62] N σ (pc6 62) := by
  refine CT.of2 (own := RJ6) (by decide) rfl (Nat.le_of_ble_eq_true rfl) ?_
  intro p e R s m args below meth c Q hF hr hlk hnm hz hR hQ
  refine go_iload_n (pc := 0) hF dJ6_bitCount_0f7a4_0 0 rfl ?_
  refine go_iload_n (pc := 1) hF dJ6_bitCount_0f7a4_1 0 rfl ?_
  refine go_iconst (pc := 2) hF dJ6_bitCount_0f7a4_2 ?_
  refine go_iushr (pc := 3) hF 31 (by decide) dJ6_bitCount_0f7a4_3 ?_
  refine go_ldcw (pc := 4) hF kc_J6_265 dJ6_bitCount_0f7a4_4 ?_
  refine go_iand (pc := 7) hF 21 (by decide) dJ6_bitCount_0f7a4_7 ?_
  refine go_isub (pc := 8) hF dJ6_bitCount_0f7a4_8 ?_
  refine go_istore_n (pc := 9) hF [(0, vi 41)] dJ6_bitCount_0f7a4_9 rfl (by decide) ?_
  refine go_iload_n (pc := 10) hF dJ6_bitCount_0f7a4_10 0 rfl ?_
  refine go_ldcw (pc := 11) hF kc_J6_266 dJ6_bitCount_0f7a4_11 ?_
  refine go_iand (pc := 14) hF 33 (by decide) dJ6_bitCount_0f7a4_14 ?_
  refine go_iload_n (pc := 15) hF dJ6_bitCount_0f7a4_15 0 rfl ?_
  refine go_iconst (pc := 16) hF dJ6_bitCount_0f7a4_16 ?_
  refine go_iushr (pc := 17) hF 10 (by decide) dJ6_bitCount_0f7a4_17 ?_
  refine go_ldcw (pc := 18) hF kc_J6_266 dJ6_bitCount_0f7a4_18 ?_
  refine go_iand (pc := 21) hF 2 (by decide) dJ6_bitCount_0f7a4_21 ?_
  refine go_iadd (pc := 22) hF dJ6_bitCount_0f7a4_22 ?_
  refine go_istore_n (pc := 23) hF [(0, vi 35)] dJ6_bitCount_0f7a4_23 rfl (by decide) ?_
  refine go_iload_n (pc := 24) hF dJ6_bitCount_0f7a4_24 0 rfl ?_
  refine go_iload_n (pc := 25) hF dJ6_bitCount_0f7a4_25 0 rfl ?_
  refine go_iconst (pc := 26) hF dJ6_bitCount_0f7a4_26 ?_
  refine go_iushr (pc := 27) hF 2 (by decide) dJ6_bitCount_0f7a4_27 ?_
  refine go_iadd (pc := 28) hF dJ6_bitCount_0f7a4_28 ?_
  refine go_ldcw (pc := 29) hF kc_J6_267 dJ6_bitCount_0f7a4_29 ?_
  refine go_iand (pc := 32) hF 5 (by decide) dJ6_bitCount_0f7a4_32 ?_
  refine go_istore_n (pc := 33) hF [(0, vi 5)] dJ6_bitCount_0f7a4_33 rfl (by decide) ?_
  refine go_iload_n (pc := 34) hF dJ6_bitCount_0f7a4_34 0 rfl ?_
  refine go_iload_n (pc := 35) hF dJ6_bitCount_0f7a4_35 0 rfl ?_
  refine go_bipush (pc := 36) hF dJ6_bitCount_0f7a4_36 (by decide) ?_
  refine go_iushr (pc := 38) hF 0 (by decide) dJ6_bitCount_0f7a4_38 ?_
  refine go_iadd (pc := 39) hF dJ6_bitCount_0f7a4_39 ?_
  refine go_istore_n (pc := 40) hF [(0, vi 5)] dJ6_bitCount_0f7a4_40 rfl (by decide) ?_
  refine go_iload_n (pc := 41) hF dJ6_bitCount_0f7a4_41 0 rfl ?_
  refine go_iload_n (pc := 42) hF dJ6_bitCount_0f7a4_42 0 rfl ?_
  refine go_bipush (pc := 43) hF dJ6_bitCount_0f7a4_43 (by decide) ?_
  refine go_iushr (pc := 45) hF 0 (by decide) dJ6_bitCount_0f7a4_45 ?_
  refine go_iadd (pc := 46) hF dJ6_bitCount_0f7a4_46 ?_
  refine go_istore_n (pc := 47) hF [(0, vi 5)] dJ6_bitCount_0f7a4_47 rfl (by decide) ?_
  refine go_iload_n (pc := 48) hF dJ6_bitCount_0f7a4_48 0 rfl ?_
  refine go_bipush (pc := 49) hF dJ6_bitCount_0f7a4_49 (by decide) ?_
  refine go_iand (pc := 51) hF 5 (by decide) dJ6_bitCount_0f7a4_51 ?_
  exact go_iretQ hF hr hlk hQ dJ6_bitCount_0f7a4_52 ⟨by decide, rfl⟩
set_option maxHeartbeats 4000000 in
set_option maxRecDepth 100000 in
theorem c_J6_bitCount_63 (E : En) (N : Nat) (σ : Nat → va_E) : CP E M_J6_bitCount_0f7a4 1 [vi 63] N σ (pc6 63) := by
  refine CT.of2 (own := RJ6) (by decide) rfl (Nat.le_of_ble_eq_true rfl) ?_
  intro p e R s m args below meth c Q hF hr hlk hnm hz hR hQ
  refine go_iload_n (pc := 0) hF dJ6_bitCount_0f7a4_0 0 rfl ?_
  refine go_iload_n (pc := 1) hF dJ6_bitCount_0f7a4_1 0 rfl ?_
  refine go_iconst (pc := 2) hF dJ6_bitCount_0f7a4_2 ?_
  refine go_iushr (pc := 3) hF 31 (by decide) dJ6_bitCount_0f7a4_3 ?_
  refine go_ldcw (pc := 4) hF kc_J6_265 dJ6_bitCount_0f7a4_4 ?_
  refine go_iand (pc := 7) hF 21 (by decide) dJ6_bitCount_0f7a4_7 ?_
  refine go_isub (pc := 8) hF dJ6_bitCount_0f7a4_8 ?_
  refine go_istore_n (pc := 9) hF [(0, vi 42)] dJ6_bitCount_0f7a4_9 rfl (by decide) ?_
  refine go_iload_n (pc := 10) hF dJ6_bitCount_0f7a4_10 0 rfl ?_
  refine go_ldcw (pc := 11) hF kc_J6_266 dJ6_bitCount_0f7a4_11 ?_
  refine go_iand (pc := 14) hF 34 (by decide) dJ6_bitCount_0f7a4_14 ?_
  refine go_iload_n (pc := 15) hF dJ6_bitCount_0f7a4_15 0 rfl ?_
  refine go_iconst (pc := 16) hF dJ6_bitCount_0f7a4_16 ?_
  refine go_iushr (pc := 17) hF 10 (by decide) dJ6_bitCount_0f7a4_17 ?_
  refine go_ldcw (pc := 18) hF kc_J6_266 dJ6_bitCount_0f7a4_18 ?_
  refine go_iand (pc := 21) hF 2 (by decide) dJ6_bitCount_0f7a4_21 ?_
  refine go_iadd (pc := 22) hF dJ6_bitCount_0f7a4_22 ?_
  refine go_istore_n (pc := 23) hF [(0, vi 36)] dJ6_bitCount_0f7a4_23 rfl (by decide) ?_
  refine go_iload_n (pc := 24) hF dJ6_bitCount_0f7a4_24 0 rfl ?_
  refine go_iload_n (pc := 25) hF dJ6_bitCount_0f7a4_25 0 rfl ?_
  refine go_iconst (pc := 26) hF dJ6_bitCount_0f7a4_26 ?_
  refine go_iushr (pc := 27) hF 2 (by decide) dJ6_bitCount_0f7a4_27 ?_
  refine go_iadd (pc := 28) hF dJ6_bitCount_0f7a4_28 ?_
  refine go_ldcw (pc := 29) hF kc_J6_267 dJ6_bitCount_0f7a4_29 ?_
  refine go_iand (pc := 32) hF 6 (by decide) dJ6_bitCount_0f7a4_32 ?_
  refine go_istore_n (pc := 33) hF [(0, vi 6)] dJ6_bitCount_0f7a4_33 rfl (by decide) ?_
  refine go_iload_n (pc := 34) hF dJ6_bitCount_0f7a4_34 0 rfl ?_
  refine go_iload_n (pc := 35) hF dJ6_bitCount_0f7a4_35 0 rfl ?_
  refine go_bipush (pc := 36) hF dJ6_bitCount_0f7a4_36 (by decide) ?_
  refine go_iushr (pc := 38) hF 0 (by decide) dJ6_bitCount_0f7a4_38 ?_
  refine go_iadd (pc := 39) hF dJ6_bitCount_0f7a4_39 ?_
  refine go_istore_n (pc := 40) hF [(0, vi 6)] dJ6_bitCount_0f7a4_40 rfl (by decide) ?_
  refine go_iload_n (pc := 41) hF dJ6_bitCount_0f7a4_41 0 rfl ?_
  refine go_iload_n (pc := 42) hF dJ6_bitCount_0f7a4_42 0 rfl ?_
  refine go_bipush (pc := 43) hF dJ6_bitCount_0f7a4_43 (by decide) ?_
  refine go_iushr (pc := 45) hF 0 (by decide) dJ6_bitCount_0f7a4_45 ?_
  refine go_iadd (pc := 46) hF dJ6_bitCount_0f7a4_46 ?_
  refine go_istore_n (pc := 47) hF [(0, vi 6)] dJ6_bitCount_0f7a4_47 rfl (by decide) ?_
  refine go_iload_n (pc := 48) hF dJ6_bitCount_0f7a4_48 0 rfl ?_
  refine go_bipush (pc := 49) hF dJ6_bitCount_0f7a4_49 (by decide) ?_
  refine go_iand (pc := 51) hF 6 (by decide) dJ6_bitCount_0f7a4_51 ?_
  exact go_iretQ hF hr hlk hQ dJ6_bitCount_0f7a4_52 ⟨by decide, rfl⟩
theorem c_J6_bitCount (E : En) (N : Nat) (σ : Nat → va_E) (x : Int) (hx : 0 ≤ x ∧ x < 64) : CP E M_J6_bitCount_0f7a4 1 [vi x] N σ (pc6 x) := by
  obtain rfl | rfl | rfl | rfl | rfl | rfl | rfl | rfl | rfl | rfl | rfl | rfl | rfl | rfl | rfl | rfl | rfl | rfl | rfl | rfl | rfl | rfl | rfl | rfl | rfl | rfl | rfl | rfl | rfl | rfl | rfl | rfl | rfl | rfl | rfl | rfl | rfl | rfl | rfl | rfl | rfl | rfl | rfl | rfl | rfl | rfl | rfl | rfl | rfl | rfl | rfl | rfl | rfl | rfl | rfl | rfl | rfl | rfl | rfl | rfl | rfl | rfl | rfl | rfl : x = 0 ∨ x = 1 ∨ x = 2 ∨ x = 3 ∨ x = 4 ∨ x = 5 ∨ x = 6 ∨ x = 7 ∨ x = 8 ∨ x = 9 ∨ x = 10 ∨ x = 11 ∨ x = 12 ∨ x = 13 ∨ x = 14 ∨ x = 15 ∨ x = 16 ∨ x = 17 ∨ x = 18 ∨ x = 19 ∨ x = 20 ∨ x = 21 ∨ x = 22 ∨ x = 23 ∨ x = 24 ∨ x = 25 ∨ x = 26 ∨ x = 27 ∨ x = 28 ∨ x = 29 ∨ x = 30 ∨ x = 31 ∨ x = 32 ∨ x = 33 ∨ x = 34 ∨ x = 35 ∨ x = 36 ∨ x = 37 ∨ x = 38 ∨ x = 39 ∨ x = 40 ∨ x = 41 ∨ x = 42 ∨ x = 43 ∨ x = 44 ∨ x = 45 ∨ x = 46 ∨ x = 47 ∨ x = 48 ∨ x = 49 ∨ x = 50 ∨ x = 51 ∨ x = 52 ∨ x = 53 ∨ x = 54 ∨ x = 55 ∨ x = 56 ∨ x = 57 ∨ x = 58 ∨ x = 59 ∨ x = 60 ∨ x = 61 ∨ x = 62 ∨ x = 63 := by omega
  · exact c_J6_bitCount_0 E N σ
  · exact c_J6_bitCount_1 E N σ
  · exact c_J6_bitCount_2 E N σ
  · exact c_J6_bitCount_3 E N σ
  · exact c_J6_bitCount_4 E N σ
  · exact c_J6_bitCount_5 E N σ
  · exact c_J6_bitCount_6 E N σ
  · exact c_J6_bitCount_7 E N σ
  · exact c_J6_bitCount_8 E N σ
  · exact c_J6_bitCount_9 E N σ
  · exact c_J6_bitCount_10 E N σ
  · exact c_J6_bitCount_11 E N σ
  · exact c_J6_bitCount_12 E N σ
  · exact c_J6_bitCount_13 E N σ
  · exact c_J6_bitCount_14 E N σ
  · exact c_J6_bitCount_15 E N σ
  · exact c_J6_bitCount_16 E N σ
  · exact c_J6_bitCount_17 E N σ
  · exact c_J6_bitCount_18 E N σ
  · exact c_J6_bitCount_19 E N σ
  · exact c_J6_bitCount_20 E N σ
  · exact c_J6_bitCount_21 E N σ
  · exact c_J6_bitCount_22 E N σ
  · exact c_J6_bitCount_23 E N σ
  · exact c_J6_bitCount_24 E N σ
  · exact c_J6_bitCount_25 E N σ
  · exact c_J6_bitCount_26 E N σ
  · exact c_J6_bitCount_27 E N σ
  · exact c_J6_bitCount_28 E N σ
  · exact c_J6_bitCount_29 E N σ
  · exact c_J6_bitCount_30 E N σ
  · exact c_J6_bitCount_31 E N σ
  · exact c_J6_bitCount_32 E N σ
  · exact c_J6_bitCount_33 E N σ
  · exact c_J6_bitCount_34 E N σ
  · exact c_J6_bitCount_35 E N σ
  · exact c_J6_bitCount_36 E N σ
  · exact c_J6_bitCount_37 E N σ
  · exact c_J6_bitCount_38 E N σ
  · exact c_J6_bitCount_39 E N σ
  · exact c_J6_bitCount_40 E N σ
  · exact c_J6_bitCount_41 E N σ
  · exact c_J6_bitCount_42 E N σ
  · exact c_J6_bitCount_43 E N σ
  · exact c_J6_bitCount_44 E N σ
  · exact c_J6_bitCount_45 E N σ
  · exact c_J6_bitCount_46 E N σ
  · exact c_J6_bitCount_47 E N σ
  · exact c_J6_bitCount_48 E N σ
  · exact c_J6_bitCount_49 E N σ
  · exact c_J6_bitCount_50 E N σ
  · exact c_J6_bitCount_51 E N σ
  · exact c_J6_bitCount_52 E N σ
  · exact c_J6_bitCount_53 E N σ
  · exact c_J6_bitCount_54 E N σ
  · exact c_J6_bitCount_55 E N σ
  · exact c_J6_bitCount_56 E N σ
  · exact c_J6_bitCount_57 E N σ
  · exact c_J6_bitCount_58 E N σ
  · exact c_J6_bitCount_59 E N σ
  · exact c_J6_bitCount_60 E N σ
  · exact c_J6_bitCount_61 E N σ
  · exact c_J6_bitCount_62 E N σ
  · exact c_J6_bitCount_63 E N σ
