section GWX
variable {K : gw_K} {cc : ByteArray} {own : String} {Ts : List Cond} {tys : List (ClassId × FieldType)} {zz : (Nat → Prop) → State → Heap → Prop} {ws : va_W} {cells slots pc : Nat} {lv lv' : List (Nat × Value)} {st : List Value}
theorem gw_iext {cA : ClassId} {n a : Nat} {f f2 : Nat → Nat} (q0 : Nat) (ha : ws[q0]? = some (a, .inl (cA, n, .inl (fun j => nI (f j))))) (h : ∀ j, j < n → f j = f2 j) (k : gw_G K (ws.set q0 (a, .inl (cA, n, .inl (fun j => nI (f2 j))))) cells slots pc lv st) : gw_G K ws cells slots pc lv st := fun H locs ls hl hP hD hS => by
  have e : vp_cell cA (n, .inl (fun j => nI (f j))) = vp_cell cA (n, .inl (fun j => nI (f2 j))) := by
    rw [vp_cell_i, vp_cell_i]
    unfold arrV
    congr 1
    apply Array.ext
    · simp
    · intro i h1 h2
      simp at h1
      simp [h i h1]
  refine k H locs ls hl ?_ (hD.set ha) hS
  intro j q hq
  by_cases hj : j = q0
  · subst hj
    have hlt := (List.getElem?_eq_some_iff.mp ha).1
    rw [List.getElem?_set_self hlt] at hq
    have := Option.some.inj hq
    subst this
    have h0 := hP j _ ha
    show H[a]? = some (vp_cell _ _)
    rw [← e]
    exact h0
  · rw [List.getElem?_set_ne (Ne.symm hj)] at hq
    exact hP j q hq
end GWX
theorem in_X2_learn_X0 : ∀ w ∈ wsX00, w ∈ wsX2_learn := fun _ h => List.mem_cons_of_mem _ (List.mem_append_left _ (List.mem_append_left _ (List.mem_append_left _ (List.mem_append_left _ (List.mem_append_right _ (h))))))
theorem in_X2_learn_X3 : ∀ w ∈ wsX30, w ∈ wsX2_learn := fun _ h => List.mem_cons_of_mem _ (List.mem_append_left _ (List.mem_append_left _ (List.mem_append_left _ (List.mem_append_right _ (h)))))
theorem in_X2_learn_X5 : ∀ w ∈ wsX50, w ∈ wsX2_learn := fun _ h => List.mem_cons_of_mem _ (List.mem_append_left _ (List.mem_append_left _ (List.mem_append_right _ (h))))
theorem in_X2_learn_X6 : ∀ w ∈ wsX60, w ∈ wsX2_learn := fun _ h => List.mem_cons_of_mem _ (List.mem_append_left _ (List.mem_append_right _ (h)))
theorem in_X2_learn_X7 : ∀ w ∈ wsX70, w ∈ wsX2_learn := fun _ h => List.mem_cons_of_mem _ (List.mem_append_left _ (List.mem_append_left _ (List.mem_append_left _ (List.mem_append_left _ (List.mem_append_left _ (List.mem_append_right _ (h)))))))
theorem in_X2_learn_X8 : ∀ w ∈ wsX80, w ∈ wsX2_learn := fun _ h => List.mem_cons_of_mem _ (List.mem_append_right _ (h))
theorem in_X2_readFrom_X0 : ∀ w ∈ wsX00, w ∈ wsX2_readFrom := fun _ h => List.mem_cons_of_mem _ (List.mem_append_left _ (List.mem_append_left _ (List.mem_append_left _ (List.mem_append_left _ (List.mem_append_left _ (List.mem_append_left _ (List.mem_append_right _ (h))))))))
theorem in_X2_readFrom_X1 : ∀ w ∈ wsX10, w ∈ wsX2_readFrom := fun _ h => List.mem_cons_of_mem _ (List.mem_append_left _ (List.mem_append_right _ (h)))
theorem in_X2_readFrom_X3 : ∀ w ∈ wsX30, w ∈ wsX2_readFrom := fun _ h => List.mem_cons_of_mem _ (List.mem_append_left _ (List.mem_append_left _ (List.mem_append_left _ (List.mem_append_left _ (List.mem_append_left _ (List.mem_append_right _ (h)))))))
theorem in_X2_readFrom_X5 : ∀ w ∈ wsX50, w ∈ wsX2_readFrom := fun _ h => List.mem_cons_of_mem _ (List.mem_append_left _ (List.mem_append_left _ (List.mem_append_left _ (List.mem_append_left _ (List.mem_append_right _ (h))))))
theorem in_X2_readFrom_X6 : ∀ w ∈ wsX60, w ∈ wsX2_readFrom := fun _ h => List.mem_cons_of_mem _ (List.mem_append_left _ (List.mem_append_left _ (List.mem_append_left _ (List.mem_append_right _ (h)))))
theorem in_X2_readFrom_X8 : ∀ w ∈ wsX80, w ∈ wsX2_readFrom := fun _ h => List.mem_cons_of_mem _ (List.mem_append_left _ (List.mem_append_left _ (List.mem_append_right _ (h))))
theorem lk_X2_learn_9 : Cond.fieldLink RX2 9 "StageCube$Feature" "ofCorners" "Z" ∈ wsX2_learn := by decide +kernel
theorem lk_X2_learn_15 : Cond.fieldLink RX2 15 "StageCube$Feature" "size" "I" ∈ wsX2_learn := by decide +kernel
theorem lk_X2_learn_37 : Cond.fieldLink RX2 37 "StageCube$Feature" "next" "[I" ∈ wsX2_learn := by decide +kernel
theorem lk_X2_readFrom_9 : Cond.fieldLink RX2 9 "StageCube$Feature" "ofCorners" "Z" ∈ wsX2_readFrom := by decide +kernel
theorem lk_X2_readFrom_19 : Cond.fieldLink RX2 19 "StageCube$Cube" "corners" "LStageCube$Pieces;" ∈ wsX2_readFrom := by decide +kernel
theorem lk_X2_readFrom_25 : Cond.fieldLink RX2 25 "StageCube$Cube" "edges" "LStageCube$Pieces;" ∈ wsX2_readFrom := by decide +kernel
theorem up1_ih {NX nxv : Nat → Nat} {i : Nat} (h : ∀ q, q < i → NX q = nxv q) : ∀ q, q < i + 1 → up1 NX i (nxv i) q = nxv q := by
  intro q hq
  simp only [up1]
  split
  · next e => rw [e]
  · exact h q (by omega)
theorem up1_lt {f : Nat → Nat} {i v n b : Nat} (hf : ∀ j, j < n → f j < b) (hv : v < b) : ∀ j, j < n → up1 f i v j < b := by
  intro j hj
  simp only [up1]
  split
  · exact hv
  · exact hf j hj
theorem qt_P_lt (R : Nat → Nat) {n b : Nat} (a : Nat) (hR : ∀ j, R j < n) {P : Nat → Nat} (h : ∀ j, j < n → P j < b) : ∀ t j, j < n → qt_P R a P t j < b := by
  intro t
  induction t with
  | zero => exact h
  | succ t ih => exact up1_lt ih (ih _ (hR _))
theorem qtP_lt (R : Nat → Nat) {n b : Nat} (a : Nat) (hR : ∀ j, R j < n) {P : Nat → Nat} (h : ∀ j, j < n → P j < b) : ∀ j, j < n → qtP R a P j < b := up1_lt (qt_P_lt R a hR h 3) (h _ (hR _))
theorem cu_cr_8 : ∀ j, cu_cr j < 8 := by
  intro j
  by_cases h : j < 24
  · exact cu_cr_lt j h
  · unfold cu_cr; rw [List.getD_eq_getElem?_getD, List.getElem?_eq_none (by simp; omega)]; decide
theorem cu_er_12 : ∀ j, cu_er j < 12 := by
  intro j
  by_cases h : j < 24
  · exact cu_er_lt j h
  · unfold cu_er; rw [List.getD_eq_getElem?_getD, List.getElem?_eq_none (by simp; omega)]; decide
theorem ms_M_lt (num n : Nat) {kk m : Nat} (hk : 0 < kk) {M : Nat → Nat} (h : ∀ j, j < m → M j < kk) : ∀ t j, j < m → ms_M num kk n M t j < kk := by
  intro t
  induction t with
  | zero => exact h
  | succ t ih => exact up1_lt ih (Nat.mod_lt _ hk)
theorem msM_lt (num n : Nat) {kk m : Nat} (hk : 0 < kk) {M : Nat → Nat} (h : ∀ j, j < m → M j < kk) : ∀ j, j < m → msM num kk n M j < kk := up1_lt (ms_M_lt num n hk h (n - 1)) (Nat.mod_lt _ hk)
theorem ps_P_lt (set fam psn : Nat) (hf : fam < 3) {P : Nat → Nat} (h : ∀ j, j < 12 → P j < 12) : ∀ t j, j < 12 → ps_P set fam psn P t j < 12 := by
  intro t
  induction t with
  | zero => exact h
  | succ t ih => exact up1_lt ih (by split <;> omega)
theorem or_P_lt (first : Nat) (hf : first ≤ 8) {g P : Nat → Nat} (hg : ∀ j, j < 4 → g j < 4) (h : ∀ j, j < 12 → P j < 12) : ∀ t, t ≤ 4 → ∀ j, j < 12 → or_P first g P t j < 12 := by
  intro t
  induction t with
  | zero => intro _; exact h
  | succ t ih => intro ht; exact up1_lt (ih (by omega)) (by have := hg t (by omega); omega)
theorem x8 {a b : Nat} (ha : a < 8) (hb : b < 8) : a ^^^ b < 8 := Nat.xor_lt_two_pow (n := 3) ha hb
theorem co_P_lt {ap : Nat} (ha : ap < 8) {g P : Nat → Nat} (hg : ∀ j, j < 4 → g j < 4) (h : ∀ j, j < 8 → P j < 8) : ∀ t, t ≤ 4 → ∀ j, j < 8 → co_P ap g P t j < 8 := by
  intro t
  induction t with
  | zero => intro _; exact h
  | succ t ih =>
    intro ht
    have e := (cu_ev_8 _ (hg t (by omega))).1
    exact up1_lt (up1_lt (ih (by omega)) e) (x8 e ha)
theorem sh_lt (set : Nat) {g P : Nat → Nat} (hg : ∀ j, j < 4 → g j < 4) (h : ∀ j, j < 8 → P j < 8) : ∀ t j, j < 8 → (sh_ set g P t).2 j < 8 := by
  intro t
  induction t with
  | zero => exact h
  | succ t ih =>
    rw [sh_]
    split
    · exact up1_lt ih (cu_ev_8 _ (hg _ (and3 _))).2
    · exact up1_lt ih (cu_ev_8 _ (and3 _)).1
theorem ap_8 (x : Nat) (hx : x < 96) (f : Nat → Nat) : (cu_ev (cu_to (x / 4) f 0) ^^^ cu_ev (x % 4)) ^^^ 1 < 8 := x8 (x8 (cu_ev_8 _ (cu_to_4 _ (by omega) f 0 (by decide))).1 (cu_ev_8 _ (by omega)).1) (by decide)
set_option maxHeartbeats 4000000 in
set_option maxRecDepth 100000 in
theorem c_rf_me (l : Launch) (D : va_G) (cI cB cS cJ cF cG : ClassId) (tt : Nat → Nat) (ft : Nat) (ca : Nat → Nat) (cp co ep eo : Nat → Nat) (nx : Value) : gw_CI (S := Unit) l yX2_readFrom wsX2_readFrom 2 52 0 0 D (mo_ty cI cB cS cJ cF cG) (zs tt) ([(ft, .inr (2, [iN (0), iN (2048), nx]))] ++ cb_ws cI tt ca cp co ep eo) [.ref ft, .ref (ca 0)] (fun r _ => r = nI (mr_ 2 (eo) (12 - 1))) (fun _ => [(ft, .inr (2, [iN (0), iN (2048), nx]))] ++ cb_ws cI tt ca cp co ep eo) := by
  refine gw_CI.of (cc := cX2_readFrom) (maxL := 2) (rt := .int) (zs_ok tt) (by decide) rfl (Nat.le_of_ble_eq_true rfl) ?_
  intro K C hkl hkn hkR hkD hmn ret
  have C : gw_x K cX2_readFrom RX2 wsX2_readFrom (mo_ty cI cB cS cJ cF cG) (zs tt) := C
  subst hkl hkD
  have hrc : (kR K).cells = 0 := by rw [hkR]
  have hrs : (kR K).slots = 0 := by rw [hkR]
  refine gw_aload_n C 0 dX2_readFrom_0 rfl rfl ?_
  refine gw_aload_n C 0 dX2_readFrom_1 rfl rfl ?_
  refine gw_get C 0 0 in_X2_readFrom_X3 dX2_readFrom_2 lk_X2_readFrom_9 rfl rfl (by decide) rfl rfl ?_
  refine gw_if_eq C 15 dX2_readFrom_5 (by decide) (by omega) (fun h67 => ?_) (fun h67 => ?_)
  rotate_left
  · first | exact absurd (by decide) h67 | exact absurd h67 (by decide)
  refine gw_aload_n C 1 dX2_readFrom_15 rfl rfl ?_
  refine gw_get C 1 1 in_X2_readFrom_X1 dX2_readFrom_16 lk_X2_readFrom_25 rfl rfl (by decide) rfl rfl ?_
  refine gw_callAI (n := 1) (wr := [(ca 0, .inr (1, [.ref (ca 1), .ref (ca 4)])), (ca 1, .inr (5, [iN (8), iN (3), .ref (ca 2), .ref (ca 3), .ref (tt 0), .ref (tt 2)])), (ca 2, .inl (cI, 8, .inl (fun j => nI (cp j)))), (ca 3, .inl (cI, 8, .inl (fun j => nI (co j))))]) C (c_marksRead (kl K) (kD K) cI cB cS cJ cF cG tt ft 0 2048 (nx) (ca 4) (ca 5) (ca 6) (tt 1) (tt 3) 12 2 (ep) (eo) (by decide) (by decide)) 0 rfl rfl rfl gX2_readFrom_X3_read_u28X3 rfl C.2.2.2.1.2.2.2.2.2.2.2.1 (by decide +kernel) dX2_readFrom_19 (by rw [hkR]; decide) (by rw [hrc, hrs]; decide) [0, 5, 6, 7] [1, 2, 3, 4] rfl rfl rfl rfl (by decide) rfl (Nat.le_of_ble_eq_true rfl) rfl (fun rz z hz => ?_)
  subst hz
  refine gw_perm (ws2 := [(ft, .inr (2, [iN (0), iN (2048), nx]))] ++ cb_ws cI tt ca cp co ep eo) [4, 0, 1, 2, 3, 5, 6, 7] rfl (by decide) trivial ?_
  exact ret () dX2_readFrom_22 rfl rfl rfl (Nat.le_refl 0) (Nat.le_refl 0)
set_option maxHeartbeats 4000000 in
set_option maxRecDepth 100000 in
theorem c_ln_me (l : Launch) (D : va_G) (cI cB cS cJ cF cG : ClassId) (tt : Nat → Nat) (ft : Nat) (nxv : Nat → Nat) (hi1 : ∀ (num face : Nat) (P M : Nat → Nat), num < 2048 → face < 6 → (∀ j, j < 12 → P j < 12) → (∀ j, j < 12 → M j < 2) → face < 6 → mr_ 2 (qtM cu_er cu_fg 2 (4 * face) (msM num 2 12 (M))) (12 - 1) = nxv (6 * num + face)) (hi2 : ∀ (num face : Nat) (P M : Nat → Nat), num < 2048 → face < 6 → (∀ j, j < 12 → P j < 12) → (∀ j, j < 12 → M j < 2) → 6 ≤ face → mr_ 2 (qtM cu_er cu_fg 2 (4 * face) (qtM cu_er cu_fg 2 (4 * face) (msM num 2 12 (M)))) (12 - 1) = nxv (6 * num + face)) : gw_CV (S := Nat) l yX2_learn wsX2_learn 2 52 4 12318 D (mo_ty cI cB cS cJ cF cG) (zs tt) ([(ft, .inr (2, [iN (0), iN (2048), .null]))]) [.ref ft, iN 6] (fun _ => True) (fun u => [(ft, .inr (2, [iN (0), iN (2048), .ref (u)])), (u, .inl (cI, 12288, .inl (fun j => nI (nxv j))))]) := by
  refine gw_CV.of (cc := cX2_learn) (maxL := 5) (zs_ok tt) (by decide) rfl (Nat.le_of_ble_eq_true rfl) ?_
  intro K C hkl hkn hkR hkD hmn ret
  have C : gw_x K cX2_learn RX2 wsX2_learn (mo_ty cI cB cS cJ cF cG) (zs tt) := C
  subst hkl hkD
  have hrc : (kR K).cells = 4 := by rw [hkR]
  have hrs : (kR K).slots = 12318 := by rw [hkR]
  refine gw_new C (ci := 5) (fs := [.int (0), .int (0), .null, .null, .null, .null]) tyX7 tyX7_ok in_X2_learn_X7 dX2_learn_0 (by decide +kernel) (by decide +kernel) (by decide +kernel) rfl (fun j hj => by rcases (show j = 0 ∨ j = 1 ∨ j = 2 ∨ j = 3 ∨ j = 4 ∨ j = 5 by omega) with h | h | h | h | h | h <;> subst h <;> rfl) (by omega) (by omega) (fun pp => ?_)
  refine gw_ws (ws2 := [(ft, .inr (2, [iN (0), iN (2048), .null])), (pp, .inr (5, [.int (0), .int (0), .null, .null, .null, .null]))]) rfl ?_
  refine gw_dup C dX2_learn_3 rfl ?_
  refine gw_aload_n C 0 dX2_learn_4 rfl rfl ?_
  refine gw_get C 0 0 in_X2_learn_X3 dX2_learn_5 lk_X2_learn_9 rfl rfl (by decide) rfl rfl ?_
  refine gw_callIV (n := 1) (wr := [(ft, .inr (2, [iN (0), iN (2048), .null]))]) C (c_pinitE (kl K) (kD K) cI cB cS cJ cF cG (zs tt) (zs_ok tt) pp (tt 1) (tt 3) (fun _ _ _ h => h.2.1.1) (fun _ _ _ h => h.2.2.2.1.1)) gX2_learn_X7_init rfl (by decide +kernel) (by decide +kernel) (by decide +kernel) rfl (by decide +kernel) dX2_learn_8 (by rw [hkR]; decide) (by rw [hrc, hrs]; decide) [1] [0] rfl rfl rfl rfl (by decide) rfl (Nat.le_of_ble_eq_true rfl) rfl (fun z hz => ?_)
  refine gw_ws (ws2 := [(ft, .inr (2, [iN (0), iN (2048), .null])), (pp, .inr (5, [iN (12), iN (2), .ref (z.1), .ref (z.2), .ref (tt 1), .ref (tt 3)])), (z.1, .inl (cI, 12, .inl (fun j => nI ((rs_P (fun _ => 0) 12) j)))), (z.2, .inl (cI, 12, .inl (fun j => nI ((rs_M (fun _ => 0) 12) j))))]) rfl ?_
  refine gw_astore_n C (lv2 := [(2, .ref (pp)), (0, .ref (ft)), (1, iN (6))]) dX2_learn_11 rfl (by omega) rfl ?_
  refine gw_aload_n C 1 dX2_learn_12 rfl rfl ?_
  refine gw_bipush C 6 dX2_learn_13 (by decide) ?_
  refine gw_aload_n C 1 dX2_learn_15 rfl rfl ?_
  refine gw_get C 0 1 in_X2_learn_X3 dX2_learn_16 lk_X2_learn_15 rfl rfl (by decide) rfl rfl ?_
  refine gw_imul C dX2_learn_19 ?_
  refine gw_newa C 0 dX2_learn_20 rfl (by decide +kernel) rfl (fun _ _ h => h) (a0 := (12288, .inl (fun _ => 0))) (fun _ => rfl) (by decide) (by decide) (by omega) (by omega) (fun na => ?_)
  refine gw_ws (ws2 := [(ft, .inr (2, [iN (0), iN (2048), .null])), (pp, .inr (5, [iN (12), iN (2), .ref (z.1), .ref (z.2), .ref (tt 1), .ref (tt 3)])), (z.1, .inl (cI, 12, .inl (fun j => nI ((rs_P (fun _ => 0) 12) j)))), (z.2, .inl (cI, 12, .inl (fun j => nI ((rs_M (fun _ => 0) 12) j)))), (na, .inl (cI, 12288, .inl (fun j => nI (((fun _ => 0)) j))))]) rfl ?_
  refine gw_put C (ty := (.array .int)) (ws2 := [(ft, .inr (2, [iN (0), iN (2048), .ref (na)])), (pp, .inr (5, [iN (12), iN (2), .ref (z.1), .ref (z.2), .ref (tt 1), .ref (tt 3)])), (z.1, .inl (cI, 12, .inl (fun j => nI ((rs_P (fun _ => 0) 12) j)))), (z.2, .inl (cI, 12, .inl (fun j => nI ((rs_M (fun _ => 0) 12) j)))), (na, .inl (cI, 12288, .inl (fun j => nI (((fun _ => 0)) j))))]) 0 2 tyX3 tyX3_ok nmX3 in_X2_learn_X3 dX2_learn_22 lk_X2_learn_37 rfl rfl (by decide) rfl rfl (by decide +kernel) rfl rfl (Nat.le_of_ble_eq_true rfl) rfl ?_
  refine gw_iconst C 0 dX2_learn_25 (by decide) ?_
  refine gw_istore_n C (lv2 := [(3, iN (0)), (2, .ref (pp)), (0, .ref (ft)), (1, iN (6))]) dX2_learn_26 rfl (by omega) rfl ?_
  refine gw_perm (ws2 := [(na, .inl (cI, 12288, .inl (fun j => nI ((fun _ => 0) j)))), (ft, .inr (2, [iN (0), iN (2048), .ref (na)])), (pp, .inr (5, [iN (12), iN (2), .ref (z.1), .ref (z.2), .ref (tt 1), .ref (tt 3)])), (z.1, .inl (cI, 12, .inl (fun j => nI ((rs_P (fun _ => 0) 12) j)))), (z.2, .inl (cI, 12, .inl (fun j => nI ((rs_M (fun _ => 0) 12) j))))]) [4, 0, 1, 2, 3] rfl (by decide) trivial ?_
  have lpN : ∀ (n num : Nat) (P M NX : Nat → Nat), num + n = 2048 → (∀ q, q < 6 * num → NX q = nxv q) → (∀ j, j < 12 → P j < 12) → (∀ j, j < 12 → M j < 2) → gw_G K ([(na, .inl (cI, 12288, .inl (fun j => nI (NX j)))), (ft, .inr (2, [iN (0), iN (2048), .ref (na)])), (pp, .inr (5, [iN (12), iN (2), .ref (z.1), .ref (z.2), .ref (tt 1), .ref (tt 3)])), (z.1, .inl (cI, 12, .inl (fun j => nI (P j)))), (z.2, .inl (cI, 12, .inl (fun j => nI (M j))))]) 4 12318 27 [(3, iN num), (2, .ref pp), (0, .ref ft), (1, iN 6)] [] := by
    intro n
    induction n with
    | zero =>
      intro num P M NX hi hNX hP hM
      refine gw_iload_n C 0 dX2_learn_27 rfl rfl ?_
      refine gw_aload_n C 2 dX2_learn_28 rfl rfl ?_
      refine gw_get C 1 1 in_X2_learn_X3 dX2_learn_29 lk_X2_learn_15 rfl rfl (by decide) rfl rfl ?_
      refine gw_icmp_ge C 98 dX2_learn_32 (by decide) (by omega) (by omega) (fun h68 => ?_) (fun h68 => ?_)
      ·
        have e : (fun j => nI (NX j)) = fun j => nI (NX j) := rfl
        refine gw_iext (f2 := nxv) 0 rfl (fun j hj => by rw [hNX j (by omega)]) ?_
        refine gw_perm (ws2 := [(ft, .inr (2, [iN (0), iN (2048), .ref (na)])), (na, .inl (cI, 12288, .inl (fun j => nI (nxv j))))]) [1, 0] rfl (by decide) trivial ?_
        exact ret na dX2_learn_98 trivial rfl (by decide) (by decide)
      ·
        exact absurd h68 (by omega)
    | succ n ih =>
      intro num P M NX hi hNX hP hM
      refine gw_iload_n C 0 dX2_learn_27 rfl rfl ?_
      refine gw_aload_n C 2 dX2_learn_28 rfl rfl ?_
      refine gw_get C 1 1 in_X2_learn_X3 dX2_learn_29 lk_X2_learn_15 rfl rfl (by decide) rfl rfl ?_
      refine gw_icmp_ge C 98 dX2_learn_32 (by decide) (by omega) (by omega) (fun h69 => ?_) (fun h69 => ?_)
      ·
        exact absurd h69 (by omega)
      ·
        refine gw_iconst C 0 dX2_learn_35 (by decide) ?_
        refine gw_istore C (lv2 := [(4, iN (0)), (3, iN (num)), (2, .ref (pp)), (0, .ref (ft)), (1, iN (6))]) dX2_learn_36 (by omega) rfl ?_
        have lpF : ∀ (k face : Nat) (P M NX : Nat → Nat), face + k = 6 → (∀ q, q < 6 * num + face → NX q = nxv q) → (∀ j, j < 12 → P j < 12) → (∀ j, j < 12 → M j < 2) → gw_G K ([(na, .inl (cI, 12288, .inl (fun j => nI (NX j)))), (ft, .inr (2, [iN (0), iN (2048), .ref (na)])), (pp, .inr (5, [iN (12), iN (2), .ref (z.1), .ref (z.2), .ref (tt 1), .ref (tt 3)])), (z.1, .inl (cI, 12, .inl (fun j => nI (P j)))), (z.2, .inl (cI, 12, .inl (fun j => nI (M j))))]) 4 12318 38 [(4, iN face), (3, iN num), (2, .ref pp), (0, .ref ft), (1, iN 6)] [] := by
          intro k
          induction k with
          | zero =>
            intro face P M NX hj hNX hP hM
            refine gw_iload C 0 dX2_learn_38 rfl ?_
            refine gw_bipush C 6 dX2_learn_40 (by decide) ?_
            refine gw_icmp_ge C 92 dX2_learn_42 (by decide) (by omega) (by omega) (fun h70 => ?_) (fun h70 => ?_)
            ·
              refine gw_iinc C (v := nI (num + 1)) (lv2 := [(3, iN (num + 1)), (4, iN (face)), (2, .ref (pp)), (0, .ref (ft)), (1, iN (6))]) 1 dX2_learn_92 rfl (nI_add _ _) (by omega) rfl ?_
              refine gw_goto C 27 dX2_learn_95 (by decide) ?_
              refine gw_lv (lv2 := [(3, iN (num + 1)), (2, .ref (pp)), (0, .ref (ft)), (1, iN (6))]) [0, 2, 3, 4] rfl ?_
              exact ih (num + 1) P M NX (by omega) (fun q hq => hNX q (by omega)) hP hM
            ·
              exact absurd h70 (by omega)
          | succ k ihk =>
            intro face P M NX hj hNX hP hM
            refine gw_iload C 0 dX2_learn_38 rfl ?_
            refine gw_bipush C 6 dX2_learn_40 (by decide) ?_
            refine gw_icmp_ge C 92 dX2_learn_42 (by decide) (by omega) (by omega) (fun h71 => ?_) (fun h71 => ?_)
            ·
              exact absurd h71 (by omega)
            ·
              refine gw_aload_n C 3 dX2_learn_45 rfl rfl ?_
              refine gw_iload_n C 1 dX2_learn_46 rfl rfl ?_
              refine gw_aload_n C 2 dX2_learn_47 rfl rfl ?_
              refine gw_callAV (n := 2) (wr := [(na, .inl (cI, 12288, .inl (fun j => nI (NX j))))]) C (c_marksShow (kl K) (kD K) cI cB cS cJ cF cG tt ft 0 2048 (.ref na) pp z.1 z.2 (tt 1) (tt 3) 12 2 (P) (M) num (by omega) (by decide) (by decide) (by decide) (by decide)) 0 rfl rfl rfl gX2_learn_X3_show_u41X3 rfl C.2.2.2.1.2.2.2.2.2.2.2.2.1 (by decide +kernel) dX2_learn_48 (by rw [hkR]; decide) (by rw [hrc, hrs]; decide) [1, 2, 3, 4] [0] rfl rfl rfl rfl (by decide) rfl (Nat.le_of_ble_eq_true rfl) rfl (fun v hv => ?_)
              have bM1 := (msM_lt num 12 (by decide) hM)
              have bP1 : ∀ j, j < 12 → (P) j < 12 := hP
              have j1 := hi1 num face P M (by omega) (by omega) hP hM
              have j2 := hi2 num face P M (by omega) (by omega) hP hM
              refine gw_aload_n C 2 dX2_learn_51 rfl rfl ?_
              refine gw_iload C 0 dX2_learn_52 rfl ?_
              refine gw_callVV (n := 1) (wr := [(na, .inl (cI, 12288, .inl (fun j => nI (NX j)))), (ft, .inr (2, [iN (0), iN (2048), .ref (na)]))]) C (c_quarterE (kl K) (kD K) cI cB cS cJ cF cG tt pp z.1 z.2 (P) (msM num 2 12 (M)) face (by omega) bM1) 0 rfl rfl rfl gX2_learn_X7_quarter rfl (by decide +kernel) dX2_learn_54 (by rw [hkR]; decide) (by rw [hkR]; decide) [2, 3, 4] [0, 1] rfl rfl rfl rfl (by decide) rfl (Nat.le_of_ble_eq_true rfl) rfl (fun v2 hv2 => ?_)
              subst hv2
              refine gw_iload C 0 dX2_learn_57 rfl ?_
              refine gw_iload_n C 4 dX2_learn_59 rfl rfl ?_
              refine gw_icmp_lt C 69 dX2_learn_60 (by decide) (by omega) (by omega) (fun h72 => ?_) (fun h72 => ?_)
              ·
                refine gw_aload_n C 3 dX2_learn_69 rfl rfl ?_
                refine gw_get C 1 2 in_X2_learn_X3 dX2_learn_70 lk_X2_learn_37 rfl rfl (by decide) rfl rfl ?_
                refine gw_bipush C 6 dX2_learn_73 (by decide) ?_
                refine gw_iload_n C 1 dX2_learn_75 rfl rfl ?_
                refine gw_imul C dX2_learn_76 ?_
                refine gw_iload C 0 dX2_learn_77 rfl ?_
                refine gw_iadd C dX2_learn_79 ?_
                refine gw_aload_n C 3 dX2_learn_80 rfl rfl ?_
                refine gw_aload_n C 2 dX2_learn_81 rfl rfl ?_
                have bP9 : ∀ j, j < 12 → (qtP cu_er (4 * face) (P)) j < 12 := qtP_lt cu_er (4 * face) cu_er_12 bP1
                refine gw_callAI (n := 1) (wr := [(na, .inl (cI, 12288, .inl (fun j => nI (NX j))))]) C (c_marksRead (kl K) (kD K) cI cB cS cJ cF cG tt ft 0 2048 (.ref na) pp z.1 z.2 (tt 1) (tt 3) 12 2 (qtP cu_er (4 * face) (P)) (qtM cu_er cu_fg 2 (4 * face) (msM num 2 12 (M))) (by decide) (by decide)) 0 rfl rfl rfl gX2_learn_X3_read_u28X3 rfl C.2.2.2.1.2.2.2.2.2.2.2.1 (by decide +kernel) dX2_learn_82 (by rw [hkR]; decide) (by rw [hrc, hrs]; decide) [1, 2, 3, 4] [0] rfl rfl rfl rfl (by decide) rfl (Nat.le_of_ble_eq_true rfl) rfl (fun rv9 v9 hv9 => ?_)
                subst hv9
                rw [j1 h72]
                refine gw_istN C (ws2 := [(na, .inl (cI, 12288, .inl (fun j => nI ((up1 NX (((6) * (num)) + (face)) (nxv (6 * num + face))) j)))), (ft, .inr (2, [iN (0), iN (2048), .ref (na)])), (pp, .inr (5, [iN (12), iN (2), .ref (z.1), .ref (z.2), .ref (tt 1), .ref (tt 3)])), (z.1, .inl (cI, 12, .inl (fun j => nI ((qtP cu_er (4 * face) (P)) j)))), (z.2, .inl (cI, 12, .inl (fun j => nI ((qtM cu_er cu_fg 2 (4 * face) (msM num 2 12 (M))) j))))]) 0 0 dX2_learn_85 rfl rfl (by first | decide | omega) (by omega) rfl ?_
                refine gw_iinc C (v := nI (face + 1)) (lv2 := [(4, iN (face + 1)), (3, iN (num)), (2, .ref (pp)), (0, .ref (ft)), (1, iN (6))]) 0 dX2_learn_86 rfl (nI_add _ _) (by omega) rfl ?_
                refine gw_goto C 38 dX2_learn_89 (by decide) ?_
                refine gw_lv (lv2 := [(4, iN (face + 1)), (3, iN (num)), (2, .ref (pp)), (0, .ref (ft)), (1, iN (6))]) [0, 1, 2, 3, 4] rfl ?_
                exact ihk (face + 1) (qtP cu_er (4 * face) (P)) (qtM cu_er cu_fg 2 (4 * face) (msM num 2 12 (M)))  _ (by omega) (up1_ih hNX) bP9 (qtM_lt cu_er cu_fg (4 * face) (by decide) bM1)
              ·
                refine gw_aload_n C 2 dX2_learn_63 rfl rfl ?_
                refine gw_iload C 0 dX2_learn_64 rfl ?_
                refine gw_callVV (n := 1) (wr := [(na, .inl (cI, 12288, .inl (fun j => nI (NX j)))), (ft, .inr (2, [iN (0), iN (2048), .ref (na)]))]) C (c_quarterE (kl K) (kD K) cI cB cS cJ cF cG tt pp z.1 z.2 (qtP cu_er (4 * face) (P)) (qtM cu_er cu_fg 2 (4 * face) (msM num 2 12 (M))) face (by omega) (qtM_lt cu_er cu_fg (4 * face) (by decide) bM1)) 0 rfl rfl rfl gX2_learn_X7_quarter rfl (by decide +kernel) dX2_learn_66 (by rw [hkR]; decide) (by rw [hkR]; decide) [2, 3, 4] [0, 1] rfl rfl rfl rfl (by decide) rfl (Nat.le_of_ble_eq_true rfl) rfl (fun v3 hv3 => ?_)
                subst hv3
                refine gw_aload_n C 3 dX2_learn_69 rfl rfl ?_
                refine gw_get C 1 2 in_X2_learn_X3 dX2_learn_70 lk_X2_learn_37 rfl rfl (by decide) rfl rfl ?_
                refine gw_bipush C 6 dX2_learn_73 (by decide) ?_
                refine gw_iload_n C 1 dX2_learn_75 rfl rfl ?_
                refine gw_imul C dX2_learn_76 ?_
                refine gw_iload C 0 dX2_learn_77 rfl ?_
                refine gw_iadd C dX2_learn_79 ?_
                refine gw_aload_n C 3 dX2_learn_80 rfl rfl ?_
                refine gw_aload_n C 2 dX2_learn_81 rfl rfl ?_
                have bP9 : ∀ j, j < 12 → (qtP cu_er (4 * face) (qtP cu_er (4 * face) (P))) j < 12 := qtP_lt cu_er (4 * face) cu_er_12 (qtP_lt cu_er (4 * face) cu_er_12 bP1)
                refine gw_callAI (n := 1) (wr := [(na, .inl (cI, 12288, .inl (fun j => nI (NX j))))]) C (c_marksRead (kl K) (kD K) cI cB cS cJ cF cG tt ft 0 2048 (.ref na) pp z.1 z.2 (tt 1) (tt 3) 12 2 (qtP cu_er (4 * face) (qtP cu_er (4 * face) (P))) (qtM cu_er cu_fg 2 (4 * face) (qtM cu_er cu_fg 2 (4 * face) (msM num 2 12 (M)))) (by decide) (by decide)) 0 rfl rfl rfl gX2_learn_X3_read_u28X3 rfl C.2.2.2.1.2.2.2.2.2.2.2.1 (by decide +kernel) dX2_learn_82 (by rw [hkR]; decide) (by rw [hrc, hrs]; decide) [1, 2, 3, 4] [0] rfl rfl rfl rfl (by decide) rfl (Nat.le_of_ble_eq_true rfl) rfl (fun rv9 v9 hv9 => ?_)
                subst hv9
                rw [j2 h72]
                refine gw_istN C (ws2 := [(na, .inl (cI, 12288, .inl (fun j => nI ((up1 NX (((6) * (num)) + (face)) (nxv (6 * num + face))) j)))), (ft, .inr (2, [iN (0), iN (2048), .ref (na)])), (pp, .inr (5, [iN (12), iN (2), .ref (z.1), .ref (z.2), .ref (tt 1), .ref (tt 3)])), (z.1, .inl (cI, 12, .inl (fun j => nI ((qtP cu_er (4 * face) (qtP cu_er (4 * face) (P))) j)))), (z.2, .inl (cI, 12, .inl (fun j => nI ((qtM cu_er cu_fg 2 (4 * face) (qtM cu_er cu_fg 2 (4 * face) (msM num 2 12 (M)))) j))))]) 0 0 dX2_learn_85 rfl rfl (by first | decide | omega) (by omega) rfl ?_
                refine gw_iinc C (v := nI (face + 1)) (lv2 := [(4, iN (face + 1)), (3, iN (num)), (2, .ref (pp)), (0, .ref (ft)), (1, iN (6))]) 0 dX2_learn_86 rfl (nI_add _ _) (by omega) rfl ?_
                refine gw_goto C 38 dX2_learn_89 (by decide) ?_
                refine gw_lv (lv2 := [(4, iN (face + 1)), (3, iN (num)), (2, .ref (pp)), (0, .ref (ft)), (1, iN (6))]) [0, 1, 2, 3, 4] rfl ?_
                exact ihk (face + 1) (qtP cu_er (4 * face) (qtP cu_er (4 * face) (P))) (qtM cu_er cu_fg 2 (4 * face) (qtM cu_er cu_fg 2 (4 * face) (msM num 2 12 (M))))  _ (by omega) (up1_ih hNX) bP9 (qtM_lt cu_er cu_fg (4 * face) (by decide) (qtM_lt cu_er cu_fg (4 * face) (by decide) bM1))
        refine gw_lv (lv2 := [(4, iN (0)), (3, iN (num)), (2, .ref (pp)), (0, .ref (ft)), (1, iN (6))]) [0, 1, 2, 3, 4] rfl ?_
        exact lpF 6 0 P M NX rfl (fun q hq => hNX q (by omega)) hP hM
  refine gw_lv (lv2 := [(3, iN 0), (2, .ref pp), (0, .ref ft), (1, iN 6)]) [0, 1, 2, 3] rfl ?_
  exact lpN 2048 0 _ _  _ (by omega) (fun q hq => absurd hq (by omega)) (by decide) (by decide)
set_option maxHeartbeats 4000000 in
set_option maxRecDepth 100000 in
theorem c_rf_mc (l : Launch) (D : va_G) (cI cB cS cJ cF cG : ClassId) (tt : Nat → Nat) (ft : Nat) (ca : Nat → Nat) (cp co ep eo : Nat → Nat) (nx : Value) : gw_CI (S := Unit) l yX2_readFrom wsX2_readFrom 2 52 0 0 D (mo_ty cI cB cS cJ cF cG) (zs tt) ([(ft, .inr (2, [iN (1), iN (2187), nx]))] ++ cb_ws cI tt ca cp co ep eo) [.ref ft, .ref (ca 0)] (fun r _ => r = nI (mr_ 3 (co) (8 - 1))) (fun _ => [(ft, .inr (2, [iN (1), iN (2187), nx]))] ++ cb_ws cI tt ca cp co ep eo) := by
  refine gw_CI.of (cc := cX2_readFrom) (maxL := 2) (rt := .int) (zs_ok tt) (by decide) rfl (Nat.le_of_ble_eq_true rfl) ?_
  intro K C hkl hkn hkR hkD hmn ret
  have C : gw_x K cX2_readFrom RX2 wsX2_readFrom (mo_ty cI cB cS cJ cF cG) (zs tt) := C
  subst hkl hkD
  have hrc : (kR K).cells = 0 := by rw [hkR]
  have hrs : (kR K).slots = 0 := by rw [hkR]
  refine gw_aload_n C 0 dX2_readFrom_0 rfl rfl ?_
  refine gw_aload_n C 0 dX2_readFrom_1 rfl rfl ?_
  refine gw_get C 0 0 in_X2_readFrom_X3 dX2_readFrom_2 lk_X2_readFrom_9 rfl rfl (by decide) rfl rfl ?_
  refine gw_if_eq C 15 dX2_readFrom_5 (by decide) (by omega) (fun h73 => ?_) (fun h73 => ?_)
  · first | exact absurd h73 (by decide) | exact absurd (by decide) h73
  refine gw_aload_n C 1 dX2_readFrom_8 rfl rfl ?_
  refine gw_get C 1 0 in_X2_readFrom_X1 dX2_readFrom_9 lk_X2_readFrom_19 rfl rfl (by decide) rfl rfl ?_
  refine gw_goto C 19 dX2_readFrom_12 (by decide) ?_
  refine gw_callAI (n := 1) (wr := [(ca 0, .inr (1, [.ref (ca 1), .ref (ca 4)])), (ca 4, .inr (5, [iN (12), iN (2), .ref (ca 5), .ref (ca 6), .ref (tt 1), .ref (tt 3)])), (ca 5, .inl (cI, 12, .inl (fun j => nI (ep j)))), (ca 6, .inl (cI, 12, .inl (fun j => nI (eo j))))]) C (c_marksRead (kl K) (kD K) cI cB cS cJ cF cG tt ft 1 2187 (nx) (ca 1) (ca 2) (ca 3) (tt 0) (tt 2) 8 3 (cp) (co) (by decide) (by decide)) 0 rfl rfl rfl gX2_readFrom_X3_read_u28X3 rfl C.2.2.2.1.2.2.2.2.2.2.2.1 (by decide +kernel) dX2_readFrom_19 (by rw [hkR]; decide) (by rw [hrc, hrs]; decide) [0, 2, 3, 4] [1, 5, 6, 7] rfl rfl rfl rfl (by decide) rfl (Nat.le_of_ble_eq_true rfl) rfl (fun rz z hz => ?_)
  subst hz
  refine gw_perm (ws2 := [(ft, .inr (2, [iN (1), iN (2187), nx]))] ++ cb_ws cI tt ca cp co ep eo) [4, 0, 5, 6, 7, 1, 2, 3] rfl (by decide) trivial ?_
  exact ret () dX2_readFrom_22 rfl rfl rfl (Nat.le_refl 0) (Nat.le_refl 0)
set_option maxHeartbeats 4000000 in
set_option maxRecDepth 100000 in
theorem c_ln_mc (l : Launch) (D : va_G) (cI cB cS cJ cF cG : ClassId) (tt : Nat → Nat) (ft : Nat) (nxv : Nat → Nat) (hi1 : ∀ (num face : Nat) (P M : Nat → Nat), num < 2187 → face < 6 → (∀ j, j < 8 → P j < 8) → (∀ j, j < 8 → M j < 3) → face < 4 → mr_ 3 (qtM cu_cr cu_tg 3 (4 * face) (msM num 3 8 (M))) (8 - 1) = nxv (6 * num + face)) (hi2 : ∀ (num face : Nat) (P M : Nat → Nat), num < 2187 → face < 6 → (∀ j, j < 8 → P j < 8) → (∀ j, j < 8 → M j < 3) → 4 ≤ face → mr_ 3 (qtM cu_cr cu_tg 3 (4 * face) (qtM cu_cr cu_tg 3 (4 * face) (msM num 3 8 (M)))) (8 - 1) = nxv (6 * num + face)) : gw_CV (S := Nat) l yX2_learn wsX2_learn 2 52 4 13144 D (mo_ty cI cB cS cJ cF cG) (zs tt) ([(ft, .inr (2, [iN (1), iN (2187), .null]))]) [.ref ft, iN 4] (fun _ => True) (fun u => [(ft, .inr (2, [iN (1), iN (2187), .ref (u)])), (u, .inl (cI, 13122, .inl (fun j => nI (nxv j))))]) := by
  refine gw_CV.of (cc := cX2_learn) (maxL := 5) (zs_ok tt) (by decide) rfl (Nat.le_of_ble_eq_true rfl) ?_
  intro K C hkl hkn hkR hkD hmn ret
  have C : gw_x K cX2_learn RX2 wsX2_learn (mo_ty cI cB cS cJ cF cG) (zs tt) := C
  subst hkl hkD
  have hrc : (kR K).cells = 4 := by rw [hkR]
  have hrs : (kR K).slots = 13144 := by rw [hkR]
  refine gw_new C (ci := 5) (fs := [.int (0), .int (0), .null, .null, .null, .null]) tyX7 tyX7_ok in_X2_learn_X7 dX2_learn_0 (by decide +kernel) (by decide +kernel) (by decide +kernel) rfl (fun j hj => by rcases (show j = 0 ∨ j = 1 ∨ j = 2 ∨ j = 3 ∨ j = 4 ∨ j = 5 by omega) with h | h | h | h | h | h <;> subst h <;> rfl) (by omega) (by omega) (fun pp => ?_)
  refine gw_ws (ws2 := [(ft, .inr (2, [iN (1), iN (2187), .null])), (pp, .inr (5, [.int (0), .int (0), .null, .null, .null, .null]))]) rfl ?_
  refine gw_dup C dX2_learn_3 rfl ?_
  refine gw_aload_n C 0 dX2_learn_4 rfl rfl ?_
  refine gw_get C 0 0 in_X2_learn_X3 dX2_learn_5 lk_X2_learn_9 rfl rfl (by decide) rfl rfl ?_
  refine gw_callIV (n := 1) (wr := [(ft, .inr (2, [iN (1), iN (2187), .null]))]) C (c_pinitC (kl K) (kD K) cI cB cS cJ cF cG (zs tt) (zs_ok tt) pp (tt 0) (tt 2) (fun _ _ _ h => h.1.1) (fun _ _ _ h => h.2.2.1.1)) gX2_learn_X7_init rfl (by decide +kernel) (by decide +kernel) (by decide +kernel) rfl (by decide +kernel) dX2_learn_8 (by rw [hkR]; decide) (by rw [hrc, hrs]; decide) [1] [0] rfl rfl rfl rfl (by decide) rfl (Nat.le_of_ble_eq_true rfl) rfl (fun z hz => ?_)
  refine gw_ws (ws2 := [(ft, .inr (2, [iN (1), iN (2187), .null])), (pp, .inr (5, [iN (8), iN (3), .ref (z.1), .ref (z.2), .ref (tt 0), .ref (tt 2)])), (z.1, .inl (cI, 8, .inl (fun j => nI ((rs_P (fun _ => 0) 8) j)))), (z.2, .inl (cI, 8, .inl (fun j => nI ((rs_M (fun _ => 0) 8) j))))]) rfl ?_
  refine gw_astore_n C (lv2 := [(2, .ref (pp)), (0, .ref (ft)), (1, iN (4))]) dX2_learn_11 rfl (by omega) rfl ?_
  refine gw_aload_n C 1 dX2_learn_12 rfl rfl ?_
  refine gw_bipush C 6 dX2_learn_13 (by decide) ?_
  refine gw_aload_n C 1 dX2_learn_15 rfl rfl ?_
  refine gw_get C 0 1 in_X2_learn_X3 dX2_learn_16 lk_X2_learn_15 rfl rfl (by decide) rfl rfl ?_
  refine gw_imul C dX2_learn_19 ?_
  refine gw_newa C 0 dX2_learn_20 rfl (by decide +kernel) rfl (fun _ _ h => h) (a0 := (13122, .inl (fun _ => 0))) (fun _ => rfl) (by decide) (by decide) (by omega) (by omega) (fun na => ?_)
  refine gw_ws (ws2 := [(ft, .inr (2, [iN (1), iN (2187), .null])), (pp, .inr (5, [iN (8), iN (3), .ref (z.1), .ref (z.2), .ref (tt 0), .ref (tt 2)])), (z.1, .inl (cI, 8, .inl (fun j => nI ((rs_P (fun _ => 0) 8) j)))), (z.2, .inl (cI, 8, .inl (fun j => nI ((rs_M (fun _ => 0) 8) j)))), (na, .inl (cI, 13122, .inl (fun j => nI (((fun _ => 0)) j))))]) rfl ?_
  refine gw_put C (ty := (.array .int)) (ws2 := [(ft, .inr (2, [iN (1), iN (2187), .ref (na)])), (pp, .inr (5, [iN (8), iN (3), .ref (z.1), .ref (z.2), .ref (tt 0), .ref (tt 2)])), (z.1, .inl (cI, 8, .inl (fun j => nI ((rs_P (fun _ => 0) 8) j)))), (z.2, .inl (cI, 8, .inl (fun j => nI ((rs_M (fun _ => 0) 8) j)))), (na, .inl (cI, 13122, .inl (fun j => nI (((fun _ => 0)) j))))]) 0 2 tyX3 tyX3_ok nmX3 in_X2_learn_X3 dX2_learn_22 lk_X2_learn_37 rfl rfl (by decide) rfl rfl (by decide +kernel) rfl rfl (Nat.le_of_ble_eq_true rfl) rfl ?_
  refine gw_iconst C 0 dX2_learn_25 (by decide) ?_
  refine gw_istore_n C (lv2 := [(3, iN (0)), (2, .ref (pp)), (0, .ref (ft)), (1, iN (4))]) dX2_learn_26 rfl (by omega) rfl ?_
  refine gw_perm (ws2 := [(na, .inl (cI, 13122, .inl (fun j => nI ((fun _ => 0) j)))), (ft, .inr (2, [iN (1), iN (2187), .ref (na)])), (pp, .inr (5, [iN (8), iN (3), .ref (z.1), .ref (z.2), .ref (tt 0), .ref (tt 2)])), (z.1, .inl (cI, 8, .inl (fun j => nI ((rs_P (fun _ => 0) 8) j)))), (z.2, .inl (cI, 8, .inl (fun j => nI ((rs_M (fun _ => 0) 8) j))))]) [4, 0, 1, 2, 3] rfl (by decide) trivial ?_
  have lpN : ∀ (n num : Nat) (P M NX : Nat → Nat), num + n = 2187 → (∀ q, q < 6 * num → NX q = nxv q) → (∀ j, j < 8 → P j < 8) → (∀ j, j < 8 → M j < 3) → gw_G K ([(na, .inl (cI, 13122, .inl (fun j => nI (NX j)))), (ft, .inr (2, [iN (1), iN (2187), .ref (na)])), (pp, .inr (5, [iN (8), iN (3), .ref (z.1), .ref (z.2), .ref (tt 0), .ref (tt 2)])), (z.1, .inl (cI, 8, .inl (fun j => nI (P j)))), (z.2, .inl (cI, 8, .inl (fun j => nI (M j))))]) 4 13144 27 [(3, iN num), (2, .ref pp), (0, .ref ft), (1, iN 4)] [] := by
    intro n
    induction n with
    | zero =>
      intro num P M NX hi hNX hP hM
      refine gw_iload_n C 0 dX2_learn_27 rfl rfl ?_
      refine gw_aload_n C 2 dX2_learn_28 rfl rfl ?_
      refine gw_get C 1 1 in_X2_learn_X3 dX2_learn_29 lk_X2_learn_15 rfl rfl (by decide) rfl rfl ?_
      refine gw_icmp_ge C 98 dX2_learn_32 (by decide) (by omega) (by omega) (fun h74 => ?_) (fun h74 => ?_)
      ·
        have e : (fun j => nI (NX j)) = fun j => nI (NX j) := rfl
        refine gw_iext (f2 := nxv) 0 rfl (fun j hj => by rw [hNX j (by omega)]) ?_
        refine gw_perm (ws2 := [(ft, .inr (2, [iN (1), iN (2187), .ref (na)])), (na, .inl (cI, 13122, .inl (fun j => nI (nxv j))))]) [1, 0] rfl (by decide) trivial ?_
        exact ret na dX2_learn_98 trivial rfl (by decide) (by decide)
      ·
        exact absurd h74 (by omega)
    | succ n ih =>
      intro num P M NX hi hNX hP hM
      refine gw_iload_n C 0 dX2_learn_27 rfl rfl ?_
      refine gw_aload_n C 2 dX2_learn_28 rfl rfl ?_
      refine gw_get C 1 1 in_X2_learn_X3 dX2_learn_29 lk_X2_learn_15 rfl rfl (by decide) rfl rfl ?_
      refine gw_icmp_ge C 98 dX2_learn_32 (by decide) (by omega) (by omega) (fun h75 => ?_) (fun h75 => ?_)
      ·
        exact absurd h75 (by omega)
      ·
        refine gw_iconst C 0 dX2_learn_35 (by decide) ?_
        refine gw_istore C (lv2 := [(4, iN (0)), (3, iN (num)), (2, .ref (pp)), (0, .ref (ft)), (1, iN (4))]) dX2_learn_36 (by omega) rfl ?_
        have lpF : ∀ (k face : Nat) (P M NX : Nat → Nat), face + k = 6 → (∀ q, q < 6 * num + face → NX q = nxv q) → (∀ j, j < 8 → P j < 8) → (∀ j, j < 8 → M j < 3) → gw_G K ([(na, .inl (cI, 13122, .inl (fun j => nI (NX j)))), (ft, .inr (2, [iN (1), iN (2187), .ref (na)])), (pp, .inr (5, [iN (8), iN (3), .ref (z.1), .ref (z.2), .ref (tt 0), .ref (tt 2)])), (z.1, .inl (cI, 8, .inl (fun j => nI (P j)))), (z.2, .inl (cI, 8, .inl (fun j => nI (M j))))]) 4 13144 38 [(4, iN face), (3, iN num), (2, .ref pp), (0, .ref ft), (1, iN 4)] [] := by
          intro k
          induction k with
          | zero =>
            intro face P M NX hj hNX hP hM
            refine gw_iload C 0 dX2_learn_38 rfl ?_
            refine gw_bipush C 6 dX2_learn_40 (by decide) ?_
            refine gw_icmp_ge C 92 dX2_learn_42 (by decide) (by omega) (by omega) (fun h76 => ?_) (fun h76 => ?_)
            ·
              refine gw_iinc C (v := nI (num + 1)) (lv2 := [(3, iN (num + 1)), (4, iN (face)), (2, .ref (pp)), (0, .ref (ft)), (1, iN (4))]) 1 dX2_learn_92 rfl (nI_add _ _) (by omega) rfl ?_
              refine gw_goto C 27 dX2_learn_95 (by decide) ?_
              refine gw_lv (lv2 := [(3, iN (num + 1)), (2, .ref (pp)), (0, .ref (ft)), (1, iN (4))]) [0, 2, 3, 4] rfl ?_
              exact ih (num + 1) P M NX (by omega) (fun q hq => hNX q (by omega)) hP hM
            ·
              exact absurd h76 (by omega)
          | succ k ihk =>
            intro face P M NX hj hNX hP hM
            refine gw_iload C 0 dX2_learn_38 rfl ?_
            refine gw_bipush C 6 dX2_learn_40 (by decide) ?_
            refine gw_icmp_ge C 92 dX2_learn_42 (by decide) (by omega) (by omega) (fun h77 => ?_) (fun h77 => ?_)
            ·
              exact absurd h77 (by omega)
            ·
              refine gw_aload_n C 3 dX2_learn_45 rfl rfl ?_
              refine gw_iload_n C 1 dX2_learn_46 rfl rfl ?_
              refine gw_aload_n C 2 dX2_learn_47 rfl rfl ?_
              refine gw_callAV (n := 2) (wr := [(na, .inl (cI, 13122, .inl (fun j => nI (NX j))))]) C (c_marksShow (kl K) (kD K) cI cB cS cJ cF cG tt ft 1 2187 (.ref na) pp z.1 z.2 (tt 0) (tt 2) 8 3 (P) (M) num (by omega) (by decide) (by decide) (by decide) (by decide)) 0 rfl rfl rfl gX2_learn_X3_show_u41X3 rfl C.2.2.2.1.2.2.2.2.2.2.2.2.1 (by decide +kernel) dX2_learn_48 (by rw [hkR]; decide) (by rw [hrc, hrs]; decide) [1, 2, 3, 4] [0] rfl rfl rfl rfl (by decide) rfl (Nat.le_of_ble_eq_true rfl) rfl (fun v hv => ?_)
              have bM1 := (msM_lt num 8 (by decide) hM)
              have bP1 : ∀ j, j < 8 → (P) j < 8 := hP
              have j1 := hi1 num face P M (by omega) (by omega) hP hM
              have j2 := hi2 num face P M (by omega) (by omega) hP hM
              refine gw_aload_n C 2 dX2_learn_51 rfl rfl ?_
              refine gw_iload C 0 dX2_learn_52 rfl ?_
              refine gw_callVV (n := 1) (wr := [(na, .inl (cI, 13122, .inl (fun j => nI (NX j)))), (ft, .inr (2, [iN (1), iN (2187), .ref (na)]))]) C (c_quarterC (kl K) (kD K) cI cB cS cJ cF cG tt pp z.1 z.2 (P) (msM num 3 8 (M)) face (by omega) bM1) 0 rfl rfl rfl gX2_learn_X7_quarter rfl (by decide +kernel) dX2_learn_54 (by rw [hkR]; decide) (by rw [hkR]; decide) [2, 3, 4] [0, 1] rfl rfl rfl rfl (by decide) rfl (Nat.le_of_ble_eq_true rfl) rfl (fun v2 hv2 => ?_)
              subst hv2
              refine gw_iload C 0 dX2_learn_57 rfl ?_
              refine gw_iload_n C 4 dX2_learn_59 rfl rfl ?_
              refine gw_icmp_lt C 69 dX2_learn_60 (by decide) (by omega) (by omega) (fun h78 => ?_) (fun h78 => ?_)
              ·
                refine gw_aload_n C 3 dX2_learn_69 rfl rfl ?_
                refine gw_get C 1 2 in_X2_learn_X3 dX2_learn_70 lk_X2_learn_37 rfl rfl (by decide) rfl rfl ?_
                refine gw_bipush C 6 dX2_learn_73 (by decide) ?_
                refine gw_iload_n C 1 dX2_learn_75 rfl rfl ?_
                refine gw_imul C dX2_learn_76 ?_
                refine gw_iload C 0 dX2_learn_77 rfl ?_
                refine gw_iadd C dX2_learn_79 ?_
                refine gw_aload_n C 3 dX2_learn_80 rfl rfl ?_
                refine gw_aload_n C 2 dX2_learn_81 rfl rfl ?_
                have bP9 : ∀ j, j < 8 → (qtP cu_cr (4 * face) (P)) j < 8 := qtP_lt cu_cr (4 * face) cu_cr_8 bP1
                refine gw_callAI (n := 1) (wr := [(na, .inl (cI, 13122, .inl (fun j => nI (NX j))))]) C (c_marksRead (kl K) (kD K) cI cB cS cJ cF cG tt ft 1 2187 (.ref na) pp z.1 z.2 (tt 0) (tt 2) 8 3 (qtP cu_cr (4 * face) (P)) (qtM cu_cr cu_tg 3 (4 * face) (msM num 3 8 (M))) (by decide) (by decide)) 0 rfl rfl rfl gX2_learn_X3_read_u28X3 rfl C.2.2.2.1.2.2.2.2.2.2.2.1 (by decide +kernel) dX2_learn_82 (by rw [hkR]; decide) (by rw [hrc, hrs]; decide) [1, 2, 3, 4] [0] rfl rfl rfl rfl (by decide) rfl (Nat.le_of_ble_eq_true rfl) rfl (fun rv9 v9 hv9 => ?_)
                subst hv9
                rw [j1 h78]
                refine gw_istN C (ws2 := [(na, .inl (cI, 13122, .inl (fun j => nI ((up1 NX (((6) * (num)) + (face)) (nxv (6 * num + face))) j)))), (ft, .inr (2, [iN (1), iN (2187), .ref (na)])), (pp, .inr (5, [iN (8), iN (3), .ref (z.1), .ref (z.2), .ref (tt 0), .ref (tt 2)])), (z.1, .inl (cI, 8, .inl (fun j => nI ((qtP cu_cr (4 * face) (P)) j)))), (z.2, .inl (cI, 8, .inl (fun j => nI ((qtM cu_cr cu_tg 3 (4 * face) (msM num 3 8 (M))) j))))]) 0 0 dX2_learn_85 rfl rfl (by first | decide | omega) (by omega) rfl ?_
                refine gw_iinc C (v := nI (face + 1)) (lv2 := [(4, iN (face + 1)), (3, iN (num)), (2, .ref (pp)), (0, .ref (ft)), (1, iN (4))]) 0 dX2_learn_86 rfl (nI_add _ _) (by omega) rfl ?_
                refine gw_goto C 38 dX2_learn_89 (by decide) ?_
                refine gw_lv (lv2 := [(4, iN (face + 1)), (3, iN (num)), (2, .ref (pp)), (0, .ref (ft)), (1, iN (4))]) [0, 1, 2, 3, 4] rfl ?_
                exact ihk (face + 1) (qtP cu_cr (4 * face) (P)) (qtM cu_cr cu_tg 3 (4 * face) (msM num 3 8 (M)))  _ (by omega) (up1_ih hNX) bP9 (qtM_lt cu_cr cu_tg (4 * face) (by decide) bM1)
              ·
                refine gw_aload_n C 2 dX2_learn_63 rfl rfl ?_
                refine gw_iload C 0 dX2_learn_64 rfl ?_
                refine gw_callVV (n := 1) (wr := [(na, .inl (cI, 13122, .inl (fun j => nI (NX j)))), (ft, .inr (2, [iN (1), iN (2187), .ref (na)]))]) C (c_quarterC (kl K) (kD K) cI cB cS cJ cF cG tt pp z.1 z.2 (qtP cu_cr (4 * face) (P)) (qtM cu_cr cu_tg 3 (4 * face) (msM num 3 8 (M))) face (by omega) (qtM_lt cu_cr cu_tg (4 * face) (by decide) bM1)) 0 rfl rfl rfl gX2_learn_X7_quarter rfl (by decide +kernel) dX2_learn_66 (by rw [hkR]; decide) (by rw [hkR]; decide) [2, 3, 4] [0, 1] rfl rfl rfl rfl (by decide) rfl (Nat.le_of_ble_eq_true rfl) rfl (fun v3 hv3 => ?_)
                subst hv3
                refine gw_aload_n C 3 dX2_learn_69 rfl rfl ?_
                refine gw_get C 1 2 in_X2_learn_X3 dX2_learn_70 lk_X2_learn_37 rfl rfl (by decide) rfl rfl ?_
                refine gw_bipush C 6 dX2_learn_73 (by decide) ?_
                refine gw_iload_n C 1 dX2_learn_75 rfl rfl ?_
                refine gw_imul C dX2_learn_76 ?_
                refine gw_iload C 0 dX2_learn_77 rfl ?_
                refine gw_iadd C dX2_learn_79 ?_
                refine gw_aload_n C 3 dX2_learn_80 rfl rfl ?_
                refine gw_aload_n C 2 dX2_learn_81 rfl rfl ?_
                have bP9 : ∀ j, j < 8 → (qtP cu_cr (4 * face) (qtP cu_cr (4 * face) (P))) j < 8 := qtP_lt cu_cr (4 * face) cu_cr_8 (qtP_lt cu_cr (4 * face) cu_cr_8 bP1)
                refine gw_callAI (n := 1) (wr := [(na, .inl (cI, 13122, .inl (fun j => nI (NX j))))]) C (c_marksRead (kl K) (kD K) cI cB cS cJ cF cG tt ft 1 2187 (.ref na) pp z.1 z.2 (tt 0) (tt 2) 8 3 (qtP cu_cr (4 * face) (qtP cu_cr (4 * face) (P))) (qtM cu_cr cu_tg 3 (4 * face) (qtM cu_cr cu_tg 3 (4 * face) (msM num 3 8 (M)))) (by decide) (by decide)) 0 rfl rfl rfl gX2_learn_X3_read_u28X3 rfl C.2.2.2.1.2.2.2.2.2.2.2.1 (by decide +kernel) dX2_learn_82 (by rw [hkR]; decide) (by rw [hrc, hrs]; decide) [1, 2, 3, 4] [0] rfl rfl rfl rfl (by decide) rfl (Nat.le_of_ble_eq_true rfl) rfl (fun rv9 v9 hv9 => ?_)
                subst hv9
                rw [j2 h78]
                refine gw_istN C (ws2 := [(na, .inl (cI, 13122, .inl (fun j => nI ((up1 NX (((6) * (num)) + (face)) (nxv (6 * num + face))) j)))), (ft, .inr (2, [iN (1), iN (2187), .ref (na)])), (pp, .inr (5, [iN (8), iN (3), .ref (z.1), .ref (z.2), .ref (tt 0), .ref (tt 2)])), (z.1, .inl (cI, 8, .inl (fun j => nI ((qtP cu_cr (4 * face) (qtP cu_cr (4 * face) (P))) j)))), (z.2, .inl (cI, 8, .inl (fun j => nI ((qtM cu_cr cu_tg 3 (4 * face) (qtM cu_cr cu_tg 3 (4 * face) (msM num 3 8 (M)))) j))))]) 0 0 dX2_learn_85 rfl rfl (by first | decide | omega) (by omega) rfl ?_
                refine gw_iinc C (v := nI (face + 1)) (lv2 := [(4, iN (face + 1)), (3, iN (num)), (2, .ref (pp)), (0, .ref (ft)), (1, iN (4))]) 0 dX2_learn_86 rfl (nI_add _ _) (by omega) rfl ?_
                refine gw_goto C 38 dX2_learn_89 (by decide) ?_
                refine gw_lv (lv2 := [(4, iN (face + 1)), (3, iN (num)), (2, .ref (pp)), (0, .ref (ft)), (1, iN (4))]) [0, 1, 2, 3, 4] rfl ?_
                exact ihk (face + 1) (qtP cu_cr (4 * face) (qtP cu_cr (4 * face) (P))) (qtM cu_cr cu_tg 3 (4 * face) (qtM cu_cr cu_tg 3 (4 * face) (msM num 3 8 (M))))  _ (by omega) (up1_ih hNX) bP9 (qtM_lt cu_cr cu_tg (4 * face) (by decide) (qtM_lt cu_cr cu_tg (4 * face) (by decide) bM1))
        refine gw_lv (lv2 := [(4, iN (0)), (3, iN (num)), (2, .ref (pp)), (0, .ref (ft)), (1, iN (4))]) [0, 1, 2, 3, 4] rfl ?_
        exact lpF 6 0 P M NX rfl (fun q hq => hNX q (by omega)) hP hM
  refine gw_lv (lv2 := [(3, iN 0), (2, .ref pp), (0, .ref ft), (1, iN 4)]) [0, 1, 2, 3] rfl ?_
  exact lpN 2187 0 _ _  _ (by omega) (fun q hq => absurd hq (by omega)) (by decide) (by decide)
set_option maxHeartbeats 4000000 in
set_option maxRecDepth 100000 in
theorem c_rf_pl12 (l : Launch) (D : va_G) (cI cB cS cJ cF cG : ClassId) (tt : Nat → Nat) (ft : Nat) (ca : Nat → Nat) (cp co ep eo : Nat → Nat) (nx : Value) (hP : ∀ j, j < 12 → ep j < 12) : gw_CI (S := Unit) l yX2_readFrom wsX2_readFrom 2 52 0 0 D (mo_ty cI cB cS cJ cF cG) (zs tt) ([(ft, .inr (6, [iN (0), iN (495), nx, iN (2), iN (12)]))] ++ cb_ws cI tt ca cp co ep eo) [.ref ft, .ref (ca 0)] (fun r _ => r = nI ((cu_os (pl_s (ep) 2 12 12) 12).1)) (fun _ => [(ft, .inr (6, [iN (0), iN (495), nx, iN (2), iN (12)]))] ++ cb_ws cI tt ca cp co ep eo) := by
  refine gw_CI.of (cc := cX2_readFrom) (maxL := 2) (rt := .int) (zs_ok tt) (by decide) rfl (Nat.le_of_ble_eq_true rfl) ?_
  intro K C hkl hkn hkR hkD hmn ret
  have C : gw_x K cX2_readFrom RX2 wsX2_readFrom (mo_ty cI cB cS cJ cF cG) (zs tt) := C
  subst hkl hkD
  have hrc : (kR K).cells = 0 := by rw [hkR]
  have hrs : (kR K).slots = 0 := by rw [hkR]
  refine gw_aload_n C 0 dX2_readFrom_0 rfl rfl ?_
  refine gw_aload_n C 0 dX2_readFrom_1 rfl rfl ?_
  refine gw_get C 0 0 in_X2_readFrom_X8 dX2_readFrom_2 lk_X2_readFrom_9 rfl rfl (by decide) rfl rfl ?_
  refine gw_if_eq C 15 dX2_readFrom_5 (by decide) (by omega) (fun h79 => ?_) (fun h79 => ?_)
  rotate_left
  · first | exact absurd (by decide) h79 | exact absurd h79 (by decide)
  refine gw_aload_n C 1 dX2_readFrom_15 rfl rfl ?_
  refine gw_get C 1 1 in_X2_readFrom_X1 dX2_readFrom_16 lk_X2_readFrom_25 rfl rfl (by decide) rfl rfl ?_
  refine gw_callAI (n := 1) (wr := [(ca 0, .inr (1, [.ref (ca 1), .ref (ca 4)])), (ca 1, .inr (5, [iN (8), iN (3), .ref (ca 2), .ref (ca 3), .ref (tt 0), .ref (tt 2)])), (ca 2, .inl (cI, 8, .inl (fun j => nI (cp j)))), (ca 3, .inl (cI, 8, .inl (fun j => nI (co j))))]) C (c_placesRead (kl K) (kD K) cI cB cS cJ cF cG tt ft 0 495 (nx) (ca 4) (ca 5) (ca 6) (tt 1) (tt 3) 12 2 (ep) (eo) 2 12 (by decide) (by decide) (by decide) rfl hP) 0 rfl rfl rfl gX2_readFrom_X8_read_u28X8 rfl C.2.2.2.1.2.2.2.2.2.2.2.1 (by decide +kernel) dX2_readFrom_19 (by rw [hkR]; decide) (by rw [hrc, hrs]; decide) [0, 5, 6, 7] [1, 2, 3, 4] rfl rfl rfl rfl (by decide) rfl (Nat.le_of_ble_eq_true rfl) rfl (fun rz z hz => ?_)
  subst hz
  refine gw_perm (ws2 := [(ft, .inr (6, [iN (0), iN (495), nx, iN (2), iN (12)]))] ++ cb_ws cI tt ca cp co ep eo) [4, 0, 1, 2, 3, 5, 6, 7] rfl (by decide) trivial ?_
  exact ret () dX2_readFrom_22 rfl rfl rfl (Nat.le_refl 0) (Nat.le_refl 0)
set_option maxHeartbeats 4000000 in
set_option maxRecDepth 100000 in
theorem c_ln_pl12 (l : Launch) (D : va_G) (cI cB cS cJ cF cG : ClassId) (tt : Nat → Nat) (ft : Nat) (nxv : Nat → Nat) (hi1 : ∀ (num face : Nat) (P M : Nat → Nat), num < 495 → face < 6 → (∀ j, j < 12 → P j < 12) → (∀ j, j < 12 → M j < 2) → face < 4 → (cu_os (pl_s (qtP cu_er (4 * face) (ps_P (cu_ts num 12 12).1 2 12 (P) 12)) 2 12 12) 12).1 = nxv (6 * num + face)) (hi2 : ∀ (num face : Nat) (P M : Nat → Nat), num < 495 → face < 6 → (∀ j, j < 12 → P j < 12) → (∀ j, j < 12 → M j < 2) → 4 ≤ face → (cu_os (pl_s (qtP cu_er (4 * face) (qtP cu_er (4 * face) (ps_P (cu_ts num 12 12).1 2 12 (P) 12))) 2 12 12) 12).1 = nxv (6 * num + face)) : gw_CV (S := Nat) l yX2_learn wsX2_learn 2 52 4 3000 D (mo_ty cI cB cS cJ cF cG) (zs tt) ([(ft, .inr (6, [iN (0), iN (495), .null, iN (2), iN (12)]))]) [.ref ft, iN 4] (fun _ => True) (fun u => [(ft, .inr (6, [iN (0), iN (495), .ref (u), iN (2), iN (12)])), (u, .inl (cI, 2970, .inl (fun j => nI (nxv j))))]) := by
  refine gw_CV.of (cc := cX2_learn) (maxL := 5) (zs_ok tt) (by decide) rfl (Nat.le_of_ble_eq_true rfl) ?_
  intro K C hkl hkn hkR hkD hmn ret
  have C : gw_x K cX2_learn RX2 wsX2_learn (mo_ty cI cB cS cJ cF cG) (zs tt) := C
  subst hkl hkD
  have hrc : (kR K).cells = 4 := by rw [hkR]
  have hrs : (kR K).slots = 3000 := by rw [hkR]
  refine gw_new C (ci := 5) (fs := [.int (0), .int (0), .null, .null, .null, .null]) tyX7 tyX7_ok in_X2_learn_X7 dX2_learn_0 (by decide +kernel) (by decide +kernel) (by decide +kernel) rfl (fun j hj => by rcases (show j = 0 ∨ j = 1 ∨ j = 2 ∨ j = 3 ∨ j = 4 ∨ j = 5 by omega) with h | h | h | h | h | h <;> subst h <;> rfl) (by omega) (by omega) (fun pp => ?_)
  refine gw_ws (ws2 := [(ft, .inr (6, [iN (0), iN (495), .null, iN (2), iN (12)])), (pp, .inr (5, [.int (0), .int (0), .null, .null, .null, .null]))]) rfl ?_
  refine gw_dup C dX2_learn_3 rfl ?_
  refine gw_aload_n C 0 dX2_learn_4 rfl rfl ?_
  refine gw_get C 0 0 in_X2_learn_X8 dX2_learn_5 lk_X2_learn_9 rfl rfl (by decide) rfl rfl ?_
  refine gw_callIV (n := 1) (wr := [(ft, .inr (6, [iN (0), iN (495), .null, iN (2), iN (12)]))]) C (c_pinitE (kl K) (kD K) cI cB cS cJ cF cG (zs tt) (zs_ok tt) pp (tt 1) (tt 3) (fun _ _ _ h => h.2.1.1) (fun _ _ _ h => h.2.2.2.1.1)) gX2_learn_X7_init rfl (by decide +kernel) (by decide +kernel) (by decide +kernel) rfl (by decide +kernel) dX2_learn_8 (by rw [hkR]; decide) (by rw [hrc, hrs]; decide) [1] [0] rfl rfl rfl rfl (by decide) rfl (Nat.le_of_ble_eq_true rfl) rfl (fun z hz => ?_)
  refine gw_ws (ws2 := [(ft, .inr (6, [iN (0), iN (495), .null, iN (2), iN (12)])), (pp, .inr (5, [iN (12), iN (2), .ref (z.1), .ref (z.2), .ref (tt 1), .ref (tt 3)])), (z.1, .inl (cI, 12, .inl (fun j => nI ((rs_P (fun _ => 0) 12) j)))), (z.2, .inl (cI, 12, .inl (fun j => nI ((rs_M (fun _ => 0) 12) j))))]) rfl ?_
  refine gw_astore_n C (lv2 := [(2, .ref (pp)), (0, .ref (ft)), (1, iN (4))]) dX2_learn_11 rfl (by omega) rfl ?_
  refine gw_aload_n C 1 dX2_learn_12 rfl rfl ?_
  refine gw_bipush C 6 dX2_learn_13 (by decide) ?_
  refine gw_aload_n C 1 dX2_learn_15 rfl rfl ?_
  refine gw_get C 0 1 in_X2_learn_X8 dX2_learn_16 lk_X2_learn_15 rfl rfl (by decide) rfl rfl ?_
  refine gw_imul C dX2_learn_19 ?_
  refine gw_newa C 0 dX2_learn_20 rfl (by decide +kernel) rfl (fun _ _ h => h) (a0 := (2970, .inl (fun _ => 0))) (fun _ => rfl) (by decide) (by decide) (by omega) (by omega) (fun na => ?_)
  refine gw_ws (ws2 := [(ft, .inr (6, [iN (0), iN (495), .null, iN (2), iN (12)])), (pp, .inr (5, [iN (12), iN (2), .ref (z.1), .ref (z.2), .ref (tt 1), .ref (tt 3)])), (z.1, .inl (cI, 12, .inl (fun j => nI ((rs_P (fun _ => 0) 12) j)))), (z.2, .inl (cI, 12, .inl (fun j => nI ((rs_M (fun _ => 0) 12) j)))), (na, .inl (cI, 2970, .inl (fun j => nI (((fun _ => 0)) j))))]) rfl ?_
  refine gw_put C (ty := (.array .int)) (ws2 := [(ft, .inr (6, [iN (0), iN (495), .ref (na), iN (2), iN (12)])), (pp, .inr (5, [iN (12), iN (2), .ref (z.1), .ref (z.2), .ref (tt 1), .ref (tt 3)])), (z.1, .inl (cI, 12, .inl (fun j => nI ((rs_P (fun _ => 0) 12) j)))), (z.2, .inl (cI, 12, .inl (fun j => nI ((rs_M (fun _ => 0) 12) j)))), (na, .inl (cI, 2970, .inl (fun j => nI (((fun _ => 0)) j))))]) 0 2 tyX8 tyX8_ok nmX8 in_X2_learn_X8 dX2_learn_22 lk_X2_learn_37 rfl rfl (by decide) rfl rfl (by decide +kernel) rfl rfl (Nat.le_of_ble_eq_true rfl) rfl ?_
  refine gw_iconst C 0 dX2_learn_25 (by decide) ?_
  refine gw_istore_n C (lv2 := [(3, iN (0)), (2, .ref (pp)), (0, .ref (ft)), (1, iN (4))]) dX2_learn_26 rfl (by omega) rfl ?_
  refine gw_perm (ws2 := [(na, .inl (cI, 2970, .inl (fun j => nI ((fun _ => 0) j)))), (ft, .inr (6, [iN (0), iN (495), .ref (na), iN (2), iN (12)])), (pp, .inr (5, [iN (12), iN (2), .ref (z.1), .ref (z.2), .ref (tt 1), .ref (tt 3)])), (z.1, .inl (cI, 12, .inl (fun j => nI ((rs_P (fun _ => 0) 12) j)))), (z.2, .inl (cI, 12, .inl (fun j => nI ((rs_M (fun _ => 0) 12) j))))]) [4, 0, 1, 2, 3] rfl (by decide) trivial ?_
  have lpN : ∀ (n num : Nat) (P M NX : Nat → Nat), num + n = 495 → (∀ q, q < 6 * num → NX q = nxv q) → (∀ j, j < 12 → P j < 12) → (∀ j, j < 12 → M j < 2) → gw_G K ([(na, .inl (cI, 2970, .inl (fun j => nI (NX j)))), (ft, .inr (6, [iN (0), iN (495), .ref (na), iN (2), iN (12)])), (pp, .inr (5, [iN (12), iN (2), .ref (z.1), .ref (z.2), .ref (tt 1), .ref (tt 3)])), (z.1, .inl (cI, 12, .inl (fun j => nI (P j)))), (z.2, .inl (cI, 12, .inl (fun j => nI (M j))))]) 4 3000 27 [(3, iN num), (2, .ref pp), (0, .ref ft), (1, iN 4)] [] := by
    intro n
    induction n with
    | zero =>
      intro num P M NX hi hNX hP hM
      refine gw_iload_n C 0 dX2_learn_27 rfl rfl ?_
      refine gw_aload_n C 2 dX2_learn_28 rfl rfl ?_
      refine gw_get C 1 1 in_X2_learn_X8 dX2_learn_29 lk_X2_learn_15 rfl rfl (by decide) rfl rfl ?_
      refine gw_icmp_ge C 98 dX2_learn_32 (by decide) (by omega) (by omega) (fun h80 => ?_) (fun h80 => ?_)
      ·
        have e : (fun j => nI (NX j)) = fun j => nI (NX j) := rfl
        refine gw_iext (f2 := nxv) 0 rfl (fun j hj => by rw [hNX j (by omega)]) ?_
        refine gw_perm (ws2 := [(ft, .inr (6, [iN (0), iN (495), .ref (na), iN (2), iN (12)])), (na, .inl (cI, 2970, .inl (fun j => nI (nxv j))))]) [1, 0] rfl (by decide) trivial ?_
        exact ret na dX2_learn_98 trivial rfl (by decide) (by decide)
      ·
        exact absurd h80 (by omega)
    | succ n ih =>
      intro num P M NX hi hNX hP hM
      refine gw_iload_n C 0 dX2_learn_27 rfl rfl ?_
      refine gw_aload_n C 2 dX2_learn_28 rfl rfl ?_
      refine gw_get C 1 1 in_X2_learn_X8 dX2_learn_29 lk_X2_learn_15 rfl rfl (by decide) rfl rfl ?_
      refine gw_icmp_ge C 98 dX2_learn_32 (by decide) (by omega) (by omega) (fun h81 => ?_) (fun h81 => ?_)
      ·
        exact absurd h81 (by omega)
      ·
        refine gw_iconst C 0 dX2_learn_35 (by decide) ?_
        refine gw_istore C (lv2 := [(4, iN (0)), (3, iN (num)), (2, .ref (pp)), (0, .ref (ft)), (1, iN (4))]) dX2_learn_36 (by omega) rfl ?_
        have lpF : ∀ (k face : Nat) (P M NX : Nat → Nat), face + k = 6 → (∀ q, q < 6 * num + face → NX q = nxv q) → (∀ j, j < 12 → P j < 12) → (∀ j, j < 12 → M j < 2) → gw_G K ([(na, .inl (cI, 2970, .inl (fun j => nI (NX j)))), (ft, .inr (6, [iN (0), iN (495), .ref (na), iN (2), iN (12)])), (pp, .inr (5, [iN (12), iN (2), .ref (z.1), .ref (z.2), .ref (tt 1), .ref (tt 3)])), (z.1, .inl (cI, 12, .inl (fun j => nI (P j)))), (z.2, .inl (cI, 12, .inl (fun j => nI (M j))))]) 4 3000 38 [(4, iN face), (3, iN num), (2, .ref pp), (0, .ref ft), (1, iN 4)] [] := by
          intro k
          induction k with
          | zero =>
            intro face P M NX hj hNX hP hM
            refine gw_iload C 0 dX2_learn_38 rfl ?_
            refine gw_bipush C 6 dX2_learn_40 (by decide) ?_
            refine gw_icmp_ge C 92 dX2_learn_42 (by decide) (by omega) (by omega) (fun h82 => ?_) (fun h82 => ?_)
            ·
              refine gw_iinc C (v := nI (num + 1)) (lv2 := [(3, iN (num + 1)), (4, iN (face)), (2, .ref (pp)), (0, .ref (ft)), (1, iN (4))]) 1 dX2_learn_92 rfl (nI_add _ _) (by omega) rfl ?_
              refine gw_goto C 27 dX2_learn_95 (by decide) ?_
              refine gw_lv (lv2 := [(3, iN (num + 1)), (2, .ref (pp)), (0, .ref (ft)), (1, iN (4))]) [0, 2, 3, 4] rfl ?_
              exact ih (num + 1) P M NX (by omega) (fun q hq => hNX q (by omega)) hP hM
            ·
              exact absurd h82 (by omega)
          | succ k ihk =>
            intro face P M NX hj hNX hP hM
            refine gw_iload C 0 dX2_learn_38 rfl ?_
            refine gw_bipush C 6 dX2_learn_40 (by decide) ?_
            refine gw_icmp_ge C 92 dX2_learn_42 (by decide) (by omega) (by omega) (fun h83 => ?_) (fun h83 => ?_)
            ·
              exact absurd h83 (by omega)
            ·
              refine gw_aload_n C 3 dX2_learn_45 rfl rfl ?_
              refine gw_iload_n C 1 dX2_learn_46 rfl rfl ?_
              refine gw_aload_n C 2 dX2_learn_47 rfl rfl ?_
              refine gw_callAV (n := 2) (wr := [(na, .inl (cI, 2970, .inl (fun j => nI (NX j))))]) C (c_placesShow (kl K) (kD K) cI cB cS cJ cF cG tt ft 0 495 (.ref na) pp z.1 z.2 (tt 1) (tt 3) 12 2 (P) (M) 2 12 num (by omega) (by decide) (by decide) (by decide) rfl) 0 rfl rfl rfl gX2_learn_X8_show_u41X8 rfl C.2.2.2.1.2.2.2.2.2.2.2.2.1 (by decide +kernel) dX2_learn_48 (by rw [hkR]; decide) (by rw [hrc, hrs]; decide) [1, 2, 3, 4] [0] rfl rfl rfl rfl (by decide) rfl (Nat.le_of_ble_eq_true rfl) rfl (fun v hv => ?_)
              have bM1 := hM
              have bP1 : ∀ j, j < 12 → (ps_P (cu_ts num 12 12).1 2 12 (P) 12) j < 12 := (ps_P_lt _ 2 12 (by decide) hP 12)
              have j1 := hi1 num face P M (by omega) (by omega) hP hM
              have j2 := hi2 num face P M (by omega) (by omega) hP hM
              refine gw_aload_n C 2 dX2_learn_51 rfl rfl ?_
              refine gw_iload C 0 dX2_learn_52 rfl ?_
              refine gw_callVV (n := 1) (wr := [(na, .inl (cI, 2970, .inl (fun j => nI (NX j)))), (ft, .inr (6, [iN (0), iN (495), .ref (na), iN (2), iN (12)]))]) C (c_quarterE (kl K) (kD K) cI cB cS cJ cF cG tt pp z.1 z.2 (ps_P (cu_ts num 12 12).1 2 12 (P) 12) (M) face (by omega) bM1) 0 rfl rfl rfl gX2_learn_X7_quarter rfl (by decide +kernel) dX2_learn_54 (by rw [hkR]; decide) (by rw [hkR]; decide) [2, 3, 4] [0, 1] rfl rfl rfl rfl (by decide) rfl (Nat.le_of_ble_eq_true rfl) rfl (fun v2 hv2 => ?_)
              subst hv2
              refine gw_iload C 0 dX2_learn_57 rfl ?_
              refine gw_iload_n C 4 dX2_learn_59 rfl rfl ?_
              refine gw_icmp_lt C 69 dX2_learn_60 (by decide) (by omega) (by omega) (fun h84 => ?_) (fun h84 => ?_)
              ·
                refine gw_aload_n C 3 dX2_learn_69 rfl rfl ?_
                refine gw_get C 1 2 in_X2_learn_X8 dX2_learn_70 lk_X2_learn_37 rfl rfl (by decide) rfl rfl ?_
                refine gw_bipush C 6 dX2_learn_73 (by decide) ?_
                refine gw_iload_n C 1 dX2_learn_75 rfl rfl ?_
                refine gw_imul C dX2_learn_76 ?_
                refine gw_iload C 0 dX2_learn_77 rfl ?_
                refine gw_iadd C dX2_learn_79 ?_
                refine gw_aload_n C 3 dX2_learn_80 rfl rfl ?_
                refine gw_aload_n C 2 dX2_learn_81 rfl rfl ?_
                have bP9 : ∀ j, j < 12 → (qtP cu_er (4 * face) (ps_P (cu_ts num 12 12).1 2 12 (P) 12)) j < 12 := qtP_lt cu_er (4 * face) cu_er_12 bP1
                refine gw_callAI (n := 1) (wr := [(na, .inl (cI, 2970, .inl (fun j => nI (NX j))))]) C (c_placesRead (kl K) (kD K) cI cB cS cJ cF cG tt ft 0 495 (.ref na) pp z.1 z.2 (tt 1) (tt 3) 12 2 (qtP cu_er (4 * face) (ps_P (cu_ts num 12 12).1 2 12 (P) 12)) (qtM cu_er cu_fg 2 (4 * face) (M)) 2 12 (by decide) (by decide) (by decide) rfl bP9) 0 rfl rfl rfl gX2_learn_X8_read_u28X8 rfl C.2.2.2.1.2.2.2.2.2.2.2.1 (by decide +kernel) dX2_learn_82 (by rw [hkR]; decide) (by rw [hrc, hrs]; decide) [1, 2, 3, 4] [0] rfl rfl rfl rfl (by decide) rfl (Nat.le_of_ble_eq_true rfl) rfl (fun rv9 v9 hv9 => ?_)
                subst hv9
                rw [j1 h84]
                refine gw_istN C (ws2 := [(na, .inl (cI, 2970, .inl (fun j => nI ((up1 NX (((6) * (num)) + (face)) (nxv (6 * num + face))) j)))), (ft, .inr (6, [iN (0), iN (495), .ref (na), iN (2), iN (12)])), (pp, .inr (5, [iN (12), iN (2), .ref (z.1), .ref (z.2), .ref (tt 1), .ref (tt 3)])), (z.1, .inl (cI, 12, .inl (fun j => nI ((qtP cu_er (4 * face) (ps_P (cu_ts num 12 12).1 2 12 (P) 12)) j)))), (z.2, .inl (cI, 12, .inl (fun j => nI ((qtM cu_er cu_fg 2 (4 * face) (M)) j))))]) 0 0 dX2_learn_85 rfl rfl (by first | decide | omega) (by omega) rfl ?_
                refine gw_iinc C (v := nI (face + 1)) (lv2 := [(4, iN (face + 1)), (3, iN (num)), (2, .ref (pp)), (0, .ref (ft)), (1, iN (4))]) 0 dX2_learn_86 rfl (nI_add _ _) (by omega) rfl ?_
                refine gw_goto C 38 dX2_learn_89 (by decide) ?_
                refine gw_lv (lv2 := [(4, iN (face + 1)), (3, iN (num)), (2, .ref (pp)), (0, .ref (ft)), (1, iN (4))]) [0, 1, 2, 3, 4] rfl ?_
                exact ihk (face + 1) (qtP cu_er (4 * face) (ps_P (cu_ts num 12 12).1 2 12 (P) 12)) (qtM cu_er cu_fg 2 (4 * face) (M))  _ (by omega) (up1_ih hNX) bP9 (qtM_lt cu_er cu_fg (4 * face) (by decide) bM1)
              ·
                refine gw_aload_n C 2 dX2_learn_63 rfl rfl ?_
                refine gw_iload C 0 dX2_learn_64 rfl ?_
                refine gw_callVV (n := 1) (wr := [(na, .inl (cI, 2970, .inl (fun j => nI (NX j)))), (ft, .inr (6, [iN (0), iN (495), .ref (na), iN (2), iN (12)]))]) C (c_quarterE (kl K) (kD K) cI cB cS cJ cF cG tt pp z.1 z.2 (qtP cu_er (4 * face) (ps_P (cu_ts num 12 12).1 2 12 (P) 12)) (qtM cu_er cu_fg 2 (4 * face) (M)) face (by omega) (qtM_lt cu_er cu_fg (4 * face) (by decide) bM1)) 0 rfl rfl rfl gX2_learn_X7_quarter rfl (by decide +kernel) dX2_learn_66 (by rw [hkR]; decide) (by rw [hkR]; decide) [2, 3, 4] [0, 1] rfl rfl rfl rfl (by decide) rfl (Nat.le_of_ble_eq_true rfl) rfl (fun v3 hv3 => ?_)
                subst hv3
                refine gw_aload_n C 3 dX2_learn_69 rfl rfl ?_
                refine gw_get C 1 2 in_X2_learn_X8 dX2_learn_70 lk_X2_learn_37 rfl rfl (by decide) rfl rfl ?_
                refine gw_bipush C 6 dX2_learn_73 (by decide) ?_
                refine gw_iload_n C 1 dX2_learn_75 rfl rfl ?_
                refine gw_imul C dX2_learn_76 ?_
                refine gw_iload C 0 dX2_learn_77 rfl ?_
                refine gw_iadd C dX2_learn_79 ?_
                refine gw_aload_n C 3 dX2_learn_80 rfl rfl ?_
                refine gw_aload_n C 2 dX2_learn_81 rfl rfl ?_
                have bP9 : ∀ j, j < 12 → (qtP cu_er (4 * face) (qtP cu_er (4 * face) (ps_P (cu_ts num 12 12).1 2 12 (P) 12))) j < 12 := qtP_lt cu_er (4 * face) cu_er_12 (qtP_lt cu_er (4 * face) cu_er_12 bP1)
                refine gw_callAI (n := 1) (wr := [(na, .inl (cI, 2970, .inl (fun j => nI (NX j))))]) C (c_placesRead (kl K) (kD K) cI cB cS cJ cF cG tt ft 0 495 (.ref na) pp z.1 z.2 (tt 1) (tt 3) 12 2 (qtP cu_er (4 * face) (qtP cu_er (4 * face) (ps_P (cu_ts num 12 12).1 2 12 (P) 12))) (qtM cu_er cu_fg 2 (4 * face) (qtM cu_er cu_fg 2 (4 * face) (M))) 2 12 (by decide) (by decide) (by decide) rfl bP9) 0 rfl rfl rfl gX2_learn_X8_read_u28X8 rfl C.2.2.2.1.2.2.2.2.2.2.2.1 (by decide +kernel) dX2_learn_82 (by rw [hkR]; decide) (by rw [hrc, hrs]; decide) [1, 2, 3, 4] [0] rfl rfl rfl rfl (by decide) rfl (Nat.le_of_ble_eq_true rfl) rfl (fun rv9 v9 hv9 => ?_)
                subst hv9
                rw [j2 h84]
                refine gw_istN C (ws2 := [(na, .inl (cI, 2970, .inl (fun j => nI ((up1 NX (((6) * (num)) + (face)) (nxv (6 * num + face))) j)))), (ft, .inr (6, [iN (0), iN (495), .ref (na), iN (2), iN (12)])), (pp, .inr (5, [iN (12), iN (2), .ref (z.1), .ref (z.2), .ref (tt 1), .ref (tt 3)])), (z.1, .inl (cI, 12, .inl (fun j => nI ((qtP cu_er (4 * face) (qtP cu_er (4 * face) (ps_P (cu_ts num 12 12).1 2 12 (P) 12))) j)))), (z.2, .inl (cI, 12, .inl (fun j => nI ((qtM cu_er cu_fg 2 (4 * face) (qtM cu_er cu_fg 2 (4 * face) (M))) j))))]) 0 0 dX2_learn_85 rfl rfl (by first | decide | omega) (by omega) rfl ?_
                refine gw_iinc C (v := nI (face + 1)) (lv2 := [(4, iN (face + 1)), (3, iN (num)), (2, .ref (pp)), (0, .ref (ft)), (1, iN (4))]) 0 dX2_learn_86 rfl (nI_add _ _) (by omega) rfl ?_
                refine gw_goto C 38 dX2_learn_89 (by decide) ?_
                refine gw_lv (lv2 := [(4, iN (face + 1)), (3, iN (num)), (2, .ref (pp)), (0, .ref (ft)), (1, iN (4))]) [0, 1, 2, 3, 4] rfl ?_
                exact ihk (face + 1) (qtP cu_er (4 * face) (qtP cu_er (4 * face) (ps_P (cu_ts num 12 12).1 2 12 (P) 12))) (qtM cu_er cu_fg 2 (4 * face) (qtM cu_er cu_fg 2 (4 * face) (M)))  _ (by omega) (up1_ih hNX) bP9 (qtM_lt cu_er cu_fg (4 * face) (by decide) (qtM_lt cu_er cu_fg (4 * face) (by decide) bM1))
        refine gw_lv (lv2 := [(4, iN (0)), (3, iN (num)), (2, .ref (pp)), (0, .ref (ft)), (1, iN (4))]) [0, 1, 2, 3, 4] rfl ?_
        exact lpF 6 0 P M NX rfl (fun q hq => hNX q (by omega)) hP hM
  refine gw_lv (lv2 := [(3, iN 0), (2, .ref pp), (0, .ref ft), (1, iN 4)]) [0, 1, 2, 3] rfl ?_
  exact lpN 495 0 _ _  _ (by omega) (fun q hq => absurd hq (by omega)) (by decide) (by decide)
set_option maxHeartbeats 4000000 in
set_option maxRecDepth 100000 in
theorem c_rf_pl8 (l : Launch) (D : va_G) (cI cB cS cJ cF cG : ClassId) (tt : Nat → Nat) (ft : Nat) (ca : Nat → Nat) (cp co ep eo : Nat → Nat) (nx : Value) (hP : ∀ j, j < 12 → ep j < 12) : gw_CI (S := Unit) l yX2_readFrom wsX2_readFrom 2 52 0 0 D (mo_ty cI cB cS cJ cF cG) (zs tt) ([(ft, .inr (6, [iN (0), iN (70), nx, iN (0), iN (8)]))] ++ cb_ws cI tt ca cp co ep eo) [.ref ft, .ref (ca 0)] (fun r _ => r = nI ((cu_os (pl_s (ep) 0 8 8) 8).1)) (fun _ => [(ft, .inr (6, [iN (0), iN (70), nx, iN (0), iN (8)]))] ++ cb_ws cI tt ca cp co ep eo) := by
  refine gw_CI.of (cc := cX2_readFrom) (maxL := 2) (rt := .int) (zs_ok tt) (by decide) rfl (Nat.le_of_ble_eq_true rfl) ?_
  intro K C hkl hkn hkR hkD hmn ret
  have C : gw_x K cX2_readFrom RX2 wsX2_readFrom (mo_ty cI cB cS cJ cF cG) (zs tt) := C
  subst hkl hkD
  have hrc : (kR K).cells = 0 := by rw [hkR]
  have hrs : (kR K).slots = 0 := by rw [hkR]
  refine gw_aload_n C 0 dX2_readFrom_0 rfl rfl ?_
  refine gw_aload_n C 0 dX2_readFrom_1 rfl rfl ?_
  refine gw_get C 0 0 in_X2_readFrom_X8 dX2_readFrom_2 lk_X2_readFrom_9 rfl rfl (by decide) rfl rfl ?_
  refine gw_if_eq C 15 dX2_readFrom_5 (by decide) (by omega) (fun h85 => ?_) (fun h85 => ?_)
  rotate_left
  · first | exact absurd (by decide) h85 | exact absurd h85 (by decide)
  refine gw_aload_n C 1 dX2_readFrom_15 rfl rfl ?_
  refine gw_get C 1 1 in_X2_readFrom_X1 dX2_readFrom_16 lk_X2_readFrom_25 rfl rfl (by decide) rfl rfl ?_
  refine gw_callAI (n := 1) (wr := [(ca 0, .inr (1, [.ref (ca 1), .ref (ca 4)])), (ca 1, .inr (5, [iN (8), iN (3), .ref (ca 2), .ref (ca 3), .ref (tt 0), .ref (tt 2)])), (ca 2, .inl (cI, 8, .inl (fun j => nI (cp j)))), (ca 3, .inl (cI, 8, .inl (fun j => nI (co j))))]) C (c_placesRead (kl K) (kD K) cI cB cS cJ cF cG tt ft 0 70 (nx) (ca 4) (ca 5) (ca 6) (tt 1) (tt 3) 12 2 (ep) (eo) 0 8 (by decide) (by decide) (by decide) rfl hP) 0 rfl rfl rfl gX2_readFrom_X8_read_u28X8 rfl C.2.2.2.1.2.2.2.2.2.2.2.1 (by decide +kernel) dX2_readFrom_19 (by rw [hkR]; decide) (by rw [hrc, hrs]; decide) [0, 5, 6, 7] [1, 2, 3, 4] rfl rfl rfl rfl (by decide) rfl (Nat.le_of_ble_eq_true rfl) rfl (fun rz z hz => ?_)
  subst hz
  refine gw_perm (ws2 := [(ft, .inr (6, [iN (0), iN (70), nx, iN (0), iN (8)]))] ++ cb_ws cI tt ca cp co ep eo) [4, 0, 1, 2, 3, 5, 6, 7] rfl (by decide) trivial ?_
  exact ret () dX2_readFrom_22 rfl rfl rfl (Nat.le_refl 0) (Nat.le_refl 0)
set_option maxHeartbeats 4000000 in
set_option maxRecDepth 100000 in
theorem c_ln_pl8 (l : Launch) (D : va_G) (cI cB cS cJ cF cG : ClassId) (tt : Nat → Nat) (ft : Nat) (nxv : Nat → Nat) (hi1 : ∀ (num face : Nat) (P M : Nat → Nat), num < 70 → face < 6 → (∀ j, j < 12 → P j < 12) → (∀ j, j < 12 → M j < 2) → face < 2 → (cu_os (pl_s (qtP cu_er (4 * face) (ps_P (cu_ts num 8 8).1 0 8 (P) 8)) 0 8 8) 8).1 = nxv (6 * num + face)) (hi2 : ∀ (num face : Nat) (P M : Nat → Nat), num < 70 → face < 6 → (∀ j, j < 12 → P j < 12) → (∀ j, j < 12 → M j < 2) → 2 ≤ face → (cu_os (pl_s (qtP cu_er (4 * face) (qtP cu_er (4 * face) (ps_P (cu_ts num 8 8).1 0 8 (P) 8))) 0 8 8) 8).1 = nxv (6 * num + face)) : gw_CV (S := Nat) l yX2_learn wsX2_learn 2 52 4 450 D (mo_ty cI cB cS cJ cF cG) (zs tt) ([(ft, .inr (6, [iN (0), iN (70), .null, iN (0), iN (8)]))]) [.ref ft, iN 2] (fun _ => True) (fun u => [(ft, .inr (6, [iN (0), iN (70), .ref (u), iN (0), iN (8)])), (u, .inl (cI, 420, .inl (fun j => nI (nxv j))))]) := by
  refine gw_CV.of (cc := cX2_learn) (maxL := 5) (zs_ok tt) (by decide) rfl (Nat.le_of_ble_eq_true rfl) ?_
  intro K C hkl hkn hkR hkD hmn ret
  have C : gw_x K cX2_learn RX2 wsX2_learn (mo_ty cI cB cS cJ cF cG) (zs tt) := C
  subst hkl hkD
  have hrc : (kR K).cells = 4 := by rw [hkR]
  have hrs : (kR K).slots = 450 := by rw [hkR]
  refine gw_new C (ci := 5) (fs := [.int (0), .int (0), .null, .null, .null, .null]) tyX7 tyX7_ok in_X2_learn_X7 dX2_learn_0 (by decide +kernel) (by decide +kernel) (by decide +kernel) rfl (fun j hj => by rcases (show j = 0 ∨ j = 1 ∨ j = 2 ∨ j = 3 ∨ j = 4 ∨ j = 5 by omega) with h | h | h | h | h | h <;> subst h <;> rfl) (by omega) (by omega) (fun pp => ?_)
  refine gw_ws (ws2 := [(ft, .inr (6, [iN (0), iN (70), .null, iN (0), iN (8)])), (pp, .inr (5, [.int (0), .int (0), .null, .null, .null, .null]))]) rfl ?_
  refine gw_dup C dX2_learn_3 rfl ?_
  refine gw_aload_n C 0 dX2_learn_4 rfl rfl ?_
  refine gw_get C 0 0 in_X2_learn_X8 dX2_learn_5 lk_X2_learn_9 rfl rfl (by decide) rfl rfl ?_
  refine gw_callIV (n := 1) (wr := [(ft, .inr (6, [iN (0), iN (70), .null, iN (0), iN (8)]))]) C (c_pinitE (kl K) (kD K) cI cB cS cJ cF cG (zs tt) (zs_ok tt) pp (tt 1) (tt 3) (fun _ _ _ h => h.2.1.1) (fun _ _ _ h => h.2.2.2.1.1)) gX2_learn_X7_init rfl (by decide +kernel) (by decide +kernel) (by decide +kernel) rfl (by decide +kernel) dX2_learn_8 (by rw [hkR]; decide) (by rw [hrc, hrs]; decide) [1] [0] rfl rfl rfl rfl (by decide) rfl (Nat.le_of_ble_eq_true rfl) rfl (fun z hz => ?_)
  refine gw_ws (ws2 := [(ft, .inr (6, [iN (0), iN (70), .null, iN (0), iN (8)])), (pp, .inr (5, [iN (12), iN (2), .ref (z.1), .ref (z.2), .ref (tt 1), .ref (tt 3)])), (z.1, .inl (cI, 12, .inl (fun j => nI ((rs_P (fun _ => 0) 12) j)))), (z.2, .inl (cI, 12, .inl (fun j => nI ((rs_M (fun _ => 0) 12) j))))]) rfl ?_
  refine gw_astore_n C (lv2 := [(2, .ref (pp)), (0, .ref (ft)), (1, iN (2))]) dX2_learn_11 rfl (by omega) rfl ?_
  refine gw_aload_n C 1 dX2_learn_12 rfl rfl ?_
  refine gw_bipush C 6 dX2_learn_13 (by decide) ?_
  refine gw_aload_n C 1 dX2_learn_15 rfl rfl ?_
  refine gw_get C 0 1 in_X2_learn_X8 dX2_learn_16 lk_X2_learn_15 rfl rfl (by decide) rfl rfl ?_
  refine gw_imul C dX2_learn_19 ?_
  refine gw_newa C 0 dX2_learn_20 rfl (by decide +kernel) rfl (fun _ _ h => h) (a0 := (420, .inl (fun _ => 0))) (fun _ => rfl) (by decide) (by decide) (by omega) (by omega) (fun na => ?_)
  refine gw_ws (ws2 := [(ft, .inr (6, [iN (0), iN (70), .null, iN (0), iN (8)])), (pp, .inr (5, [iN (12), iN (2), .ref (z.1), .ref (z.2), .ref (tt 1), .ref (tt 3)])), (z.1, .inl (cI, 12, .inl (fun j => nI ((rs_P (fun _ => 0) 12) j)))), (z.2, .inl (cI, 12, .inl (fun j => nI ((rs_M (fun _ => 0) 12) j)))), (na, .inl (cI, 420, .inl (fun j => nI (((fun _ => 0)) j))))]) rfl ?_
  refine gw_put C (ty := (.array .int)) (ws2 := [(ft, .inr (6, [iN (0), iN (70), .ref (na), iN (0), iN (8)])), (pp, .inr (5, [iN (12), iN (2), .ref (z.1), .ref (z.2), .ref (tt 1), .ref (tt 3)])), (z.1, .inl (cI, 12, .inl (fun j => nI ((rs_P (fun _ => 0) 12) j)))), (z.2, .inl (cI, 12, .inl (fun j => nI ((rs_M (fun _ => 0) 12) j)))), (na, .inl (cI, 420, .inl (fun j => nI (((fun _ => 0)) j))))]) 0 2 tyX8 tyX8_ok nmX8 in_X2_learn_X8 dX2_learn_22 lk_X2_learn_37 rfl rfl (by decide) rfl rfl (by decide +kernel) rfl rfl (Nat.le_of_ble_eq_true rfl) rfl ?_
  refine gw_iconst C 0 dX2_learn_25 (by decide) ?_
  refine gw_istore_n C (lv2 := [(3, iN (0)), (2, .ref (pp)), (0, .ref (ft)), (1, iN (2))]) dX2_learn_26 rfl (by omega) rfl ?_
  refine gw_perm (ws2 := [(na, .inl (cI, 420, .inl (fun j => nI ((fun _ => 0) j)))), (ft, .inr (6, [iN (0), iN (70), .ref (na), iN (0), iN (8)])), (pp, .inr (5, [iN (12), iN (2), .ref (z.1), .ref (z.2), .ref (tt 1), .ref (tt 3)])), (z.1, .inl (cI, 12, .inl (fun j => nI ((rs_P (fun _ => 0) 12) j)))), (z.2, .inl (cI, 12, .inl (fun j => nI ((rs_M (fun _ => 0) 12) j))))]) [4, 0, 1, 2, 3] rfl (by decide) trivial ?_
  have lpN : ∀ (n num : Nat) (P M NX : Nat → Nat), num + n = 70 → (∀ q, q < 6 * num → NX q = nxv q) → (∀ j, j < 12 → P j < 12) → (∀ j, j < 12 → M j < 2) → gw_G K ([(na, .inl (cI, 420, .inl (fun j => nI (NX j)))), (ft, .inr (6, [iN (0), iN (70), .ref (na), iN (0), iN (8)])), (pp, .inr (5, [iN (12), iN (2), .ref (z.1), .ref (z.2), .ref (tt 1), .ref (tt 3)])), (z.1, .inl (cI, 12, .inl (fun j => nI (P j)))), (z.2, .inl (cI, 12, .inl (fun j => nI (M j))))]) 4 450 27 [(3, iN num), (2, .ref pp), (0, .ref ft), (1, iN 2)] [] := by
    intro n
    induction n with
    | zero =>
      intro num P M NX hi hNX hP hM
      refine gw_iload_n C 0 dX2_learn_27 rfl rfl ?_
      refine gw_aload_n C 2 dX2_learn_28 rfl rfl ?_
      refine gw_get C 1 1 in_X2_learn_X8 dX2_learn_29 lk_X2_learn_15 rfl rfl (by decide) rfl rfl ?_
      refine gw_icmp_ge C 98 dX2_learn_32 (by decide) (by omega) (by omega) (fun h86 => ?_) (fun h86 => ?_)
      ·
        have e : (fun j => nI (NX j)) = fun j => nI (NX j) := rfl
        refine gw_iext (f2 := nxv) 0 rfl (fun j hj => by rw [hNX j (by omega)]) ?_
        refine gw_perm (ws2 := [(ft, .inr (6, [iN (0), iN (70), .ref (na), iN (0), iN (8)])), (na, .inl (cI, 420, .inl (fun j => nI (nxv j))))]) [1, 0] rfl (by decide) trivial ?_
        exact ret na dX2_learn_98 trivial rfl (by decide) (by decide)
      ·
        exact absurd h86 (by omega)
    | succ n ih =>
      intro num P M NX hi hNX hP hM
      refine gw_iload_n C 0 dX2_learn_27 rfl rfl ?_
      refine gw_aload_n C 2 dX2_learn_28 rfl rfl ?_
      refine gw_get C 1 1 in_X2_learn_X8 dX2_learn_29 lk_X2_learn_15 rfl rfl (by decide) rfl rfl ?_
      refine gw_icmp_ge C 98 dX2_learn_32 (by decide) (by omega) (by omega) (fun h87 => ?_) (fun h87 => ?_)
      ·
        exact absurd h87 (by omega)
      ·
        refine gw_iconst C 0 dX2_learn_35 (by decide) ?_
        refine gw_istore C (lv2 := [(4, iN (0)), (3, iN (num)), (2, .ref (pp)), (0, .ref (ft)), (1, iN (2))]) dX2_learn_36 (by omega) rfl ?_
        have lpF : ∀ (k face : Nat) (P M NX : Nat → Nat), face + k = 6 → (∀ q, q < 6 * num + face → NX q = nxv q) → (∀ j, j < 12 → P j < 12) → (∀ j, j < 12 → M j < 2) → gw_G K ([(na, .inl (cI, 420, .inl (fun j => nI (NX j)))), (ft, .inr (6, [iN (0), iN (70), .ref (na), iN (0), iN (8)])), (pp, .inr (5, [iN (12), iN (2), .ref (z.1), .ref (z.2), .ref (tt 1), .ref (tt 3)])), (z.1, .inl (cI, 12, .inl (fun j => nI (P j)))), (z.2, .inl (cI, 12, .inl (fun j => nI (M j))))]) 4 450 38 [(4, iN face), (3, iN num), (2, .ref pp), (0, .ref ft), (1, iN 2)] [] := by
          intro k
          induction k with
          | zero =>
            intro face P M NX hj hNX hP hM
            refine gw_iload C 0 dX2_learn_38 rfl ?_
            refine gw_bipush C 6 dX2_learn_40 (by decide) ?_
            refine gw_icmp_ge C 92 dX2_learn_42 (by decide) (by omega) (by omega) (fun h88 => ?_) (fun h88 => ?_)
            ·
              refine gw_iinc C (v := nI (num + 1)) (lv2 := [(3, iN (num + 1)), (4, iN (face)), (2, .ref (pp)), (0, .ref (ft)), (1, iN (2))]) 1 dX2_learn_92 rfl (nI_add _ _) (by omega) rfl ?_
              refine gw_goto C 27 dX2_learn_95 (by decide) ?_
              refine gw_lv (lv2 := [(3, iN (num + 1)), (2, .ref (pp)), (0, .ref (ft)), (1, iN (2))]) [0, 2, 3, 4] rfl ?_
              exact ih (num + 1) P M NX (by omega) (fun q hq => hNX q (by omega)) hP hM
            ·
              exact absurd h88 (by omega)
          | succ k ihk =>
            intro face P M NX hj hNX hP hM
            refine gw_iload C 0 dX2_learn_38 rfl ?_
            refine gw_bipush C 6 dX2_learn_40 (by decide) ?_
            refine gw_icmp_ge C 92 dX2_learn_42 (by decide) (by omega) (by omega) (fun h89 => ?_) (fun h89 => ?_)
            ·
              exact absurd h89 (by omega)
            ·
              refine gw_aload_n C 3 dX2_learn_45 rfl rfl ?_
              refine gw_iload_n C 1 dX2_learn_46 rfl rfl ?_
              refine gw_aload_n C 2 dX2_learn_47 rfl rfl ?_
              refine gw_callAV (n := 2) (wr := [(na, .inl (cI, 420, .inl (fun j => nI (NX j))))]) C (c_placesShow (kl K) (kD K) cI cB cS cJ cF cG tt ft 0 70 (.ref na) pp z.1 z.2 (tt 1) (tt 3) 12 2 (P) (M) 0 8 num (by omega) (by decide) (by decide) (by decide) rfl) 0 rfl rfl rfl gX2_learn_X8_show_u41X8 rfl C.2.2.2.1.2.2.2.2.2.2.2.2.1 (by decide +kernel) dX2_learn_48 (by rw [hkR]; decide) (by rw [hrc, hrs]; decide) [1, 2, 3, 4] [0] rfl rfl rfl rfl (by decide) rfl (Nat.le_of_ble_eq_true rfl) rfl (fun v hv => ?_)
              have bM1 := hM
              have bP1 : ∀ j, j < 12 → (ps_P (cu_ts num 8 8).1 0 8 (P) 8) j < 12 := (ps_P_lt _ 0 8 (by decide) hP 8)
              have j1 := hi1 num face P M (by omega) (by omega) hP hM
              have j2 := hi2 num face P M (by omega) (by omega) hP hM
              refine gw_aload_n C 2 dX2_learn_51 rfl rfl ?_
              refine gw_iload C 0 dX2_learn_52 rfl ?_
              refine gw_callVV (n := 1) (wr := [(na, .inl (cI, 420, .inl (fun j => nI (NX j)))), (ft, .inr (6, [iN (0), iN (70), .ref (na), iN (0), iN (8)]))]) C (c_quarterE (kl K) (kD K) cI cB cS cJ cF cG tt pp z.1 z.2 (ps_P (cu_ts num 8 8).1 0 8 (P) 8) (M) face (by omega) bM1) 0 rfl rfl rfl gX2_learn_X7_quarter rfl (by decide +kernel) dX2_learn_54 (by rw [hkR]; decide) (by rw [hkR]; decide) [2, 3, 4] [0, 1] rfl rfl rfl rfl (by decide) rfl (Nat.le_of_ble_eq_true rfl) rfl (fun v2 hv2 => ?_)
              subst hv2
              refine gw_iload C 0 dX2_learn_57 rfl ?_
              refine gw_iload_n C 4 dX2_learn_59 rfl rfl ?_
              refine gw_icmp_lt C 69 dX2_learn_60 (by decide) (by omega) (by omega) (fun h90 => ?_) (fun h90 => ?_)
              ·
                refine gw_aload_n C 3 dX2_learn_69 rfl rfl ?_
                refine gw_get C 1 2 in_X2_learn_X8 dX2_learn_70 lk_X2_learn_37 rfl rfl (by decide) rfl rfl ?_
                refine gw_bipush C 6 dX2_learn_73 (by decide) ?_
                refine gw_iload_n C 1 dX2_learn_75 rfl rfl ?_
                refine gw_imul C dX2_learn_76 ?_
                refine gw_iload C 0 dX2_learn_77 rfl ?_
                refine gw_iadd C dX2_learn_79 ?_
                refine gw_aload_n C 3 dX2_learn_80 rfl rfl ?_
                refine gw_aload_n C 2 dX2_learn_81 rfl rfl ?_
                have bP9 : ∀ j, j < 12 → (qtP cu_er (4 * face) (ps_P (cu_ts num 8 8).1 0 8 (P) 8)) j < 12 := qtP_lt cu_er (4 * face) cu_er_12 bP1
                refine gw_callAI (n := 1) (wr := [(na, .inl (cI, 420, .inl (fun j => nI (NX j))))]) C (c_placesRead (kl K) (kD K) cI cB cS cJ cF cG tt ft 0 70 (.ref na) pp z.1 z.2 (tt 1) (tt 3) 12 2 (qtP cu_er (4 * face) (ps_P (cu_ts num 8 8).1 0 8 (P) 8)) (qtM cu_er cu_fg 2 (4 * face) (M)) 0 8 (by decide) (by decide) (by decide) rfl bP9) 0 rfl rfl rfl gX2_learn_X8_read_u28X8 rfl C.2.2.2.1.2.2.2.2.2.2.2.1 (by decide +kernel) dX2_learn_82 (by rw [hkR]; decide) (by rw [hrc, hrs]; decide) [1, 2, 3, 4] [0] rfl rfl rfl rfl (by decide) rfl (Nat.le_of_ble_eq_true rfl) rfl (fun rv9 v9 hv9 => ?_)
                subst hv9
                rw [j1 h90]
                refine gw_istN C (ws2 := [(na, .inl (cI, 420, .inl (fun j => nI ((up1 NX (((6) * (num)) + (face)) (nxv (6 * num + face))) j)))), (ft, .inr (6, [iN (0), iN (70), .ref (na), iN (0), iN (8)])), (pp, .inr (5, [iN (12), iN (2), .ref (z.1), .ref (z.2), .ref (tt 1), .ref (tt 3)])), (z.1, .inl (cI, 12, .inl (fun j => nI ((qtP cu_er (4 * face) (ps_P (cu_ts num 8 8).1 0 8 (P) 8)) j)))), (z.2, .inl (cI, 12, .inl (fun j => nI ((qtM cu_er cu_fg 2 (4 * face) (M)) j))))]) 0 0 dX2_learn_85 rfl rfl (by first | decide | omega) (by omega) rfl ?_
                refine gw_iinc C (v := nI (face + 1)) (lv2 := [(4, iN (face + 1)), (3, iN (num)), (2, .ref (pp)), (0, .ref (ft)), (1, iN (2))]) 0 dX2_learn_86 rfl (nI_add _ _) (by omega) rfl ?_
                refine gw_goto C 38 dX2_learn_89 (by decide) ?_
                refine gw_lv (lv2 := [(4, iN (face + 1)), (3, iN (num)), (2, .ref (pp)), (0, .ref (ft)), (1, iN (2))]) [0, 1, 2, 3, 4] rfl ?_
                exact ihk (face + 1) (qtP cu_er (4 * face) (ps_P (cu_ts num 8 8).1 0 8 (P) 8)) (qtM cu_er cu_fg 2 (4 * face) (M))  _ (by omega) (up1_ih hNX) bP9 (qtM_lt cu_er cu_fg (4 * face) (by decide) bM1)
              ·
                refine gw_aload_n C 2 dX2_learn_63 rfl rfl ?_
                refine gw_iload C 0 dX2_learn_64 rfl ?_
                refine gw_callVV (n := 1) (wr := [(na, .inl (cI, 420, .inl (fun j => nI (NX j)))), (ft, .inr (6, [iN (0), iN (70), .ref (na), iN (0), iN (8)]))]) C (c_quarterE (kl K) (kD K) cI cB cS cJ cF cG tt pp z.1 z.2 (qtP cu_er (4 * face) (ps_P (cu_ts num 8 8).1 0 8 (P) 8)) (qtM cu_er cu_fg 2 (4 * face) (M)) face (by omega) (qtM_lt cu_er cu_fg (4 * face) (by decide) bM1)) 0 rfl rfl rfl gX2_learn_X7_quarter rfl (by decide +kernel) dX2_learn_66 (by rw [hkR]; decide) (by rw [hkR]; decide) [2, 3, 4] [0, 1] rfl rfl rfl rfl (by decide) rfl (Nat.le_of_ble_eq_true rfl) rfl (fun v3 hv3 => ?_)
                subst hv3
                refine gw_aload_n C 3 dX2_learn_69 rfl rfl ?_
                refine gw_get C 1 2 in_X2_learn_X8 dX2_learn_70 lk_X2_learn_37 rfl rfl (by decide) rfl rfl ?_
                refine gw_bipush C 6 dX2_learn_73 (by decide) ?_
                refine gw_iload_n C 1 dX2_learn_75 rfl rfl ?_
                refine gw_imul C dX2_learn_76 ?_
                refine gw_iload C 0 dX2_learn_77 rfl ?_
                refine gw_iadd C dX2_learn_79 ?_
                refine gw_aload_n C 3 dX2_learn_80 rfl rfl ?_
                refine gw_aload_n C 2 dX2_learn_81 rfl rfl ?_
                have bP9 : ∀ j, j < 12 → (qtP cu_er (4 * face) (qtP cu_er (4 * face) (ps_P (cu_ts num 8 8).1 0 8 (P) 8))) j < 12 := qtP_lt cu_er (4 * face) cu_er_12 (qtP_lt cu_er (4 * face) cu_er_12 bP1)
                refine gw_callAI (n := 1) (wr := [(na, .inl (cI, 420, .inl (fun j => nI (NX j))))]) C (c_placesRead (kl K) (kD K) cI cB cS cJ cF cG tt ft 0 70 (.ref na) pp z.1 z.2 (tt 1) (tt 3) 12 2 (qtP cu_er (4 * face) (qtP cu_er (4 * face) (ps_P (cu_ts num 8 8).1 0 8 (P) 8))) (qtM cu_er cu_fg 2 (4 * face) (qtM cu_er cu_fg 2 (4 * face) (M))) 0 8 (by decide) (by decide) (by decide) rfl bP9) 0 rfl rfl rfl gX2_learn_X8_read_u28X8 rfl C.2.2.2.1.2.2.2.2.2.2.2.1 (by decide +kernel) dX2_learn_82 (by rw [hkR]; decide) (by rw [hrc, hrs]; decide) [1, 2, 3, 4] [0] rfl rfl rfl rfl (by decide) rfl (Nat.le_of_ble_eq_true rfl) rfl (fun rv9 v9 hv9 => ?_)
                subst hv9
                rw [j2 h90]
                refine gw_istN C (ws2 := [(na, .inl (cI, 420, .inl (fun j => nI ((up1 NX (((6) * (num)) + (face)) (nxv (6 * num + face))) j)))), (ft, .inr (6, [iN (0), iN (70), .ref (na), iN (0), iN (8)])), (pp, .inr (5, [iN (12), iN (2), .ref (z.1), .ref (z.2), .ref (tt 1), .ref (tt 3)])), (z.1, .inl (cI, 12, .inl (fun j => nI ((qtP cu_er (4 * face) (qtP cu_er (4 * face) (ps_P (cu_ts num 8 8).1 0 8 (P) 8))) j)))), (z.2, .inl (cI, 12, .inl (fun j => nI ((qtM cu_er cu_fg 2 (4 * face) (qtM cu_er cu_fg 2 (4 * face) (M))) j))))]) 0 0 dX2_learn_85 rfl rfl (by first | decide | omega) (by omega) rfl ?_
                refine gw_iinc C (v := nI (face + 1)) (lv2 := [(4, iN (face + 1)), (3, iN (num)), (2, .ref (pp)), (0, .ref (ft)), (1, iN (2))]) 0 dX2_learn_86 rfl (nI_add _ _) (by omega) rfl ?_
                refine gw_goto C 38 dX2_learn_89 (by decide) ?_
                refine gw_lv (lv2 := [(4, iN (face + 1)), (3, iN (num)), (2, .ref (pp)), (0, .ref (ft)), (1, iN (2))]) [0, 1, 2, 3, 4] rfl ?_
                exact ihk (face + 1) (qtP cu_er (4 * face) (qtP cu_er (4 * face) (ps_P (cu_ts num 8 8).1 0 8 (P) 8))) (qtM cu_er cu_fg 2 (4 * face) (qtM cu_er cu_fg 2 (4 * face) (M)))  _ (by omega) (up1_ih hNX) bP9 (qtM_lt cu_er cu_fg (4 * face) (by decide) (qtM_lt cu_er cu_fg (4 * face) (by decide) bM1))
        refine gw_lv (lv2 := [(4, iN (0)), (3, iN (num)), (2, .ref (pp)), (0, .ref (ft)), (1, iN (2))]) [0, 1, 2, 3, 4] rfl ?_
        exact lpF 6 0 P M NX rfl (fun q hq => hNX q (by omega)) hP hM
  refine gw_lv (lv2 := [(3, iN 0), (2, .ref pp), (0, .ref ft), (1, iN 2)]) [0, 1, 2, 3] rfl ?_
  exact lpN 70 0 _ _  _ (by omega) (fun q hq => absurd hq (by omega)) (by decide) (by decide)
set_option maxHeartbeats 4000000 in
set_option maxRecDepth 100000 in
theorem c_rf_or0 (l : Launch) (D : va_G) (cI cB cS cJ cF cG : ClassId) (tt : Nat → Nat) (ft : Nat) (ca : Nat → Nat) (cp co ep eo : Nat → Nat) (nx : Value) (oa : Nat) (f : Nat → Nat) : gw_CI (S := Unit) l yX2_readFrom wsX2_readFrom 2 52 0 0 D (mo_ty cI cB cS cJ cF cG) (zs tt) ([(ft, .inr (3, [iN (0), iN (24), nx, iN (0), .ref (oa)])), (oa, .inl (cI, 4, .inl (fun j => nI (f j))))] ++ cb_ws cI tt ca cp co ep eo) [.ref ft, .ref (ca 0)] (fun r _ => r = nI (cu_oo ((ep) 0 &&& 3) ((ep) (0 + 1) &&& 3) ((ep) (0 + 2) &&& 3) ((ep) (0 + 3) &&& 3))) (fun _ => [(ft, .inr (3, [iN (0), iN (24), nx, iN (0), .ref (oa)])), (oa, .inl (cI, 4, .inl (fun j => nI (f j))))] ++ cb_ws cI tt ca cp co ep eo) := by
  refine gw_CI.of (cc := cX2_readFrom) (maxL := 2) (rt := .int) (zs_ok tt) (by decide) rfl (Nat.le_of_ble_eq_true rfl) ?_
  intro K C hkl hkn hkR hkD hmn ret
  have C : gw_x K cX2_readFrom RX2 wsX2_readFrom (mo_ty cI cB cS cJ cF cG) (zs tt) := C
  subst hkl hkD
  have hrc : (kR K).cells = 0 := by rw [hkR]
  have hrs : (kR K).slots = 0 := by rw [hkR]
  refine gw_aload_n C 0 dX2_readFrom_0 rfl rfl ?_
  refine gw_aload_n C 0 dX2_readFrom_1 rfl rfl ?_
  refine gw_get C 0 0 in_X2_readFrom_X5 dX2_readFrom_2 lk_X2_readFrom_9 rfl rfl (by decide) rfl rfl ?_
  refine gw_if_eq C 15 dX2_readFrom_5 (by decide) (by omega) (fun h91 => ?_) (fun h91 => ?_)
  rotate_left
  · first | exact absurd (by decide) h91 | exact absurd h91 (by decide)
  refine gw_aload_n C 1 dX2_readFrom_15 rfl rfl ?_
  refine gw_get C 2 1 in_X2_readFrom_X1 dX2_readFrom_16 lk_X2_readFrom_25 rfl rfl (by decide) rfl rfl ?_
  refine gw_callAI (n := 1) (wr := [(ca 0, .inr (1, [.ref (ca 1), .ref (ca 4)])), (ca 1, .inr (5, [iN (8), iN (3), .ref (ca 2), .ref (ca 3), .ref (tt 0), .ref (tt 2)])), (ca 2, .inl (cI, 8, .inl (fun j => nI (cp j)))), (ca 3, .inl (cI, 8, .inl (fun j => nI (co j))))]) C (c_ordersRead (kl K) (kD K) cI cB cS cJ cF cG tt ft 0 24 (nx) (ca 4) (ca 5) (ca 6) (tt 1) (tt 3) 12 2 (ep) (eo) 0 oa (f) (by decide) rfl) 0 rfl rfl rfl gX2_readFrom_X5_read_u28X5 rfl C.2.2.2.1.2.2.2.2.2.2.2.1 (by decide +kernel) dX2_readFrom_19 (by rw [hkR]; decide) (by rw [hrc, hrs]; decide) [0, 1, 6, 7, 8] [2, 3, 4, 5] rfl rfl rfl rfl (by decide) rfl (Nat.le_of_ble_eq_true rfl) rfl (fun rz z hz => ?_)
  subst hz
  refine gw_perm (ws2 := [(ft, .inr (3, [iN (0), iN (24), nx, iN (0), .ref (oa)])), (oa, .inl (cI, 4, .inl (fun j => nI (f j))))] ++ cb_ws cI tt ca cp co ep eo) [4, 5, 0, 1, 2, 3, 6, 7, 8] rfl (by decide) trivial ?_
  exact ret () dX2_readFrom_22 rfl rfl rfl (Nat.le_refl 0) (Nat.le_refl 0)
set_option maxHeartbeats 4000000 in
set_option maxRecDepth 100000 in
theorem c_ln_or0 (l : Launch) (D : va_G) (cI cB cS cJ cF cG : ClassId) (tt : Nat → Nat) (ft : Nat) (oa : Nat) (f : Nat → Nat) (nxv : Nat → Nat) (hi1 : ∀ (num face : Nat) (P M f : Nat → Nat), num < 24 → face < 6 → (∀ j, j < 12 → P j < 12) → (∀ j, j < 12 → M j < 2) → face < 0 → cu_oo ((qtP cu_er (4 * face) (or_P 0 (cu_to num (f)) (P) 4)) 0 &&& 3) ((qtP cu_er (4 * face) (or_P 0 (cu_to num (f)) (P) 4)) (0 + 1) &&& 3) ((qtP cu_er (4 * face) (or_P 0 (cu_to num (f)) (P) 4)) (0 + 2) &&& 3) ((qtP cu_er (4 * face) (or_P 0 (cu_to num (f)) (P) 4)) (0 + 3) &&& 3) = nxv (6 * num + face)) (hi2 : ∀ (num face : Nat) (P M f : Nat → Nat), num < 24 → face < 6 → (∀ j, j < 12 → P j < 12) → (∀ j, j < 12 → M j < 2) → 0 ≤ face → cu_oo ((qtP cu_er (4 * face) (qtP cu_er (4 * face) (or_P 0 (cu_to num (f)) (P) 4))) 0 &&& 3) ((qtP cu_er (4 * face) (qtP cu_er (4 * face) (or_P 0 (cu_to num (f)) (P) 4))) (0 + 1) &&& 3) ((qtP cu_er (4 * face) (qtP cu_er (4 * face) (or_P 0 (cu_to num (f)) (P) 4))) (0 + 2) &&& 3) ((qtP cu_er (4 * face) (qtP cu_er (4 * face) (or_P 0 (cu_to num (f)) (P) 4))) (0 + 3) &&& 3) = nxv (6 * num + face)) : gw_CV (S := Nat × (Nat → Nat)) l yX2_learn wsX2_learn 2 52 4 174 D (mo_ty cI cB cS cJ cF cG) (zs tt) ([(ft, .inr (3, [iN (0), iN (24), .null, iN (0), .ref (oa)])), (oa, .inl (cI, 4, .inl (fun j => nI (f j))))]) [.ref ft, iN 0] (fun _ => True) (fun u => [(ft, .inr (3, [iN (0), iN (24), .ref (u.1), iN (0), .ref (oa)])), (oa, .inl (cI, 4, .inl (fun j => nI ((u.2) j)))), (u.1, .inl (cI, 144, .inl (fun j => nI (nxv j))))]) := by
  refine gw_CV.of (cc := cX2_learn) (maxL := 5) (zs_ok tt) (by decide) rfl (Nat.le_of_ble_eq_true rfl) ?_
  intro K C hkl hkn hkR hkD hmn ret
  have C : gw_x K cX2_learn RX2 wsX2_learn (mo_ty cI cB cS cJ cF cG) (zs tt) := C
  subst hkl hkD
  have hrc : (kR K).cells = 4 := by rw [hkR]
  have hrs : (kR K).slots = 174 := by rw [hkR]
  refine gw_new C (ci := 5) (fs := [.int (0), .int (0), .null, .null, .null, .null]) tyX7 tyX7_ok in_X2_learn_X7 dX2_learn_0 (by decide +kernel) (by decide +kernel) (by decide +kernel) rfl (fun j hj => by rcases (show j = 0 ∨ j = 1 ∨ j = 2 ∨ j = 3 ∨ j = 4 ∨ j = 5 by omega) with h | h | h | h | h | h <;> subst h <;> rfl) (by omega) (by omega) (fun pp => ?_)
  refine gw_ws (ws2 := [(ft, .inr (3, [iN (0), iN (24), .null, iN (0), .ref (oa)])), (oa, .inl (cI, 4, .inl (fun j => nI (f j)))), (pp, .inr (5, [.int (0), .int (0), .null, .null, .null, .null]))]) rfl ?_
  refine gw_dup C dX2_learn_3 rfl ?_
  refine gw_aload_n C 0 dX2_learn_4 rfl rfl ?_
  refine gw_get C 0 0 in_X2_learn_X5 dX2_learn_5 lk_X2_learn_9 rfl rfl (by decide) rfl rfl ?_
  refine gw_callIV (n := 1) (wr := [(ft, .inr (3, [iN (0), iN (24), .null, iN (0), .ref (oa)])), (oa, .inl (cI, 4, .inl (fun j => nI (f j))))]) C (c_pinitE (kl K) (kD K) cI cB cS cJ cF cG (zs tt) (zs_ok tt) pp (tt 1) (tt 3) (fun _ _ _ h => h.2.1.1) (fun _ _ _ h => h.2.2.2.1.1)) gX2_learn_X7_init rfl (by decide +kernel) (by decide +kernel) (by decide +kernel) rfl (by decide +kernel) dX2_learn_8 (by rw [hkR]; decide) (by rw [hrc, hrs]; decide) [2] [0, 1] rfl rfl rfl rfl (by decide) rfl (Nat.le_of_ble_eq_true rfl) rfl (fun z hz => ?_)
  refine gw_ws (ws2 := [(ft, .inr (3, [iN (0), iN (24), .null, iN (0), .ref (oa)])), (oa, .inl (cI, 4, .inl (fun j => nI (f j)))), (pp, .inr (5, [iN (12), iN (2), .ref (z.1), .ref (z.2), .ref (tt 1), .ref (tt 3)])), (z.1, .inl (cI, 12, .inl (fun j => nI ((rs_P (fun _ => 0) 12) j)))), (z.2, .inl (cI, 12, .inl (fun j => nI ((rs_M (fun _ => 0) 12) j))))]) rfl ?_
  refine gw_astore_n C (lv2 := [(2, .ref (pp)), (0, .ref (ft)), (1, iN (0))]) dX2_learn_11 rfl (by omega) rfl ?_
  refine gw_aload_n C 1 dX2_learn_12 rfl rfl ?_
  refine gw_bipush C 6 dX2_learn_13 (by decide) ?_
  refine gw_aload_n C 1 dX2_learn_15 rfl rfl ?_
  refine gw_get C 0 1 in_X2_learn_X5 dX2_learn_16 lk_X2_learn_15 rfl rfl (by decide) rfl rfl ?_
  refine gw_imul C dX2_learn_19 ?_
  refine gw_newa C 0 dX2_learn_20 rfl (by decide +kernel) rfl (fun _ _ h => h) (a0 := (144, .inl (fun _ => 0))) (fun _ => rfl) (by decide) (by decide) (by omega) (by omega) (fun na => ?_)
  refine gw_ws (ws2 := [(ft, .inr (3, [iN (0), iN (24), .null, iN (0), .ref (oa)])), (oa, .inl (cI, 4, .inl (fun j => nI (f j)))), (pp, .inr (5, [iN (12), iN (2), .ref (z.1), .ref (z.2), .ref (tt 1), .ref (tt 3)])), (z.1, .inl (cI, 12, .inl (fun j => nI ((rs_P (fun _ => 0) 12) j)))), (z.2, .inl (cI, 12, .inl (fun j => nI ((rs_M (fun _ => 0) 12) j)))), (na, .inl (cI, 144, .inl (fun j => nI (((fun _ => 0)) j))))]) rfl ?_
  refine gw_put C (ty := (.array .int)) (ws2 := [(ft, .inr (3, [iN (0), iN (24), .ref (na), iN (0), .ref (oa)])), (oa, .inl (cI, 4, .inl (fun j => nI (f j)))), (pp, .inr (5, [iN (12), iN (2), .ref (z.1), .ref (z.2), .ref (tt 1), .ref (tt 3)])), (z.1, .inl (cI, 12, .inl (fun j => nI ((rs_P (fun _ => 0) 12) j)))), (z.2, .inl (cI, 12, .inl (fun j => nI ((rs_M (fun _ => 0) 12) j)))), (na, .inl (cI, 144, .inl (fun j => nI (((fun _ => 0)) j))))]) 0 2 tyX5 tyX5_ok nmX5 in_X2_learn_X5 dX2_learn_22 lk_X2_learn_37 rfl rfl (by decide) rfl rfl (by decide +kernel) rfl rfl (Nat.le_of_ble_eq_true rfl) rfl ?_
  refine gw_iconst C 0 dX2_learn_25 (by decide) ?_
  refine gw_istore_n C (lv2 := [(3, iN (0)), (2, .ref (pp)), (0, .ref (ft)), (1, iN (0))]) dX2_learn_26 rfl (by omega) rfl ?_
  refine gw_perm (ws2 := [(na, .inl (cI, 144, .inl (fun j => nI ((fun _ => 0) j)))), (ft, .inr (3, [iN (0), iN (24), .ref (na), iN (0), .ref (oa)])), (oa, .inl (cI, 4, .inl (fun j => nI (f j)))), (pp, .inr (5, [iN (12), iN (2), .ref (z.1), .ref (z.2), .ref (tt 1), .ref (tt 3)])), (z.1, .inl (cI, 12, .inl (fun j => nI ((rs_P (fun _ => 0) 12) j)))), (z.2, .inl (cI, 12, .inl (fun j => nI ((rs_M (fun _ => 0) 12) j))))]) [5, 0, 1, 2, 3, 4] rfl (by decide) trivial ?_
  have lpN : ∀ (n num : Nat) (P M f NX : Nat → Nat), num + n = 24 → (∀ q, q < 6 * num → NX q = nxv q) → (∀ j, j < 12 → P j < 12) → (∀ j, j < 12 → M j < 2) → gw_G K ([(na, .inl (cI, 144, .inl (fun j => nI (NX j)))), (ft, .inr (3, [iN (0), iN (24), .ref (na), iN (0), .ref (oa)])), (oa, .inl (cI, 4, .inl (fun j => nI (f j)))), (pp, .inr (5, [iN (12), iN (2), .ref (z.1), .ref (z.2), .ref (tt 1), .ref (tt 3)])), (z.1, .inl (cI, 12, .inl (fun j => nI (P j)))), (z.2, .inl (cI, 12, .inl (fun j => nI (M j))))]) 4 174 27 [(3, iN num), (2, .ref pp), (0, .ref ft), (1, iN 0)] [] := by
    intro n
    induction n with
    | zero =>
      intro num P M f NX hi hNX hP hM
      refine gw_iload_n C 0 dX2_learn_27 rfl rfl ?_
      refine gw_aload_n C 2 dX2_learn_28 rfl rfl ?_
      refine gw_get C 1 1 in_X2_learn_X5 dX2_learn_29 lk_X2_learn_15 rfl rfl (by decide) rfl rfl ?_
      refine gw_icmp_ge C 98 dX2_learn_32 (by decide) (by omega) (by omega) (fun h92 => ?_) (fun h92 => ?_)
      ·
        have e : (fun j => nI (NX j)) = fun j => nI (NX j) := rfl
        refine gw_iext (f2 := nxv) 0 rfl (fun j hj => by rw [hNX j (by omega)]) ?_
        refine gw_perm (ws2 := [(ft, .inr (3, [iN (0), iN (24), .ref (na), iN (0), .ref (oa)])), (oa, .inl (cI, 4, .inl (fun j => nI (f j)))), (na, .inl (cI, 144, .inl (fun j => nI (nxv j))))]) [1, 2, 0] rfl (by decide) trivial ?_
        exact ret (na, f) dX2_learn_98 trivial rfl (by decide) (by decide)
      ·
        exact absurd h92 (by omega)
    | succ n ih =>
      intro num P M f NX hi hNX hP hM
      refine gw_iload_n C 0 dX2_learn_27 rfl rfl ?_
      refine gw_aload_n C 2 dX2_learn_28 rfl rfl ?_
      refine gw_get C 1 1 in_X2_learn_X5 dX2_learn_29 lk_X2_learn_15 rfl rfl (by decide) rfl rfl ?_
      refine gw_icmp_ge C 98 dX2_learn_32 (by decide) (by omega) (by omega) (fun h93 => ?_) (fun h93 => ?_)
      ·
        exact absurd h93 (by omega)
      ·
        refine gw_iconst C 0 dX2_learn_35 (by decide) ?_
        refine gw_istore C (lv2 := [(4, iN (0)), (3, iN (num)), (2, .ref (pp)), (0, .ref (ft)), (1, iN (0))]) dX2_learn_36 (by omega) rfl ?_
        have lpF : ∀ (k face : Nat) (P M f NX : Nat → Nat), face + k = 6 → (∀ q, q < 6 * num + face → NX q = nxv q) → (∀ j, j < 12 → P j < 12) → (∀ j, j < 12 → M j < 2) → gw_G K ([(na, .inl (cI, 144, .inl (fun j => nI (NX j)))), (ft, .inr (3, [iN (0), iN (24), .ref (na), iN (0), .ref (oa)])), (oa, .inl (cI, 4, .inl (fun j => nI (f j)))), (pp, .inr (5, [iN (12), iN (2), .ref (z.1), .ref (z.2), .ref (tt 1), .ref (tt 3)])), (z.1, .inl (cI, 12, .inl (fun j => nI (P j)))), (z.2, .inl (cI, 12, .inl (fun j => nI (M j))))]) 4 174 38 [(4, iN face), (3, iN num), (2, .ref pp), (0, .ref ft), (1, iN 0)] [] := by
          intro k
          induction k with
          | zero =>
            intro face P M f NX hj hNX hP hM
            refine gw_iload C 0 dX2_learn_38 rfl ?_
            refine gw_bipush C 6 dX2_learn_40 (by decide) ?_
            refine gw_icmp_ge C 92 dX2_learn_42 (by decide) (by omega) (by omega) (fun h94 => ?_) (fun h94 => ?_)
            ·
              refine gw_iinc C (v := nI (num + 1)) (lv2 := [(3, iN (num + 1)), (4, iN (face)), (2, .ref (pp)), (0, .ref (ft)), (1, iN (0))]) 1 dX2_learn_92 rfl (nI_add _ _) (by omega) rfl ?_
              refine gw_goto C 27 dX2_learn_95 (by decide) ?_
              refine gw_lv (lv2 := [(3, iN (num + 1)), (2, .ref (pp)), (0, .ref (ft)), (1, iN (0))]) [0, 2, 3, 4] rfl ?_
              exact ih (num + 1) P M f NX (by omega) (fun q hq => hNX q (by omega)) hP hM
            ·
              exact absurd h94 (by omega)
          | succ k ihk =>
            intro face P M f NX hj hNX hP hM
            refine gw_iload C 0 dX2_learn_38 rfl ?_
            refine gw_bipush C 6 dX2_learn_40 (by decide) ?_
            refine gw_icmp_ge C 92 dX2_learn_42 (by decide) (by omega) (by omega) (fun h95 => ?_) (fun h95 => ?_)
            ·
              exact absurd h95 (by omega)
            ·
              refine gw_aload_n C 3 dX2_learn_45 rfl rfl ?_
              refine gw_iload_n C 1 dX2_learn_46 rfl rfl ?_
              refine gw_aload_n C 2 dX2_learn_47 rfl rfl ?_
              refine gw_callAV (n := 2) (wr := [(na, .inl (cI, 144, .inl (fun j => nI (NX j))))]) C (c_ordersShow (kl K) (kD K) cI cB cS cJ cF cG tt ft 0 24 (.ref na) pp z.1 z.2 (tt 1) (tt 3) 12 2 (P) (M) 0 oa (f) num (by omega) (by decide) rfl) 0 rfl rfl rfl gX2_learn_X5_show_u41X5 rfl C.2.2.2.1.2.2.2.2.2.2.2.2.1 (by decide +kernel) dX2_learn_48 (by rw [hkR]; decide) (by rw [hrc, hrs]; decide) [1, 2, 3, 4, 5] [0] rfl rfl rfl rfl (by decide) rfl (Nat.le_of_ble_eq_true rfl) rfl (fun v hv => ?_)
              have bM1 := hM
              have bP1 : ∀ j, j < 12 → (or_P 0 (cu_to num (f)) (P) 4) j < 12 := (or_P_lt 0 (by decide) (cu_to_4 num (by omega) f) hP 4 (by decide))
              have j1 := hi1 num face P M f (by omega) (by omega) hP hM
              have j2 := hi2 num face P M f (by omega) (by omega) hP hM
              refine gw_aload_n C 2 dX2_learn_51 rfl rfl ?_
              refine gw_iload C 0 dX2_learn_52 rfl ?_
              refine gw_callVV (n := 1) (wr := [(na, .inl (cI, 144, .inl (fun j => nI (NX j)))), (ft, .inr (3, [iN (0), iN (24), .ref (na), iN (0), .ref (oa)])), (oa, .inl (cI, 4, .inl (fun j => nI ((cu_to num (f)) j))))]) C (c_quarterE (kl K) (kD K) cI cB cS cJ cF cG tt pp z.1 z.2 (or_P 0 (cu_to num (f)) (P) 4) (M) face (by omega) bM1) 0 rfl rfl rfl gX2_learn_X7_quarter rfl (by decide +kernel) dX2_learn_54 (by rw [hkR]; decide) (by rw [hkR]; decide) [3, 4, 5] [0, 1, 2] rfl rfl rfl rfl (by decide) rfl (Nat.le_of_ble_eq_true rfl) rfl (fun v2 hv2 => ?_)
              subst hv2
              refine gw_iload C 0 dX2_learn_57 rfl ?_
              refine gw_iload_n C 4 dX2_learn_59 rfl rfl ?_
              refine gw_icmp_lt C 69 dX2_learn_60 (by decide) (by omega) (by omega) (fun h96 => ?_) (fun h96 => ?_)
              ·
                refine gw_aload_n C 3 dX2_learn_69 rfl rfl ?_
                refine gw_get C 1 2 in_X2_learn_X5 dX2_learn_70 lk_X2_learn_37 rfl rfl (by decide) rfl rfl ?_
                refine gw_bipush C 6 dX2_learn_73 (by decide) ?_
                refine gw_iload_n C 1 dX2_learn_75 rfl rfl ?_
                refine gw_imul C dX2_learn_76 ?_
                refine gw_iload C 0 dX2_learn_77 rfl ?_
                refine gw_iadd C dX2_learn_79 ?_
                refine gw_aload_n C 3 dX2_learn_80 rfl rfl ?_
                refine gw_aload_n C 2 dX2_learn_81 rfl rfl ?_
                have bP9 : ∀ j, j < 12 → (qtP cu_er (4 * face) (or_P 0 (cu_to num (f)) (P) 4)) j < 12 := qtP_lt cu_er (4 * face) cu_er_12 bP1
                refine gw_callAI (n := 1) (wr := [(na, .inl (cI, 144, .inl (fun j => nI (NX j))))]) C (c_ordersRead (kl K) (kD K) cI cB cS cJ cF cG tt ft 0 24 (.ref na) pp z.1 z.2 (tt 1) (tt 3) 12 2 (qtP cu_er (4 * face) (or_P 0 (cu_to num (f)) (P) 4)) (qtM cu_er cu_fg 2 (4 * face) (M)) 0 oa (cu_to num (f)) (by decide) rfl) 0 rfl rfl rfl gX2_learn_X5_read_u28X5 rfl C.2.2.2.1.2.2.2.2.2.2.2.1 (by decide +kernel) dX2_learn_82 (by rw [hkR]; decide) (by rw [hrc, hrs]; decide) [1, 2, 3, 4, 5] [0] rfl rfl rfl rfl (by decide) rfl (Nat.le_of_ble_eq_true rfl) rfl (fun rv9 v9 hv9 => ?_)
                subst hv9
                rw [j1 h96]
                refine gw_istN C (ws2 := [(na, .inl (cI, 144, .inl (fun j => nI ((up1 NX (((6) * (num)) + (face)) (nxv (6 * num + face))) j)))), (ft, .inr (3, [iN (0), iN (24), .ref (na), iN (0), .ref (oa)])), (oa, .inl (cI, 4, .inl (fun j => nI ((cu_to num (f)) j)))), (pp, .inr (5, [iN (12), iN (2), .ref (z.1), .ref (z.2), .ref (tt 1), .ref (tt 3)])), (z.1, .inl (cI, 12, .inl (fun j => nI ((qtP cu_er (4 * face) (or_P 0 (cu_to num (f)) (P) 4)) j)))), (z.2, .inl (cI, 12, .inl (fun j => nI ((qtM cu_er cu_fg 2 (4 * face) (M)) j))))]) 0 0 dX2_learn_85 rfl rfl (by first | decide | omega) (by omega) rfl ?_
                refine gw_iinc C (v := nI (face + 1)) (lv2 := [(4, iN (face + 1)), (3, iN (num)), (2, .ref (pp)), (0, .ref (ft)), (1, iN (0))]) 0 dX2_learn_86 rfl (nI_add _ _) (by omega) rfl ?_
                refine gw_goto C 38 dX2_learn_89 (by decide) ?_
                refine gw_lv (lv2 := [(4, iN (face + 1)), (3, iN (num)), (2, .ref (pp)), (0, .ref (ft)), (1, iN (0))]) [0, 1, 2, 3, 4] rfl ?_
                exact ihk (face + 1) (qtP cu_er (4 * face) (or_P 0 (cu_to num (f)) (P) 4)) (qtM cu_er cu_fg 2 (4 * face) (M)) (cu_to num (f)) _ (by omega) (up1_ih hNX) bP9 (qtM_lt cu_er cu_fg (4 * face) (by decide) bM1)
              ·
                refine gw_aload_n C 2 dX2_learn_63 rfl rfl ?_
                refine gw_iload C 0 dX2_learn_64 rfl ?_
                refine gw_callVV (n := 1) (wr := [(na, .inl (cI, 144, .inl (fun j => nI (NX j)))), (ft, .inr (3, [iN (0), iN (24), .ref (na), iN (0), .ref (oa)])), (oa, .inl (cI, 4, .inl (fun j => nI ((cu_to num (f)) j))))]) C (c_quarterE (kl K) (kD K) cI cB cS cJ cF cG tt pp z.1 z.2 (qtP cu_er (4 * face) (or_P 0 (cu_to num (f)) (P) 4)) (qtM cu_er cu_fg 2 (4 * face) (M)) face (by omega) (qtM_lt cu_er cu_fg (4 * face) (by decide) bM1)) 0 rfl rfl rfl gX2_learn_X7_quarter rfl (by decide +kernel) dX2_learn_66 (by rw [hkR]; decide) (by rw [hkR]; decide) [3, 4, 5] [0, 1, 2] rfl rfl rfl rfl (by decide) rfl (Nat.le_of_ble_eq_true rfl) rfl (fun v3 hv3 => ?_)
                subst hv3
                refine gw_aload_n C 3 dX2_learn_69 rfl rfl ?_
                refine gw_get C 1 2 in_X2_learn_X5 dX2_learn_70 lk_X2_learn_37 rfl rfl (by decide) rfl rfl ?_
                refine gw_bipush C 6 dX2_learn_73 (by decide) ?_
                refine gw_iload_n C 1 dX2_learn_75 rfl rfl ?_
                refine gw_imul C dX2_learn_76 ?_
                refine gw_iload C 0 dX2_learn_77 rfl ?_
                refine gw_iadd C dX2_learn_79 ?_
                refine gw_aload_n C 3 dX2_learn_80 rfl rfl ?_
                refine gw_aload_n C 2 dX2_learn_81 rfl rfl ?_
                have bP9 : ∀ j, j < 12 → (qtP cu_er (4 * face) (qtP cu_er (4 * face) (or_P 0 (cu_to num (f)) (P) 4))) j < 12 := qtP_lt cu_er (4 * face) cu_er_12 (qtP_lt cu_er (4 * face) cu_er_12 bP1)
                refine gw_callAI (n := 1) (wr := [(na, .inl (cI, 144, .inl (fun j => nI (NX j))))]) C (c_ordersRead (kl K) (kD K) cI cB cS cJ cF cG tt ft 0 24 (.ref na) pp z.1 z.2 (tt 1) (tt 3) 12 2 (qtP cu_er (4 * face) (qtP cu_er (4 * face) (or_P 0 (cu_to num (f)) (P) 4))) (qtM cu_er cu_fg 2 (4 * face) (qtM cu_er cu_fg 2 (4 * face) (M))) 0 oa (cu_to num (f)) (by decide) rfl) 0 rfl rfl rfl gX2_learn_X5_read_u28X5 rfl C.2.2.2.1.2.2.2.2.2.2.2.1 (by decide +kernel) dX2_learn_82 (by rw [hkR]; decide) (by rw [hrc, hrs]; decide) [1, 2, 3, 4, 5] [0] rfl rfl rfl rfl (by decide) rfl (Nat.le_of_ble_eq_true rfl) rfl (fun rv9 v9 hv9 => ?_)
                subst hv9
                rw [j2 h96]
                refine gw_istN C (ws2 := [(na, .inl (cI, 144, .inl (fun j => nI ((up1 NX (((6) * (num)) + (face)) (nxv (6 * num + face))) j)))), (ft, .inr (3, [iN (0), iN (24), .ref (na), iN (0), .ref (oa)])), (oa, .inl (cI, 4, .inl (fun j => nI ((cu_to num (f)) j)))), (pp, .inr (5, [iN (12), iN (2), .ref (z.1), .ref (z.2), .ref (tt 1), .ref (tt 3)])), (z.1, .inl (cI, 12, .inl (fun j => nI ((qtP cu_er (4 * face) (qtP cu_er (4 * face) (or_P 0 (cu_to num (f)) (P) 4))) j)))), (z.2, .inl (cI, 12, .inl (fun j => nI ((qtM cu_er cu_fg 2 (4 * face) (qtM cu_er cu_fg 2 (4 * face) (M))) j))))]) 0 0 dX2_learn_85 rfl rfl (by first | decide | omega) (by omega) rfl ?_
                refine gw_iinc C (v := nI (face + 1)) (lv2 := [(4, iN (face + 1)), (3, iN (num)), (2, .ref (pp)), (0, .ref (ft)), (1, iN (0))]) 0 dX2_learn_86 rfl (nI_add _ _) (by omega) rfl ?_
                refine gw_goto C 38 dX2_learn_89 (by decide) ?_
                refine gw_lv (lv2 := [(4, iN (face + 1)), (3, iN (num)), (2, .ref (pp)), (0, .ref (ft)), (1, iN (0))]) [0, 1, 2, 3, 4] rfl ?_
                exact ihk (face + 1) (qtP cu_er (4 * face) (qtP cu_er (4 * face) (or_P 0 (cu_to num (f)) (P) 4))) (qtM cu_er cu_fg 2 (4 * face) (qtM cu_er cu_fg 2 (4 * face) (M))) (cu_to num (f)) _ (by omega) (up1_ih hNX) bP9 (qtM_lt cu_er cu_fg (4 * face) (by decide) (qtM_lt cu_er cu_fg (4 * face) (by decide) bM1))
        refine gw_lv (lv2 := [(4, iN (0)), (3, iN (num)), (2, .ref (pp)), (0, .ref (ft)), (1, iN (0))]) [0, 1, 2, 3, 4] rfl ?_
        exact lpF 6 0 P M f NX rfl (fun q hq => hNX q (by omega)) hP hM
  refine gw_lv (lv2 := [(3, iN 0), (2, .ref pp), (0, .ref ft), (1, iN 0)]) [0, 1, 2, 3] rfl ?_
  exact lpN 24 0 _ _ f _ (by omega) (fun q hq => absurd hq (by omega)) (by decide) (by decide)
set_option maxHeartbeats 4000000 in
set_option maxRecDepth 100000 in
theorem c_rf_or1 (l : Launch) (D : va_G) (cI cB cS cJ cF cG : ClassId) (tt : Nat → Nat) (ft : Nat) (ca : Nat → Nat) (cp co ep eo : Nat → Nat) (nx : Value) (oa : Nat) (f : Nat → Nat) : gw_CI (S := Unit) l yX2_readFrom wsX2_readFrom 2 52 0 0 D (mo_ty cI cB cS cJ cF cG) (zs tt) ([(ft, .inr (3, [iN (0), iN (24), nx, iN (4), .ref (oa)])), (oa, .inl (cI, 4, .inl (fun j => nI (f j))))] ++ cb_ws cI tt ca cp co ep eo) [.ref ft, .ref (ca 0)] (fun r _ => r = nI (cu_oo ((ep) 4 &&& 3) ((ep) (4 + 1) &&& 3) ((ep) (4 + 2) &&& 3) ((ep) (4 + 3) &&& 3))) (fun _ => [(ft, .inr (3, [iN (0), iN (24), nx, iN (4), .ref (oa)])), (oa, .inl (cI, 4, .inl (fun j => nI (f j))))] ++ cb_ws cI tt ca cp co ep eo) := by
  refine gw_CI.of (cc := cX2_readFrom) (maxL := 2) (rt := .int) (zs_ok tt) (by decide) rfl (Nat.le_of_ble_eq_true rfl) ?_
  intro K C hkl hkn hkR hkD hmn ret
  have C : gw_x K cX2_readFrom RX2 wsX2_readFrom (mo_ty cI cB cS cJ cF cG) (zs tt) := C
  subst hkl hkD
  have hrc : (kR K).cells = 0 := by rw [hkR]
  have hrs : (kR K).slots = 0 := by rw [hkR]
  refine gw_aload_n C 0 dX2_readFrom_0 rfl rfl ?_
  refine gw_aload_n C 0 dX2_readFrom_1 rfl rfl ?_
  refine gw_get C 0 0 in_X2_readFrom_X5 dX2_readFrom_2 lk_X2_readFrom_9 rfl rfl (by decide) rfl rfl ?_
  refine gw_if_eq C 15 dX2_readFrom_5 (by decide) (by omega) (fun h97 => ?_) (fun h97 => ?_)
  rotate_left
  · first | exact absurd (by decide) h97 | exact absurd h97 (by decide)
  refine gw_aload_n C 1 dX2_readFrom_15 rfl rfl ?_
  refine gw_get C 2 1 in_X2_readFrom_X1 dX2_readFrom_16 lk_X2_readFrom_25 rfl rfl (by decide) rfl rfl ?_
  refine gw_callAI (n := 1) (wr := [(ca 0, .inr (1, [.ref (ca 1), .ref (ca 4)])), (ca 1, .inr (5, [iN (8), iN (3), .ref (ca 2), .ref (ca 3), .ref (tt 0), .ref (tt 2)])), (ca 2, .inl (cI, 8, .inl (fun j => nI (cp j)))), (ca 3, .inl (cI, 8, .inl (fun j => nI (co j))))]) C (c_ordersRead (kl K) (kD K) cI cB cS cJ cF cG tt ft 0 24 (nx) (ca 4) (ca 5) (ca 6) (tt 1) (tt 3) 12 2 (ep) (eo) 4 oa (f) (by decide) rfl) 0 rfl rfl rfl gX2_readFrom_X5_read_u28X5 rfl C.2.2.2.1.2.2.2.2.2.2.2.1 (by decide +kernel) dX2_readFrom_19 (by rw [hkR]; decide) (by rw [hrc, hrs]; decide) [0, 1, 6, 7, 8] [2, 3, 4, 5] rfl rfl rfl rfl (by decide) rfl (Nat.le_of_ble_eq_true rfl) rfl (fun rz z hz => ?_)
  subst hz
  refine gw_perm (ws2 := [(ft, .inr (3, [iN (0), iN (24), nx, iN (4), .ref (oa)])), (oa, .inl (cI, 4, .inl (fun j => nI (f j))))] ++ cb_ws cI tt ca cp co ep eo) [4, 5, 0, 1, 2, 3, 6, 7, 8] rfl (by decide) trivial ?_
  exact ret () dX2_readFrom_22 rfl rfl rfl (Nat.le_refl 0) (Nat.le_refl 0)
set_option maxHeartbeats 4000000 in
set_option maxRecDepth 100000 in
theorem c_ln_or1 (l : Launch) (D : va_G) (cI cB cS cJ cF cG : ClassId) (tt : Nat → Nat) (ft : Nat) (oa : Nat) (f : Nat → Nat) (nxv : Nat → Nat) (hi1 : ∀ (num face : Nat) (P M f : Nat → Nat), num < 24 → face < 6 → (∀ j, j < 12 → P j < 12) → (∀ j, j < 12 → M j < 2) → face < 0 → cu_oo ((qtP cu_er (4 * face) (or_P 4 (cu_to num (f)) (P) 4)) 4 &&& 3) ((qtP cu_er (4 * face) (or_P 4 (cu_to num (f)) (P) 4)) (4 + 1) &&& 3) ((qtP cu_er (4 * face) (or_P 4 (cu_to num (f)) (P) 4)) (4 + 2) &&& 3) ((qtP cu_er (4 * face) (or_P 4 (cu_to num (f)) (P) 4)) (4 + 3) &&& 3) = nxv (6 * num + face)) (hi2 : ∀ (num face : Nat) (P M f : Nat → Nat), num < 24 → face < 6 → (∀ j, j < 12 → P j < 12) → (∀ j, j < 12 → M j < 2) → 0 ≤ face → cu_oo ((qtP cu_er (4 * face) (qtP cu_er (4 * face) (or_P 4 (cu_to num (f)) (P) 4))) 4 &&& 3) ((qtP cu_er (4 * face) (qtP cu_er (4 * face) (or_P 4 (cu_to num (f)) (P) 4))) (4 + 1) &&& 3) ((qtP cu_er (4 * face) (qtP cu_er (4 * face) (or_P 4 (cu_to num (f)) (P) 4))) (4 + 2) &&& 3) ((qtP cu_er (4 * face) (qtP cu_er (4 * face) (or_P 4 (cu_to num (f)) (P) 4))) (4 + 3) &&& 3) = nxv (6 * num + face)) : gw_CV (S := Nat × (Nat → Nat)) l yX2_learn wsX2_learn 2 52 4 174 D (mo_ty cI cB cS cJ cF cG) (zs tt) ([(ft, .inr (3, [iN (0), iN (24), .null, iN (4), .ref (oa)])), (oa, .inl (cI, 4, .inl (fun j => nI (f j))))]) [.ref ft, iN 0] (fun _ => True) (fun u => [(ft, .inr (3, [iN (0), iN (24), .ref (u.1), iN (4), .ref (oa)])), (oa, .inl (cI, 4, .inl (fun j => nI ((u.2) j)))), (u.1, .inl (cI, 144, .inl (fun j => nI (nxv j))))]) := by
  refine gw_CV.of (cc := cX2_learn) (maxL := 5) (zs_ok tt) (by decide) rfl (Nat.le_of_ble_eq_true rfl) ?_
  intro K C hkl hkn hkR hkD hmn ret
  have C : gw_x K cX2_learn RX2 wsX2_learn (mo_ty cI cB cS cJ cF cG) (zs tt) := C
  subst hkl hkD
  have hrc : (kR K).cells = 4 := by rw [hkR]
  have hrs : (kR K).slots = 174 := by rw [hkR]
  refine gw_new C (ci := 5) (fs := [.int (0), .int (0), .null, .null, .null, .null]) tyX7 tyX7_ok in_X2_learn_X7 dX2_learn_0 (by decide +kernel) (by decide +kernel) (by decide +kernel) rfl (fun j hj => by rcases (show j = 0 ∨ j = 1 ∨ j = 2 ∨ j = 3 ∨ j = 4 ∨ j = 5 by omega) with h | h | h | h | h | h <;> subst h <;> rfl) (by omega) (by omega) (fun pp => ?_)
  refine gw_ws (ws2 := [(ft, .inr (3, [iN (0), iN (24), .null, iN (4), .ref (oa)])), (oa, .inl (cI, 4, .inl (fun j => nI (f j)))), (pp, .inr (5, [.int (0), .int (0), .null, .null, .null, .null]))]) rfl ?_
  refine gw_dup C dX2_learn_3 rfl ?_
  refine gw_aload_n C 0 dX2_learn_4 rfl rfl ?_
  refine gw_get C 0 0 in_X2_learn_X5 dX2_learn_5 lk_X2_learn_9 rfl rfl (by decide) rfl rfl ?_
  refine gw_callIV (n := 1) (wr := [(ft, .inr (3, [iN (0), iN (24), .null, iN (4), .ref (oa)])), (oa, .inl (cI, 4, .inl (fun j => nI (f j))))]) C (c_pinitE (kl K) (kD K) cI cB cS cJ cF cG (zs tt) (zs_ok tt) pp (tt 1) (tt 3) (fun _ _ _ h => h.2.1.1) (fun _ _ _ h => h.2.2.2.1.1)) gX2_learn_X7_init rfl (by decide +kernel) (by decide +kernel) (by decide +kernel) rfl (by decide +kernel) dX2_learn_8 (by rw [hkR]; decide) (by rw [hrc, hrs]; decide) [2] [0, 1] rfl rfl rfl rfl (by decide) rfl (Nat.le_of_ble_eq_true rfl) rfl (fun z hz => ?_)
  refine gw_ws (ws2 := [(ft, .inr (3, [iN (0), iN (24), .null, iN (4), .ref (oa)])), (oa, .inl (cI, 4, .inl (fun j => nI (f j)))), (pp, .inr (5, [iN (12), iN (2), .ref (z.1), .ref (z.2), .ref (tt 1), .ref (tt 3)])), (z.1, .inl (cI, 12, .inl (fun j => nI ((rs_P (fun _ => 0) 12) j)))), (z.2, .inl (cI, 12, .inl (fun j => nI ((rs_M (fun _ => 0) 12) j))))]) rfl ?_
  refine gw_astore_n C (lv2 := [(2, .ref (pp)), (0, .ref (ft)), (1, iN (0))]) dX2_learn_11 rfl (by omega) rfl ?_
  refine gw_aload_n C 1 dX2_learn_12 rfl rfl ?_
  refine gw_bipush C 6 dX2_learn_13 (by decide) ?_
  refine gw_aload_n C 1 dX2_learn_15 rfl rfl ?_
  refine gw_get C 0 1 in_X2_learn_X5 dX2_learn_16 lk_X2_learn_15 rfl rfl (by decide) rfl rfl ?_
  refine gw_imul C dX2_learn_19 ?_
  refine gw_newa C 0 dX2_learn_20 rfl (by decide +kernel) rfl (fun _ _ h => h) (a0 := (144, .inl (fun _ => 0))) (fun _ => rfl) (by decide) (by decide) (by omega) (by omega) (fun na => ?_)
  refine gw_ws (ws2 := [(ft, .inr (3, [iN (0), iN (24), .null, iN (4), .ref (oa)])), (oa, .inl (cI, 4, .inl (fun j => nI (f j)))), (pp, .inr (5, [iN (12), iN (2), .ref (z.1), .ref (z.2), .ref (tt 1), .ref (tt 3)])), (z.1, .inl (cI, 12, .inl (fun j => nI ((rs_P (fun _ => 0) 12) j)))), (z.2, .inl (cI, 12, .inl (fun j => nI ((rs_M (fun _ => 0) 12) j)))), (na, .inl (cI, 144, .inl (fun j => nI (((fun _ => 0)) j))))]) rfl ?_
  refine gw_put C (ty := (.array .int)) (ws2 := [(ft, .inr (3, [iN (0), iN (24), .ref (na), iN (4), .ref (oa)])), (oa, .inl (cI, 4, .inl (fun j => nI (f j)))), (pp, .inr (5, [iN (12), iN (2), .ref (z.1), .ref (z.2), .ref (tt 1), .ref (tt 3)])), (z.1, .inl (cI, 12, .inl (fun j => nI ((rs_P (fun _ => 0) 12) j)))), (z.2, .inl (cI, 12, .inl (fun j => nI ((rs_M (fun _ => 0) 12) j)))), (na, .inl (cI, 144, .inl (fun j => nI (((fun _ => 0)) j))))]) 0 2 tyX5 tyX5_ok nmX5 in_X2_learn_X5 dX2_learn_22 lk_X2_learn_37 rfl rfl (by decide) rfl rfl (by decide +kernel) rfl rfl (Nat.le_of_ble_eq_true rfl) rfl ?_
  refine gw_iconst C 0 dX2_learn_25 (by decide) ?_
  refine gw_istore_n C (lv2 := [(3, iN (0)), (2, .ref (pp)), (0, .ref (ft)), (1, iN (0))]) dX2_learn_26 rfl (by omega) rfl ?_
  refine gw_perm (ws2 := [(na, .inl (cI, 144, .inl (fun j => nI ((fun _ => 0) j)))), (ft, .inr (3, [iN (0), iN (24), .ref (na), iN (4), .ref (oa)])), (oa, .inl (cI, 4, .inl (fun j => nI (f j)))), (pp, .inr (5, [iN (12), iN (2), .ref (z.1), .ref (z.2), .ref (tt 1), .ref (tt 3)])), (z.1, .inl (cI, 12, .inl (fun j => nI ((rs_P (fun _ => 0) 12) j)))), (z.2, .inl (cI, 12, .inl (fun j => nI ((rs_M (fun _ => 0) 12) j))))]) [5, 0, 1, 2, 3, 4] rfl (by decide) trivial ?_
  have lpN : ∀ (n num : Nat) (P M f NX : Nat → Nat), num + n = 24 → (∀ q, q < 6 * num → NX q = nxv q) → (∀ j, j < 12 → P j < 12) → (∀ j, j < 12 → M j < 2) → gw_G K ([(na, .inl (cI, 144, .inl (fun j => nI (NX j)))), (ft, .inr (3, [iN (0), iN (24), .ref (na), iN (4), .ref (oa)])), (oa, .inl (cI, 4, .inl (fun j => nI (f j)))), (pp, .inr (5, [iN (12), iN (2), .ref (z.1), .ref (z.2), .ref (tt 1), .ref (tt 3)])), (z.1, .inl (cI, 12, .inl (fun j => nI (P j)))), (z.2, .inl (cI, 12, .inl (fun j => nI (M j))))]) 4 174 27 [(3, iN num), (2, .ref pp), (0, .ref ft), (1, iN 0)] [] := by
    intro n
    induction n with
    | zero =>
      intro num P M f NX hi hNX hP hM
      refine gw_iload_n C 0 dX2_learn_27 rfl rfl ?_
      refine gw_aload_n C 2 dX2_learn_28 rfl rfl ?_
      refine gw_get C 1 1 in_X2_learn_X5 dX2_learn_29 lk_X2_learn_15 rfl rfl (by decide) rfl rfl ?_
      refine gw_icmp_ge C 98 dX2_learn_32 (by decide) (by omega) (by omega) (fun h98 => ?_) (fun h98 => ?_)
      ·
        have e : (fun j => nI (NX j)) = fun j => nI (NX j) := rfl
        refine gw_iext (f2 := nxv) 0 rfl (fun j hj => by rw [hNX j (by omega)]) ?_
        refine gw_perm (ws2 := [(ft, .inr (3, [iN (0), iN (24), .ref (na), iN (4), .ref (oa)])), (oa, .inl (cI, 4, .inl (fun j => nI (f j)))), (na, .inl (cI, 144, .inl (fun j => nI (nxv j))))]) [1, 2, 0] rfl (by decide) trivial ?_
        exact ret (na, f) dX2_learn_98 trivial rfl (by decide) (by decide)
      ·
        exact absurd h98 (by omega)
    | succ n ih =>
      intro num P M f NX hi hNX hP hM
      refine gw_iload_n C 0 dX2_learn_27 rfl rfl ?_
      refine gw_aload_n C 2 dX2_learn_28 rfl rfl ?_
      refine gw_get C 1 1 in_X2_learn_X5 dX2_learn_29 lk_X2_learn_15 rfl rfl (by decide) rfl rfl ?_
      refine gw_icmp_ge C 98 dX2_learn_32 (by decide) (by omega) (by omega) (fun h99 => ?_) (fun h99 => ?_)
      ·
        exact absurd h99 (by omega)
      ·
        refine gw_iconst C 0 dX2_learn_35 (by decide) ?_
        refine gw_istore C (lv2 := [(4, iN (0)), (3, iN (num)), (2, .ref (pp)), (0, .ref (ft)), (1, iN (0))]) dX2_learn_36 (by omega) rfl ?_
        have lpF : ∀ (k face : Nat) (P M f NX : Nat → Nat), face + k = 6 → (∀ q, q < 6 * num + face → NX q = nxv q) → (∀ j, j < 12 → P j < 12) → (∀ j, j < 12 → M j < 2) → gw_G K ([(na, .inl (cI, 144, .inl (fun j => nI (NX j)))), (ft, .inr (3, [iN (0), iN (24), .ref (na), iN (4), .ref (oa)])), (oa, .inl (cI, 4, .inl (fun j => nI (f j)))), (pp, .inr (5, [iN (12), iN (2), .ref (z.1), .ref (z.2), .ref (tt 1), .ref (tt 3)])), (z.1, .inl (cI, 12, .inl (fun j => nI (P j)))), (z.2, .inl (cI, 12, .inl (fun j => nI (M j))))]) 4 174 38 [(4, iN face), (3, iN num), (2, .ref pp), (0, .ref ft), (1, iN 0)] [] := by
          intro k
          induction k with
          | zero =>
            intro face P M f NX hj hNX hP hM
            refine gw_iload C 0 dX2_learn_38 rfl ?_
            refine gw_bipush C 6 dX2_learn_40 (by decide) ?_
            refine gw_icmp_ge C 92 dX2_learn_42 (by decide) (by omega) (by omega) (fun h100 => ?_) (fun h100 => ?_)
            ·
              refine gw_iinc C (v := nI (num + 1)) (lv2 := [(3, iN (num + 1)), (4, iN (face)), (2, .ref (pp)), (0, .ref (ft)), (1, iN (0))]) 1 dX2_learn_92 rfl (nI_add _ _) (by omega) rfl ?_
              refine gw_goto C 27 dX2_learn_95 (by decide) ?_
              refine gw_lv (lv2 := [(3, iN (num + 1)), (2, .ref (pp)), (0, .ref (ft)), (1, iN (0))]) [0, 2, 3, 4] rfl ?_
              exact ih (num + 1) P M f NX (by omega) (fun q hq => hNX q (by omega)) hP hM
            ·
              exact absurd h100 (by omega)
          | succ k ihk =>
            intro face P M f NX hj hNX hP hM
            refine gw_iload C 0 dX2_learn_38 rfl ?_
            refine gw_bipush C 6 dX2_learn_40 (by decide) ?_
            refine gw_icmp_ge C 92 dX2_learn_42 (by decide) (by omega) (by omega) (fun h101 => ?_) (fun h101 => ?_)
            ·
              exact absurd h101 (by omega)
            ·
              refine gw_aload_n C 3 dX2_learn_45 rfl rfl ?_
              refine gw_iload_n C 1 dX2_learn_46 rfl rfl ?_
              refine gw_aload_n C 2 dX2_learn_47 rfl rfl ?_
              refine gw_callAV (n := 2) (wr := [(na, .inl (cI, 144, .inl (fun j => nI (NX j))))]) C (c_ordersShow (kl K) (kD K) cI cB cS cJ cF cG tt ft 0 24 (.ref na) pp z.1 z.2 (tt 1) (tt 3) 12 2 (P) (M) 4 oa (f) num (by omega) (by decide) rfl) 0 rfl rfl rfl gX2_learn_X5_show_u41X5 rfl C.2.2.2.1.2.2.2.2.2.2.2.2.1 (by decide +kernel) dX2_learn_48 (by rw [hkR]; decide) (by rw [hrc, hrs]; decide) [1, 2, 3, 4, 5] [0] rfl rfl rfl rfl (by decide) rfl (Nat.le_of_ble_eq_true rfl) rfl (fun v hv => ?_)
              have bM1 := hM
              have bP1 : ∀ j, j < 12 → (or_P 4 (cu_to num (f)) (P) 4) j < 12 := (or_P_lt 4 (by decide) (cu_to_4 num (by omega) f) hP 4 (by decide))
              have j1 := hi1 num face P M f (by omega) (by omega) hP hM
              have j2 := hi2 num face P M f (by omega) (by omega) hP hM
              refine gw_aload_n C 2 dX2_learn_51 rfl rfl ?_
              refine gw_iload C 0 dX2_learn_52 rfl ?_
              refine gw_callVV (n := 1) (wr := [(na, .inl (cI, 144, .inl (fun j => nI (NX j)))), (ft, .inr (3, [iN (0), iN (24), .ref (na), iN (4), .ref (oa)])), (oa, .inl (cI, 4, .inl (fun j => nI ((cu_to num (f)) j))))]) C (c_quarterE (kl K) (kD K) cI cB cS cJ cF cG tt pp z.1 z.2 (or_P 4 (cu_to num (f)) (P) 4) (M) face (by omega) bM1) 0 rfl rfl rfl gX2_learn_X7_quarter rfl (by decide +kernel) dX2_learn_54 (by rw [hkR]; decide) (by rw [hkR]; decide) [3, 4, 5] [0, 1, 2] rfl rfl rfl rfl (by decide) rfl (Nat.le_of_ble_eq_true rfl) rfl (fun v2 hv2 => ?_)
              subst hv2
              refine gw_iload C 0 dX2_learn_57 rfl ?_
              refine gw_iload_n C 4 dX2_learn_59 rfl rfl ?_
              refine gw_icmp_lt C 69 dX2_learn_60 (by decide) (by omega) (by omega) (fun h102 => ?_) (fun h102 => ?_)
              ·
                refine gw_aload_n C 3 dX2_learn_69 rfl rfl ?_
                refine gw_get C 1 2 in_X2_learn_X5 dX2_learn_70 lk_X2_learn_37 rfl rfl (by decide) rfl rfl ?_
                refine gw_bipush C 6 dX2_learn_73 (by decide) ?_
                refine gw_iload_n C 1 dX2_learn_75 rfl rfl ?_
                refine gw_imul C dX2_learn_76 ?_
                refine gw_iload C 0 dX2_learn_77 rfl ?_
                refine gw_iadd C dX2_learn_79 ?_
                refine gw_aload_n C 3 dX2_learn_80 rfl rfl ?_
                refine gw_aload_n C 2 dX2_learn_81 rfl rfl ?_
                have bP9 : ∀ j, j < 12 → (qtP cu_er (4 * face) (or_P 4 (cu_to num (f)) (P) 4)) j < 12 := qtP_lt cu_er (4 * face) cu_er_12 bP1
                refine gw_callAI (n := 1) (wr := [(na, .inl (cI, 144, .inl (fun j => nI (NX j))))]) C (c_ordersRead (kl K) (kD K) cI cB cS cJ cF cG tt ft 0 24 (.ref na) pp z.1 z.2 (tt 1) (tt 3) 12 2 (qtP cu_er (4 * face) (or_P 4 (cu_to num (f)) (P) 4)) (qtM cu_er cu_fg 2 (4 * face) (M)) 4 oa (cu_to num (f)) (by decide) rfl) 0 rfl rfl rfl gX2_learn_X5_read_u28X5 rfl C.2.2.2.1.2.2.2.2.2.2.2.1 (by decide +kernel) dX2_learn_82 (by rw [hkR]; decide) (by rw [hrc, hrs]; decide) [1, 2, 3, 4, 5] [0] rfl rfl rfl rfl (by decide) rfl (Nat.le_of_ble_eq_true rfl) rfl (fun rv9 v9 hv9 => ?_)
                subst hv9
                rw [j1 h102]
                refine gw_istN C (ws2 := [(na, .inl (cI, 144, .inl (fun j => nI ((up1 NX (((6) * (num)) + (face)) (nxv (6 * num + face))) j)))), (ft, .inr (3, [iN (0), iN (24), .ref (na), iN (4), .ref (oa)])), (oa, .inl (cI, 4, .inl (fun j => nI ((cu_to num (f)) j)))), (pp, .inr (5, [iN (12), iN (2), .ref (z.1), .ref (z.2), .ref (tt 1), .ref (tt 3)])), (z.1, .inl (cI, 12, .inl (fun j => nI ((qtP cu_er (4 * face) (or_P 4 (cu_to num (f)) (P) 4)) j)))), (z.2, .inl (cI, 12, .inl (fun j => nI ((qtM cu_er cu_fg 2 (4 * face) (M)) j))))]) 0 0 dX2_learn_85 rfl rfl (by first | decide | omega) (by omega) rfl ?_
                refine gw_iinc C (v := nI (face + 1)) (lv2 := [(4, iN (face + 1)), (3, iN (num)), (2, .ref (pp)), (0, .ref (ft)), (1, iN (0))]) 0 dX2_learn_86 rfl (nI_add _ _) (by omega) rfl ?_
                refine gw_goto C 38 dX2_learn_89 (by decide) ?_
                refine gw_lv (lv2 := [(4, iN (face + 1)), (3, iN (num)), (2, .ref (pp)), (0, .ref (ft)), (1, iN (0))]) [0, 1, 2, 3, 4] rfl ?_
                exact ihk (face + 1) (qtP cu_er (4 * face) (or_P 4 (cu_to num (f)) (P) 4)) (qtM cu_er cu_fg 2 (4 * face) (M)) (cu_to num (f)) _ (by omega) (up1_ih hNX) bP9 (qtM_lt cu_er cu_fg (4 * face) (by decide) bM1)
              ·
                refine gw_aload_n C 2 dX2_learn_63 rfl rfl ?_
                refine gw_iload C 0 dX2_learn_64 rfl ?_
                refine gw_callVV (n := 1) (wr := [(na, .inl (cI, 144, .inl (fun j => nI (NX j)))), (ft, .inr (3, [iN (0), iN (24), .ref (na), iN (4), .ref (oa)])), (oa, .inl (cI, 4, .inl (fun j => nI ((cu_to num (f)) j))))]) C (c_quarterE (kl K) (kD K) cI cB cS cJ cF cG tt pp z.1 z.2 (qtP cu_er (4 * face) (or_P 4 (cu_to num (f)) (P) 4)) (qtM cu_er cu_fg 2 (4 * face) (M)) face (by omega) (qtM_lt cu_er cu_fg (4 * face) (by decide) bM1)) 0 rfl rfl rfl gX2_learn_X7_quarter rfl (by decide +kernel) dX2_learn_66 (by rw [hkR]; decide) (by rw [hkR]; decide) [3, 4, 5] [0, 1, 2] rfl rfl rfl rfl (by decide) rfl (Nat.le_of_ble_eq_true rfl) rfl (fun v3 hv3 => ?_)
                subst hv3
                refine gw_aload_n C 3 dX2_learn_69 rfl rfl ?_
                refine gw_get C 1 2 in_X2_learn_X5 dX2_learn_70 lk_X2_learn_37 rfl rfl (by decide) rfl rfl ?_
                refine gw_bipush C 6 dX2_learn_73 (by decide) ?_
                refine gw_iload_n C 1 dX2_learn_75 rfl rfl ?_
                refine gw_imul C dX2_learn_76 ?_
                refine gw_iload C 0 dX2_learn_77 rfl ?_
                refine gw_iadd C dX2_learn_79 ?_
                refine gw_aload_n C 3 dX2_learn_80 rfl rfl ?_
                refine gw_aload_n C 2 dX2_learn_81 rfl rfl ?_
                have bP9 : ∀ j, j < 12 → (qtP cu_er (4 * face) (qtP cu_er (4 * face) (or_P 4 (cu_to num (f)) (P) 4))) j < 12 := qtP_lt cu_er (4 * face) cu_er_12 (qtP_lt cu_er (4 * face) cu_er_12 bP1)
                refine gw_callAI (n := 1) (wr := [(na, .inl (cI, 144, .inl (fun j => nI (NX j))))]) C (c_ordersRead (kl K) (kD K) cI cB cS cJ cF cG tt ft 0 24 (.ref na) pp z.1 z.2 (tt 1) (tt 3) 12 2 (qtP cu_er (4 * face) (qtP cu_er (4 * face) (or_P 4 (cu_to num (f)) (P) 4))) (qtM cu_er cu_fg 2 (4 * face) (qtM cu_er cu_fg 2 (4 * face) (M))) 4 oa (cu_to num (f)) (by decide) rfl) 0 rfl rfl rfl gX2_learn_X5_read_u28X5 rfl C.2.2.2.1.2.2.2.2.2.2.2.1 (by decide +kernel) dX2_learn_82 (by rw [hkR]; decide) (by rw [hrc, hrs]; decide) [1, 2, 3, 4, 5] [0] rfl rfl rfl rfl (by decide) rfl (Nat.le_of_ble_eq_true rfl) rfl (fun rv9 v9 hv9 => ?_)
                subst hv9
                rw [j2 h102]
                refine gw_istN C (ws2 := [(na, .inl (cI, 144, .inl (fun j => nI ((up1 NX (((6) * (num)) + (face)) (nxv (6 * num + face))) j)))), (ft, .inr (3, [iN (0), iN (24), .ref (na), iN (4), .ref (oa)])), (oa, .inl (cI, 4, .inl (fun j => nI ((cu_to num (f)) j)))), (pp, .inr (5, [iN (12), iN (2), .ref (z.1), .ref (z.2), .ref (tt 1), .ref (tt 3)])), (z.1, .inl (cI, 12, .inl (fun j => nI ((qtP cu_er (4 * face) (qtP cu_er (4 * face) (or_P 4 (cu_to num (f)) (P) 4))) j)))), (z.2, .inl (cI, 12, .inl (fun j => nI ((qtM cu_er cu_fg 2 (4 * face) (qtM cu_er cu_fg 2 (4 * face) (M))) j))))]) 0 0 dX2_learn_85 rfl rfl (by first | decide | omega) (by omega) rfl ?_
                refine gw_iinc C (v := nI (face + 1)) (lv2 := [(4, iN (face + 1)), (3, iN (num)), (2, .ref (pp)), (0, .ref (ft)), (1, iN (0))]) 0 dX2_learn_86 rfl (nI_add _ _) (by omega) rfl ?_
                refine gw_goto C 38 dX2_learn_89 (by decide) ?_
                refine gw_lv (lv2 := [(4, iN (face + 1)), (3, iN (num)), (2, .ref (pp)), (0, .ref (ft)), (1, iN (0))]) [0, 1, 2, 3, 4] rfl ?_
                exact ihk (face + 1) (qtP cu_er (4 * face) (qtP cu_er (4 * face) (or_P 4 (cu_to num (f)) (P) 4))) (qtM cu_er cu_fg 2 (4 * face) (qtM cu_er cu_fg 2 (4 * face) (M))) (cu_to num (f)) _ (by omega) (up1_ih hNX) bP9 (qtM_lt cu_er cu_fg (4 * face) (by decide) (qtM_lt cu_er cu_fg (4 * face) (by decide) bM1))
        refine gw_lv (lv2 := [(4, iN (0)), (3, iN (num)), (2, .ref (pp)), (0, .ref (ft)), (1, iN (0))]) [0, 1, 2, 3, 4] rfl ?_
        exact lpF 6 0 P M f NX rfl (fun q hq => hNX q (by omega)) hP hM
  refine gw_lv (lv2 := [(3, iN 0), (2, .ref pp), (0, .ref ft), (1, iN 0)]) [0, 1, 2, 3] rfl ?_
  exact lpN 24 0 _ _ f _ (by omega) (fun q hq => absurd hq (by omega)) (by decide) (by decide)
set_option maxHeartbeats 4000000 in
set_option maxRecDepth 100000 in
theorem c_rf_or2 (l : Launch) (D : va_G) (cI cB cS cJ cF cG : ClassId) (tt : Nat → Nat) (ft : Nat) (ca : Nat → Nat) (cp co ep eo : Nat → Nat) (nx : Value) (oa : Nat) (f : Nat → Nat) : gw_CI (S := Unit) l yX2_readFrom wsX2_readFrom 2 52 0 0 D (mo_ty cI cB cS cJ cF cG) (zs tt) ([(ft, .inr (3, [iN (0), iN (24), nx, iN (8), .ref (oa)])), (oa, .inl (cI, 4, .inl (fun j => nI (f j))))] ++ cb_ws cI tt ca cp co ep eo) [.ref ft, .ref (ca 0)] (fun r _ => r = nI (cu_oo ((ep) 8 &&& 3) ((ep) (8 + 1) &&& 3) ((ep) (8 + 2) &&& 3) ((ep) (8 + 3) &&& 3))) (fun _ => [(ft, .inr (3, [iN (0), iN (24), nx, iN (8), .ref (oa)])), (oa, .inl (cI, 4, .inl (fun j => nI (f j))))] ++ cb_ws cI tt ca cp co ep eo) := by
  refine gw_CI.of (cc := cX2_readFrom) (maxL := 2) (rt := .int) (zs_ok tt) (by decide) rfl (Nat.le_of_ble_eq_true rfl) ?_
  intro K C hkl hkn hkR hkD hmn ret
  have C : gw_x K cX2_readFrom RX2 wsX2_readFrom (mo_ty cI cB cS cJ cF cG) (zs tt) := C
  subst hkl hkD
  have hrc : (kR K).cells = 0 := by rw [hkR]
  have hrs : (kR K).slots = 0 := by rw [hkR]
  refine gw_aload_n C 0 dX2_readFrom_0 rfl rfl ?_
  refine gw_aload_n C 0 dX2_readFrom_1 rfl rfl ?_
  refine gw_get C 0 0 in_X2_readFrom_X5 dX2_readFrom_2 lk_X2_readFrom_9 rfl rfl (by decide) rfl rfl ?_
  refine gw_if_eq C 15 dX2_readFrom_5 (by decide) (by omega) (fun h103 => ?_) (fun h103 => ?_)
  rotate_left
  · first | exact absurd (by decide) h103 | exact absurd h103 (by decide)
  refine gw_aload_n C 1 dX2_readFrom_15 rfl rfl ?_
  refine gw_get C 2 1 in_X2_readFrom_X1 dX2_readFrom_16 lk_X2_readFrom_25 rfl rfl (by decide) rfl rfl ?_
  refine gw_callAI (n := 1) (wr := [(ca 0, .inr (1, [.ref (ca 1), .ref (ca 4)])), (ca 1, .inr (5, [iN (8), iN (3), .ref (ca 2), .ref (ca 3), .ref (tt 0), .ref (tt 2)])), (ca 2, .inl (cI, 8, .inl (fun j => nI (cp j)))), (ca 3, .inl (cI, 8, .inl (fun j => nI (co j))))]) C (c_ordersRead (kl K) (kD K) cI cB cS cJ cF cG tt ft 0 24 (nx) (ca 4) (ca 5) (ca 6) (tt 1) (tt 3) 12 2 (ep) (eo) 8 oa (f) (by decide) rfl) 0 rfl rfl rfl gX2_readFrom_X5_read_u28X5 rfl C.2.2.2.1.2.2.2.2.2.2.2.1 (by decide +kernel) dX2_readFrom_19 (by rw [hkR]; decide) (by rw [hrc, hrs]; decide) [0, 1, 6, 7, 8] [2, 3, 4, 5] rfl rfl rfl rfl (by decide) rfl (Nat.le_of_ble_eq_true rfl) rfl (fun rz z hz => ?_)
  subst hz
  refine gw_perm (ws2 := [(ft, .inr (3, [iN (0), iN (24), nx, iN (8), .ref (oa)])), (oa, .inl (cI, 4, .inl (fun j => nI (f j))))] ++ cb_ws cI tt ca cp co ep eo) [4, 5, 0, 1, 2, 3, 6, 7, 8] rfl (by decide) trivial ?_
  exact ret () dX2_readFrom_22 rfl rfl rfl (Nat.le_refl 0) (Nat.le_refl 0)
set_option maxHeartbeats 4000000 in
set_option maxRecDepth 100000 in
theorem c_ln_or2 (l : Launch) (D : va_G) (cI cB cS cJ cF cG : ClassId) (tt : Nat → Nat) (ft : Nat) (oa : Nat) (f : Nat → Nat) (nxv : Nat → Nat) (hi1 : ∀ (num face : Nat) (P M f : Nat → Nat), num < 24 → face < 6 → (∀ j, j < 12 → P j < 12) → (∀ j, j < 12 → M j < 2) → face < 0 → cu_oo ((qtP cu_er (4 * face) (or_P 8 (cu_to num (f)) (P) 4)) 8 &&& 3) ((qtP cu_er (4 * face) (or_P 8 (cu_to num (f)) (P) 4)) (8 + 1) &&& 3) ((qtP cu_er (4 * face) (or_P 8 (cu_to num (f)) (P) 4)) (8 + 2) &&& 3) ((qtP cu_er (4 * face) (or_P 8 (cu_to num (f)) (P) 4)) (8 + 3) &&& 3) = nxv (6 * num + face)) (hi2 : ∀ (num face : Nat) (P M f : Nat → Nat), num < 24 → face < 6 → (∀ j, j < 12 → P j < 12) → (∀ j, j < 12 → M j < 2) → 0 ≤ face → cu_oo ((qtP cu_er (4 * face) (qtP cu_er (4 * face) (or_P 8 (cu_to num (f)) (P) 4))) 8 &&& 3) ((qtP cu_er (4 * face) (qtP cu_er (4 * face) (or_P 8 (cu_to num (f)) (P) 4))) (8 + 1) &&& 3) ((qtP cu_er (4 * face) (qtP cu_er (4 * face) (or_P 8 (cu_to num (f)) (P) 4))) (8 + 2) &&& 3) ((qtP cu_er (4 * face) (qtP cu_er (4 * face) (or_P 8 (cu_to num (f)) (P) 4))) (8 + 3) &&& 3) = nxv (6 * num + face)) : gw_CV (S := Nat × (Nat → Nat)) l yX2_learn wsX2_learn 2 52 4 174 D (mo_ty cI cB cS cJ cF cG) (zs tt) ([(ft, .inr (3, [iN (0), iN (24), .null, iN (8), .ref (oa)])), (oa, .inl (cI, 4, .inl (fun j => nI (f j))))]) [.ref ft, iN 0] (fun _ => True) (fun u => [(ft, .inr (3, [iN (0), iN (24), .ref (u.1), iN (8), .ref (oa)])), (oa, .inl (cI, 4, .inl (fun j => nI ((u.2) j)))), (u.1, .inl (cI, 144, .inl (fun j => nI (nxv j))))]) := by
  refine gw_CV.of (cc := cX2_learn) (maxL := 5) (zs_ok tt) (by decide) rfl (Nat.le_of_ble_eq_true rfl) ?_
  intro K C hkl hkn hkR hkD hmn ret
  have C : gw_x K cX2_learn RX2 wsX2_learn (mo_ty cI cB cS cJ cF cG) (zs tt) := C
  subst hkl hkD
  have hrc : (kR K).cells = 4 := by rw [hkR]
  have hrs : (kR K).slots = 174 := by rw [hkR]
  refine gw_new C (ci := 5) (fs := [.int (0), .int (0), .null, .null, .null, .null]) tyX7 tyX7_ok in_X2_learn_X7 dX2_learn_0 (by decide +kernel) (by decide +kernel) (by decide +kernel) rfl (fun j hj => by rcases (show j = 0 ∨ j = 1 ∨ j = 2 ∨ j = 3 ∨ j = 4 ∨ j = 5 by omega) with h | h | h | h | h | h <;> subst h <;> rfl) (by omega) (by omega) (fun pp => ?_)
  refine gw_ws (ws2 := [(ft, .inr (3, [iN (0), iN (24), .null, iN (8), .ref (oa)])), (oa, .inl (cI, 4, .inl (fun j => nI (f j)))), (pp, .inr (5, [.int (0), .int (0), .null, .null, .null, .null]))]) rfl ?_
  refine gw_dup C dX2_learn_3 rfl ?_
  refine gw_aload_n C 0 dX2_learn_4 rfl rfl ?_
  refine gw_get C 0 0 in_X2_learn_X5 dX2_learn_5 lk_X2_learn_9 rfl rfl (by decide) rfl rfl ?_
  refine gw_callIV (n := 1) (wr := [(ft, .inr (3, [iN (0), iN (24), .null, iN (8), .ref (oa)])), (oa, .inl (cI, 4, .inl (fun j => nI (f j))))]) C (c_pinitE (kl K) (kD K) cI cB cS cJ cF cG (zs tt) (zs_ok tt) pp (tt 1) (tt 3) (fun _ _ _ h => h.2.1.1) (fun _ _ _ h => h.2.2.2.1.1)) gX2_learn_X7_init rfl (by decide +kernel) (by decide +kernel) (by decide +kernel) rfl (by decide +kernel) dX2_learn_8 (by rw [hkR]; decide) (by rw [hrc, hrs]; decide) [2] [0, 1] rfl rfl rfl rfl (by decide) rfl (Nat.le_of_ble_eq_true rfl) rfl (fun z hz => ?_)
  refine gw_ws (ws2 := [(ft, .inr (3, [iN (0), iN (24), .null, iN (8), .ref (oa)])), (oa, .inl (cI, 4, .inl (fun j => nI (f j)))), (pp, .inr (5, [iN (12), iN (2), .ref (z.1), .ref (z.2), .ref (tt 1), .ref (tt 3)])), (z.1, .inl (cI, 12, .inl (fun j => nI ((rs_P (fun _ => 0) 12) j)))), (z.2, .inl (cI, 12, .inl (fun j => nI ((rs_M (fun _ => 0) 12) j))))]) rfl ?_
  refine gw_astore_n C (lv2 := [(2, .ref (pp)), (0, .ref (ft)), (1, iN (0))]) dX2_learn_11 rfl (by omega) rfl ?_
  refine gw_aload_n C 1 dX2_learn_12 rfl rfl ?_
  refine gw_bipush C 6 dX2_learn_13 (by decide) ?_
  refine gw_aload_n C 1 dX2_learn_15 rfl rfl ?_
  refine gw_get C 0 1 in_X2_learn_X5 dX2_learn_16 lk_X2_learn_15 rfl rfl (by decide) rfl rfl ?_
  refine gw_imul C dX2_learn_19 ?_
  refine gw_newa C 0 dX2_learn_20 rfl (by decide +kernel) rfl (fun _ _ h => h) (a0 := (144, .inl (fun _ => 0))) (fun _ => rfl) (by decide) (by decide) (by omega) (by omega) (fun na => ?_)
  refine gw_ws (ws2 := [(ft, .inr (3, [iN (0), iN (24), .null, iN (8), .ref (oa)])), (oa, .inl (cI, 4, .inl (fun j => nI (f j)))), (pp, .inr (5, [iN (12), iN (2), .ref (z.1), .ref (z.2), .ref (tt 1), .ref (tt 3)])), (z.1, .inl (cI, 12, .inl (fun j => nI ((rs_P (fun _ => 0) 12) j)))), (z.2, .inl (cI, 12, .inl (fun j => nI ((rs_M (fun _ => 0) 12) j)))), (na, .inl (cI, 144, .inl (fun j => nI (((fun _ => 0)) j))))]) rfl ?_
  refine gw_put C (ty := (.array .int)) (ws2 := [(ft, .inr (3, [iN (0), iN (24), .ref (na), iN (8), .ref (oa)])), (oa, .inl (cI, 4, .inl (fun j => nI (f j)))), (pp, .inr (5, [iN (12), iN (2), .ref (z.1), .ref (z.2), .ref (tt 1), .ref (tt 3)])), (z.1, .inl (cI, 12, .inl (fun j => nI ((rs_P (fun _ => 0) 12) j)))), (z.2, .inl (cI, 12, .inl (fun j => nI ((rs_M (fun _ => 0) 12) j)))), (na, .inl (cI, 144, .inl (fun j => nI (((fun _ => 0)) j))))]) 0 2 tyX5 tyX5_ok nmX5 in_X2_learn_X5 dX2_learn_22 lk_X2_learn_37 rfl rfl (by decide) rfl rfl (by decide +kernel) rfl rfl (Nat.le_of_ble_eq_true rfl) rfl ?_
  refine gw_iconst C 0 dX2_learn_25 (by decide) ?_
  refine gw_istore_n C (lv2 := [(3, iN (0)), (2, .ref (pp)), (0, .ref (ft)), (1, iN (0))]) dX2_learn_26 rfl (by omega) rfl ?_
  refine gw_perm (ws2 := [(na, .inl (cI, 144, .inl (fun j => nI ((fun _ => 0) j)))), (ft, .inr (3, [iN (0), iN (24), .ref (na), iN (8), .ref (oa)])), (oa, .inl (cI, 4, .inl (fun j => nI (f j)))), (pp, .inr (5, [iN (12), iN (2), .ref (z.1), .ref (z.2), .ref (tt 1), .ref (tt 3)])), (z.1, .inl (cI, 12, .inl (fun j => nI ((rs_P (fun _ => 0) 12) j)))), (z.2, .inl (cI, 12, .inl (fun j => nI ((rs_M (fun _ => 0) 12) j))))]) [5, 0, 1, 2, 3, 4] rfl (by decide) trivial ?_
  have lpN : ∀ (n num : Nat) (P M f NX : Nat → Nat), num + n = 24 → (∀ q, q < 6 * num → NX q = nxv q) → (∀ j, j < 12 → P j < 12) → (∀ j, j < 12 → M j < 2) → gw_G K ([(na, .inl (cI, 144, .inl (fun j => nI (NX j)))), (ft, .inr (3, [iN (0), iN (24), .ref (na), iN (8), .ref (oa)])), (oa, .inl (cI, 4, .inl (fun j => nI (f j)))), (pp, .inr (5, [iN (12), iN (2), .ref (z.1), .ref (z.2), .ref (tt 1), .ref (tt 3)])), (z.1, .inl (cI, 12, .inl (fun j => nI (P j)))), (z.2, .inl (cI, 12, .inl (fun j => nI (M j))))]) 4 174 27 [(3, iN num), (2, .ref pp), (0, .ref ft), (1, iN 0)] [] := by
    intro n
    induction n with
    | zero =>
      intro num P M f NX hi hNX hP hM
      refine gw_iload_n C 0 dX2_learn_27 rfl rfl ?_
      refine gw_aload_n C 2 dX2_learn_28 rfl rfl ?_
      refine gw_get C 1 1 in_X2_learn_X5 dX2_learn_29 lk_X2_learn_15 rfl rfl (by decide) rfl rfl ?_
      refine gw_icmp_ge C 98 dX2_learn_32 (by decide) (by omega) (by omega) (fun h104 => ?_) (fun h104 => ?_)
      ·
        have e : (fun j => nI (NX j)) = fun j => nI (NX j) := rfl
        refine gw_iext (f2 := nxv) 0 rfl (fun j hj => by rw [hNX j (by omega)]) ?_
        refine gw_perm (ws2 := [(ft, .inr (3, [iN (0), iN (24), .ref (na), iN (8), .ref (oa)])), (oa, .inl (cI, 4, .inl (fun j => nI (f j)))), (na, .inl (cI, 144, .inl (fun j => nI (nxv j))))]) [1, 2, 0] rfl (by decide) trivial ?_
        exact ret (na, f) dX2_learn_98 trivial rfl (by decide) (by decide)
      ·
        exact absurd h104 (by omega)
    | succ n ih =>
      intro num P M f NX hi hNX hP hM
      refine gw_iload_n C 0 dX2_learn_27 rfl rfl ?_
      refine gw_aload_n C 2 dX2_learn_28 rfl rfl ?_
      refine gw_get C 1 1 in_X2_learn_X5 dX2_learn_29 lk_X2_learn_15 rfl rfl (by decide) rfl rfl ?_
      refine gw_icmp_ge C 98 dX2_learn_32 (by decide) (by omega) (by omega) (fun h105 => ?_) (fun h105 => ?_)
      ·
        exact absurd h105 (by omega)
      ·
        refine gw_iconst C 0 dX2_learn_35 (by decide) ?_
        refine gw_istore C (lv2 := [(4, iN (0)), (3, iN (num)), (2, .ref (pp)), (0, .ref (ft)), (1, iN (0))]) dX2_learn_36 (by omega) rfl ?_
        have lpF : ∀ (k face : Nat) (P M f NX : Nat → Nat), face + k = 6 → (∀ q, q < 6 * num + face → NX q = nxv q) → (∀ j, j < 12 → P j < 12) → (∀ j, j < 12 → M j < 2) → gw_G K ([(na, .inl (cI, 144, .inl (fun j => nI (NX j)))), (ft, .inr (3, [iN (0), iN (24), .ref (na), iN (8), .ref (oa)])), (oa, .inl (cI, 4, .inl (fun j => nI (f j)))), (pp, .inr (5, [iN (12), iN (2), .ref (z.1), .ref (z.2), .ref (tt 1), .ref (tt 3)])), (z.1, .inl (cI, 12, .inl (fun j => nI (P j)))), (z.2, .inl (cI, 12, .inl (fun j => nI (M j))))]) 4 174 38 [(4, iN face), (3, iN num), (2, .ref pp), (0, .ref ft), (1, iN 0)] [] := by
          intro k
          induction k with
          | zero =>
            intro face P M f NX hj hNX hP hM
            refine gw_iload C 0 dX2_learn_38 rfl ?_
            refine gw_bipush C 6 dX2_learn_40 (by decide) ?_
            refine gw_icmp_ge C 92 dX2_learn_42 (by decide) (by omega) (by omega) (fun h106 => ?_) (fun h106 => ?_)
            ·
              refine gw_iinc C (v := nI (num + 1)) (lv2 := [(3, iN (num + 1)), (4, iN (face)), (2, .ref (pp)), (0, .ref (ft)), (1, iN (0))]) 1 dX2_learn_92 rfl (nI_add _ _) (by omega) rfl ?_
              refine gw_goto C 27 dX2_learn_95 (by decide) ?_
              refine gw_lv (lv2 := [(3, iN (num + 1)), (2, .ref (pp)), (0, .ref (ft)), (1, iN (0))]) [0, 2, 3, 4] rfl ?_
              exact ih (num + 1) P M f NX (by omega) (fun q hq => hNX q (by omega)) hP hM
            ·
              exact absurd h106 (by omega)
          | succ k ihk =>
            intro face P M f NX hj hNX hP hM
            refine gw_iload C 0 dX2_learn_38 rfl ?_
            refine gw_bipush C 6 dX2_learn_40 (by decide) ?_
            refine gw_icmp_ge C 92 dX2_learn_42 (by decide) (by omega) (by omega) (fun h107 => ?_) (fun h107 => ?_)
            ·
              exact absurd h107 (by omega)
            ·
              refine gw_aload_n C 3 dX2_learn_45 rfl rfl ?_
              refine gw_iload_n C 1 dX2_learn_46 rfl rfl ?_
              refine gw_aload_n C 2 dX2_learn_47 rfl rfl ?_
              refine gw_callAV (n := 2) (wr := [(na, .inl (cI, 144, .inl (fun j => nI (NX j))))]) C (c_ordersShow (kl K) (kD K) cI cB cS cJ cF cG tt ft 0 24 (.ref na) pp z.1 z.2 (tt 1) (tt 3) 12 2 (P) (M) 8 oa (f) num (by omega) (by decide) rfl) 0 rfl rfl rfl gX2_learn_X5_show_u41X5 rfl C.2.2.2.1.2.2.2.2.2.2.2.2.1 (by decide +kernel) dX2_learn_48 (by rw [hkR]; decide) (by rw [hrc, hrs]; decide) [1, 2, 3, 4, 5] [0] rfl rfl rfl rfl (by decide) rfl (Nat.le_of_ble_eq_true rfl) rfl (fun v hv => ?_)
              have bM1 := hM
              have bP1 : ∀ j, j < 12 → (or_P 8 (cu_to num (f)) (P) 4) j < 12 := (or_P_lt 8 (by decide) (cu_to_4 num (by omega) f) hP 4 (by decide))
              have j1 := hi1 num face P M f (by omega) (by omega) hP hM
              have j2 := hi2 num face P M f (by omega) (by omega) hP hM
              refine gw_aload_n C 2 dX2_learn_51 rfl rfl ?_
              refine gw_iload C 0 dX2_learn_52 rfl ?_
              refine gw_callVV (n := 1) (wr := [(na, .inl (cI, 144, .inl (fun j => nI (NX j)))), (ft, .inr (3, [iN (0), iN (24), .ref (na), iN (8), .ref (oa)])), (oa, .inl (cI, 4, .inl (fun j => nI ((cu_to num (f)) j))))]) C (c_quarterE (kl K) (kD K) cI cB cS cJ cF cG tt pp z.1 z.2 (or_P 8 (cu_to num (f)) (P) 4) (M) face (by omega) bM1) 0 rfl rfl rfl gX2_learn_X7_quarter rfl (by decide +kernel) dX2_learn_54 (by rw [hkR]; decide) (by rw [hkR]; decide) [3, 4, 5] [0, 1, 2] rfl rfl rfl rfl (by decide) rfl (Nat.le_of_ble_eq_true rfl) rfl (fun v2 hv2 => ?_)
              subst hv2
              refine gw_iload C 0 dX2_learn_57 rfl ?_
              refine gw_iload_n C 4 dX2_learn_59 rfl rfl ?_
              refine gw_icmp_lt C 69 dX2_learn_60 (by decide) (by omega) (by omega) (fun h108 => ?_) (fun h108 => ?_)
              ·
                refine gw_aload_n C 3 dX2_learn_69 rfl rfl ?_
                refine gw_get C 1 2 in_X2_learn_X5 dX2_learn_70 lk_X2_learn_37 rfl rfl (by decide) rfl rfl ?_
                refine gw_bipush C 6 dX2_learn_73 (by decide) ?_
                refine gw_iload_n C 1 dX2_learn_75 rfl rfl ?_
                refine gw_imul C dX2_learn_76 ?_
                refine gw_iload C 0 dX2_learn_77 rfl ?_
                refine gw_iadd C dX2_learn_79 ?_
                refine gw_aload_n C 3 dX2_learn_80 rfl rfl ?_
                refine gw_aload_n C 2 dX2_learn_81 rfl rfl ?_
                have bP9 : ∀ j, j < 12 → (qtP cu_er (4 * face) (or_P 8 (cu_to num (f)) (P) 4)) j < 12 := qtP_lt cu_er (4 * face) cu_er_12 bP1
                refine gw_callAI (n := 1) (wr := [(na, .inl (cI, 144, .inl (fun j => nI (NX j))))]) C (c_ordersRead (kl K) (kD K) cI cB cS cJ cF cG tt ft 0 24 (.ref na) pp z.1 z.2 (tt 1) (tt 3) 12 2 (qtP cu_er (4 * face) (or_P 8 (cu_to num (f)) (P) 4)) (qtM cu_er cu_fg 2 (4 * face) (M)) 8 oa (cu_to num (f)) (by decide) rfl) 0 rfl rfl rfl gX2_learn_X5_read_u28X5 rfl C.2.2.2.1.2.2.2.2.2.2.2.1 (by decide +kernel) dX2_learn_82 (by rw [hkR]; decide) (by rw [hrc, hrs]; decide) [1, 2, 3, 4, 5] [0] rfl rfl rfl rfl (by decide) rfl (Nat.le_of_ble_eq_true rfl) rfl (fun rv9 v9 hv9 => ?_)
                subst hv9
                rw [j1 h108]
                refine gw_istN C (ws2 := [(na, .inl (cI, 144, .inl (fun j => nI ((up1 NX (((6) * (num)) + (face)) (nxv (6 * num + face))) j)))), (ft, .inr (3, [iN (0), iN (24), .ref (na), iN (8), .ref (oa)])), (oa, .inl (cI, 4, .inl (fun j => nI ((cu_to num (f)) j)))), (pp, .inr (5, [iN (12), iN (2), .ref (z.1), .ref (z.2), .ref (tt 1), .ref (tt 3)])), (z.1, .inl (cI, 12, .inl (fun j => nI ((qtP cu_er (4 * face) (or_P 8 (cu_to num (f)) (P) 4)) j)))), (z.2, .inl (cI, 12, .inl (fun j => nI ((qtM cu_er cu_fg 2 (4 * face) (M)) j))))]) 0 0 dX2_learn_85 rfl rfl (by first | decide | omega) (by omega) rfl ?_
                refine gw_iinc C (v := nI (face + 1)) (lv2 := [(4, iN (face + 1)), (3, iN (num)), (2, .ref (pp)), (0, .ref (ft)), (1, iN (0))]) 0 dX2_learn_86 rfl (nI_add _ _) (by omega) rfl ?_
                refine gw_goto C 38 dX2_learn_89 (by decide) ?_
                refine gw_lv (lv2 := [(4, iN (face + 1)), (3, iN (num)), (2, .ref (pp)), (0, .ref (ft)), (1, iN (0))]) [0, 1, 2, 3, 4] rfl ?_
                exact ihk (face + 1) (qtP cu_er (4 * face) (or_P 8 (cu_to num (f)) (P) 4)) (qtM cu_er cu_fg 2 (4 * face) (M)) (cu_to num (f)) _ (by omega) (up1_ih hNX) bP9 (qtM_lt cu_er cu_fg (4 * face) (by decide) bM1)
              ·
                refine gw_aload_n C 2 dX2_learn_63 rfl rfl ?_
                refine gw_iload C 0 dX2_learn_64 rfl ?_
                refine gw_callVV (n := 1) (wr := [(na, .inl (cI, 144, .inl (fun j => nI (NX j)))), (ft, .inr (3, [iN (0), iN (24), .ref (na), iN (8), .ref (oa)])), (oa, .inl (cI, 4, .inl (fun j => nI ((cu_to num (f)) j))))]) C (c_quarterE (kl K) (kD K) cI cB cS cJ cF cG tt pp z.1 z.2 (qtP cu_er (4 * face) (or_P 8 (cu_to num (f)) (P) 4)) (qtM cu_er cu_fg 2 (4 * face) (M)) face (by omega) (qtM_lt cu_er cu_fg (4 * face) (by decide) bM1)) 0 rfl rfl rfl gX2_learn_X7_quarter rfl (by decide +kernel) dX2_learn_66 (by rw [hkR]; decide) (by rw [hkR]; decide) [3, 4, 5] [0, 1, 2] rfl rfl rfl rfl (by decide) rfl (Nat.le_of_ble_eq_true rfl) rfl (fun v3 hv3 => ?_)
                subst hv3
                refine gw_aload_n C 3 dX2_learn_69 rfl rfl ?_
                refine gw_get C 1 2 in_X2_learn_X5 dX2_learn_70 lk_X2_learn_37 rfl rfl (by decide) rfl rfl ?_
                refine gw_bipush C 6 dX2_learn_73 (by decide) ?_
                refine gw_iload_n C 1 dX2_learn_75 rfl rfl ?_
                refine gw_imul C dX2_learn_76 ?_
                refine gw_iload C 0 dX2_learn_77 rfl ?_
                refine gw_iadd C dX2_learn_79 ?_
                refine gw_aload_n C 3 dX2_learn_80 rfl rfl ?_
                refine gw_aload_n C 2 dX2_learn_81 rfl rfl ?_
                have bP9 : ∀ j, j < 12 → (qtP cu_er (4 * face) (qtP cu_er (4 * face) (or_P 8 (cu_to num (f)) (P) 4))) j < 12 := qtP_lt cu_er (4 * face) cu_er_12 (qtP_lt cu_er (4 * face) cu_er_12 bP1)
                refine gw_callAI (n := 1) (wr := [(na, .inl (cI, 144, .inl (fun j => nI (NX j))))]) C (c_ordersRead (kl K) (kD K) cI cB cS cJ cF cG tt ft 0 24 (.ref na) pp z.1 z.2 (tt 1) (tt 3) 12 2 (qtP cu_er (4 * face) (qtP cu_er (4 * face) (or_P 8 (cu_to num (f)) (P) 4))) (qtM cu_er cu_fg 2 (4 * face) (qtM cu_er cu_fg 2 (4 * face) (M))) 8 oa (cu_to num (f)) (by decide) rfl) 0 rfl rfl rfl gX2_learn_X5_read_u28X5 rfl C.2.2.2.1.2.2.2.2.2.2.2.1 (by decide +kernel) dX2_learn_82 (by rw [hkR]; decide) (by rw [hrc, hrs]; decide) [1, 2, 3, 4, 5] [0] rfl rfl rfl rfl (by decide) rfl (Nat.le_of_ble_eq_true rfl) rfl (fun rv9 v9 hv9 => ?_)
                subst hv9
                rw [j2 h108]
                refine gw_istN C (ws2 := [(na, .inl (cI, 144, .inl (fun j => nI ((up1 NX (((6) * (num)) + (face)) (nxv (6 * num + face))) j)))), (ft, .inr (3, [iN (0), iN (24), .ref (na), iN (8), .ref (oa)])), (oa, .inl (cI, 4, .inl (fun j => nI ((cu_to num (f)) j)))), (pp, .inr (5, [iN (12), iN (2), .ref (z.1), .ref (z.2), .ref (tt 1), .ref (tt 3)])), (z.1, .inl (cI, 12, .inl (fun j => nI ((qtP cu_er (4 * face) (qtP cu_er (4 * face) (or_P 8 (cu_to num (f)) (P) 4))) j)))), (z.2, .inl (cI, 12, .inl (fun j => nI ((qtM cu_er cu_fg 2 (4 * face) (qtM cu_er cu_fg 2 (4 * face) (M))) j))))]) 0 0 dX2_learn_85 rfl rfl (by first | decide | omega) (by omega) rfl ?_
                refine gw_iinc C (v := nI (face + 1)) (lv2 := [(4, iN (face + 1)), (3, iN (num)), (2, .ref (pp)), (0, .ref (ft)), (1, iN (0))]) 0 dX2_learn_86 rfl (nI_add _ _) (by omega) rfl ?_
                refine gw_goto C 38 dX2_learn_89 (by decide) ?_
                refine gw_lv (lv2 := [(4, iN (face + 1)), (3, iN (num)), (2, .ref (pp)), (0, .ref (ft)), (1, iN (0))]) [0, 1, 2, 3, 4] rfl ?_
                exact ihk (face + 1) (qtP cu_er (4 * face) (qtP cu_er (4 * face) (or_P 8 (cu_to num (f)) (P) 4))) (qtM cu_er cu_fg 2 (4 * face) (qtM cu_er cu_fg 2 (4 * face) (M))) (cu_to num (f)) _ (by omega) (up1_ih hNX) bP9 (qtM_lt cu_er cu_fg (4 * face) (by decide) (qtM_lt cu_er cu_fg (4 * face) (by decide) bM1))
        refine gw_lv (lv2 := [(4, iN (0)), (3, iN (num)), (2, .ref (pp)), (0, .ref (ft)), (1, iN (0))]) [0, 1, 2, 3, 4] rfl ?_
        exact lpF 6 0 P M f NX rfl (fun q hq => hNX q (by omega)) hP hM
  refine gw_lv (lv2 := [(3, iN 0), (2, .ref pp), (0, .ref ft), (1, iN 0)]) [0, 1, 2, 3] rfl ?_
  exact lpN 24 0 _ _ f _ (by omega) (fun q hq => absurd hq (by omega)) (by decide) (by decide)
set_option maxHeartbeats 4000000 in
set_option maxRecDepth 100000 in
theorem c_rf_co (l : Launch) (D : va_G) (cI cB cS cJ cF cG : ClassId) (tt : Nat → Nat) (ft : Nat) (ca : Nat → Nat) (cp co ep eo : Nat → Nat) (nx : Value) (oa : Nat) (f : Nat → Nat) (hP : ∀ j, j < 8 → cp j < 8) : gw_CI (S := Unit) l yX2_readFrom wsX2_readFrom 2 52 0 0 D (mo_ty cI cB cS cJ cF cG) (zs tt) ([(ft, .inr (0, [iN (1), iN (96), nx, .ref (oa)])), (oa, .inl (cI, 4, .inl (fun j => nI (f j))))] ++ cb_ws cI tt ca cp co ep eo) [.ref ft, .ref (ca 0)] (fun r _ => r = nI (cu_oo ((cp) 0 / 2 ^ 1) ((cp) 3 / 2 ^ 1) ((cp) 5 / 2 ^ 1) ((cp) 6 / 2 ^ 1) * 4 + (cp) 1 / 2 ^ 1)) (fun _ => [(ft, .inr (0, [iN (1), iN (96), nx, .ref (oa)])), (oa, .inl (cI, 4, .inl (fun j => nI (f j))))] ++ cb_ws cI tt ca cp co ep eo) := by
  refine gw_CI.of (cc := cX2_readFrom) (maxL := 2) (rt := .int) (zs_ok tt) (by decide) rfl (Nat.le_of_ble_eq_true rfl) ?_
  intro K C hkl hkn hkR hkD hmn ret
  have C : gw_x K cX2_readFrom RX2 wsX2_readFrom (mo_ty cI cB cS cJ cF cG) (zs tt) := C
  subst hkl hkD
  have hrc : (kR K).cells = 0 := by rw [hkR]
  have hrs : (kR K).slots = 0 := by rw [hkR]
  refine gw_aload_n C 0 dX2_readFrom_0 rfl rfl ?_
  refine gw_aload_n C 0 dX2_readFrom_1 rfl rfl ?_
  refine gw_get C 0 0 in_X2_readFrom_X0 dX2_readFrom_2 lk_X2_readFrom_9 rfl rfl (by decide) rfl rfl ?_
  refine gw_if_eq C 15 dX2_readFrom_5 (by decide) (by omega) (fun h109 => ?_) (fun h109 => ?_)
  · first | exact absurd h109 (by decide) | exact absurd (by decide) h109
  refine gw_aload_n C 1 dX2_readFrom_8 rfl rfl ?_
  refine gw_get C 2 0 in_X2_readFrom_X1 dX2_readFrom_9 lk_X2_readFrom_19 rfl rfl (by decide) rfl rfl ?_
  refine gw_goto C 19 dX2_readFrom_12 (by decide) ?_
  refine gw_callAI (n := 1) (wr := [(ca 0, .inr (1, [.ref (ca 1), .ref (ca 4)])), (ca 4, .inr (5, [iN (12), iN (2), .ref (ca 5), .ref (ca 6), .ref (tt 1), .ref (tt 3)])), (ca 5, .inl (cI, 12, .inl (fun j => nI (ep j)))), (ca 6, .inl (cI, 12, .inl (fun j => nI (eo j))))]) C (c_coRead (kl K) (kD K) cI cB cS cJ cF cG tt ft 1 96 (nx) (ca 1) (ca 2) (ca 3) (tt 0) (tt 2) 8 3 (cp) (co) oa (f) rfl hP) 0 rfl rfl rfl gX2_readFrom_X0_read_u28X0 rfl C.2.2.2.1.2.2.2.2.2.2.2.1 (by decide +kernel) dX2_readFrom_19 (by rw [hkR]; decide) (by rw [hrc, hrs]; decide) [0, 1, 3, 4, 5] [2, 6, 7, 8] rfl rfl rfl rfl (by decide) rfl (Nat.le_of_ble_eq_true rfl) rfl (fun rz z hz => ?_)
  subst hz
  refine gw_perm (ws2 := [(ft, .inr (0, [iN (1), iN (96), nx, .ref (oa)])), (oa, .inl (cI, 4, .inl (fun j => nI (f j))))] ++ cb_ws cI tt ca cp co ep eo) [4, 5, 0, 6, 7, 8, 1, 2, 3] rfl (by decide) trivial ?_
  exact ret () dX2_readFrom_22 rfl rfl rfl (Nat.le_refl 0) (Nat.le_refl 0)
set_option maxHeartbeats 4000000 in
set_option maxRecDepth 100000 in
theorem c_ln_co (l : Launch) (D : va_G) (cI cB cS cJ cF cG : ClassId) (tt : Nat → Nat) (ft : Nat) (oa : Nat) (f : Nat → Nat) (nxv : Nat → Nat) (hi1 : ∀ (num face : Nat) (P M f : Nat → Nat), num < 96 → face < 6 → (∀ j, j < 8 → P j < 8) → (∀ j, j < 8 → M j < 3) → face < 0 → cu_oo ((qtP cu_cr (4 * face) (co_P ((cu_ev (cu_to (num / 4) (f) 0) ^^^ cu_ev (num % 4)) ^^^ 1) (cu_to (num / 4) (f)) (P) 4)) 0 / 2 ^ 1) ((qtP cu_cr (4 * face) (co_P ((cu_ev (cu_to (num / 4) (f) 0) ^^^ cu_ev (num % 4)) ^^^ 1) (cu_to (num / 4) (f)) (P) 4)) 3 / 2 ^ 1) ((qtP cu_cr (4 * face) (co_P ((cu_ev (cu_to (num / 4) (f) 0) ^^^ cu_ev (num % 4)) ^^^ 1) (cu_to (num / 4) (f)) (P) 4)) 5 / 2 ^ 1) ((qtP cu_cr (4 * face) (co_P ((cu_ev (cu_to (num / 4) (f) 0) ^^^ cu_ev (num % 4)) ^^^ 1) (cu_to (num / 4) (f)) (P) 4)) 6 / 2 ^ 1) * 4 + (qtP cu_cr (4 * face) (co_P ((cu_ev (cu_to (num / 4) (f) 0) ^^^ cu_ev (num % 4)) ^^^ 1) (cu_to (num / 4) (f)) (P) 4)) 1 / 2 ^ 1 = nxv (6 * num + face)) (hi2 : ∀ (num face : Nat) (P M f : Nat → Nat), num < 96 → face < 6 → (∀ j, j < 8 → P j < 8) → (∀ j, j < 8 → M j < 3) → 0 ≤ face → cu_oo ((qtP cu_cr (4 * face) (qtP cu_cr (4 * face) (co_P ((cu_ev (cu_to (num / 4) (f) 0) ^^^ cu_ev (num % 4)) ^^^ 1) (cu_to (num / 4) (f)) (P) 4))) 0 / 2 ^ 1) ((qtP cu_cr (4 * face) (qtP cu_cr (4 * face) (co_P ((cu_ev (cu_to (num / 4) (f) 0) ^^^ cu_ev (num % 4)) ^^^ 1) (cu_to (num / 4) (f)) (P) 4))) 3 / 2 ^ 1) ((qtP cu_cr (4 * face) (qtP cu_cr (4 * face) (co_P ((cu_ev (cu_to (num / 4) (f) 0) ^^^ cu_ev (num % 4)) ^^^ 1) (cu_to (num / 4) (f)) (P) 4))) 5 / 2 ^ 1) ((qtP cu_cr (4 * face) (qtP cu_cr (4 * face) (co_P ((cu_ev (cu_to (num / 4) (f) 0) ^^^ cu_ev (num % 4)) ^^^ 1) (cu_to (num / 4) (f)) (P) 4))) 6 / 2 ^ 1) * 4 + (qtP cu_cr (4 * face) (qtP cu_cr (4 * face) (co_P ((cu_ev (cu_to (num / 4) (f) 0) ^^^ cu_ev (num % 4)) ^^^ 1) (cu_to (num / 4) (f)) (P) 4))) 1 / 2 ^ 1 = nxv (6 * num + face)) : gw_CV (S := Nat × (Nat → Nat)) l yX2_learn wsX2_learn 2 52 4 598 D (mo_ty cI cB cS cJ cF cG) (zs tt) ([(ft, .inr (0, [iN (1), iN (96), .null, .ref (oa)])), (oa, .inl (cI, 4, .inl (fun j => nI (f j))))]) [.ref ft, iN 0] (fun _ => True) (fun u => [(ft, .inr (0, [iN (1), iN (96), .ref (u.1), .ref (oa)])), (oa, .inl (cI, 4, .inl (fun j => nI ((u.2) j)))), (u.1, .inl (cI, 576, .inl (fun j => nI (nxv j))))]) := by
  refine gw_CV.of (cc := cX2_learn) (maxL := 5) (zs_ok tt) (by decide) rfl (Nat.le_of_ble_eq_true rfl) ?_
  intro K C hkl hkn hkR hkD hmn ret
  have C : gw_x K cX2_learn RX2 wsX2_learn (mo_ty cI cB cS cJ cF cG) (zs tt) := C
  subst hkl hkD
  have hrc : (kR K).cells = 4 := by rw [hkR]
  have hrs : (kR K).slots = 598 := by rw [hkR]
  refine gw_new C (ci := 5) (fs := [.int (0), .int (0), .null, .null, .null, .null]) tyX7 tyX7_ok in_X2_learn_X7 dX2_learn_0 (by decide +kernel) (by decide +kernel) (by decide +kernel) rfl (fun j hj => by rcases (show j = 0 ∨ j = 1 ∨ j = 2 ∨ j = 3 ∨ j = 4 ∨ j = 5 by omega) with h | h | h | h | h | h <;> subst h <;> rfl) (by omega) (by omega) (fun pp => ?_)
  refine gw_ws (ws2 := [(ft, .inr (0, [iN (1), iN (96), .null, .ref (oa)])), (oa, .inl (cI, 4, .inl (fun j => nI (f j)))), (pp, .inr (5, [.int (0), .int (0), .null, .null, .null, .null]))]) rfl ?_
  refine gw_dup C dX2_learn_3 rfl ?_
  refine gw_aload_n C 0 dX2_learn_4 rfl rfl ?_
  refine gw_get C 0 0 in_X2_learn_X0 dX2_learn_5 lk_X2_learn_9 rfl rfl (by decide) rfl rfl ?_
  refine gw_callIV (n := 1) (wr := [(ft, .inr (0, [iN (1), iN (96), .null, .ref (oa)])), (oa, .inl (cI, 4, .inl (fun j => nI (f j))))]) C (c_pinitC (kl K) (kD K) cI cB cS cJ cF cG (zs tt) (zs_ok tt) pp (tt 0) (tt 2) (fun _ _ _ h => h.1.1) (fun _ _ _ h => h.2.2.1.1)) gX2_learn_X7_init rfl (by decide +kernel) (by decide +kernel) (by decide +kernel) rfl (by decide +kernel) dX2_learn_8 (by rw [hkR]; decide) (by rw [hrc, hrs]; decide) [2] [0, 1] rfl rfl rfl rfl (by decide) rfl (Nat.le_of_ble_eq_true rfl) rfl (fun z hz => ?_)
  refine gw_ws (ws2 := [(ft, .inr (0, [iN (1), iN (96), .null, .ref (oa)])), (oa, .inl (cI, 4, .inl (fun j => nI (f j)))), (pp, .inr (5, [iN (8), iN (3), .ref (z.1), .ref (z.2), .ref (tt 0), .ref (tt 2)])), (z.1, .inl (cI, 8, .inl (fun j => nI ((rs_P (fun _ => 0) 8) j)))), (z.2, .inl (cI, 8, .inl (fun j => nI ((rs_M (fun _ => 0) 8) j))))]) rfl ?_
  refine gw_astore_n C (lv2 := [(2, .ref (pp)), (0, .ref (ft)), (1, iN (0))]) dX2_learn_11 rfl (by omega) rfl ?_
  refine gw_aload_n C 1 dX2_learn_12 rfl rfl ?_
  refine gw_bipush C 6 dX2_learn_13 (by decide) ?_
  refine gw_aload_n C 1 dX2_learn_15 rfl rfl ?_
  refine gw_get C 0 1 in_X2_learn_X0 dX2_learn_16 lk_X2_learn_15 rfl rfl (by decide) rfl rfl ?_
  refine gw_imul C dX2_learn_19 ?_
  refine gw_newa C 0 dX2_learn_20 rfl (by decide +kernel) rfl (fun _ _ h => h) (a0 := (576, .inl (fun _ => 0))) (fun _ => rfl) (by decide) (by decide) (by omega) (by omega) (fun na => ?_)
  refine gw_ws (ws2 := [(ft, .inr (0, [iN (1), iN (96), .null, .ref (oa)])), (oa, .inl (cI, 4, .inl (fun j => nI (f j)))), (pp, .inr (5, [iN (8), iN (3), .ref (z.1), .ref (z.2), .ref (tt 0), .ref (tt 2)])), (z.1, .inl (cI, 8, .inl (fun j => nI ((rs_P (fun _ => 0) 8) j)))), (z.2, .inl (cI, 8, .inl (fun j => nI ((rs_M (fun _ => 0) 8) j)))), (na, .inl (cI, 576, .inl (fun j => nI (((fun _ => 0)) j))))]) rfl ?_
  refine gw_put C (ty := (.array .int)) (ws2 := [(ft, .inr (0, [iN (1), iN (96), .ref (na), .ref (oa)])), (oa, .inl (cI, 4, .inl (fun j => nI (f j)))), (pp, .inr (5, [iN (8), iN (3), .ref (z.1), .ref (z.2), .ref (tt 0), .ref (tt 2)])), (z.1, .inl (cI, 8, .inl (fun j => nI ((rs_P (fun _ => 0) 8) j)))), (z.2, .inl (cI, 8, .inl (fun j => nI ((rs_M (fun _ => 0) 8) j)))), (na, .inl (cI, 576, .inl (fun j => nI (((fun _ => 0)) j))))]) 0 2 tyX0 tyX0_ok nmX0 in_X2_learn_X0 dX2_learn_22 lk_X2_learn_37 rfl rfl (by decide) rfl rfl (by decide +kernel) rfl rfl (Nat.le_of_ble_eq_true rfl) rfl ?_
  refine gw_iconst C 0 dX2_learn_25 (by decide) ?_
  refine gw_istore_n C (lv2 := [(3, iN (0)), (2, .ref (pp)), (0, .ref (ft)), (1, iN (0))]) dX2_learn_26 rfl (by omega) rfl ?_
  refine gw_perm (ws2 := [(na, .inl (cI, 576, .inl (fun j => nI ((fun _ => 0) j)))), (ft, .inr (0, [iN (1), iN (96), .ref (na), .ref (oa)])), (oa, .inl (cI, 4, .inl (fun j => nI (f j)))), (pp, .inr (5, [iN (8), iN (3), .ref (z.1), .ref (z.2), .ref (tt 0), .ref (tt 2)])), (z.1, .inl (cI, 8, .inl (fun j => nI ((rs_P (fun _ => 0) 8) j)))), (z.2, .inl (cI, 8, .inl (fun j => nI ((rs_M (fun _ => 0) 8) j))))]) [5, 0, 1, 2, 3, 4] rfl (by decide) trivial ?_
  have lpN : ∀ (n num : Nat) (P M f NX : Nat → Nat), num + n = 96 → (∀ q, q < 6 * num → NX q = nxv q) → (∀ j, j < 8 → P j < 8) → (∀ j, j < 8 → M j < 3) → gw_G K ([(na, .inl (cI, 576, .inl (fun j => nI (NX j)))), (ft, .inr (0, [iN (1), iN (96), .ref (na), .ref (oa)])), (oa, .inl (cI, 4, .inl (fun j => nI (f j)))), (pp, .inr (5, [iN (8), iN (3), .ref (z.1), .ref (z.2), .ref (tt 0), .ref (tt 2)])), (z.1, .inl (cI, 8, .inl (fun j => nI (P j)))), (z.2, .inl (cI, 8, .inl (fun j => nI (M j))))]) 4 598 27 [(3, iN num), (2, .ref pp), (0, .ref ft), (1, iN 0)] [] := by
    intro n
    induction n with
    | zero =>
      intro num P M f NX hi hNX hP hM
      refine gw_iload_n C 0 dX2_learn_27 rfl rfl ?_
      refine gw_aload_n C 2 dX2_learn_28 rfl rfl ?_
      refine gw_get C 1 1 in_X2_learn_X0 dX2_learn_29 lk_X2_learn_15 rfl rfl (by decide) rfl rfl ?_
      refine gw_icmp_ge C 98 dX2_learn_32 (by decide) (by omega) (by omega) (fun h110 => ?_) (fun h110 => ?_)
      ·
        have e : (fun j => nI (NX j)) = fun j => nI (NX j) := rfl
        refine gw_iext (f2 := nxv) 0 rfl (fun j hj => by rw [hNX j (by omega)]) ?_
        refine gw_perm (ws2 := [(ft, .inr (0, [iN (1), iN (96), .ref (na), .ref (oa)])), (oa, .inl (cI, 4, .inl (fun j => nI (f j)))), (na, .inl (cI, 576, .inl (fun j => nI (nxv j))))]) [1, 2, 0] rfl (by decide) trivial ?_
        exact ret (na, f) dX2_learn_98 trivial rfl (by decide) (by decide)
      ·
        exact absurd h110 (by omega)
    | succ n ih =>
      intro num P M f NX hi hNX hP hM
      refine gw_iload_n C 0 dX2_learn_27 rfl rfl ?_
      refine gw_aload_n C 2 dX2_learn_28 rfl rfl ?_
      refine gw_get C 1 1 in_X2_learn_X0 dX2_learn_29 lk_X2_learn_15 rfl rfl (by decide) rfl rfl ?_
      refine gw_icmp_ge C 98 dX2_learn_32 (by decide) (by omega) (by omega) (fun h111 => ?_) (fun h111 => ?_)
      ·
        exact absurd h111 (by omega)
      ·
        refine gw_iconst C 0 dX2_learn_35 (by decide) ?_
        refine gw_istore C (lv2 := [(4, iN (0)), (3, iN (num)), (2, .ref (pp)), (0, .ref (ft)), (1, iN (0))]) dX2_learn_36 (by omega) rfl ?_
        have lpF : ∀ (k face : Nat) (P M f NX : Nat → Nat), face + k = 6 → (∀ q, q < 6 * num + face → NX q = nxv q) → (∀ j, j < 8 → P j < 8) → (∀ j, j < 8 → M j < 3) → gw_G K ([(na, .inl (cI, 576, .inl (fun j => nI (NX j)))), (ft, .inr (0, [iN (1), iN (96), .ref (na), .ref (oa)])), (oa, .inl (cI, 4, .inl (fun j => nI (f j)))), (pp, .inr (5, [iN (8), iN (3), .ref (z.1), .ref (z.2), .ref (tt 0), .ref (tt 2)])), (z.1, .inl (cI, 8, .inl (fun j => nI (P j)))), (z.2, .inl (cI, 8, .inl (fun j => nI (M j))))]) 4 598 38 [(4, iN face), (3, iN num), (2, .ref pp), (0, .ref ft), (1, iN 0)] [] := by
          intro k
          induction k with
          | zero =>
            intro face P M f NX hj hNX hP hM
            refine gw_iload C 0 dX2_learn_38 rfl ?_
            refine gw_bipush C 6 dX2_learn_40 (by decide) ?_
            refine gw_icmp_ge C 92 dX2_learn_42 (by decide) (by omega) (by omega) (fun h112 => ?_) (fun h112 => ?_)
            ·
              refine gw_iinc C (v := nI (num + 1)) (lv2 := [(3, iN (num + 1)), (4, iN (face)), (2, .ref (pp)), (0, .ref (ft)), (1, iN (0))]) 1 dX2_learn_92 rfl (nI_add _ _) (by omega) rfl ?_
              refine gw_goto C 27 dX2_learn_95 (by decide) ?_
              refine gw_lv (lv2 := [(3, iN (num + 1)), (2, .ref (pp)), (0, .ref (ft)), (1, iN (0))]) [0, 2, 3, 4] rfl ?_
              exact ih (num + 1) P M f NX (by omega) (fun q hq => hNX q (by omega)) hP hM
            ·
              exact absurd h112 (by omega)
          | succ k ihk =>
            intro face P M f NX hj hNX hP hM
            refine gw_iload C 0 dX2_learn_38 rfl ?_
            refine gw_bipush C 6 dX2_learn_40 (by decide) ?_
            refine gw_icmp_ge C 92 dX2_learn_42 (by decide) (by omega) (by omega) (fun h113 => ?_) (fun h113 => ?_)
            ·
              exact absurd h113 (by omega)
            ·
              refine gw_aload_n C 3 dX2_learn_45 rfl rfl ?_
              refine gw_iload_n C 1 dX2_learn_46 rfl rfl ?_
              refine gw_aload_n C 2 dX2_learn_47 rfl rfl ?_
              refine gw_callAV (n := 2) (wr := [(na, .inl (cI, 576, .inl (fun j => nI (NX j))))]) C (c_coShow (kl K) (kD K) cI cB cS cJ cF cG tt ft 1 96 (.ref na) pp z.1 z.2 (tt 0) (tt 2) 8 3 (P) (M) oa (f) num (by omega) rfl) 0 rfl rfl rfl gX2_learn_X0_show_u41X0 rfl C.2.2.2.1.2.2.2.2.2.2.2.2.1 (by decide +kernel) dX2_learn_48 (by rw [hkR]; decide) (by rw [hrc, hrs]; decide) [1, 2, 3, 4, 5] [0] rfl rfl rfl rfl (by decide) rfl (Nat.le_of_ble_eq_true rfl) rfl (fun v hv => ?_)
              have bM1 := hM
              have bP1 : ∀ j, j < 8 → (co_P ((cu_ev (cu_to (num / 4) (f) 0) ^^^ cu_ev (num % 4)) ^^^ 1) (cu_to (num / 4) (f)) (P) 4) j < 8 := (co_P_lt (ap_8 num (by omega) f) (cu_to_4 (num / 4) (by omega) f) hP 4 (by decide))
              have j1 := hi1 num face P M f (by omega) (by omega) hP hM
              have j2 := hi2 num face P M f (by omega) (by omega) hP hM
              refine gw_aload_n C 2 dX2_learn_51 rfl rfl ?_
              refine gw_iload C 0 dX2_learn_52 rfl ?_
              refine gw_callVV (n := 1) (wr := [(na, .inl (cI, 576, .inl (fun j => nI (NX j)))), (ft, .inr (0, [iN (1), iN (96), .ref (na), .ref (oa)])), (oa, .inl (cI, 4, .inl (fun j => nI ((cu_to (num / 4) (f)) j))))]) C (c_quarterC (kl K) (kD K) cI cB cS cJ cF cG tt pp z.1 z.2 (co_P ((cu_ev (cu_to (num / 4) (f) 0) ^^^ cu_ev (num % 4)) ^^^ 1) (cu_to (num / 4) (f)) (P) 4) (M) face (by omega) bM1) 0 rfl rfl rfl gX2_learn_X7_quarter rfl (by decide +kernel) dX2_learn_54 (by rw [hkR]; decide) (by rw [hkR]; decide) [3, 4, 5] [0, 1, 2] rfl rfl rfl rfl (by decide) rfl (Nat.le_of_ble_eq_true rfl) rfl (fun v2 hv2 => ?_)
              subst hv2
              refine gw_iload C 0 dX2_learn_57 rfl ?_
              refine gw_iload_n C 4 dX2_learn_59 rfl rfl ?_
              refine gw_icmp_lt C 69 dX2_learn_60 (by decide) (by omega) (by omega) (fun h114 => ?_) (fun h114 => ?_)
              ·
                refine gw_aload_n C 3 dX2_learn_69 rfl rfl ?_
                refine gw_get C 1 2 in_X2_learn_X0 dX2_learn_70 lk_X2_learn_37 rfl rfl (by decide) rfl rfl ?_
                refine gw_bipush C 6 dX2_learn_73 (by decide) ?_
                refine gw_iload_n C 1 dX2_learn_75 rfl rfl ?_
                refine gw_imul C dX2_learn_76 ?_
                refine gw_iload C 0 dX2_learn_77 rfl ?_
                refine gw_iadd C dX2_learn_79 ?_
                refine gw_aload_n C 3 dX2_learn_80 rfl rfl ?_
                refine gw_aload_n C 2 dX2_learn_81 rfl rfl ?_
                have bP9 : ∀ j, j < 8 → (qtP cu_cr (4 * face) (co_P ((cu_ev (cu_to (num / 4) (f) 0) ^^^ cu_ev (num % 4)) ^^^ 1) (cu_to (num / 4) (f)) (P) 4)) j < 8 := qtP_lt cu_cr (4 * face) cu_cr_8 bP1
                refine gw_callAI (n := 1) (wr := [(na, .inl (cI, 576, .inl (fun j => nI (NX j))))]) C (c_coRead (kl K) (kD K) cI cB cS cJ cF cG tt ft 1 96 (.ref na) pp z.1 z.2 (tt 0) (tt 2) 8 3 (qtP cu_cr (4 * face) (co_P ((cu_ev (cu_to (num / 4) (f) 0) ^^^ cu_ev (num % 4)) ^^^ 1) (cu_to (num / 4) (f)) (P) 4)) (qtM cu_cr cu_tg 3 (4 * face) (M)) oa (cu_to (num / 4) (f)) rfl bP9) 0 rfl rfl rfl gX2_learn_X0_read_u28X0 rfl C.2.2.2.1.2.2.2.2.2.2.2.1 (by decide +kernel) dX2_learn_82 (by rw [hkR]; decide) (by rw [hrc, hrs]; decide) [1, 2, 3, 4, 5] [0] rfl rfl rfl rfl (by decide) rfl (Nat.le_of_ble_eq_true rfl) rfl (fun rv9 v9 hv9 => ?_)
                subst hv9
                rw [j1 h114]
                refine gw_istN C (ws2 := [(na, .inl (cI, 576, .inl (fun j => nI ((up1 NX (((6) * (num)) + (face)) (nxv (6 * num + face))) j)))), (ft, .inr (0, [iN (1), iN (96), .ref (na), .ref (oa)])), (oa, .inl (cI, 4, .inl (fun j => nI ((cu_to (num / 4) (f)) j)))), (pp, .inr (5, [iN (8), iN (3), .ref (z.1), .ref (z.2), .ref (tt 0), .ref (tt 2)])), (z.1, .inl (cI, 8, .inl (fun j => nI ((qtP cu_cr (4 * face) (co_P ((cu_ev (cu_to (num / 4) (f) 0) ^^^ cu_ev (num % 4)) ^^^ 1) (cu_to (num / 4) (f)) (P) 4)) j)))), (z.2, .inl (cI, 8, .inl (fun j => nI ((qtM cu_cr cu_tg 3 (4 * face) (M)) j))))]) 0 0 dX2_learn_85 rfl rfl (by first | decide | omega) (by omega) rfl ?_
                refine gw_iinc C (v := nI (face + 1)) (lv2 := [(4, iN (face + 1)), (3, iN (num)), (2, .ref (pp)), (0, .ref (ft)), (1, iN (0))]) 0 dX2_learn_86 rfl (nI_add _ _) (by omega) rfl ?_
                refine gw_goto C 38 dX2_learn_89 (by decide) ?_
                refine gw_lv (lv2 := [(4, iN (face + 1)), (3, iN (num)), (2, .ref (pp)), (0, .ref (ft)), (1, iN (0))]) [0, 1, 2, 3, 4] rfl ?_
                exact ihk (face + 1) (qtP cu_cr (4 * face) (co_P ((cu_ev (cu_to (num / 4) (f) 0) ^^^ cu_ev (num % 4)) ^^^ 1) (cu_to (num / 4) (f)) (P) 4)) (qtM cu_cr cu_tg 3 (4 * face) (M)) (cu_to (num / 4) (f)) _ (by omega) (up1_ih hNX) bP9 (qtM_lt cu_cr cu_tg (4 * face) (by decide) bM1)
              ·
                refine gw_aload_n C 2 dX2_learn_63 rfl rfl ?_
                refine gw_iload C 0 dX2_learn_64 rfl ?_
                refine gw_callVV (n := 1) (wr := [(na, .inl (cI, 576, .inl (fun j => nI (NX j)))), (ft, .inr (0, [iN (1), iN (96), .ref (na), .ref (oa)])), (oa, .inl (cI, 4, .inl (fun j => nI ((cu_to (num / 4) (f)) j))))]) C (c_quarterC (kl K) (kD K) cI cB cS cJ cF cG tt pp z.1 z.2 (qtP cu_cr (4 * face) (co_P ((cu_ev (cu_to (num / 4) (f) 0) ^^^ cu_ev (num % 4)) ^^^ 1) (cu_to (num / 4) (f)) (P) 4)) (qtM cu_cr cu_tg 3 (4 * face) (M)) face (by omega) (qtM_lt cu_cr cu_tg (4 * face) (by decide) bM1)) 0 rfl rfl rfl gX2_learn_X7_quarter rfl (by decide +kernel) dX2_learn_66 (by rw [hkR]; decide) (by rw [hkR]; decide) [3, 4, 5] [0, 1, 2] rfl rfl rfl rfl (by decide) rfl (Nat.le_of_ble_eq_true rfl) rfl (fun v3 hv3 => ?_)
                subst hv3
                refine gw_aload_n C 3 dX2_learn_69 rfl rfl ?_
                refine gw_get C 1 2 in_X2_learn_X0 dX2_learn_70 lk_X2_learn_37 rfl rfl (by decide) rfl rfl ?_
                refine gw_bipush C 6 dX2_learn_73 (by decide) ?_
                refine gw_iload_n C 1 dX2_learn_75 rfl rfl ?_
                refine gw_imul C dX2_learn_76 ?_
                refine gw_iload C 0 dX2_learn_77 rfl ?_
                refine gw_iadd C dX2_learn_79 ?_
                refine gw_aload_n C 3 dX2_learn_80 rfl rfl ?_
                refine gw_aload_n C 2 dX2_learn_81 rfl rfl ?_
                have bP9 : ∀ j, j < 8 → (qtP cu_cr (4 * face) (qtP cu_cr (4 * face) (co_P ((cu_ev (cu_to (num / 4) (f) 0) ^^^ cu_ev (num % 4)) ^^^ 1) (cu_to (num / 4) (f)) (P) 4))) j < 8 := qtP_lt cu_cr (4 * face) cu_cr_8 (qtP_lt cu_cr (4 * face) cu_cr_8 bP1)
                refine gw_callAI (n := 1) (wr := [(na, .inl (cI, 576, .inl (fun j => nI (NX j))))]) C (c_coRead (kl K) (kD K) cI cB cS cJ cF cG tt ft 1 96 (.ref na) pp z.1 z.2 (tt 0) (tt 2) 8 3 (qtP cu_cr (4 * face) (qtP cu_cr (4 * face) (co_P ((cu_ev (cu_to (num / 4) (f) 0) ^^^ cu_ev (num % 4)) ^^^ 1) (cu_to (num / 4) (f)) (P) 4))) (qtM cu_cr cu_tg 3 (4 * face) (qtM cu_cr cu_tg 3 (4 * face) (M))) oa (cu_to (num / 4) (f)) rfl bP9) 0 rfl rfl rfl gX2_learn_X0_read_u28X0 rfl C.2.2.2.1.2.2.2.2.2.2.2.1 (by decide +kernel) dX2_learn_82 (by rw [hkR]; decide) (by rw [hrc, hrs]; decide) [1, 2, 3, 4, 5] [0] rfl rfl rfl rfl (by decide) rfl (Nat.le_of_ble_eq_true rfl) rfl (fun rv9 v9 hv9 => ?_)
                subst hv9
                rw [j2 h114]
                refine gw_istN C (ws2 := [(na, .inl (cI, 576, .inl (fun j => nI ((up1 NX (((6) * (num)) + (face)) (nxv (6 * num + face))) j)))), (ft, .inr (0, [iN (1), iN (96), .ref (na), .ref (oa)])), (oa, .inl (cI, 4, .inl (fun j => nI ((cu_to (num / 4) (f)) j)))), (pp, .inr (5, [iN (8), iN (3), .ref (z.1), .ref (z.2), .ref (tt 0), .ref (tt 2)])), (z.1, .inl (cI, 8, .inl (fun j => nI ((qtP cu_cr (4 * face) (qtP cu_cr (4 * face) (co_P ((cu_ev (cu_to (num / 4) (f) 0) ^^^ cu_ev (num % 4)) ^^^ 1) (cu_to (num / 4) (f)) (P) 4))) j)))), (z.2, .inl (cI, 8, .inl (fun j => nI ((qtM cu_cr cu_tg 3 (4 * face) (qtM cu_cr cu_tg 3 (4 * face) (M))) j))))]) 0 0 dX2_learn_85 rfl rfl (by first | decide | omega) (by omega) rfl ?_
                refine gw_iinc C (v := nI (face + 1)) (lv2 := [(4, iN (face + 1)), (3, iN (num)), (2, .ref (pp)), (0, .ref (ft)), (1, iN (0))]) 0 dX2_learn_86 rfl (nI_add _ _) (by omega) rfl ?_
                refine gw_goto C 38 dX2_learn_89 (by decide) ?_
                refine gw_lv (lv2 := [(4, iN (face + 1)), (3, iN (num)), (2, .ref (pp)), (0, .ref (ft)), (1, iN (0))]) [0, 1, 2, 3, 4] rfl ?_
                exact ihk (face + 1) (qtP cu_cr (4 * face) (qtP cu_cr (4 * face) (co_P ((cu_ev (cu_to (num / 4) (f) 0) ^^^ cu_ev (num % 4)) ^^^ 1) (cu_to (num / 4) (f)) (P) 4))) (qtM cu_cr cu_tg 3 (4 * face) (qtM cu_cr cu_tg 3 (4 * face) (M))) (cu_to (num / 4) (f)) _ (by omega) (up1_ih hNX) bP9 (qtM_lt cu_cr cu_tg (4 * face) (by decide) (qtM_lt cu_cr cu_tg (4 * face) (by decide) bM1))
        refine gw_lv (lv2 := [(4, iN (0)), (3, iN (num)), (2, .ref (pp)), (0, .ref (ft)), (1, iN (0))]) [0, 1, 2, 3, 4] rfl ?_
        exact lpF 6 0 P M f NX rfl (fun q hq => hNX q (by omega)) hP hM
  refine gw_lv (lv2 := [(3, iN 0), (2, .ref pp), (0, .ref ft), (1, iN 0)]) [0, 1, 2, 3] rfl ?_
  exact lpN 96 0 _ _ f _ (by omega) (fun q hq => absurd hq (by omega)) (by decide) (by decide)
set_option maxHeartbeats 4000000 in
set_option maxRecDepth 100000 in
theorem c_rf_pa (l : Launch) (D : va_G) (cI cB cS cJ cF cG : ClassId) (tt : Nat → Nat) (ft : Nat) (ca : Nat → Nat) (cp co ep eo : Nat → Nat) (nx : Value) (ea da oa : Nat) (E O f : Nat → Nat) (hP : ∀ j, j < 8 → cp j < 8) (hE : ∀ j, j < 8 → E j < 8) (hO : ∀ j, j < 8 → O j < 8) : gw_CI (S := Unit) l yX2_readFrom wsX2_readFrom 2 52 0 0 D (mo_ty cI cB cS cJ cF cG) (zs tt) ([(ft, .inr (4, [iN (1), iN (420), nx, .ref (ea), .ref (da), .ref (oa)])), (ea, .inl (cI, 8, .inl (fun j => nI (E j)))), (da, .inl (cI, 8, .inl (fun j => nI (O j)))), (oa, .inl (cI, 4, .inl (fun j => nI (f j))))] ++ cb_ws cI tt ca cp co ep eo) [.ref ft, .ref (ca 0)] (fun r _ => r = nI (pr_N (cp) (E) (O))) (fun _ => [(ft, .inr (4, [iN (1), iN (420), nx, .ref (ea), .ref (da), .ref (oa)])), (ea, .inl (cI, 8, .inl (fun j => nI (((pr_ (cp) (E) (O) 8).2.2.1) j)))), (da, .inl (cI, 8, .inl (fun j => nI (((pr_ (cp) (E) (O) 8).2.2.2) j)))), (oa, .inl (cI, 4, .inl (fun j => nI (f j))))] ++ cb_ws cI tt ca cp co ep eo) := by
  refine gw_CI.of (cc := cX2_readFrom) (maxL := 2) (rt := .int) (zs_ok tt) (by decide) rfl (Nat.le_of_ble_eq_true rfl) ?_
  intro K C hkl hkn hkR hkD hmn ret
  have C : gw_x K cX2_readFrom RX2 wsX2_readFrom (mo_ty cI cB cS cJ cF cG) (zs tt) := C
  subst hkl hkD
  have hrc : (kR K).cells = 0 := by rw [hkR]
  have hrs : (kR K).slots = 0 := by rw [hkR]
  refine gw_aload_n C 0 dX2_readFrom_0 rfl rfl ?_
  refine gw_aload_n C 0 dX2_readFrom_1 rfl rfl ?_
  refine gw_get C 0 0 in_X2_readFrom_X6 dX2_readFrom_2 lk_X2_readFrom_9 rfl rfl (by decide) rfl rfl ?_
  refine gw_if_eq C 15 dX2_readFrom_5 (by decide) (by omega) (fun h115 => ?_) (fun h115 => ?_)
  · first | exact absurd h115 (by decide) | exact absurd (by decide) h115
  refine gw_aload_n C 1 dX2_readFrom_8 rfl rfl ?_
  refine gw_get C 4 0 in_X2_readFrom_X1 dX2_readFrom_9 lk_X2_readFrom_19 rfl rfl (by decide) rfl rfl ?_
  refine gw_goto C 19 dX2_readFrom_12 (by decide) ?_
  refine gw_callAI (n := 1) (wr := [(ca 0, .inr (1, [.ref (ca 1), .ref (ca 4)])), (ca 4, .inr (5, [iN (12), iN (2), .ref (ca 5), .ref (ca 6), .ref (tt 1), .ref (tt 3)])), (ca 5, .inl (cI, 12, .inl (fun j => nI (ep j)))), (ca 6, .inl (cI, 12, .inl (fun j => nI (eo j))))]) C (c_paRead (kl K) (kD K) cI cB cS cJ cF cG tt ft 1 420 (nx) (ca 1) (ca 2) (ca 3) (tt 0) (tt 2) 8 3 (cp) (co) ea da oa (E) (O) (f) rfl hP hE hO) 0 rfl rfl rfl gX2_readFrom_X6_read_u28X6 rfl C.2.2.2.1.2.2.2.2.2.2.2.1 (by decide +kernel) dX2_readFrom_19 (by rw [hkR]; decide) (by rw [hrc, hrs]; decide) [0, 1, 2, 3, 5, 6, 7] [4, 8, 9, 10] rfl rfl rfl rfl (by decide) rfl (Nat.le_of_ble_eq_true rfl) rfl (fun rz z hz => ?_)
  subst hz
  refine gw_perm (ws2 := [(ft, .inr (4, [iN (1), iN (420), nx, .ref (ea), .ref (da), .ref (oa)])), (ea, .inl (cI, 8, .inl (fun j => nI (((pr_ (cp) (E) (O) 8).2.2.1) j)))), (da, .inl (cI, 8, .inl (fun j => nI (((pr_ (cp) (E) (O) 8).2.2.2) j)))), (oa, .inl (cI, 4, .inl (fun j => nI (f j))))] ++ cb_ws cI tt ca cp co ep eo) [4, 5, 6, 7, 0, 8, 9, 10, 1, 2, 3] rfl (by decide) trivial ?_
  exact ret () dX2_readFrom_22 rfl rfl rfl (Nat.le_refl 0) (Nat.le_refl 0)
set_option maxHeartbeats 4000000 in
set_option maxRecDepth 100000 in
theorem c_ln_pa (l : Launch) (D : va_G) (cI cB cS cJ cF cG : ClassId) (tt : Nat → Nat) (ft : Nat) (ea da oa : Nat) (E O f : Nat → Nat) (hE : ∀ j, j < 8 → E j < 8) (hO : ∀ j, j < 8 → O j < 8) (nxv : Nat → Nat) (hi1 : ∀ (num face : Nat) (P M E O f : Nat → Nat), num < 420 → face < 6 → (∀ j, j < 8 → P j < 8) → (∀ j, j < 8 → M j < 3) → (∀ j, j < 8 → E j < 8) → (∀ j, j < 8 → O j < 8) → face < 2 → pr_N (qtP cu_cr (4 * face) ((sh_ (cu_ts (num / 6) 8 8).1 (cu_to (num % 6) (f)) (P) 8).2)) (E) (O) = nxv (6 * num + face)) (hi2 : ∀ (num face : Nat) (P M E O f : Nat → Nat), num < 420 → face < 6 → (∀ j, j < 8 → P j < 8) → (∀ j, j < 8 → M j < 3) → (∀ j, j < 8 → E j < 8) → (∀ j, j < 8 → O j < 8) → 2 ≤ face → pr_N (qtP cu_cr (4 * face) (qtP cu_cr (4 * face) ((sh_ (cu_ts (num / 6) 8 8).1 (cu_to (num % 6) (f)) (P) 8).2))) (E) (O) = nxv (6 * num + face)) : gw_CV (S := Nat × (Nat → Nat) × (Nat → Nat) × (Nat → Nat)) l yX2_learn wsX2_learn 2 52 4 2542 D (mo_ty cI cB cS cJ cF cG) (zs tt) ([(ft, .inr (4, [iN (1), iN (420), .null, .ref (ea), .ref (da), .ref (oa)])), (ea, .inl (cI, 8, .inl (fun j => nI (E j)))), (da, .inl (cI, 8, .inl (fun j => nI (O j)))), (oa, .inl (cI, 4, .inl (fun j => nI (f j))))]) [.ref ft, iN 2] (fun u => (∀ j, j < 8 → u.2.1 j < 8) ∧ ∀ j, j < 8 → u.2.2.1 j < 8) (fun u => [(ft, .inr (4, [iN (1), iN (420), .ref (u.1), .ref (ea), .ref (da), .ref (oa)])), (ea, .inl (cI, 8, .inl (fun j => nI ((u.2.1) j)))), (da, .inl (cI, 8, .inl (fun j => nI ((u.2.2.1) j)))), (oa, .inl (cI, 4, .inl (fun j => nI ((u.2.2.2) j)))), (u.1, .inl (cI, 2520, .inl (fun j => nI (nxv j))))]) := by
  refine gw_CV.of (cc := cX2_learn) (maxL := 5) (zs_ok tt) (by decide) rfl (Nat.le_of_ble_eq_true rfl) ?_
  intro K C hkl hkn hkR hkD hmn ret
  have C : gw_x K cX2_learn RX2 wsX2_learn (mo_ty cI cB cS cJ cF cG) (zs tt) := C
  subst hkl hkD
  have hrc : (kR K).cells = 4 := by rw [hkR]
  have hrs : (kR K).slots = 2542 := by rw [hkR]
  refine gw_new C (ci := 5) (fs := [.int (0), .int (0), .null, .null, .null, .null]) tyX7 tyX7_ok in_X2_learn_X7 dX2_learn_0 (by decide +kernel) (by decide +kernel) (by decide +kernel) rfl (fun j hj => by rcases (show j = 0 ∨ j = 1 ∨ j = 2 ∨ j = 3 ∨ j = 4 ∨ j = 5 by omega) with h | h | h | h | h | h <;> subst h <;> rfl) (by omega) (by omega) (fun pp => ?_)
  refine gw_ws (ws2 := [(ft, .inr (4, [iN (1), iN (420), .null, .ref (ea), .ref (da), .ref (oa)])), (ea, .inl (cI, 8, .inl (fun j => nI (E j)))), (da, .inl (cI, 8, .inl (fun j => nI (O j)))), (oa, .inl (cI, 4, .inl (fun j => nI (f j)))), (pp, .inr (5, [.int (0), .int (0), .null, .null, .null, .null]))]) rfl ?_
  refine gw_dup C dX2_learn_3 rfl ?_
  refine gw_aload_n C 0 dX2_learn_4 rfl rfl ?_
  refine gw_get C 0 0 in_X2_learn_X6 dX2_learn_5 lk_X2_learn_9 rfl rfl (by decide) rfl rfl ?_
  refine gw_callIV (n := 1) (wr := [(ft, .inr (4, [iN (1), iN (420), .null, .ref (ea), .ref (da), .ref (oa)])), (ea, .inl (cI, 8, .inl (fun j => nI (E j)))), (da, .inl (cI, 8, .inl (fun j => nI (O j)))), (oa, .inl (cI, 4, .inl (fun j => nI (f j))))]) C (c_pinitC (kl K) (kD K) cI cB cS cJ cF cG (zs tt) (zs_ok tt) pp (tt 0) (tt 2) (fun _ _ _ h => h.1.1) (fun _ _ _ h => h.2.2.1.1)) gX2_learn_X7_init rfl (by decide +kernel) (by decide +kernel) (by decide +kernel) rfl (by decide +kernel) dX2_learn_8 (by rw [hkR]; decide) (by rw [hrc, hrs]; decide) [4] [0, 1, 2, 3] rfl rfl rfl rfl (by decide) rfl (Nat.le_of_ble_eq_true rfl) rfl (fun z hz => ?_)
  refine gw_ws (ws2 := [(ft, .inr (4, [iN (1), iN (420), .null, .ref (ea), .ref (da), .ref (oa)])), (ea, .inl (cI, 8, .inl (fun j => nI (E j)))), (da, .inl (cI, 8, .inl (fun j => nI (O j)))), (oa, .inl (cI, 4, .inl (fun j => nI (f j)))), (pp, .inr (5, [iN (8), iN (3), .ref (z.1), .ref (z.2), .ref (tt 0), .ref (tt 2)])), (z.1, .inl (cI, 8, .inl (fun j => nI ((rs_P (fun _ => 0) 8) j)))), (z.2, .inl (cI, 8, .inl (fun j => nI ((rs_M (fun _ => 0) 8) j))))]) rfl ?_
  refine gw_astore_n C (lv2 := [(2, .ref (pp)), (0, .ref (ft)), (1, iN (2))]) dX2_learn_11 rfl (by omega) rfl ?_
  refine gw_aload_n C 1 dX2_learn_12 rfl rfl ?_
  refine gw_bipush C 6 dX2_learn_13 (by decide) ?_
  refine gw_aload_n C 1 dX2_learn_15 rfl rfl ?_
  refine gw_get C 0 1 in_X2_learn_X6 dX2_learn_16 lk_X2_learn_15 rfl rfl (by decide) rfl rfl ?_
  refine gw_imul C dX2_learn_19 ?_
  refine gw_newa C 0 dX2_learn_20 rfl (by decide +kernel) rfl (fun _ _ h => h) (a0 := (2520, .inl (fun _ => 0))) (fun _ => rfl) (by decide) (by decide) (by omega) (by omega) (fun na => ?_)
  refine gw_ws (ws2 := [(ft, .inr (4, [iN (1), iN (420), .null, .ref (ea), .ref (da), .ref (oa)])), (ea, .inl (cI, 8, .inl (fun j => nI (E j)))), (da, .inl (cI, 8, .inl (fun j => nI (O j)))), (oa, .inl (cI, 4, .inl (fun j => nI (f j)))), (pp, .inr (5, [iN (8), iN (3), .ref (z.1), .ref (z.2), .ref (tt 0), .ref (tt 2)])), (z.1, .inl (cI, 8, .inl (fun j => nI ((rs_P (fun _ => 0) 8) j)))), (z.2, .inl (cI, 8, .inl (fun j => nI ((rs_M (fun _ => 0) 8) j)))), (na, .inl (cI, 2520, .inl (fun j => nI (((fun _ => 0)) j))))]) rfl ?_
  refine gw_put C (ty := (.array .int)) (ws2 := [(ft, .inr (4, [iN (1), iN (420), .ref (na), .ref (ea), .ref (da), .ref (oa)])), (ea, .inl (cI, 8, .inl (fun j => nI (E j)))), (da, .inl (cI, 8, .inl (fun j => nI (O j)))), (oa, .inl (cI, 4, .inl (fun j => nI (f j)))), (pp, .inr (5, [iN (8), iN (3), .ref (z.1), .ref (z.2), .ref (tt 0), .ref (tt 2)])), (z.1, .inl (cI, 8, .inl (fun j => nI ((rs_P (fun _ => 0) 8) j)))), (z.2, .inl (cI, 8, .inl (fun j => nI ((rs_M (fun _ => 0) 8) j)))), (na, .inl (cI, 2520, .inl (fun j => nI (((fun _ => 0)) j))))]) 0 2 tyX6 tyX6_ok nmX6 in_X2_learn_X6 dX2_learn_22 lk_X2_learn_37 rfl rfl (by decide) rfl rfl (by decide +kernel) rfl rfl (Nat.le_of_ble_eq_true rfl) rfl ?_
  refine gw_iconst C 0 dX2_learn_25 (by decide) ?_
  refine gw_istore_n C (lv2 := [(3, iN (0)), (2, .ref (pp)), (0, .ref (ft)), (1, iN (2))]) dX2_learn_26 rfl (by omega) rfl ?_
  refine gw_perm (ws2 := [(na, .inl (cI, 2520, .inl (fun j => nI ((fun _ => 0) j)))), (ft, .inr (4, [iN (1), iN (420), .ref (na), .ref (ea), .ref (da), .ref (oa)])), (ea, .inl (cI, 8, .inl (fun j => nI (E j)))), (da, .inl (cI, 8, .inl (fun j => nI (O j)))), (oa, .inl (cI, 4, .inl (fun j => nI (f j)))), (pp, .inr (5, [iN (8), iN (3), .ref (z.1), .ref (z.2), .ref (tt 0), .ref (tt 2)])), (z.1, .inl (cI, 8, .inl (fun j => nI ((rs_P (fun _ => 0) 8) j)))), (z.2, .inl (cI, 8, .inl (fun j => nI ((rs_M (fun _ => 0) 8) j))))]) [7, 0, 1, 2, 3, 4, 5, 6] rfl (by decide) trivial ?_
  have lpN : ∀ (n num : Nat) (P M E O f NX : Nat → Nat), num + n = 420 → (∀ q, q < 6 * num → NX q = nxv q) → (∀ j, j < 8 → P j < 8) → (∀ j, j < 8 → M j < 3) → (∀ j, j < 8 → E j < 8) → (∀ j, j < 8 → O j < 8) → gw_G K ([(na, .inl (cI, 2520, .inl (fun j => nI (NX j)))), (ft, .inr (4, [iN (1), iN (420), .ref (na), .ref (ea), .ref (da), .ref (oa)])), (ea, .inl (cI, 8, .inl (fun j => nI (E j)))), (da, .inl (cI, 8, .inl (fun j => nI (O j)))), (oa, .inl (cI, 4, .inl (fun j => nI (f j)))), (pp, .inr (5, [iN (8), iN (3), .ref (z.1), .ref (z.2), .ref (tt 0), .ref (tt 2)])), (z.1, .inl (cI, 8, .inl (fun j => nI (P j)))), (z.2, .inl (cI, 8, .inl (fun j => nI (M j))))]) 4 2542 27 [(3, iN num), (2, .ref pp), (0, .ref ft), (1, iN 2)] [] := by
    intro n
    induction n with
    | zero =>
      intro num P M E O f NX hi hNX hP hM hE hO
      refine gw_iload_n C 0 dX2_learn_27 rfl rfl ?_
      refine gw_aload_n C 2 dX2_learn_28 rfl rfl ?_
      refine gw_get C 1 1 in_X2_learn_X6 dX2_learn_29 lk_X2_learn_15 rfl rfl (by decide) rfl rfl ?_
      refine gw_icmp_ge C 98 dX2_learn_32 (by decide) (by omega) (by omega) (fun h116 => ?_) (fun h116 => ?_)
      ·
        have e : (fun j => nI (NX j)) = fun j => nI (NX j) := rfl
        refine gw_iext (f2 := nxv) 0 rfl (fun j hj => by rw [hNX j (by omega)]) ?_
        refine gw_perm (ws2 := [(ft, .inr (4, [iN (1), iN (420), .ref (na), .ref (ea), .ref (da), .ref (oa)])), (ea, .inl (cI, 8, .inl (fun j => nI (E j)))), (da, .inl (cI, 8, .inl (fun j => nI (O j)))), (oa, .inl (cI, 4, .inl (fun j => nI (f j)))), (na, .inl (cI, 2520, .inl (fun j => nI (nxv j))))]) [1, 2, 3, 4, 0] rfl (by decide) trivial ?_
        exact ret (na, E, O, f) dX2_learn_98 ⟨hE, hO⟩ rfl (by decide) (by decide)
      ·
        exact absurd h116 (by omega)
    | succ n ih =>
      intro num P M E O f NX hi hNX hP hM hE hO
      refine gw_iload_n C 0 dX2_learn_27 rfl rfl ?_
      refine gw_aload_n C 2 dX2_learn_28 rfl rfl ?_
      refine gw_get C 1 1 in_X2_learn_X6 dX2_learn_29 lk_X2_learn_15 rfl rfl (by decide) rfl rfl ?_
      refine gw_icmp_ge C 98 dX2_learn_32 (by decide) (by omega) (by omega) (fun h117 => ?_) (fun h117 => ?_)
      ·
        exact absurd h117 (by omega)
      ·
        refine gw_iconst C 0 dX2_learn_35 (by decide) ?_
        refine gw_istore C (lv2 := [(4, iN (0)), (3, iN (num)), (2, .ref (pp)), (0, .ref (ft)), (1, iN (2))]) dX2_learn_36 (by omega) rfl ?_
        have lpF : ∀ (k face : Nat) (P M E O f NX : Nat → Nat), face + k = 6 → (∀ q, q < 6 * num + face → NX q = nxv q) → (∀ j, j < 8 → P j < 8) → (∀ j, j < 8 → M j < 3) → (∀ j, j < 8 → E j < 8) → (∀ j, j < 8 → O j < 8) → gw_G K ([(na, .inl (cI, 2520, .inl (fun j => nI (NX j)))), (ft, .inr (4, [iN (1), iN (420), .ref (na), .ref (ea), .ref (da), .ref (oa)])), (ea, .inl (cI, 8, .inl (fun j => nI (E j)))), (da, .inl (cI, 8, .inl (fun j => nI (O j)))), (oa, .inl (cI, 4, .inl (fun j => nI (f j)))), (pp, .inr (5, [iN (8), iN (3), .ref (z.1), .ref (z.2), .ref (tt 0), .ref (tt 2)])), (z.1, .inl (cI, 8, .inl (fun j => nI (P j)))), (z.2, .inl (cI, 8, .inl (fun j => nI (M j))))]) 4 2542 38 [(4, iN face), (3, iN num), (2, .ref pp), (0, .ref ft), (1, iN 2)] [] := by
          intro k
          induction k with
          | zero =>
            intro face P M E O f NX hj hNX hP hM hE hO
            refine gw_iload C 0 dX2_learn_38 rfl ?_
            refine gw_bipush C 6 dX2_learn_40 (by decide) ?_
            refine gw_icmp_ge C 92 dX2_learn_42 (by decide) (by omega) (by omega) (fun h118 => ?_) (fun h118 => ?_)
            ·
              refine gw_iinc C (v := nI (num + 1)) (lv2 := [(3, iN (num + 1)), (4, iN (face)), (2, .ref (pp)), (0, .ref (ft)), (1, iN (2))]) 1 dX2_learn_92 rfl (nI_add _ _) (by omega) rfl ?_
              refine gw_goto C 27 dX2_learn_95 (by decide) ?_
              refine gw_lv (lv2 := [(3, iN (num + 1)), (2, .ref (pp)), (0, .ref (ft)), (1, iN (2))]) [0, 2, 3, 4] rfl ?_
              exact ih (num + 1) P M E O f NX (by omega) (fun q hq => hNX q (by omega)) hP hM hE hO
            ·
              exact absurd h118 (by omega)
          | succ k ihk =>
            intro face P M E O f NX hj hNX hP hM hE hO
            refine gw_iload C 0 dX2_learn_38 rfl ?_
            refine gw_bipush C 6 dX2_learn_40 (by decide) ?_
            refine gw_icmp_ge C 92 dX2_learn_42 (by decide) (by omega) (by omega) (fun h119 => ?_) (fun h119 => ?_)
            ·
              exact absurd h119 (by omega)
            ·
              refine gw_aload_n C 3 dX2_learn_45 rfl rfl ?_
              refine gw_iload_n C 1 dX2_learn_46 rfl rfl ?_
              refine gw_aload_n C 2 dX2_learn_47 rfl rfl ?_
              refine gw_callAV (n := 2) (wr := [(na, .inl (cI, 2520, .inl (fun j => nI (NX j))))]) C (c_paShow (kl K) (kD K) cI cB cS cJ cF cG tt ft 1 420 (.ref na) pp z.1 z.2 (tt 0) (tt 2) 8 3 (P) (M) ea da oa (E) (O) (f) num (by omega) rfl) 0 rfl rfl rfl gX2_learn_X6_show_u41X6 rfl C.2.2.2.1.2.2.2.2.2.2.2.2.1 (by decide +kernel) dX2_learn_48 (by rw [hkR]; decide) (by rw [hrc, hrs]; decide) [1, 2, 3, 4, 5, 6, 7] [0] rfl rfl rfl rfl (by decide) rfl (Nat.le_of_ble_eq_true rfl) rfl (fun v hv => ?_)
              have bM1 := hM
              have bP1 : ∀ j, j < 8 → ((sh_ (cu_ts (num / 6) 8 8).1 (cu_to (num % 6) (f)) (P) 8).2) j < 8 := (sh_lt _ (cu_to_4 (num % 6) (by omega) f) hP 8)
              have j1 := hi1 num face P M E O f (by omega) (by omega) hP hM hE hO
              have j2 := hi2 num face P M E O f (by omega) (by omega) hP hM hE hO
              refine gw_aload_n C 2 dX2_learn_51 rfl rfl ?_
              refine gw_iload C 0 dX2_learn_52 rfl ?_
              refine gw_callVV (n := 1) (wr := [(na, .inl (cI, 2520, .inl (fun j => nI (NX j)))), (ft, .inr (4, [iN (1), iN (420), .ref (na), .ref (ea), .ref (da), .ref (oa)])), (ea, .inl (cI, 8, .inl (fun j => nI (E j)))), (da, .inl (cI, 8, .inl (fun j => nI (O j)))), (oa, .inl (cI, 4, .inl (fun j => nI ((cu_to (num % 6) (f)) j))))]) C (c_quarterC (kl K) (kD K) cI cB cS cJ cF cG tt pp z.1 z.2 ((sh_ (cu_ts (num / 6) 8 8).1 (cu_to (num % 6) (f)) (P) 8).2) (M) face (by omega) bM1) 0 rfl rfl rfl gX2_learn_X7_quarter rfl (by decide +kernel) dX2_learn_54 (by rw [hkR]; decide) (by rw [hkR]; decide) [5, 6, 7] [0, 1, 2, 3, 4] rfl rfl rfl rfl (by decide) rfl (Nat.le_of_ble_eq_true rfl) rfl (fun v2 hv2 => ?_)
              subst hv2
              refine gw_iload C 0 dX2_learn_57 rfl ?_
              refine gw_iload_n C 4 dX2_learn_59 rfl rfl ?_
              refine gw_icmp_lt C 69 dX2_learn_60 (by decide) (by omega) (by omega) (fun h120 => ?_) (fun h120 => ?_)
              ·
                refine gw_aload_n C 3 dX2_learn_69 rfl rfl ?_
                refine gw_get C 1 2 in_X2_learn_X6 dX2_learn_70 lk_X2_learn_37 rfl rfl (by decide) rfl rfl ?_
                refine gw_bipush C 6 dX2_learn_73 (by decide) ?_
                refine gw_iload_n C 1 dX2_learn_75 rfl rfl ?_
                refine gw_imul C dX2_learn_76 ?_
                refine gw_iload C 0 dX2_learn_77 rfl ?_
                refine gw_iadd C dX2_learn_79 ?_
                refine gw_aload_n C 3 dX2_learn_80 rfl rfl ?_
                refine gw_aload_n C 2 dX2_learn_81 rfl rfl ?_
                have bP9 : ∀ j, j < 8 → (qtP cu_cr (4 * face) ((sh_ (cu_ts (num / 6) 8 8).1 (cu_to (num % 6) (f)) (P) 8).2)) j < 8 := qtP_lt cu_cr (4 * face) cu_cr_8 bP1
                have bEO := pr_b (qtP cu_cr (4 * face) ((sh_ (cu_ts (num / 6) 8 8).1 (cu_to (num % 6) (f)) (P) 8).2)) (E) (O) bP9 hE hO 8 (Nat.le_refl _)
                refine gw_callAI (n := 1) (wr := [(na, .inl (cI, 2520, .inl (fun j => nI (NX j))))]) C (c_paRead (kl K) (kD K) cI cB cS cJ cF cG tt ft 1 420 (.ref na) pp z.1 z.2 (tt 0) (tt 2) 8 3 (qtP cu_cr (4 * face) ((sh_ (cu_ts (num / 6) 8 8).1 (cu_to (num % 6) (f)) (P) 8).2)) (qtM cu_cr cu_tg 3 (4 * face) (M)) ea da oa (E) (O) (cu_to (num % 6) (f)) rfl bP9 hE hO) 0 rfl rfl rfl gX2_learn_X6_read_u28X6 rfl C.2.2.2.1.2.2.2.2.2.2.2.1 (by decide +kernel) dX2_learn_82 (by rw [hkR]; decide) (by rw [hrc, hrs]; decide) [1, 2, 3, 4, 5, 6, 7] [0] rfl rfl rfl rfl (by decide) rfl (Nat.le_of_ble_eq_true rfl) rfl (fun rv9 v9 hv9 => ?_)
                subst hv9
                rw [j1 h120]
                refine gw_istN C (ws2 := [(na, .inl (cI, 2520, .inl (fun j => nI ((up1 NX (((6) * (num)) + (face)) (nxv (6 * num + face))) j)))), (ft, .inr (4, [iN (1), iN (420), .ref (na), .ref (ea), .ref (da), .ref (oa)])), (ea, .inl (cI, 8, .inl (fun j => nI (((pr_ (qtP cu_cr (4 * face) ((sh_ (cu_ts (num / 6) 8 8).1 (cu_to (num % 6) (f)) (P) 8).2)) (E) (O) 8).2.2.1) j)))), (da, .inl (cI, 8, .inl (fun j => nI (((pr_ (qtP cu_cr (4 * face) ((sh_ (cu_ts (num / 6) 8 8).1 (cu_to (num % 6) (f)) (P) 8).2)) (E) (O) 8).2.2.2) j)))), (oa, .inl (cI, 4, .inl (fun j => nI ((cu_to (num % 6) (f)) j)))), (pp, .inr (5, [iN (8), iN (3), .ref (z.1), .ref (z.2), .ref (tt 0), .ref (tt 2)])), (z.1, .inl (cI, 8, .inl (fun j => nI ((qtP cu_cr (4 * face) ((sh_ (cu_ts (num / 6) 8 8).1 (cu_to (num % 6) (f)) (P) 8).2)) j)))), (z.2, .inl (cI, 8, .inl (fun j => nI ((qtM cu_cr cu_tg 3 (4 * face) (M)) j))))]) 0 0 dX2_learn_85 rfl rfl (by first | decide | omega) (by omega) rfl ?_
                refine gw_iinc C (v := nI (face + 1)) (lv2 := [(4, iN (face + 1)), (3, iN (num)), (2, .ref (pp)), (0, .ref (ft)), (1, iN (2))]) 0 dX2_learn_86 rfl (nI_add _ _) (by omega) rfl ?_
                refine gw_goto C 38 dX2_learn_89 (by decide) ?_
                refine gw_lv (lv2 := [(4, iN (face + 1)), (3, iN (num)), (2, .ref (pp)), (0, .ref (ft)), (1, iN (2))]) [0, 1, 2, 3, 4] rfl ?_
                exact ihk (face + 1) (qtP cu_cr (4 * face) ((sh_ (cu_ts (num / 6) 8 8).1 (cu_to (num % 6) (f)) (P) 8).2)) (qtM cu_cr cu_tg 3 (4 * face) (M)) ((pr_ (qtP cu_cr (4 * face) ((sh_ (cu_ts (num / 6) 8 8).1 (cu_to (num % 6) (f)) (P) 8).2)) (E) (O) 8).2.2.1) ((pr_ (qtP cu_cr (4 * face) ((sh_ (cu_ts (num / 6) 8 8).1 (cu_to (num % 6) (f)) (P) 8).2)) (E) (O) 8).2.2.2) (cu_to (num % 6) (f)) _ (by omega) (up1_ih hNX) bP9 (qtM_lt cu_cr cu_tg (4 * face) (by decide) bM1) bEO.2.2.1 bEO.2.2.2
              ·
                refine gw_aload_n C 2 dX2_learn_63 rfl rfl ?_
                refine gw_iload C 0 dX2_learn_64 rfl ?_
                refine gw_callVV (n := 1) (wr := [(na, .inl (cI, 2520, .inl (fun j => nI (NX j)))), (ft, .inr (4, [iN (1), iN (420), .ref (na), .ref (ea), .ref (da), .ref (oa)])), (ea, .inl (cI, 8, .inl (fun j => nI (E j)))), (da, .inl (cI, 8, .inl (fun j => nI (O j)))), (oa, .inl (cI, 4, .inl (fun j => nI ((cu_to (num % 6) (f)) j))))]) C (c_quarterC (kl K) (kD K) cI cB cS cJ cF cG tt pp z.1 z.2 (qtP cu_cr (4 * face) ((sh_ (cu_ts (num / 6) 8 8).1 (cu_to (num % 6) (f)) (P) 8).2)) (qtM cu_cr cu_tg 3 (4 * face) (M)) face (by omega) (qtM_lt cu_cr cu_tg (4 * face) (by decide) bM1)) 0 rfl rfl rfl gX2_learn_X7_quarter rfl (by decide +kernel) dX2_learn_66 (by rw [hkR]; decide) (by rw [hkR]; decide) [5, 6, 7] [0, 1, 2, 3, 4] rfl rfl rfl rfl (by decide) rfl (Nat.le_of_ble_eq_true rfl) rfl (fun v3 hv3 => ?_)
                subst hv3
                refine gw_aload_n C 3 dX2_learn_69 rfl rfl ?_
                refine gw_get C 1 2 in_X2_learn_X6 dX2_learn_70 lk_X2_learn_37 rfl rfl (by decide) rfl rfl ?_
                refine gw_bipush C 6 dX2_learn_73 (by decide) ?_
                refine gw_iload_n C 1 dX2_learn_75 rfl rfl ?_
                refine gw_imul C dX2_learn_76 ?_
                refine gw_iload C 0 dX2_learn_77 rfl ?_
                refine gw_iadd C dX2_learn_79 ?_
                refine gw_aload_n C 3 dX2_learn_80 rfl rfl ?_
                refine gw_aload_n C 2 dX2_learn_81 rfl rfl ?_
                have bP9 : ∀ j, j < 8 → (qtP cu_cr (4 * face) (qtP cu_cr (4 * face) ((sh_ (cu_ts (num / 6) 8 8).1 (cu_to (num % 6) (f)) (P) 8).2))) j < 8 := qtP_lt cu_cr (4 * face) cu_cr_8 (qtP_lt cu_cr (4 * face) cu_cr_8 bP1)
                have bEO := pr_b (qtP cu_cr (4 * face) (qtP cu_cr (4 * face) ((sh_ (cu_ts (num / 6) 8 8).1 (cu_to (num % 6) (f)) (P) 8).2))) (E) (O) bP9 hE hO 8 (Nat.le_refl _)
                refine gw_callAI (n := 1) (wr := [(na, .inl (cI, 2520, .inl (fun j => nI (NX j))))]) C (c_paRead (kl K) (kD K) cI cB cS cJ cF cG tt ft 1 420 (.ref na) pp z.1 z.2 (tt 0) (tt 2) 8 3 (qtP cu_cr (4 * face) (qtP cu_cr (4 * face) ((sh_ (cu_ts (num / 6) 8 8).1 (cu_to (num % 6) (f)) (P) 8).2))) (qtM cu_cr cu_tg 3 (4 * face) (qtM cu_cr cu_tg 3 (4 * face) (M))) ea da oa (E) (O) (cu_to (num % 6) (f)) rfl bP9 hE hO) 0 rfl rfl rfl gX2_learn_X6_read_u28X6 rfl C.2.2.2.1.2.2.2.2.2.2.2.1 (by decide +kernel) dX2_learn_82 (by rw [hkR]; decide) (by rw [hrc, hrs]; decide) [1, 2, 3, 4, 5, 6, 7] [0] rfl rfl rfl rfl (by decide) rfl (Nat.le_of_ble_eq_true rfl) rfl (fun rv9 v9 hv9 => ?_)
                subst hv9
                rw [j2 h120]
                refine gw_istN C (ws2 := [(na, .inl (cI, 2520, .inl (fun j => nI ((up1 NX (((6) * (num)) + (face)) (nxv (6 * num + face))) j)))), (ft, .inr (4, [iN (1), iN (420), .ref (na), .ref (ea), .ref (da), .ref (oa)])), (ea, .inl (cI, 8, .inl (fun j => nI (((pr_ (qtP cu_cr (4 * face) (qtP cu_cr (4 * face) ((sh_ (cu_ts (num / 6) 8 8).1 (cu_to (num % 6) (f)) (P) 8).2))) (E) (O) 8).2.2.1) j)))), (da, .inl (cI, 8, .inl (fun j => nI (((pr_ (qtP cu_cr (4 * face) (qtP cu_cr (4 * face) ((sh_ (cu_ts (num / 6) 8 8).1 (cu_to (num % 6) (f)) (P) 8).2))) (E) (O) 8).2.2.2) j)))), (oa, .inl (cI, 4, .inl (fun j => nI ((cu_to (num % 6) (f)) j)))), (pp, .inr (5, [iN (8), iN (3), .ref (z.1), .ref (z.2), .ref (tt 0), .ref (tt 2)])), (z.1, .inl (cI, 8, .inl (fun j => nI ((qtP cu_cr (4 * face) (qtP cu_cr (4 * face) ((sh_ (cu_ts (num / 6) 8 8).1 (cu_to (num % 6) (f)) (P) 8).2))) j)))), (z.2, .inl (cI, 8, .inl (fun j => nI ((qtM cu_cr cu_tg 3 (4 * face) (qtM cu_cr cu_tg 3 (4 * face) (M))) j))))]) 0 0 dX2_learn_85 rfl rfl (by first | decide | omega) (by omega) rfl ?_
                refine gw_iinc C (v := nI (face + 1)) (lv2 := [(4, iN (face + 1)), (3, iN (num)), (2, .ref (pp)), (0, .ref (ft)), (1, iN (2))]) 0 dX2_learn_86 rfl (nI_add _ _) (by omega) rfl ?_
                refine gw_goto C 38 dX2_learn_89 (by decide) ?_
                refine gw_lv (lv2 := [(4, iN (face + 1)), (3, iN (num)), (2, .ref (pp)), (0, .ref (ft)), (1, iN (2))]) [0, 1, 2, 3, 4] rfl ?_
                exact ihk (face + 1) (qtP cu_cr (4 * face) (qtP cu_cr (4 * face) ((sh_ (cu_ts (num / 6) 8 8).1 (cu_to (num % 6) (f)) (P) 8).2))) (qtM cu_cr cu_tg 3 (4 * face) (qtM cu_cr cu_tg 3 (4 * face) (M))) ((pr_ (qtP cu_cr (4 * face) (qtP cu_cr (4 * face) ((sh_ (cu_ts (num / 6) 8 8).1 (cu_to (num % 6) (f)) (P) 8).2))) (E) (O) 8).2.2.1) ((pr_ (qtP cu_cr (4 * face) (qtP cu_cr (4 * face) ((sh_ (cu_ts (num / 6) 8 8).1 (cu_to (num % 6) (f)) (P) 8).2))) (E) (O) 8).2.2.2) (cu_to (num % 6) (f)) _ (by omega) (up1_ih hNX) bP9 (qtM_lt cu_cr cu_tg (4 * face) (by decide) (qtM_lt cu_cr cu_tg (4 * face) (by decide) bM1)) bEO.2.2.1 bEO.2.2.2
        refine gw_lv (lv2 := [(4, iN (0)), (3, iN (num)), (2, .ref (pp)), (0, .ref (ft)), (1, iN (2))]) [0, 1, 2, 3, 4] rfl ?_
        exact lpF 6 0 P M E O f NX rfl (fun q hq => hNX q (by omega)) hP hM hE hO
  refine gw_lv (lv2 := [(3, iN 0), (2, .ref pp), (0, .ref ft), (1, iN 2)]) [0, 1, 2, 3] rfl ?_
  exact lpN 420 0 _ _ E O f _ (by omega) (fun q hq => absurd hq (by omega)) (by decide) (by decide) hE hO
