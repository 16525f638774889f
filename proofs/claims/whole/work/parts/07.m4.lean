theorem gw_p2 {x : Nat} (h : x < 32) : 1 * 2 ^ x < 2 ^ 32 := by rw [Nat.one_mul]; exact Nat.pow_lt_pow_right (by decide) h
theorem gw_shl1 {x p : Nat} (h : p < 32) : (x &&& 1) * 2 ^ p < 2 ^ 32 := by
  have h1 : x &&& 1 ≤ 1 := Nat.and_le_right
  have h2 : 2 ^ p < 2 ^ 32 := Nat.pow_lt_pow_right (by decide) h
  calc (x &&& 1) * 2 ^ p ≤ 1 * 2 ^ p := Nat.mul_le_mul_right _ h1
    _ = 2 ^ p := Nat.one_mul _
    _ < 2 ^ 32 := h2
/-- a counter that goes down to -1 -/
def mo_dn (n t : Nat) : Nat := if t < n then n - 1 - t else 4294967295
theorem mo_dn_lt {n t : Nat} (h : t < n) : mo_dn n t = n - 1 - t := if_pos h
theorem mo_dn_ge {n t : Nat} (h : ¬ t < n) : mo_dn n t = 4294967295 := if_neg h
theorem mo_dn_dec {n t : Nat} (h : t < n) : nI (n - 1 - t) + Int32.ofInt (-1) = nI (mo_dn n (t + 1)) := by
  by_cases q : t + 1 < n
  · rw [mo_dn_lt q, gw_dec1 (by omega)]
    congr 1
  · rw [show n - 1 - t = 0 by omega, mo_dn, if_neg q]
    decide
theorem mo_dn_32 {n t : Nat} (h : n < 100) : mo_dn n t < 2 ^ 32 := by
  rw [mo_dn]; split <;> omega
/-- turnRow -/
def mo_r1 : Nat → (Nat → Nat → Nat) → Nat → Nat → Nat
  | 0, N => N
  | p + 1, N => mo_up (mo_r1 p N) 37 p (mo_r1 p N 36 p)
def mo_r2 (t : Nat) : Nat → (Nat → Nat → Nat) → Nat → Nat → Nat
  | 0, N => N
  | p + 1, N => mo_up (mo_r2 t p N) 36 p (mo_r2 t p N 37 (mo_r2 t p N 10 (8 * t + p)))
def mo_trow (t : Nat) (N : Nat → Nat → Nat) : Nat → Nat → Nat := mo_r2 t 8 (mo_r1 8 N)
theorem mo_r1_k {k : Nat} (h : k ≠ 37) (N : Nat → Nat → Nat) : ∀ p, mo_r1 p N k = N k := by
  intro p
  induction p with
  | zero => rfl
  | succ p ih => funext j; simp [mo_r1, mo_up, h, ih]
theorem mo_r2_k {k t : Nat} (h : k ≠ 36) (N : Nat → Nat → Nat) : ∀ p, mo_r2 t p N k = N k := by
  intro p
  induction p with
  | zero => rfl
  | succ p ih => funext j; simp [mo_r2, mo_up, h, ih]
/-- rank -/
def mo_ls (f : Nat → Nat) (k : Nat) : Nat → Nat
  | 0 => 0
  | t + 1 => mo_ls f k t + (if f (k + 1 + t) < f k then 1 else 0)
def mo_rk (f : Nat → Nat) (n : Nat) : Nat → Nat
  | 0 => 0
  | k + 1 => mo_rk f n k * (n - k) + mo_ls f k (n - (k + 1))
/-- unrank -/
def mo_ul (r : Nat) : Nat → Nat
  | 0 => r
  | t + 1 => mo_ul r t / (t + 1)
def mo_u1 (n r : Nat) : Nat → (Nat → Nat → Nat) → Nat → Nat → Nat
  | 0, N => N
  | t + 1, N => mo_up (mo_u1 n r t N) 36 (n - 1 - t) (mo_ul r t % (t + 1))
def mo_u2i (k : Nat) : Nat → (Nat → Nat → Nat) → Nat → Nat → Nat
  | 0, N => N
  | s + 1, N => mo_up (mo_u2i k s N) 36 (k + 1 + s) (mo_u2i k s N 36 (k + 1 + s) + (if mo_u2i k s N 36 (k + 1 + s) < mo_u2i k s N 36 k then 0 else 1))
def mo_u2 (n : Nat) : Nat → (Nat → Nat → Nat) → Nat → Nat → Nat
  | 0, N => N
  | t + 1, N => mo_u2i (n - 1 - 1 - t) (t + 1) (mo_u2 n t N)
def mo_unr (n r : Nat) (N : Nat → Nat → Nat) : Nat → Nat → Nat := mo_u2 n (n - 1) (mo_u1 n r n N)
theorem mo_ul_le (r : Nat) : ∀ t, mo_ul r t ≤ r
  | 0 => Nat.le_refl _
  | t + 1 => Nat.le_trans (Nat.div_le_self _ _) (mo_ul_le r t)
theorem mo_u1_b (n r : Nat) (N : Nat → Nat → Nat) : ∀ t, t ≤ n → ∀ j, n - t ≤ j → j < n → mo_u1 n r t N 36 j < n := by
  intro t
  induction t with
  | zero => intro _ j h1 h2; omega
  | succ t ih =>
    intro ht j h1 h2
    rw [mo_u1]
    by_cases e : j = n - 1 - t
    · subst e
      have := Nat.mod_lt (mo_ul r t) (show 0 < t + 1 by omega)
      simp [mo_up]
      omega
    · simp [mo_up, e]
      exact ih (by omega) j (by omega) h2
theorem mo_u2i_le (k : Nat) (N : Nat → Nat → Nat) : ∀ s j, mo_u2i k s N 36 j ≤ N 36 j + (if j < k + 1 + s then 1 else 0) := by
  intro s
  induction s with
  | zero => intro j; rw [mo_u2i]; omega
  | succ s ih =>
    intro j
    rw [mo_u2i]
    by_cases e : j = k + 1 + s
    · subst e
      have := ih (k + 1 + s)
      simp only [mo_up, if_true]
      rw [if_neg (by omega)] at this
      rw [show (if k + 1 + s < k + 1 + (s + 1) then 1 else 0) = 1 from if_pos (by omega)]
      split <;> omega
    · have := ih j
      simp only [mo_up, if_true, if_neg e]
      split at this <;> split <;> omega
theorem mo_u2_le (n : Nat) (N : Nat → Nat → Nat) : ∀ t j, mo_u2 n t N 36 j ≤ N 36 j + t := by
  intro t
  induction t with
  | zero => intro j; exact Nat.le_refl _
  | succ t ih =>
    intro j
    rw [mo_u2]
    have h1 := mo_u2i_le (n - 1 - 1 - t) (mo_u2 n t N) (t + 1) j
    have h2 := ih j
    split at h1 <;> omega
theorem in_X11_turnRow : ∀ w ∈ wsX110, w ∈ wsX11_turnRow := fun _ h => List.mem_cons_of_mem _ (List.mem_append_right _ h)
theorem lk_X11_turnRow_40 : Cond.fieldLink RX11 40 "StageCubeModel" "cornerFrom" "[I" ∈ wsX11_turnRow := by decide +kernel
theorem lk_X11_turnRow_112 : Cond.fieldLink RX11 112 "StageCubeModel" "row" "[I" ∈ wsX11_turnRow := by decide +kernel
theorem lk_X11_turnRow_115 : Cond.fieldLink RX11 115 "StageCubeModel" "other" "[I" ∈ wsX11_turnRow := by decide +kernel
set_option maxHeartbeats 4000000 in
set_option maxRecDepth 100000 in
theorem c_turnRow (l : Launch) (D : va_G) (cI cB cS cJ cF cG : ClassId) (zz : (Nat → Prop) → State → Heap → Prop) (hz : gw_zT zz) (o : Nat) (ad : Nat → Nat) (N : Nat → Nat → Nat) (t : Nat) (ht : t < 18) (hf : ∀ j, j < 144 → N 10 j < 8) : gw_CV l yX11_turnRow wsX11_turnRow 0 0 0 0 D (mo_ty cI cB cS cJ cF cG) zz (mo_ws o ad cI cB cS N) [.ref o, iN t] (fun N' => N' = mo_trow t N) (fun N' => mo_ws o ad cI cB cS N') := by
  refine gw_CV.of (cc := cX11_turnRow) (maxL := 3) hz (by decide) rfl (Nat.le_of_ble_eq_true rfl) ?_
  intro K C hkl hkn hkR hkD hmn ret
  have C : gw_x K cX11_turnRow RX11 wsX11_turnRow (mo_ty cI cB cS cJ cF cG) zz := C
  refine gw_iconst C 0 dX11_turnRow_0 (by decide) ?_
  refine gw_istore_n C (lv2 := [(2, iN (0)), (0, .ref (o)), (1, iN (t))]) dX11_turnRow_1 rfl (by omega) rfl ?_
  have lp : ∀ ni i : Nat, i + ni = 8 → gw_G K (mo_ws o ad cI cB cS (mo_r1 i N)) 0 0 2 [(2, iN (i)), (0, .ref (o)), (1, iN (t))] [] := by
    intro ni
    induction ni with
    | zero =>
      intro i hii
      refine gw_iload_n C 0 dX11_turnRow_2 rfl rfl ?_
      refine gw_bipush C 8 dX11_turnRow_3 (by decide) ?_
      refine gw_icmp_ge C 26 dX11_turnRow_5 (by decide) (by omega) (by omega) (fun h61 => ?_) (fun h61 => ?_)
      ·
        rw [show i = 8 by omega]
        refine gw_iconst C 0 dX11_turnRow_26 (by decide) ?_
        refine gw_istore_n C (lv2 := [(2, iN (0)), (0, .ref (o)), (1, iN (t))]) dX11_turnRow_27 rfl (by omega) rfl ?_
        have lp2 : ∀ nk k : Nat, k + nk = 8 → gw_G K (mo_ws o ad cI cB cS (mo_r2 t k (mo_r1 8 N))) 0 0 28 [(2, iN (k)), (0, .ref (o)), (1, iN (t))] [] := by
          intro nk
          induction nk with
          | zero =>
            intro k hik
            refine gw_iload_n C 0 dX11_turnRow_28 rfl rfl ?_
            refine gw_bipush C 8 dX11_turnRow_29 (by decide) ?_
            refine gw_icmp_ge C 62 dX11_turnRow_31 (by decide) (by omega) (by omega) (fun h62 => ?_) (fun h62 => ?_)
            ·
              exact ret (mo_trow t N) dX11_turnRow_62 rfl (by rw [show k = 8 by omega]; rfl) (Nat.le_refl 0) (Nat.le_refl 0)
            ·
              exact absurd h62 (by omega)
          | succ nk ihk =>
            intro k hik
            refine gw_iload_n C 0 dX11_turnRow_28 rfl rfl ?_
            refine gw_bipush C 8 dX11_turnRow_29 (by decide) ?_
            refine gw_icmp_ge C 62 dX11_turnRow_31 (by decide) (by omega) (by omega) (fun h63 => ?_) (fun h63 => ?_)
            ·
              exact absurd h63 (by omega)
            ·
              have c0 : (mo_r2 t k (mo_r1 8 N)) 10 (8 * t + k) < 8 := by rw [mo_r2_k (by decide), mo_r1_k (by decide)]; exact hf _ (by omega)
              refine gw_aload_n C 1 dX11_turnRow_34 rfl rfl ?_
              refine gw_get C 0 36 in_X11_turnRow dX11_turnRow_35 lk_X11_turnRow_112 rfl rfl (by decide) rfl rfl ?_
              refine gw_iload_n C 0 dX11_turnRow_38 rfl rfl ?_
              refine gw_aload_n C 1 dX11_turnRow_39 rfl rfl ?_
              refine gw_get C 0 37 in_X11_turnRow dX11_turnRow_40 lk_X11_turnRow_115 rfl rfl (by decide) rfl rfl ?_
              refine gw_aload_n C 1 dX11_turnRow_43 rfl rfl ?_
              refine gw_get C 0 10 in_X11_turnRow dX11_turnRow_44 lk_X11_turnRow_40 rfl rfl (by decide) rfl rfl ?_
              refine gw_bipush C 8 dX11_turnRow_47 (by decide) ?_
              refine gw_iload_n C 2 dX11_turnRow_49 rfl rfl ?_
              refine gw_imul C dX11_turnRow_50 ?_
              refine gw_iload_n C 0 dX11_turnRow_51 rfl rfl ?_
              refine gw_iadd C dX11_turnRow_52 ?_
              refine gw_ild C (v := nI ((mo_r2 t k (mo_r1 8 N)) 10 (((8) * (t)) + (k)))) 11 0 dX11_turnRow_53 rfl rfl (by decide) (by omega) (by first | rfl | simp [mo_up]) ?_
              refine gw_ild C (v := nI ((mo_r2 t k (mo_r1 8 N)) 37 ((mo_r2 t k (mo_r1 8 N)) 10 (((8) * (t)) + (k))))) 34 0 dX11_turnRow_54 rfl rfl (by decide) (by omega) (by first | rfl | simp [mo_up]) ?_
              refine gw_ist C 33 0 dX11_turnRow_55 rfl rfl (by decide) (by omega) mo_st36 ?_
              refine gw_iinc C (v := nI (k + 1)) (lv2 := [(2, iN (k + 1)), (0, .ref (o)), (1, iN (t))]) 0 dX11_turnRow_56 rfl (nI_add _ _) (by omega) rfl ?_
              refine gw_goto C 28 dX11_turnRow_59 (by decide) ?_
              refine gw_lv (lv2 := [(2, iN (k + 1)), (0, .ref (o)), (1, iN (t))]) [0, 1, 2] rfl ?_
              exact gw_ws (congrArg (mo_ws o ad cI cB cS) (by rfl)) (ihk (k + 1) (by omega))
        refine gw_lv (lv2 := [(2, iN (0)), (0, .ref (o)), (1, iN (t))]) [0, 1, 2] rfl ?_
        exact lp2 (8 - 0) 0 (by omega)
      ·
        exact absurd h61 (by omega)
    | succ ni ihi =>
      intro i hii
      refine gw_iload_n C 0 dX11_turnRow_2 rfl rfl ?_
      refine gw_bipush C 8 dX11_turnRow_3 (by decide) ?_
      refine gw_icmp_ge C 26 dX11_turnRow_5 (by decide) (by omega) (by omega) (fun h64 => ?_) (fun h64 => ?_)
      ·
        exact absurd h64 (by omega)
      ·
        refine gw_aload_n C 1 dX11_turnRow_8 rfl rfl ?_
        refine gw_get C 0 37 in_X11_turnRow dX11_turnRow_9 lk_X11_turnRow_115 rfl rfl (by decide) rfl rfl ?_
        refine gw_iload_n C 0 dX11_turnRow_12 rfl rfl ?_
        refine gw_aload_n C 1 dX11_turnRow_13 rfl rfl ?_
        refine gw_get C 0 36 in_X11_turnRow dX11_turnRow_14 lk_X11_turnRow_112 rfl rfl (by decide) rfl rfl ?_
        refine gw_iload_n C 0 dX11_turnRow_17 rfl rfl ?_
        refine gw_ild C (v := nI ((mo_r1 i N) 36 (i))) 33 0 dX11_turnRow_18 rfl rfl (by decide) (by omega) (by first | rfl | simp [mo_up]) ?_
        refine gw_ist C 34 0 dX11_turnRow_19 rfl rfl (by decide) (by omega) mo_st37 ?_
        refine gw_iinc C (v := nI (i + 1)) (lv2 := [(2, iN (i + 1)), (0, .ref (o)), (1, iN (t))]) 0 dX11_turnRow_20 rfl (nI_add _ _) (by omega) rfl ?_
        refine gw_goto C 2 dX11_turnRow_23 (by decide) ?_
        refine gw_lv (lv2 := [(2, iN (i + 1)), (0, .ref (o)), (1, iN (t))]) [0, 1, 2] rfl ?_
        exact gw_ws (congrArg (mo_ws o ad cI cB cS) (by rfl)) (ihi (i + 1) (by omega))
  refine gw_lv (lv2 := [(2, iN (0)), (0, .ref (o)), (1, iN (t))]) [0, 1, 2] rfl ?_
  exact lp (8 - 0) 0 (by omega)
theorem in_X11_rank : ∀ w ∈ wsX110, w ∈ wsX11_rank := fun _ h => List.mem_cons_of_mem _ (List.mem_append_right _ h)
theorem lk_X11_rank_112 : Cond.fieldLink RX11 112 "StageCubeModel" "row" "[I" ∈ wsX11_rank := by decide +kernel
set_option maxHeartbeats 4000000 in
set_option maxRecDepth 100000 in
theorem c_rank (l : Launch) (D : va_G) (cI cB cS cJ cF cG : ClassId) (zz : (Nat → Prop) → State → Heap → Prop) (hz : gw_zT zz) (o : Nat) (ad : Nat → Nat) (N : Nat → Nat → Nat) (nn : Nat) (hn : nn ≤ 8) (hr : ∀ j, j < nn → N 36 j < 100) : gw_CI l yX11_rank wsX11_rank 0 0 0 0 D (mo_ty cI cB cS cJ cF cG) zz (mo_ws o ad cI cB cS N) [.ref o, iN nn] (fun r N' => r = nI (mo_rk (N 36) nn nn) ∧ N' = N) (fun N' => mo_ws o ad cI cB cS N') := by
  refine gw_CI.of (cc := cX11_rank) (maxL := 6) (rt := .int) hz (by decide) rfl (Nat.le_of_ble_eq_true rfl) ?_
  intro K C hkl hkn hkR hkD hmn ret
  have C : gw_x K cX11_rank RX11 wsX11_rank (mo_ty cI cB cS cJ cF cG) zz := C
  refine gw_iconst C 0 dX11_rank_0 (by decide) ?_
  refine gw_istore_n C (lv2 := [(2, iN (0)), (0, .ref (o)), (1, iN (nn))]) dX11_rank_1 rfl (by omega) rfl ?_
  refine gw_iconst C 0 dX11_rank_2 (by decide) ?_
  refine gw_istore_n C (lv2 := [(3, iN (0)), (2, iN (0)), (0, .ref (o)), (1, iN (nn))]) dX11_rank_3 rfl (by omega) rfl ?_
  have lp : ∀ nk k : Nat, k + nk = nn → gw_G K (mo_ws o ad cI cB cS (N)) 0 0 4 [(3, iN (k)), (2, iN (mo_rk (N 36) nn k)), (0, .ref (o)), (1, iN (nn))] [] := by
    intro nk
    induction nk with
    | zero =>
      intro k hik
      refine gw_iload_n C 0 dX11_rank_4 rfl rfl ?_
      refine gw_iload_n C 3 dX11_rank_5 rfl rfl ?_
      refine gw_icmp_ge C 70 dX11_rank_6 (by decide) (by omega) (by omega) (fun h65 => ?_) (fun h65 => ?_)
      ·
        refine gw_iload_n C 1 dX11_rank_70 rfl rfl ?_
        exact ret N dX11_rank_71 rfl ⟨by rw [show k = nn by omega], rfl⟩ rfl (Nat.le_refl 0) (Nat.le_refl 0)
      ·
        exact absurd h65 (by omega)
    | succ nk ihk =>
      intro k hik
      refine gw_iload_n C 0 dX11_rank_4 rfl rfl ?_
      refine gw_iload_n C 3 dX11_rank_5 rfl rfl ?_
      refine gw_icmp_ge C 70 dX11_rank_6 (by decide) (by omega) (by omega) (fun h66 => ?_) (fun h66 => ?_)
      ·
        exact absurd h66 (by omega)
      ·
        refine gw_iconst C 0 dX11_rank_9 (by decide) ?_
        refine gw_istore C (lv2 := [(4, iN (0)), (3, iN (k)), (2, iN (mo_rk (N 36) nn k)), (0, .ref (o)), (1, iN (nn))]) dX11_rank_10 (by omega) rfl ?_
        refine gw_iload_n C 1 dX11_rank_12 rfl rfl ?_
        refine gw_iconst C 1 dX11_rank_13 (by decide) ?_
        refine gw_iadd C dX11_rank_14 ?_
        refine gw_istore C (lv2 := [(5, iN ((k) + (1))), (4, iN (0)), (3, iN (k)), (2, iN (mo_rk (N 36) nn k)), (0, .ref (o)), (1, iN (nn))]) dX11_rank_15 (by omega) rfl ?_
        have lpi : ∀ ns s : Nat, s + ns = nn - (k + 1) → gw_G K (mo_ws o ad cI cB cS (N)) 0 0 17 [(5, iN (k + 1 + s)), (4, iN (mo_ls (N 36) k s)), (3, iN (k)), (2, iN (mo_rk (N 36) nn k)), (0, .ref (o)), (1, iN (nn))] [] := by
          intro ns
          induction ns with
          | zero =>
            intro s his
            refine gw_iload C 0 dX11_rank_17 rfl ?_
            refine gw_iload_n C 5 dX11_rank_19 rfl rfl ?_
            refine gw_icmp_ge C 55 dX11_rank_20 (by decide) (by omega) (by omega) (fun h67 => ?_) (fun h67 => ?_)
            ·
              refine gw_iload_n C 3 dX11_rank_55 rfl rfl ?_
              refine gw_iload_n C 5 dX11_rank_56 rfl rfl ?_
              refine gw_iload_n C 2 dX11_rank_57 rfl rfl ?_
              refine gw_isub C dX11_rank_58 (by omega) ?_
              refine gw_imul C dX11_rank_59 ?_
              refine gw_iload C 1 dX11_rank_60 rfl ?_
              refine gw_iadd C dX11_rank_62 ?_
              refine gw_istore_n C (lv2 := [(2, iN (((mo_rk (N 36) nn k) * ((nn) - (k))) + (mo_ls (N 36) k s))), (5, iN (k + 1 + s)), (4, iN (mo_ls (N 36) k s)), (3, iN (k)), (0, .ref (o)), (1, iN (nn))]) dX11_rank_63 rfl (by omega) rfl ?_
              refine gw_iinc C (v := nI (k + 1)) (lv2 := [(3, iN (k + 1)), (2, iN (((mo_rk (N 36) nn k) * ((nn) - (k))) + (mo_ls (N 36) k s))), (5, iN (k + 1 + s)), (4, iN (mo_ls (N 36) k s)), (0, .ref (o)), (1, iN (nn))]) 3 dX11_rank_64 rfl (nI_add _ _) (by omega) rfl ?_
              refine gw_goto C 4 dX11_rank_67 (by decide) ?_
              refine gw_lv (lv2 := [(3, iN (k + 1)), (2, iN (((mo_rk (N 36) nn k) * ((nn) - (k))) + (mo_ls (N 36) k s))), (0, .ref (o)), (1, iN (nn))]) [0, 1, 4, 5] rfl ?_
              have z : mo_rk (N 36) nn (k + 1) = mo_rk (N 36) nn k * (nn - k) + mo_ls (N 36) k s := by rw [mo_rk, show nn - (k + 1) = s by omega]
              have q := ihk (k + 1) (by omega)
              rw [z] at q
              exact q
            ·
              exact absurd h67 (by omega)
          | succ ns ihs =>
            intro s his
            refine gw_iload C 0 dX11_rank_17 rfl ?_
            refine gw_iload_n C 5 dX11_rank_19 rfl rfl ?_
            refine gw_icmp_ge C 55 dX11_rank_20 (by decide) (by omega) (by omega) (fun h68 => ?_) (fun h68 => ?_)
            ·
              exact absurd h68 (by omega)
            ·
              have q1 := hr (k + 1 + s) (by omega)
              have q2 := hr k (by omega)
              refine gw_iload C 1 dX11_rank_23 rfl ?_
              refine gw_aload_n C 4 dX11_rank_25 rfl rfl ?_
              refine gw_get C 0 36 in_X11_rank dX11_rank_26 lk_X11_rank_112 rfl rfl (by decide) rfl rfl ?_
              refine gw_iload C 0 dX11_rank_29 rfl ?_
              refine gw_ild C (v := nI (N 36 (k + 1 + s))) 33 0 dX11_rank_31 rfl rfl (by decide) (by omega) (by first | rfl | simp [mo_up]) ?_
              refine gw_aload_n C 4 dX11_rank_32 rfl rfl ?_
              refine gw_get C 0 36 in_X11_rank dX11_rank_33 lk_X11_rank_112 rfl rfl (by decide) rfl rfl ?_
              refine gw_iload_n C 2 dX11_rank_36 rfl rfl ?_
              refine gw_ild C (v := nI (N 36 (k))) 33 0 dX11_rank_37 rfl rfl (by decide) (by omega) (by first | rfl | simp [mo_up]) ?_
              refine gw_icmp_ge C 45 dX11_rank_38 (by decide) (by omega) (by omega) (fun h69 => ?_) (fun h69 => ?_)
              ·
                refine gw_iconst C 0 dX11_rank_45 (by decide) ?_
                refine gw_iadd C dX11_rank_46 ?_
                refine gw_istore C (lv2 := [(4, iN ((mo_ls (N 36) k s) + (0))), (5, iN (k + 1 + s)), (3, iN (k)), (2, iN (mo_rk (N 36) nn k)), (0, .ref (o)), (1, iN (nn))]) dX11_rank_47 (by omega) rfl ?_
                refine gw_iinc C (v := nI (k + 1 + s + 1)) (lv2 := [(5, iN (k + 1 + s + 1)), (4, iN ((mo_ls (N 36) k s) + (0))), (3, iN (k)), (2, iN (mo_rk (N 36) nn k)), (0, .ref (o)), (1, iN (nn))]) 1 dX11_rank_49 rfl (nI_add _ _) (by omega) rfl ?_
                refine gw_goto C 17 dX11_rank_52 (by decide) ?_
                refine gw_lv (lv2 := [(5, iN (k + 1 + s + 1)), (4, iN ((mo_ls (N 36) k s) + (0))), (3, iN (k)), (2, iN (mo_rk (N 36) nn k)), (0, .ref (o)), (1, iN (nn))]) [0, 1, 2, 3, 4, 5] rfl ?_
                have z : mo_ls (N 36) k (s + 1) = mo_ls (N 36) k s + 0 := by rw [mo_ls, if_neg (by omega)]
                have q := ihs (s + 1) (by omega)
                rw [z] at q
                exact q
              ·
                refine gw_iconst C 1 dX11_rank_41 (by decide) ?_
                refine gw_goto C 46 dX11_rank_42 (by decide) ?_
                refine gw_iadd C dX11_rank_46 ?_
                refine gw_istore C (lv2 := [(4, iN ((mo_ls (N 36) k s) + (1))), (5, iN (k + 1 + s)), (3, iN (k)), (2, iN (mo_rk (N 36) nn k)), (0, .ref (o)), (1, iN (nn))]) dX11_rank_47 (by omega) rfl ?_
                refine gw_iinc C (v := nI (k + 1 + s + 1)) (lv2 := [(5, iN (k + 1 + s + 1)), (4, iN ((mo_ls (N 36) k s) + (1))), (3, iN (k)), (2, iN (mo_rk (N 36) nn k)), (0, .ref (o)), (1, iN (nn))]) 1 dX11_rank_49 rfl (nI_add _ _) (by omega) rfl ?_
                refine gw_goto C 17 dX11_rank_52 (by decide) ?_
                refine gw_lv (lv2 := [(5, iN (k + 1 + s + 1)), (4, iN ((mo_ls (N 36) k s) + (1))), (3, iN (k)), (2, iN (mo_rk (N 36) nn k)), (0, .ref (o)), (1, iN (nn))]) [0, 1, 2, 3, 4, 5] rfl ?_
                have z : mo_ls (N 36) k (s + 1) = mo_ls (N 36) k s + 1 := by rw [mo_ls, if_pos (by omega)]
                have q := ihs (s + 1) (by omega)
                rw [z] at q
                exact q
        refine gw_lv (lv2 := [(5, iN ((k) + (1))), (4, iN (0)), (3, iN (k)), (2, iN (mo_rk (N 36) nn k)), (0, .ref (o)), (1, iN (nn))]) [0, 1, 2, 3, 4, 5] rfl ?_
        exact lpi (nn - (k + 1) - 0) 0 (by omega)
  refine gw_lv (lv2 := [(3, iN (0)), (2, iN (0)), (0, .ref (o)), (1, iN (nn))]) [0, 1, 2, 3] rfl ?_
  exact lp (nn - 0) 0 (by omega)
theorem in_X11_unrank : ∀ w ∈ wsX110, w ∈ wsX11_unrank := fun _ h => List.mem_cons_of_mem _ (List.mem_append_right _ h)
theorem lk_X11_unrank_112 : Cond.fieldLink RX11 112 "StageCubeModel" "row" "[I" ∈ wsX11_unrank := by decide +kernel
set_option maxHeartbeats 4000000 in
set_option maxRecDepth 100000 in
theorem c_unrank (l : Launch) (D : va_G) (cI cB cS cJ cF cG : ClassId) (zz : (Nat → Prop) → State → Heap → Prop) (hz : gw_zT zz) (o : Nat) (ad : Nat → Nat) (N : Nat → Nat → Nat) (nn r : Nat) (hn : nn ≤ 8) (hn1 : 2 ≤ nn) (hr : r < 2 ^ 31) : gw_CV l yX11_unrank wsX11_unrank 0 0 0 0 D (mo_ty cI cB cS cJ cF cG) zz (mo_ws o ad cI cB cS N) [.ref o, iN nn, iN r] (fun N' => N' = mo_unr nn r N) (fun N' => mo_ws o ad cI cB cS N') := by
  refine gw_CV.of (cc := cX11_unrank) (maxL := 6) hz (by decide) rfl (Nat.le_of_ble_eq_true rfl) ?_
  intro K C hkl hkn hkR hkD hmn ret
  have C : gw_x K cX11_unrank RX11 wsX11_unrank (mo_ty cI cB cS cJ cF cG) zz := C
  refine gw_iload_n C 2 dX11_unrank_0 rfl rfl ?_
  refine gw_istore_n C (lv2 := [(3, iN (r)), (0, .ref (o)), (1, iN (nn)), (2, iN (r))]) dX11_unrank_1 rfl (by omega) rfl ?_
  refine gw_iload_n C 2 dX11_unrank_2 rfl rfl ?_
  refine gw_iconst C 1 dX11_unrank_3 (by decide) ?_
  refine gw_isub C dX11_unrank_4 (by omega) ?_
  refine gw_istore C (lv2 := [(4, iN ((nn) - (1))), (3, iN (r)), (0, .ref (o)), (1, iN (nn)), (2, iN (r))]) dX11_unrank_5 (by omega) rfl ?_
  rw [show nn - 1 = mo_dn nn 0 by rw [mo_dn_lt (by omega)]; omega]
  have lp : ∀ nt t : Nat, t + nt = nn → gw_G K (mo_ws o ad cI cB cS (mo_u1 nn r t N)) 0 0 7 [(4, iN (mo_dn nn t)), (3, iN (mo_ul r t)), (0, .ref (o)), (1, iN (nn)), (2, iN (r))] [] := by
    intro nt
    induction nt with
    | zero =>
      intro t hit
      have d32 := mo_dn_32 (n := nn) (t := t) (by omega)
      have d33 : t < nn → mo_dn nn t = nn - 1 - t := mo_dn_lt
      have d34 : ¬ t < nn → mo_dn nn t = 4294967295 := mo_dn_ge
      refine gw_iload C 0 dX11_unrank_7 rfl ?_
      refine gw_if_lt32 C 40 dX11_unrank_9 (by decide) (by omega) (fun h70 => ?_) (fun h70 => ?_)
      ·
        rw [show t = nn by omega]
        refine gw_iload_n C 3 dX11_unrank_40 rfl rfl ?_
        refine gw_iconst C 2 dX11_unrank_41 (by decide) ?_
        refine gw_isub C dX11_unrank_42 (by omega) ?_
        refine gw_istore C (lv2 := [(4, iN ((nn) - (2))), (3, iN (mo_ul r nn)), (0, .ref (o)), (1, iN (nn)), (2, iN (r))]) dX11_unrank_43 (by omega) rfl ?_
        have b1 : ∀ j, j < nn → (mo_u1 nn r nn N) 36 j < nn := fun j hj => mo_u1_b nn r N nn (Nat.le_refl _) j (by omega) hj
        rw [show nn - 2 = mo_dn (nn - 1) 0 by rw [mo_dn_lt (by omega)]; omega]
        have lp2 : ∀ nv v : Nat, v + nv = nn - 1 → gw_G K (mo_ws o ad cI cB cS (mo_u2 nn v (mo_u1 nn r nn N))) 0 0 45 [(4, iN (mo_dn (nn - 1) v)), (0, .ref (o)), (1, iN (nn))] [] := by
          intro nv
          induction nv with
          | zero =>
            intro v hiv
            have d32 := mo_dn_32 (n := nn - 1) (t := v) (by omega)
            have d33 : v < nn - 1 → mo_dn (nn - 1) v = nn - 1 - 1 - v := mo_dn_lt
            have d34 : ¬ v < nn - 1 → mo_dn (nn - 1) v = 4294967295 := mo_dn_ge
            refine gw_iload C 0 dX11_unrank_45 rfl ?_
            refine gw_if_lt32 C 106 dX11_unrank_47 (by decide) (by omega) (fun h71 => ?_) (fun h71 => ?_)
            ·
              exact ret (mo_unr nn r N) dX11_unrank_106 rfl (by rw [show v = nn - 1 by omega]; rfl) (Nat.le_refl 0) (Nat.le_refl 0)
            ·
              exact absurd h71 (by omega)
          | succ nv ihv =>
            intro v hiv
            have d32 := mo_dn_32 (n := nn - 1) (t := v) (by omega)
            have d33 : v < nn - 1 → mo_dn (nn - 1) v = nn - 1 - 1 - v := mo_dn_lt
            have d34 : ¬ v < nn - 1 → mo_dn (nn - 1) v = 4294967295 := mo_dn_ge
            refine gw_iload C 0 dX11_unrank_45 rfl ?_
            refine gw_if_lt32 C 106 dX11_unrank_47 (by decide) (by omega) (fun h72 => ?_) (fun h72 => ?_)
            ·
              exact absurd h72 (by omega)
            ·
              rw [mo_dn_lt (show v < nn - 1 by omega)]
              obtain ⟨k, hk⟩ : ∃ k, k = nn - 1 - 1 - v := ⟨_, rfl⟩
              rw [← hk]
              refine gw_iload C 0 dX11_unrank_50 rfl ?_
              refine gw_iconst C 1 dX11_unrank_52 (by decide) ?_
              refine gw_iadd C dX11_unrank_53 ?_
              refine gw_istore C (lv2 := [(5, iN ((k) + (1))), (4, iN (k)), (0, .ref (o)), (1, iN (nn))]) dX11_unrank_54 (by omega) rfl ?_
              have lpi : ∀ ns s : Nat, s + ns = nn - (k + 1) → gw_G K (mo_ws o ad cI cB cS (mo_u2i k s (mo_u2 nn v (mo_u1 nn r nn N)))) 0 0 56 [(5, iN (k + 1 + s)), (4, iN (k)), (0, .ref (o)), (1, iN (nn))] [] := by
                intro ns
                induction ns with
                | zero =>
                  intro s his
                  refine gw_iload C 0 dX11_unrank_56 rfl ?_
                  refine gw_iload_n C 3 dX11_unrank_58 rfl rfl ?_
                  refine gw_icmp_ge C 100 dX11_unrank_59 (by decide) (by omega) (by omega) (fun h73 => ?_) (fun h73 => ?_)
                  ·
                    rw [show s = v + 1 by omega]
                    rw [show [(5, iN (k + 1 + (v + 1))), (4, iN k), (0, Value.ref o), (1, iN nn)] = [(5, iN (k + 1 + (v + 1))), (4, iN (nn - 1 - 1 - v)), (0, Value.ref o), (1, iN nn)] by rw [← hk]]
                    refine gw_iinc C (v := nI (mo_dn (nn - 1) (v + 1))) (lv2 := [(4, iN (mo_dn (nn - 1) (v + 1))), (5, iN (k + 1 + (v + 1))), (0, .ref (o)), (1, iN (nn))]) 1 dX11_unrank_100 rfl (mo_dn_dec (by omega)) (by omega) rfl ?_
                    refine gw_goto C 45 dX11_unrank_103 (by decide) ?_
                    refine gw_lv (lv2 := [(4, iN (mo_dn (nn - 1) (v + 1))), (0, .ref (o)), (1, iN (nn))]) [0, 2, 3] rfl ?_
                    exact gw_ws (congrArg (mo_ws o ad cI cB cS) (by rw [mo_u2, ← hk])) (ihv (v + 1) (by omega))
                  ·
                    exact absurd h73 (by omega)
                | succ ns ihs =>
                  intro s his
                  refine gw_iload C 0 dX11_unrank_56 rfl ?_
                  refine gw_iload_n C 3 dX11_unrank_58 rfl rfl ?_
                  refine gw_icmp_ge C 100 dX11_unrank_59 (by decide) (by omega) (by omega) (fun h74 => ?_) (fun h74 => ?_)
                  ·
                    exact absurd h74 (by omega)
                  ·
                    have c1 := mo_u2i_le k (mo_u2 nn v (mo_u1 nn r nn N)) s (k + 1 + s)
                    have c2 := mo_u2_le nn (mo_u1 nn r nn N) v (k + 1 + s)
                    have c3 := b1 (k + 1 + s) (by omega)
                    have c4 := mo_u2i_le k (mo_u2 nn v (mo_u1 nn r nn N)) s k
                    have c5 := mo_u2_le nn (mo_u1 nn r nn N) v k
                    have c6 := b1 k (by omega)
                    have c7 : (if k + 1 + s < k + 1 + s then 1 else 0) ≤ 1 := by split <;> omega
                    have c8 : (if k < k + 1 + s then 1 else 0) ≤ 1 := by split <;> omega
                    refine gw_aload_n C 2 dX11_unrank_62 rfl rfl ?_
                    refine gw_get C 0 36 in_X11_unrank dX11_unrank_63 lk_X11_unrank_112 rfl rfl (by decide) rfl rfl ?_
                    refine gw_iload C 0 dX11_unrank_66 rfl ?_
                    refine gw_dup2 C dX11_unrank_68 rfl rfl ?_
                    refine gw_ild C (v := nI ((mo_u2i k s (mo_u2 nn v (mo_u1 nn r nn N))) 36 (k + 1 + s))) 33 0 dX11_unrank_69 rfl rfl (by decide) (by omega) (by first | rfl | simp [mo_up]) ?_
                    refine gw_aload_n C 2 dX11_unrank_70 rfl rfl ?_
                    refine gw_get C 0 36 in_X11_unrank dX11_unrank_71 lk_X11_unrank_112 rfl rfl (by decide) rfl rfl ?_
                    refine gw_iload C 0 dX11_unrank_74 rfl ?_
                    refine gw_ild C (v := nI ((mo_u2i k s (mo_u2 nn v (mo_u1 nn r nn N))) 36 (k + 1 + s))) 33 0 dX11_unrank_76 rfl rfl (by decide) (by omega) (by first | rfl | simp [mo_up]) ?_
                    refine gw_aload_n C 2 dX11_unrank_77 rfl rfl ?_
                    refine gw_get C 0 36 in_X11_unrank dX11_unrank_78 lk_X11_unrank_112 rfl rfl (by decide) rfl rfl ?_
                    refine gw_iload C 1 dX11_unrank_81 rfl ?_
                    refine gw_ild C (v := nI ((mo_u2i k s (mo_u2 nn v (mo_u1 nn r nn N))) 36 (k))) 33 0 dX11_unrank_83 rfl rfl (by decide) (by omega) (by first | rfl | simp [mo_up]) ?_
                    refine gw_icmp_lt C 91 dX11_unrank_84 (by decide) (by omega) (by omega) (fun h75 => ?_) (fun h75 => ?_)
                    ·
                      refine gw_iconst C 0 dX11_unrank_91 (by decide) ?_
                      refine gw_iadd C dX11_unrank_92 ?_
                      refine gw_ist C 33 0 dX11_unrank_93 rfl rfl (by decide) (by omega) mo_st36 ?_
                      refine gw_iinc C (v := nI (k + 1 + s + 1)) (lv2 := [(5, iN (k + 1 + s + 1)), (4, iN (k)), (0, .ref (o)), (1, iN (nn))]) 0 dX11_unrank_94 rfl (nI_add _ _) (by omega) rfl ?_
                      refine gw_goto C 56 dX11_unrank_97 (by decide) ?_
                      refine gw_lv (lv2 := [(5, iN (k + 1 + s + 1)), (4, iN (k)), (0, .ref (o)), (1, iN (nn))]) [0, 1, 2, 3] rfl ?_
                      exact gw_ws (congrArg (mo_ws o ad cI cB cS) (by rw [mo_u2i, if_pos (by omega)])) (ihs (s + 1) (by omega))
                    ·
                      refine gw_iconst C 1 dX11_unrank_87 (by decide) ?_
                      refine gw_goto C 92 dX11_unrank_88 (by decide) ?_
                      refine gw_iadd C dX11_unrank_92 ?_
                      refine gw_ist C 33 0 dX11_unrank_93 rfl rfl (by decide) (by omega) mo_st36 ?_
                      refine gw_iinc C (v := nI (k + 1 + s + 1)) (lv2 := [(5, iN (k + 1 + s + 1)), (4, iN (k)), (0, .ref (o)), (1, iN (nn))]) 0 dX11_unrank_94 rfl (nI_add _ _) (by omega) rfl ?_
                      refine gw_goto C 56 dX11_unrank_97 (by decide) ?_
                      refine gw_lv (lv2 := [(5, iN (k + 1 + s + 1)), (4, iN (k)), (0, .ref (o)), (1, iN (nn))]) [0, 1, 2, 3] rfl ?_
                      exact gw_ws (congrArg (mo_ws o ad cI cB cS) (by rw [mo_u2i, if_neg (by omega)])) (ihs (s + 1) (by omega))
              refine gw_lv (lv2 := [(5, iN ((k) + (1))), (4, iN (k)), (0, .ref (o)), (1, iN (nn))]) [0, 1, 2, 3] rfl ?_
              exact lpi (nn - (k + 1) - 0) 0 (by omega)
        refine gw_lv (lv2 := [(4, iN (mo_dn (nn - 1) 0)), (0, .ref (o)), (1, iN (nn))]) [0, 2, 3] rfl ?_
        exact lp2 (nn - 1 - 0) 0 (by omega)
      ·
        exact absurd h70 (by omega)
    | succ nt iht =>
      intro t hit
      have d32 := mo_dn_32 (n := nn) (t := t) (by omega)
      have d33 : t < nn → mo_dn nn t = nn - 1 - t := mo_dn_lt
      have d34 : ¬ t < nn → mo_dn nn t = 4294967295 := mo_dn_ge
      refine gw_iload C 0 dX11_unrank_7 rfl ?_
      refine gw_if_lt32 C 40 dX11_unrank_9 (by decide) (by omega) (fun h76 => ?_) (fun h76 => ?_)
      ·
        exact absurd h76 (by omega)
      ·
        rw [mo_dn_lt (show t < nn by omega)]
        have l1 := mo_ul_le r t
        refine gw_iload_n C 3 dX11_unrank_12 rfl rfl ?_
        refine gw_iload C 0 dX11_unrank_13 rfl ?_
        refine gw_isub C dX11_unrank_15 (by omega) ?_
        refine gw_istore C (lv2 := [(5, iN ((nn) - (nn - 1 - t))), (4, iN (nn - 1 - t)), (3, iN (mo_ul r t)), (0, .ref (o)), (1, iN (nn)), (2, iN (r))]) dX11_unrank_16 (by omega) rfl ?_
        refine gw_aload_n C 3 dX11_unrank_18 rfl rfl ?_
        refine gw_get C 0 36 in_X11_unrank dX11_unrank_19 lk_X11_unrank_112 rfl rfl (by decide) rfl rfl ?_
        refine gw_iload C 1 dX11_unrank_22 rfl ?_
        refine gw_iload_n C 2 dX11_unrank_24 rfl rfl ?_
        refine gw_iload C 0 dX11_unrank_25 rfl ?_
        refine gw_irem C dX11_unrank_27 (by omega) (by omega) (by omega) ?_
        refine gw_ist C 33 0 dX11_unrank_28 rfl rfl (by decide) (by omega) mo_st36 ?_
        refine gw_iload_n C 2 dX11_unrank_29 rfl rfl ?_
        refine gw_iload C 0 dX11_unrank_30 rfl ?_
        refine gw_idiv C dX11_unrank_32 (by omega) (by omega) (by omega) ?_
        refine gw_istore_n C (lv2 := [(3, iN ((mo_ul r t) / ((nn) - (nn - 1 - t)))), (5, iN ((nn) - (nn - 1 - t))), (4, iN (nn - 1 - t)), (0, .ref (o)), (1, iN (nn)), (2, iN (r))]) dX11_unrank_33 rfl (by omega) rfl ?_
        refine gw_iinc C (v := nI (mo_dn nn (t + 1))) (lv2 := [(4, iN (mo_dn nn (t + 1))), (3, iN ((mo_ul r t) / ((nn) - (nn - 1 - t)))), (5, iN ((nn) - (nn - 1 - t))), (0, .ref (o)), (1, iN (nn)), (2, iN (r))]) 2 dX11_unrank_34 rfl (mo_dn_dec (by omega)) (by omega) rfl ?_
        refine gw_goto C 7 dX11_unrank_37 (by decide) ?_
        refine gw_lv (lv2 := [(4, iN (mo_dn nn (t + 1))), (3, iN ((mo_ul r t) / ((nn) - (nn - 1 - t)))), (0, .ref (o)), (1, iN (nn)), (2, iN (r))]) [0, 1, 3, 4, 5] rfl ?_
        have q := iht (t + 1) (by omega)
        rw [mo_ul, mo_u1] at q
        rw [show nn - (nn - 1 - t) = t + 1 by omega]
        exact q
  refine gw_lv (lv2 := [(4, iN (mo_dn nn 0)), (3, iN (r)), (0, .ref (o)), (1, iN (nn)), (2, iN (r))]) [0, 1, 2, 3, 4] rfl ?_
  exact lp (nn - 0) 0 (by omega)
